def drN (s : Nat) : Nat := (s * 1103515245 + 12345) % 2147483648
theorem drN_lt (s : Nat) : drN s < 2147483648 := Nat.mod_lt _ (by omega)
theorem x_drawn {s : Nat} (h : s < 2147483648) : f_X4_drawn (lN s) = lN (drN s) := by
  show (lN s * lN 1103515245 + lN 12345) - (lN s * lN 1103515245 + lN 12345) / lN 2147483648 * lN 2147483648 = _
  rw [lN_mul, lN_add, pk_lRem (by omega) (by omega) (by omega)]; rfl
def evN (s : Nat) : Nat := drN s / 65536 % 4
theorem evN_lt (s : Nat) : evN s < 4 := Nat.mod_lt _ (by omega)
theorem x_ev {s : Nat} (h : s < 2147483648) : Int64.toInt32 (f_X4_drawn (lN s) / 65536 - f_X4_drawn (lN s) / 65536 / 4 * 4) = nI (evN s) := by
  have := drN_lt s
  rw [x_drawn h]
  show Int64.toInt32 (lN (drN s) / lN 65536 - lN (drN s) / lN 65536 / lN 4 * lN 4) = _
  rw [pk_lDiv (by omega) (by omega) (by omega), pk_lRem (by omega) (by omega) (by omega), pk_lN_i]; rfl
def sdN (s : Nat) : Nat → Nat
  | 0 => s
  | i + 1 => drN (sdN s i)
theorem sdN_lt {s : Nat} (h : s < 2147483648) : ∀ i, sdN s i < 2147483648
  | 0 => h
  | i + 1 => drN_lt _
def wdN (s : Nat) : Nat → Nat
  | 0 => 0
  | i + 1 => 4 * wdN s i + evN (sdN s i)
theorem wdN_lt (s : Nat) : ∀ i, wdN s i < 4 ^ i
  | 0 => by show 0 < 1; omega
  | i + 1 => by
    have := wdN_lt s i
    have h2 := evN_lt (sdN s i)
    show 4 * wdN s i + evN (sdN s i) < 4 ^ (i + 1)
    rw [Nat.pow_succ]; omega
theorem dg_wd (s : Nat) : ∀ d, d < 6 → dg (wdN s 6) d = evN (sdN s d) := by
  intro d hd
  have h0 := evN_lt (sdN s 0)
  have h1 := evN_lt (sdN s 1)
  have h2 := evN_lt (sdN s 2)
  have h3 := evN_lt (sdN s 3)
  have h4 := evN_lt (sdN s 4)
  have h5 := evN_lt (sdN s 5)
  have e : wdN s 6 = 4 * (4 * (4 * (4 * (4 * (4 * 0 + evN (sdN s 0)) + evN (sdN s 1)) + evN (sdN s 2)) + evN (sdN s 3)) + evN (sdN s 4)) + evN (sdN s 5) := rfl
  rw [e]
  clear e
  rcases (show d = 0 ∨ d = 1 ∨ d = 2 ∨ d = 3 ∨ d = 4 ∨ d = 5 by omega) with rfl | rfl | rfl | rfl | rfl | rfl <;> unfold dg <;> simp only [Nat.reduceSub, Nat.reducePow] <;> omega
def cY (lw nm : Nat) (kn kd mi md me mv mt : Nat → Int32) (s d : Nat) : Bool := (decide (d = 0) || !(lwB lw (evN (sdN s (d - 1))) (evN (sdN s d)))) && wfB kd mi md me mv mt kn nm 0 d (evN (sdN s d))
theorem allB_and {p q : Nat → Bool} : ∀ {n : Nat}, allB (fun i => p i && q i) n = (allB p n && allB q n)
  | 0 => rfl
  | n + 1 => by
    simp only [allB, allB_and (p := p) (q := q) (n := n)]
    cases allB p n <;> cases allB q n <;> cases p n <;> cases q n <;> rfl
theorem Fw_years {lw nm s : Nat} {kn kd mi md me mv mt : Nat → Int32} (hM : MO nm mi md me) : Fw lw nm kn kd mi md me mv mt (wdN s 6) = allB (cY lw nm kn kd mi md me mv mt s) 6 := by
  rw [← G_0]
  unfold Gw isW
  rw [← days_marks hM, ← allB_and]
  apply allB_congr
  intro d hd
  unfold cW cY wfB
  rw [dg_wd s d hd]
  by_cases q : d = 0
  · rw [decide_eq_true q, Bool.true_or, Bool.true_or, Bool.true_and, Bool.true_and]
  · rw [dg_wd s (d - 1) (by omega), Bool.and_assoc]
theorem x_goes {lw nm d e p : Nat} {w : Nat → Int64} {kn kd mi md me mv mt : Nat → Int32} (hl : lw < 65536) (hd : d < 6) (he : e < 4) (hp : p < 4) (hw : ∀ d e, d < 6 → e < 4 → w (4 * d + e) = lN (wfN kd mi md me mv mt kn nm 0 d e)) : f_X3_goesOn (nI d) (if d = 0 then ngI 1 else nI p) (nI e) w (nI lw) = some (nI (if (decide (d = 0) || !(lwB lw p e)) && wfB kd mi md me mv mt kn nm 0 d e then 1 else 0)) := by
  have J : ∀ b : Bool, f_X3_goesOn_J24 (nI d) (nI e) w (nI (if b then 1 else 0)) = some (nI (if b && wfB kd mi md me mv mt kn nm 0 d e then 1 else 0)) := by
    intro b
    unfold f_X3_goesOn_J24
    cases b with
    | false => rw [if_neg Bool.false_ne_true, if_n0, Bool.false_and, if_neg Bool.false_ne_true]; rfl
    | true =>
      rw [if_pos rfl, if_n1, Bool.true_and, show f_X3_place (nI d) (nI e) = nI (4 * d + e) from by
        show nI 4 * nI d + nI e = _
        rw [n_mul, n_add], ckI_n (by omega) (by omega), n_cl (by omega), hw d e hd he]
      unfold wfN
      by_cases z : wfB kd mi md me mv mt kn nm 0 d e = true
      · rw [if_pos z, if_neg (by decide)]; rfl
      · rw [if_neg z, if_pos (by decide)]; rfl
  unfold f_X3_goesOn
  by_cases q : d = 0
  · subst q
    rw [if_pos rfl, decide_eq_true rfl, Bool.true_or]
    exact J true
  · rw [if_neg (show ¬ nI d = 0 from show ¬ nI d = nI 0 by rw [n_eq (by omega) (by omega)]; exact q), if_neg q, if_neg (fun z : nI p = -1 => (n_ng (a := p) (b := 1) (by omega) (by omega) (by omega)).mp z), x_isLaw hl hp he, decide_eq_false q, Bool.false_or]
    cases lwB lw p e with
    | true => rw [if_pos rfl, if_n1]; exact J false
    | false => rw [if_neg Bool.false_ne_true, if_n0]; exact J true
def snN (s : Nat) : Nat → Nat
  | 0 => s
  | n + 1 => sdN (snN s n) 6
theorem snN_lt {s : Nat} (h : s < 2147483648) : ∀ n, snN s n < 2147483648
  | 0 => h
  | n + 1 => sdN_lt (snN_lt h n) 6
def yrN (G : Nat → Bool) (s : Nat) : Nat → Nat
  | 0 => 0
  | n + 1 => yrN G s n + (if G (snN s n) then 1 else 0)
theorem x_year {lw nm s : Nat} {w : Nat → Int64} {kn kd mi md me mv mt : Nat → Int32} {y5 y6 rb : Int32} {k46 : _} (hl : lw < 65536) (hs : s < 2147483648) (hw : ∀ d e, d < 6 → e < 4 → w (4 * d + e) = lN (wfN kd mi md me mv mt kn nm 0 d e)) : lq8 (f_X4_years_B61 (nI lw) k46) FU (lN s) y5 y6 (nI 1) (ngI 1) (nI 0) rb w = if allB (cY lw nm kn kd mi md me mv mt s) 6 = true then k46 (lN (sdN s 6)) (y5 + 1) (y6 + 1) rb w else k46 (lN (sdN s 6)) y5 (y6 + 1) rb w := by
  refine lq8_run (fun i => lN (sdN s i)) (fun _ => y5) (fun _ => y6) (fun i => nI (if allB (cY lw nm kn kd mi md me mv mt s) i then 1 else 0)) (fun i => if i = 0 then ngI 1 else nI (evN (sdN s (i - 1)))) (fun i => nI i) (fun _ => rb) (fun _ => w) 6 (fun k i hi => ?_) (fun k => ?_) (by have := fu; omega)
  · have hsi := sdN_lt hs i
    have eS : allB (cY lw nm kn kd mi md me mv mt s) (i + 1) = (allB (cY lw nm kn kd mi md me mv mt s) i && cY lw nm kn kd mi md me mv mt s i) := rfl
    have e8 : (if i + 1 = 0 then ngI 1 else nI (evN (sdN s (i + 1 - 1)))) = nI (evN (sdN s i)) := by rw [if_neg (by omega), Nat.add_sub_cancel]
    have eD : lN (sdN s (i + 1)) = f_X4_drawn (lN (sdN s i)) := (x_drawn hsi).symm
    have xg : f_X3_goesOn (nI i) (if i = 0 then ngI 1 else nI (evN (sdN s (i - 1)))) (nI (evN (sdN s i))) w (nI lw) = some (nI (if cY lw nm kn kd mi md me mv mt s i then 1 else 0)) := x_goes hl hi (evN_lt _) (evN_lt _) hw
    unfold f_X4_years_B61
    rw [if_neg (show ¬ (6 : Int32) ≤ nI i from show ¬ nI 6 ≤ nI i by rw [n_le (by omega) (by omega)]; omega), x_ev hsi, xg, bd1_n, e8, eD, show nI i + 1 = nI (i + 1) from n_add i 1]
    by_cases hA : allB (cY lw nm kn kd mi md me mv mt s) i = true
    · rw [if_neg (show ¬ nI (if allB (cY lw nm kn kd mi md me mv mt s) i then 1 else 0) = 0 by rw [hA]; decide)]
      rw [hA, Bool.true_and] at eS
      by_cases hC : cY lw nm kn kd mi md me mv mt s i = true
      · rw [if_neg (show ¬ nI (if cY lw nm kn kd mi md me mv mt s i then 1 else 0) = 0 by rw [hC]; decide), if_pos (by rw [eS]; exact hC)]; rfl
      · rw [if_pos (show nI (if cY lw nm kn kd mi md me mv mt s i then 1 else 0) = 0 by rw [if_neg hC]; rfl), if_neg (by rw [eS]; exact hC)]; rfl
    · have hB : allB (cY lw nm kn kd mi md me mv mt s) i = false := by simpa using hA
      rw [hB, Bool.false_and] at eS
      rw [if_pos (show nI (if allB (cY lw nm kn kd mi md me mv mt s) i then 1 else 0) = 0 by rw [hB]; rfl), if_neg (by rw [eS]; decide)]; rfl
  · unfold f_X4_years_B61
    rw [if_pos (by decide)]
    by_cases hA : allB (cY lw nm kn kd mi md me mv mt s) 6 = true
    · rw [if_neg (show ¬ nI (if allB (cY lw nm kn kd mi md me mv mt s) 6 then 1 else 0) = 0 by rw [hA]; decide), if_pos hA]
    · rw [if_pos (show nI (if allB (cY lw nm kn kd mi md me mv mt s) 6 then 1 else 0) = 0 by rw [if_neg hA]; rfl), if_neg hA]
