def mdB (md : Nat → Int32) (d j : Nat) : Bool := decide (md j = nI d)
theorem x_marksOf {nm d : Nat} {md : Nat → Int32} (h : nm ≤ 8) : f_X0_marksOf (nI d) (nI nm) md = some (nI (ctN (mdB md d) nm)) := by
  refine lq2_run (fun j => nI (ctN (mdB md d) j)) (fun j => nI j) nm (fun k j hj => ?_) (fun k => ?_) (by have := fu; omega)
  · simp (disch := omega) only [f_X0_marksOf_B4, ↓n_neg1, ↓n_neg2, ↓n_neg3, ↓n_neg4, ↓n_neg5, ↓n_neg10, n_lit, n_le, n_lt, n_eq, n_cl, n_add, n_mul, n_sub, ckI_n, n_shl1, n_shr, n_and, n_or, bd1_n, n_ng, ng_n, ng_ng]
    rw [if_neg (by omega)]
    show _ = k (nI (ctN (mdB md d) j + (if mdB md d j then 1 else 0))) (nI (j + 1))
    unfold mdB
    by_cases q : md j = nI d
    · rw [if_pos q, decide_eq_true q, if_pos rfl]
    · rw [if_neg q, decide_eq_false q, if_neg Bool.false_ne_true]; rfl
  · simp (disch := omega) only [f_X0_marksOf_B4, ↓n_neg1, ↓n_neg2, ↓n_neg3, ↓n_neg4, ↓n_neg5, ↓n_neg10, n_lit, n_le, n_lt, n_eq, n_cl, n_add, n_mul, n_sub, ckI_n, n_shl1, n_shr, n_and, n_or, bd1_n, n_ng, ng_n, ng_ng]
    rw [if_pos (by omega)]
theorem ctN_sub {p q : Nat → Bool} (h : ∀ j, p j = true → q j = true) : ∀ n, ctN p n ≤ ctN q n
  | 0 => Nat.le_refl _
  | n + 1 => by
    have := ctN_sub h n
    simp only [ctN]
    cases hp : p n with
    | false => rw [if_neg Bool.false_ne_true]; omega
    | true => rw [h n hp]; omega
def woN (c : Nat) (kd mi md me mv mt kn : Nat → Int32) (nm d e : Nat) : Nat := if okd kn d e then c ^ ctN (mis kd mi md me mv mt d e) nm * 10 ^ (ctN (mdB md d) nm - ctN (mis kd mi md me mv mt d e) nm) else 0
def wpN (c a m : Nat) (i : Nat) : Nat := a * (c ^ (min i m) * 10 ^ (i - m))
theorem wp_step {c a m i : Nat} : wpN c a m (i + 1) = if m ≤ i then wpN c a m i * 10 else wpN c a m i * c := by
  unfold wpN
  by_cases h : m ≤ i
  · rw [if_pos h, Nat.min_eq_right h, Nat.min_eq_right (by omega), show i + 1 - m = (i - m) + 1 by omega, Nat.pow_succ, Nat.mul_assoc, Nat.mul_assoc]
  · rw [if_neg h, Nat.min_eq_left (by omega), Nat.min_eq_left (by omega), show i + 1 - m = 0 by omega, show i - m = 0 by omega, Nat.pow_succ, Nat.pow_zero, Nat.mul_one, Nat.mul_one, Nat.mul_assoc]
theorem x_odds_in {c a m n : Nat} {d e : Nat} {g : Nat → Int64} {k2 : _} {k11 : _} (hc : c ≤ 10) (hm : m ≤ 8) (hn : n ≤ 8) (hd : d < 6) (he : e < 4) (hmn : m ≤ n) : lq7 (f_X3_weighOdds_B56 (nI c) k2 k11) FU (nI d) (nI e) (nI m) (nI n) (lN a) (nI 0) g = k11 (nI d) (nI (e + 1)) (vp_updL g (4 * d + e) (lN (a * (c ^ m * 10 ^ (n - m))))) := by
  have e0 : wpN c a m 0 = a := by unfold wpN; simp
  have e1 : a * (c ^ m * 10 ^ (n - m)) = wpN c a m n := by unfold wpN; rw [Nat.min_eq_right hmn]
  have main : lq7 (f_X3_weighOdds_B56 (nI c) k2 k11) FU (nI d) (nI e) (nI m) (nI n) (lN (wpN c a m 0)) (nI 0) g = k11 (nI d) (nI (e + 1)) (vp_updL g (4 * d + e) (lN (wpN c a m n))) := by
    refine lq7_run (fun _ => nI d) (fun _ => nI e) (fun _ => nI m) (fun _ => nI n) (fun i => lN (wpN c a m i)) (fun i => nI i) (fun _ => g) n (fun k i hi => ?_) (fun k => ?_) (by have := fu; omega)
    · simp (disch := omega) only [f_X3_weighOdds_B56, ↓n_neg1, ↓n_neg2, ↓n_neg3, ↓n_neg4, ↓n_neg5, ↓n_neg10, n_lit, n_le, n_lt, n_eq, n_cl, n_add, n_mul, n_sub, ckI_n, n_shl1, n_shr, n_and, n_or, bd1_n, n_ng, ng_n, ng_ng, nI_l]
      rw [if_neg (by omega), wp_step]
      by_cases q : m ≤ i
      · rw [if_pos q, if_pos q]; rw [show lN (wpN c a m i) * (10 : Int64) = lN (wpN c a m i * 10) from lN_mul _ 10]
      · rw [if_neg q, if_neg q, lN_mul]
    · simp (disch := omega) only [f_X3_weighOdds_B56, f_X3_place, ↓n_neg1, ↓n_neg2, ↓n_neg3, ↓n_neg4, ↓n_neg5, ↓n_neg10, n_lit, n_le, n_lt, n_eq, n_cl, n_add, n_mul, n_sub, ckI_n, n_shl1, n_shr, n_and, n_or, bd1_n, n_ng, ng_n, ng_ng]
      rw [if_pos (by omega)]
  rw [e0] at main
  rw [e1]
  exact main
theorem x_weighOdds {nm c : Nat} {kd mi md me mv mt kn : Nat → Int32} {g : Nat → Int64} (h : MO nm mi md me) (hc : c ≤ 10) : f_X3_weighOdds (nI c) g (nI nm) kn kd mi md me mv mt = some (fillL (rowL (woN c kd mi md me mv mt kn nm)) g 24) := by
  have h8 := h.1
  have e0 : g = fillL (rowL (woN c kd mi md me mv mt kn nm)) g (4 * 0) := (fillL_0 _ _).symm
  have main : lq2 (f_X3_weighOdds_B2 (nI c) (nI nm) kn kd mi md me mv mt) FU (nI 0) (fillL (rowL (woN c kd mi md me mv mt kn nm)) g (4 * 0)) = some (fillL (rowL (woN c kd mi md me mv mt kn nm)) g 24) := by
    refine lq2_run (fun d => nI d) (fun d => fillL (rowL (woN c kd mi md me mv mt kn nm)) g (4 * d)) 6 (fun k d hd => ?_) (fun k => ?_) (by have := fu; omega)
    · simp (disch := omega) only [f_X3_weighOdds_B2, ↓n_neg1, ↓n_neg2, ↓n_neg3, ↓n_neg4, ↓n_neg5, ↓n_neg10, n_lit, n_le, n_lt, n_eq, n_cl, n_add, n_mul, n_sub, ckI_n, n_shl1, n_shr, n_and, n_or, bd1_n, n_ng, ng_n, ng_ng]
      rw [if_neg (by omega)]
      refine lq3_run (fun _ => nI d) (fun e => nI e) (fun e => fillL (rowL (woN c kd mi md me mv mt kn nm)) g (4 * d + e)) 4 (fun k e he => ?_) (fun k => ?_) (by have := fu; omega)
      · have hs := fillL_s (rowL (woN c kd mi md me mv mt kn nm)) g (4 * d + e)
        rw [rowL_at he] at hs
        have hb : sB (mis kd mi md me mv mt d e) nm < 256 := Nat.lt_of_lt_of_le (sB_lt _ nm) (Nat.pow_le_pow_right (by omega) h8)
        have hl1 := ctN_le (p := mis kd mi md me mv mt d e) nm
        have hl2 := ctN_le (p := mdB md d) nm
        have hsub : ctN (mis kd mi md me mv mt d e) nm ≤ ctN (mdB md d) nm := ctN_sub (fun j hj => by
          unfold mis at hj
          unfold mdB
          cases hq : decide (md j = nI d) with
          | true => rfl
          | false => rw [hq, Bool.false_and] at hj; exact absurd hj (by decide)) nm
        unfold f_X3_weighOdds_B11
        rw [if_neg (show ¬ (4 : Int32) ≤ nI e from show ¬ nI 4 ≤ nI e by rw [n_le (by omega) (by omega)]; omega), x_missed h, bd1_n, x_marksOf h8, bd1_n, x_allows hd, bd1_n, m_bitCount8 _ hb, pc_sB h8, ← Nat.add_assoc, ← hs]
        unfold woN
        by_cases ho : okd kn d e = true
        · rw [if_neg (show ¬ nI (if okd kn d e then 1 else 0) = 0 by rw [ho]; decide), if_pos ho]
          refine (x_odds_in (a := 1) hc (by omega) (by omega) hd he hsub).trans ?_
          rw [Nat.one_mul]
        · rw [if_pos (show nI (if okd kn d e then 1 else 0) = 0 by rw [if_neg ho]; rfl), if_neg ho]
          refine (x_odds_in (a := 0) hc (by omega) (by omega) hd he hsub).trans ?_
          rw [Nat.zero_mul]
      · simp (disch := omega) only [f_X3_weighOdds_B11, ↓n_neg1, ↓n_neg2, ↓n_neg3, ↓n_neg4, ↓n_neg5, ↓n_neg10, n_lit, n_le, n_lt, n_eq, n_cl, n_add, n_mul, n_sub, ckI_n, n_shl1, n_shr, n_and, n_or, bd1_n, n_ng, ng_n, ng_ng]
        rw [if_pos (by omega)]
        rfl
    · simp (disch := omega) only [f_X3_weighOdds_B2, ↓n_neg1, ↓n_neg2, ↓n_neg3, ↓n_neg4, ↓n_neg5, ↓n_neg10, n_lit, n_le, n_lt, n_eq, n_cl, n_add, n_mul, n_sub, ckI_n, n_shl1, n_shr, n_and, n_or, bd1_n, n_ng, ng_n, ng_ng]
      rw [if_pos (by omega)]
  rw [← e0] at main
  exact main
