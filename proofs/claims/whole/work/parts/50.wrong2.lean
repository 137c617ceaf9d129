def cst (wt : Nat → Nat → Nat) : Nat → Nat → Nat
  | 0, w => wt 0 (w % 4)
  | n + 1, w => cst wt n (w / 4) + wt (n + 1) (w % 4)
def lf (lw : Nat) : Nat → Nat → Bool
  | 0, _ => true
  | n + 1, w => lf lw n (w / 4) && !(lwB lw (w / 4 % 4) (w % 4))
theorem L_le {wt : Nat → Nat → Nat} {lw : Nat} : ∀ n w, lf lw n w = true → Lw wt lw n (w % 4) ≤ cst wt n w
  | 0, w, _ => Nat.le_refl _
  | n + 1, w, h => by
    have h : (lf lw n (w / 4) && !(lwB lw (w / 4 % 4) (w % 4))) = true := h
    rw [Bool.and_eq_true] at h
    have h1 := L_le (wt := wt) n (w / 4) h.1
    have h2 : lwB lw (w / 4 % 4) (w % 4) = false := by simpa using h.2
    have h3 := lb_le (F := Lw wt lw n) h2 (show w / 4 % 4 < 4 by omega)
    show wt (n + 1) (w % 4) + lbN lw (Lw wt lw n) (w % 4) 4 ≤ cst wt n (w / 4) + wt (n + 1) (w % 4)
    omega
theorem L_at {wt : Nat → Nat → Nat} {lw : Nat} : ∀ n e, e < 4 → Lw wt lw n e < UU → ∃ w, w < 4 ^ (n + 1) ∧ w % 4 = e ∧ lf lw n w = true ∧ cst wt n w = Lw wt lw n e
  | 0, e, he, _ => ⟨e, by omega, by omega, rfl, by show wt 0 (e % 4) = wt 0 e; rw [show e % 4 = e by omega]⟩
  | n + 1, e, he, h => by
    have h : wt (n + 1) e + lbN lw (Lw wt lw n) e 4 < UU := h
    obtain ⟨a, ha, hl, hq⟩ := lb_at (lw := lw) (F := Lw wt lw n) (e := e) (n := 4) (by omega)
    obtain ⟨w, w1, w2, w3, w4⟩ := L_at (wt := wt) (lw := lw) n a ha (by omega)
    refine ⟨4 * w + e, ?_, by omega, ?_, ?_⟩
    · rw [Nat.pow_succ]; omega
    · show (lf lw n ((4 * w + e) / 4) && !(lwB lw ((4 * w + e) / 4 % 4) ((4 * w + e) % 4))) = true
      rw [show (4 * w + e) / 4 = w by omega, show (4 * w + e) % 4 = e by omega, w2, w3, hl]; rfl
    · show cst wt n ((4 * w + e) / 4) + wt (n + 1) ((4 * w + e) % 4) = wt (n + 1) e + lbN lw (Lw wt lw n) e 4
      rw [show (4 * w + e) / 4 = w by omega, show (4 * w + e) % 4 = e by omega, w4, hq, Nat.add_comm]
theorem cst5 (wt : Nat → Nat → Nat) (w : Nat) : cst wt 5 w = wt 0 (dg w 0) + wt 1 (dg w 1) + wt 2 (dg w 2) + wt 3 (dg w 3) + wt 4 (dg w 4) + wt 5 (dg w 5) := by
  simp only [cst, dg, Nat.div_div_eq_div_mul, Nat.reduceMul, Nat.reducePow, Nat.reduceSub, Nat.div_one, Nat.reduceAdd]
theorem lf5 (lw w : Nat) : lf lw 5 w = (!(lwB lw (dg w 0) (dg w 1)) && !(lwB lw (dg w 1) (dg w 2)) && !(lwB lw (dg w 2) (dg w 3)) && !(lwB lw (dg w 3) (dg w 4)) && !(lwB lw (dg w 4) (dg w 5))) := by
  simp only [lf, dg, Nat.div_div_eq_div_mul, Nat.reduceMul, Nat.reducePow, Nat.reduceSub, Nat.div_one, Nat.reduceAdd, Bool.true_and]
theorem isW5 (lw : Nat) (kn : Nat → Int32) (w : Nat) : isW lw kn w = (lf lw 5 w && (okd kn 0 (dg w 0) && okd kn 1 (dg w 1) && okd kn 2 (dg w 2) && okd kn 3 (dg w 3) && okd kn 4 (dg w 4) && okd kn 5 (dg w 5))) := by
  rw [lf5]
  simp only [isW, allB, cW, Bool.true_and]
  simp only [show decide (0 = 0) = true from rfl, show decide (1 = 0) = false from rfl, show decide (2 = 0) = false from rfl, show decide (3 = 0) = false from rfl, show decide (4 = 0) = false from rfl, show decide (5 = 0) = false from rfl, Bool.true_or, Bool.false_or, Bool.true_and, Nat.reduceSub, decide_true]
  ac_rfl
theorem one_dayX {md : Nat → Int32} {j d0 X : Nat} (hd : d0 < 6) (e : md j = nI d0) (Q : Nat → Bool) : (if (decide (md j = nI 0) && Q 0) = true then X else 0) + (if (decide (md j = nI 1) && Q 1) = true then X else 0) + (if (decide (md j = nI 2) && Q 2) = true then X else 0) + (if (decide (md j = nI 3) && Q 3) = true then X else 0) + (if (decide (md j = nI 4) && Q 4) = true then X else 0) + (if (decide (md j = nI 5) && Q 5) = true then X else 0) = if Q d0 = true then X else 0 := by
  have hq : ∀ d, d < 6 → decide (md j = nI d) = decide (d0 = d) := fun d hd' => by
    rw [e]
    by_cases z : d0 = d
    · rw [z]; simp
    · rw [decide_eq_false z, decide_eq_false (by rw [n_eq (by omega) (by omega)]; exact z)]
  rw [hq 0 (by omega), hq 1 (by omega), hq 2 (by omega), hq 3 (by omega), hq 4 (by omega), hq 5 (by omega)]
  rcases (show d0 = 0 ∨ d0 = 1 ∨ d0 = 2 ∨ d0 = 3 ∨ d0 = 4 ∨ d0 = 5 by omega) with rfl | rfl | rfl | rfl | rfl | rfl <;> simp
theorem sum_misB {nm w : Nat} {kd mi md me mv mt : Nat → Int32} (hM : MO nm mi md me) : ∀ n, n ≤ nm → sB (mis kd mi md me mv mt 0 (dg w 0)) n + sB (mis kd mi md me mv mt 1 (dg w 1)) n + sB (mis kd mi md me mv mt 2 (dg w 2)) n + sB (mis kd mi md me mv mt 3 (dg w 3)) n + sB (mis kd mi md me mv mt 4 (dg w 4)) n + sB (mis kd mi md me mv mt 5 (dg w 5)) n = sB (wrB kd mi md me mv mt w) n
  | 0, _ => rfl
  | n + 1, h => by
    have ih := sum_misB (w := w) (kd := kd) (mv := mv) (mt := mt) hM n (by omega)
    obtain ⟨-, ⟨d0, hd, e⟩, -⟩ := hM.2 n (by omega)
    have := one_dayX (X := 2 ^ n) hd e (fun d => bdj kd mi md me mv mt n (dg w d))
    have ew : wrB kd mi md me mv mt w n = bdj kd mi md me mv mt n (dg w d0) := by
      unfold wrB dyj; rw [e, n_cl (by omega)]
    simp only [sB]
    rw [ew]
    unfold mis at ih ⊢
    omega
def ky (nm : Nat) (kd mi md me mv mt : Nat → Int32) (w : Nat) : Nat := 256 * ctN (wrB kd mi md me mv mt w) nm + sB (wrB kd mi md me mv mt w) nm
theorem wm_le {kd mi md me mv mt kn : Nat → Int32} {nm : Nat} (h8 : nm ≤ 8) (d e : Nat) : wmN kd mi md me mv mt kn nm d e ≤ UU := by
  have hU := UU_n
  have hb : sB (mis kd mi md me mv mt d e) nm < 256 := Nat.lt_of_lt_of_le (sB_lt _ nm) (Nat.pow_le_pow_right (by omega) h8)
  have hl1 := ctN_le (p := mis kd mi md me mv mt d e) nm
  unfold wmN
  split <;> omega
theorem wm_ok {kd mi md me mv mt kn : Nat → Int32} {nm d e : Nat} (h : wmN kd mi md me mv mt kn nm d e < UU) : okd kn d e = true := by
  unfold wmN at h
  cases ho : okd kn d e with
  | true => rfl
  | false => rw [ho, if_neg Bool.false_ne_true] at h; exact absurd h (Nat.lt_irrefl _)
theorem cst_key {lw nm w : Nat} {kd mi md me mv mt kn : Nat → Int32} (hM : MO nm mi md me) (h : isW lw kn w = true) : cst (wmN kd mi md me mv mt kn nm) 5 w = ky nm kd mi md me mv mt w ∧ lf lw 5 w = true := by
  rw [isW5, Bool.and_eq_true] at h
  obtain ⟨h1, h2⟩ := h
  simp only [Bool.and_eq_true] at h2
  obtain ⟨⟨⟨⟨⟨o0, o1⟩, o2⟩, o3⟩, o4⟩, o5⟩ := h2
  refine ⟨?_, h1⟩
  have s1 := sum_mis (w := w) (kd := kd) (mv := mv) (mt := mt) hM nm (Nat.le_refl _)
  have s2 := sum_misB (w := w) (kd := kd) (mv := mv) (mt := mt) hM nm (Nat.le_refl _)
  rw [cst5]
  unfold wmN ky
  rw [if_pos o0, if_pos o1, if_pos o2, if_pos o3, if_pos o4, if_pos o5, ← s1, ← s2]
  omega
theorem cst_is {lw nm w : Nat} {kd mi md me mv mt kn : Nat → Int32} (h : lf lw 5 w = true) (hc : cst (wmN kd mi md me mv mt kn nm) 5 w < UU) : isW lw kn w = true := by
  rw [cst5] at hc
  rw [isW5, h, wm_ok (kd := kd) (mi := mi) (md := md) (me := me) (mv := mv) (mt := mt) (nm := nm) (d := 0) (e := dg w 0) (by omega), wm_ok (kd := kd) (mi := mi) (md := md) (me := me) (mv := mv) (mt := mt) (nm := nm) (d := 1) (e := dg w 1) (by omega), wm_ok (kd := kd) (mi := mi) (md := md) (me := me) (mv := mv) (mt := mt) (nm := nm) (d := 2) (e := dg w 2) (by omega), wm_ok (kd := kd) (mi := mi) (md := md) (me := me) (mv := mv) (mt := mt) (nm := nm) (d := 3) (e := dg w 3) (by omega), wm_ok (kd := kd) (mi := mi) (md := md) (me := me) (mv := mv) (mt := mt) (nm := nm) (d := 4) (e := dg w 4) (by omega), wm_ok (kd := kd) (mi := mi) (md := md) (me := me) (mv := mv) (mt := mt) (nm := nm) (d := 5) (e := dg w 5) (by omega)]
  rfl
/-- the best of the first n -/
def bK (I : Nat → Bool) (K : Nat → Nat) : Nat → Nat
  | 0 => UU
  | n + 1 => if I n then (if K n < bK I K n then K n else bK I K n) else bK I K n
theorem bK_s (I : Nat → Bool) (K : Nat → Nat) (n : Nat) : bK I K (n + 1) = if I n then (if K n < bK I K n then K n else bK I K n) else bK I K n := rfl
theorem bK_U (I : Nat → Bool) (K : Nat → Nat) : ∀ n, bK I K n ≤ UU
  | 0 => Nat.le_refl _
  | n + 1 => by
    have := bK_U I K n
    rw [bK_s]
    split
    · split <;> omega
    · exact this
theorem bK_le {I : Nat → Bool} {K : Nat → Nat} {a : Nat} (h : I a = true) : ∀ {n}, a < n → bK I K n ≤ K a
  | 0, q => by omega
  | n + 1, q => by
    rw [bK_s]
    rcases Nat.lt_or_ge a n with z | z
    · have := bK_le (K := K) h z
      split
      · split <;> omega
      · exact this
    · have e : a = n := by omega
      subst e
      rw [if_pos h]
      split <;> omega
theorem bK_at {I : Nat → Bool} {K : Nat → Nat} : ∀ {n}, bK I K n < UU → ∃ a, a < n ∧ I a = true ∧ bK I K n = K a
  | 0, h => by exact absurd h (Nat.lt_irrefl _)
  | n + 1, h => by
    have key : bK I K (n + 1) = bK I K n ∨ (I n = true ∧ bK I K (n + 1) = K n) := by
      rw [bK_s]
      cases hI : I n with
      | false => exact Or.inl (if_neg Bool.false_ne_true)
      | true =>
        rw [if_pos rfl]
        by_cases c : K n < bK I K n
        · rw [if_pos c]; exact Or.inr ⟨rfl, rfl⟩
        · rw [if_neg c]; exact Or.inl rfl
    rcases key with q | ⟨q1, q2⟩
    · rw [q] at h ⊢
      obtain ⟨a, h1, h2, h3⟩ := bK_at h
      exact ⟨a, by omega, h2, h3⟩
    · exact ⟨n, by omega, q1, q2⟩
/-- the class's least sum is the best key of all worlds -/
theorem least_eq {lw nm : Nat} {kd mi md me mv mt kn : Nat → Int32} (hM : MO nm mi md me) : mnF (Lw (wmN kd mi md me mv mt kn nm) lw 5) 4 = bK (isW lw kn) (ky nm kd mi md me mv mt) 4096 := by
  have u1 := mn_U (Lw (wmN kd mi md me mv mt kn nm) lw 5) 4
  have u2 := bK_U (isW lw kn) (ky nm kd mi md me mv mt) 4096
  have p1 : mnF (Lw (wmN kd mi md me mv mt kn nm) lw 5) 4 < UU → bK (isW lw kn) (ky nm kd mi md me mv mt) 4096 ≤ mnF (Lw (wmN kd mi md me mv mt kn nm) lw 5) 4 := by
    intro h
    obtain ⟨e, he, h1⟩ := mn_at h
    rw [h1] at h ⊢
    obtain ⟨w, w1, w2, w3, w4⟩ := L_at 5 e he h
    have hi := cst_is (lw := lw) (w := w) (nm := nm) (kd := kd) (mi := mi) (md := md) (me := me) (mv := mv) (mt := mt) (kn := kn) w3 (by rw [w4]; exact h)
    obtain ⟨c1, -⟩ := cst_key (kd := kd) (mv := mv) (mt := mt) hM hi
    rw [← w4, c1]
    exact bK_le hi w1
  have p2 : bK (isW lw kn) (ky nm kd mi md me mv mt) 4096 < UU → mnF (Lw (wmN kd mi md me mv mt kn nm) lw 5) 4 ≤ bK (isW lw kn) (ky nm kd mi md me mv mt) 4096 := by
    intro h
    obtain ⟨w, h1, h2, h3⟩ := bK_at h
    obtain ⟨c1, c2⟩ := cst_key (kd := kd) (mv := mv) (mt := mt) hM h2
    rw [h3, ← c1]
    exact Nat.le_trans (mn_le (Nat.mod_lt w (by omega))) (L_le 5 w c2)
  generalize mnF (Lw (wmN kd mi md me mv mt kn nm) lw 5) 4 = x at *
  generalize bK (isW lw kn) (ky nm kd mi md me mv mt) 4096 = y at *
  rcases Nat.lt_or_ge x UU with q | q
  · have := p1 q
    have := p2 (by omega)
    omega
  · rcases Nat.lt_or_ge y UU with z | z
    · have := p2 z; omega
    · omega
def enc (x : Nat) : Int32 := if x = UU then ngI 1 else nI (x % 256)
theorem ky_form {nm w : Nat} {kd mi md me mv mt : Nat → Int32} (h8 : nm ≤ 8) : sB (wrB kd mi md me mv mt w) nm < 256 ∧ ctN (wrB kd mi md me mv mt w) nm ≤ 8 ∧ pc 31 (sB (wrB kd mi md me mv mt w) nm) = ctN (wrB kd mi md me mv mt w) nm := by
  have := ctN_le (p := wrB kd mi md me mv mt w) nm
  exact ⟨Nat.lt_of_lt_of_le (sB_lt _ nm) (Nat.pow_le_pow_right (by omega) h8), by omega, pc_sB h8⟩
theorem m_wrong {lw ni nm : Nat} {f kn mi md me mv mt k0 : Nat → Int32} (hl : lw < 65536) (hf1 : f 1 = nI lw) (hk : ∀ d, d < 6 → f (4 + d) = kn d) (hn : ni ≤ 4) (hf0 : f 0 = nI ni) (hM : MO nm mi md me) (hR : MR nm f mi md me mv mt) (hf3 : f 3 = nI nm) (kd : Nat → Int32) (hkd : kd = fillI (fun i => f (14 + i)) k0 ni) : f_X5_wrong f k0 = some (enc (bK (isW lw kn) (ky nm kd mi md me mv mt) 4096), kd) := by
  have hU := UU_n
  have h8 := hM.1
  unfold f_X5_wrong
  rw [m_layKinds hn hf0, ← hkd, bd1_n]
  have main : lq3 (f_X5_wrong_B8 f) FU (enc (bK (isW lw kn) (ky nm kd mi md me mv mt) 0)) (nI 0) kd = some (enc (bK (isW lw kn) (ky nm kd mi md me mv mt) 4096), kd) := by
    refine lq3_run (fun w => enc (bK (isW lw kn) (ky nm kd mi md me mv mt) w)) (fun w => nI w) (fun _ => kd) 4096 (fun k w hw => ?_) (fun k => ?_) (by have := fu; omega)
    · obtain ⟨f1, f2, f3⟩ := ky_form (w := w) (kd := kd) (mi := mi) (md := md) (me := me) (mv := mv) (mt := mt) h8
      have hkw : ky nm kd mi md me mv mt w = 256 * ctN (wrB kd mi md me mv mt w) nm + sB (wrB kd mi md me mv mt w) nm := rfl
      have hat := bK_at (I := isW lw kn) (K := ky nm kd mi md me mv mt) (n := w)
      have hbU := bK_U (isW lw kn) (ky nm kd mi md me mv mt) w
      unfold f_X5_wrong_B8 f_X5_wrong_J66
      rw [if_neg (show ¬ (4096 : Int32) ≤ nI w from show ¬ nI 4096 ≤ nI w by rw [n_le (by omega) (by omega)]; omega), m_isWorld hl hf1 hk hw, bd1_n, m_wrongIn hM hR hf3 hw, show nI w + 1 = nI (w + 1) from n_add w 1, bK_s]
      cases hi : isW lw kn w with
      | false => rw [if_neg Bool.false_ne_true, if_n0, if_neg Bool.false_ne_true]
      | true =>
        rw [if_pos rfl, if_n1, if_pos rfl, bd1_n]
        rcases Nat.lt_or_ge (bK (isW lw kn) (ky nm kd mi md me mv mt) w) UU with q | q
        · obtain ⟨a, h1, h2, h3⟩ := hat q
          obtain ⟨g1, g2, g3⟩ := ky_form (w := a) (kd := kd) (mi := mi) (md := md) (me := me) (mv := mv) (mt := mt) h8
          have hka : ky nm kd mi md me mv mt a = 256 * ctN (wrB kd mi md me mv mt a) nm + sB (wrB kd mi md me mv mt a) nm := rfl
          rw [h3, hka, hkw]
          generalize ctN (wrB kd mi md me mv mt a) nm = pa at *
          generalize sB (wrB kd mi md me mv mt a) nm = sa at *
          generalize ctN (wrB kd mi md me mv mt w) nm = pw at *
          generalize sB (wrB kd mi md me mv mt w) nm = sw at *
          have ea : enc (256 * pa + sa) = nI sa := by
            unfold enc
            rw [if_neg (by omega), show (256 * pa + sa) % 256 = sa by omega]
          have ew : enc (256 * pw + sw) = nI sw := by
            unfold enc
            rw [if_neg (by omega), show (256 * pw + sw) % 256 = sw by omega]
          rw [ea, if_neg (ne_neg (by omega)), m_bits (by omega), m_bits (by omega), bd1_n, bd1_n, f3, g3]
          by_cases c1 : pw < pa
          · rw [if_pos (show nI pw < nI pa by rw [n_lt (by omega) (by omega)]; exact c1), if_neg (by decide), if_pos (by omega), ew]
          · rw [if_neg (show ¬ nI pw < nI pa by rw [n_lt (by omega) (by omega)]; exact c1)]
            by_cases c2 : pw = pa
            · rw [bd1_n, bd1_n, if_pos (show nI pw = nI pa by rw [c2])]
              by_cases c3 : sa ≤ sw
              · rw [if_pos (show nI sa ≤ nI sw by rw [n_le (by omega) (by omega)]; exact c3), if_pos rfl, if_neg (by omega), ea]
              · rw [if_neg (show ¬ nI sa ≤ nI sw by rw [n_le (by omega) (by omega)]; exact c3), if_neg (by decide), if_pos (by omega), ew]
            · rw [bd1_n, bd1_n, if_neg (show ¬ nI pw = nI pa by rw [n_eq (by omega) (by omega)]; exact c2), if_pos rfl, if_neg (by omega), ea]
        · have e : bK (isW lw kn) (ky nm kd mi md me mv mt) w = UU := by omega
          rw [e, hkw, show enc UU = ngI 1 from if_pos rfl, if_pos (show ngI 1 = (-1 : Int32) from rfl), if_neg (by decide), if_pos (by omega)]
          unfold enc
          rw [if_neg (by omega), show (256 * ctN (wrB kd mi md me mv mt w) nm + sB (wrB kd mi md me mv mt w) nm) % 256 = sB (wrB kd mi md me mv mt w) nm by omega]
    · unfold f_X5_wrong_B8
      rw [if_pos (by decide)]
  exact main
theorem ky_congr {nm : Nat} {kd kd' mi md me mv mt : Nat → Int32} (h : ∀ j, j < nm → kd (Int32.toNatClampNeg (mi j)) = kd' (Int32.toNatClampNeg (mi j))) : ky nm kd mi md me mv mt = ky nm kd' mi md me mv mt := by
  funext w
  have ct : ∀ n, n ≤ nm → ctN (wrB kd mi md me mv mt w) n = ctN (wrB kd' mi md me mv mt w) n := by
    intro n
    induction n with
    | zero => intro _; rfl
    | succ n ih =>
      intro hn
      simp only [ctN]
      rw [ih (by omega), wrB_congr h n (by omega)]
  unfold ky
  rw [ct nm (Nat.le_refl _), sB_congr (wrB_congr h)]
theorem st_wrong (v_X_firstKept : Int32) (v_X_secondKept : Int32) (v_X_above : Int64) (v_X_below : Int64) (v_X_refusedBad : Int32) (v_X_refusedNo : Int32) (v_X_refusedFull : Int32) (v_X_now_laws : Int32) (v_X_now_inspectors : Int32) (v_X_now_marks : Int32) (v_X_now_undos : Int32) (r_X_now_knownEvent : Nat → Int32) (r_X_now_kind : Nat → Int32) (r_X_now_trips : Nat → Int32) (r_X_now_markInspector : Nat → Int32) (r_X_now_markDay : Nat → Int32) (r_X_now_markEvents : Nat → Int32) (r_X_now_markValue : Nat → Int32) (r_X_now_markTrips : Nat → Int32) (r_X_now_undoDay : Nat → Int32) (r_X_now_undoEvent : Nat → Int32) (v_X_firstImage_laws : Int32) (v_X_firstImage_inspectors : Int32) (v_X_firstImage_marks : Int32) (v_X_firstImage_undos : Int32) (r_X_firstImage_knownEvent : Nat → Int32) (r_X_firstImage_kind : Nat → Int32) (r_X_firstImage_trips : Nat → Int32) (r_X_firstImage_markInspector : Nat → Int32) (r_X_firstImage_markDay : Nat → Int32) (r_X_firstImage_markEvents : Nat → Int32) (r_X_firstImage_markValue : Nat → Int32) (r_X_firstImage_markTrips : Nat → Int32) (r_X_firstImage_undoDay : Nat → Int32) (r_X_firstImage_undoEvent : Nat → Int32) (v_X_secondImage_laws : Int32) (v_X_secondImage_inspectors : Int32) (v_X_secondImage_marks : Int32) (v_X_secondImage_undos : Int32) (r_X_secondImage_knownEvent : Nat → Int32) (r_X_secondImage_kind : Nat → Int32) (r_X_secondImage_trips : Nat → Int32) (r_X_secondImage_markInspector : Nat → Int32) (r_X_secondImage_markDay : Nat → Int32) (r_X_secondImage_markEvents : Nat → Int32) (r_X_secondImage_markValue : Nat → Int32) (r_X_secondImage_markTrips : Nat → Int32) (r_X_secondImage_undoDay : Nat → Int32) (r_X_secondImage_undoEvent : Nat → Int32) (v_X_text_length : Int32) (r_X_text_bytes : Nat → Int32) (r_X_ways_weight : Nat → Int64) (r_X_ways_upTo : Nat → Int64) (v_M_above : Int64) (v_M_below : Int64) (v_M_bytesLong : Int32) (r_M_now : Nat → Int32) (r_M_kept : Nat → Int32) (r_M_isKept : Nat → Int32) (r_M_refused : Nat → Int32) (r_M_kinds : Nat → Int32) (r_M_bytes : Nat → Int32)  (hR : Rel (v_X_now_laws, v_X_now_inspectors, v_X_now_marks, v_X_now_undos, r_X_now_knownEvent, r_X_now_kind, r_X_now_trips, r_X_now_markInspector, r_X_now_markDay, r_X_now_markEvents, r_X_now_markValue, r_X_now_markTrips, r_X_now_undoDay, r_X_now_undoEvent) (v_X_firstImage_laws, v_X_firstImage_inspectors, v_X_firstImage_marks, v_X_firstImage_undos, r_X_firstImage_knownEvent, r_X_firstImage_kind, r_X_firstImage_trips, r_X_firstImage_markInspector, r_X_firstImage_markDay, r_X_firstImage_markEvents, r_X_firstImage_markValue, r_X_firstImage_markTrips, r_X_firstImage_undoDay, r_X_firstImage_undoEvent) (v_X_secondImage_laws, v_X_secondImage_inspectors, v_X_secondImage_marks, v_X_secondImage_undos, r_X_secondImage_knownEvent, r_X_secondImage_kind, r_X_secondImage_trips, r_X_secondImage_markInspector, r_X_secondImage_markDay, r_X_secondImage_markEvents, r_X_secondImage_markValue, r_X_secondImage_markTrips, r_X_secondImage_undoDay, r_X_secondImage_undoEvent) v_X_firstKept v_X_secondKept v_X_text_length r_X_text_bytes v_X_above v_X_below v_X_refusedBad v_X_refusedNo v_X_refusedFull r_M_now r_M_kept r_M_isKept r_M_refused v_M_above v_M_below r_M_bytes v_M_bytesLong) : ∃ (r : Int32) (or_X_ways_weight : Nat → Int64) (or_X_ways_upTo : Nat → Int64) (or_M_kinds : Nat → Int32), f_X4_wrong v_X_now_laws v_X_now_marks r_X_now_knownEvent r_X_now_kind r_X_now_markInspector r_X_now_markDay r_X_now_markEvents r_X_now_markValue r_X_now_markTrips r_X_ways_weight r_X_ways_upTo = some (r, or_X_ways_weight, or_X_ways_upTo) ∧ f_X5_wrong r_M_now r_M_kinds = some (r, or_M_kinds) ∧ Rel (v_X_now_laws, v_X_now_inspectors, v_X_now_marks, v_X_now_undos, r_X_now_knownEvent, r_X_now_kind, r_X_now_trips, r_X_now_markInspector, r_X_now_markDay, r_X_now_markEvents, r_X_now_markValue, r_X_now_markTrips, r_X_now_undoDay, r_X_now_undoEvent) (v_X_firstImage_laws, v_X_firstImage_inspectors, v_X_firstImage_marks, v_X_firstImage_undos, r_X_firstImage_knownEvent, r_X_firstImage_kind, r_X_firstImage_trips, r_X_firstImage_markInspector, r_X_firstImage_markDay, r_X_firstImage_markEvents, r_X_firstImage_markValue, r_X_firstImage_markTrips, r_X_firstImage_undoDay, r_X_firstImage_undoEvent) (v_X_secondImage_laws, v_X_secondImage_inspectors, v_X_secondImage_marks, v_X_secondImage_undos, r_X_secondImage_knownEvent, r_X_secondImage_kind, r_X_secondImage_trips, r_X_secondImage_markInspector, r_X_secondImage_markDay, r_X_secondImage_markEvents, r_X_secondImage_markValue, r_X_secondImage_markTrips, r_X_secondImage_undoDay, r_X_secondImage_undoEvent) v_X_firstKept v_X_secondKept v_X_text_length r_X_text_bytes v_X_above v_X_below v_X_refusedBad v_X_refusedNo v_X_refusedFull r_M_now r_M_kept r_M_isKept r_M_refused v_M_above v_M_below r_M_bytes v_M_bytesLong := by
  have hR0 := hR
  obtain ⟨hO, p0, p1, p2, p3, p4⟩ := hR
  obtain ⟨lw, ni, nm, nu, q1, q2, q3, q4, h⟩ := hO
  have q1 : v_X_now_laws = nI lw := q1
  have q3 : v_X_now_marks = nI nm := q3
  subst q1 q3
  have h : OK4 lw ni nm nu r_X_now_knownEvent r_X_now_kind r_X_now_trips r_X_now_markInspector r_X_now_markDay r_X_now_markEvents r_X_now_markValue r_X_now_markTrips r_X_now_undoDay r_X_now_undoEvent r_M_now := h
  obtain ⟨⟨a1, a2⟩, ⟨b1, b2⟩, c1, d1, e1, f1, g1, k1, -⟩ := h
  have hM := g1.mo b2
  have hU := UU_n
  have hkk : ∀ j, j < nm → r_X_now_kind (Int32.toNatClampNeg (r_X_now_markInspector j)) = fillI (fun i => r_M_now (14 + i)) r_M_kinds ni (Int32.toNatClampNeg (r_X_now_markInspector j)) := by
    intro j hj
    obtain ⟨⟨w, hw, ew⟩, -⟩ := g1.2 j hj
    rw [ew, n_cl (by omega), fillI_in hw]
    exact (f1 w hw).1.symm
  have mW := m_wrong (k0 := r_M_kinds) a2 a1 (fun d hd => (e1 d hd).1) b2 b1 hM k1 c1 (fillI (fun i => r_M_now (14 + i)) r_M_kinds ni) rfl
  rw [← ky_congr hkk, ← least_eq hM] at mW
  have xW := x_weighMissed (kn := r_X_now_knownEvent) (kd := r_X_now_kind) (mv := r_X_now_markValue) (mt := r_X_now_markTrips) (g := r_X_ways_weight) hM
  have hw : ∀ d e, d < 6 → e < 4 → fillL (rowL (wmN r_X_now_kind r_X_now_markInspector r_X_now_markDay r_X_now_markEvents r_X_now_markValue r_X_now_markTrips r_X_now_knownEvent nm)) r_X_ways_weight 24 (4 * d + e) = lN (wmN r_X_now_kind r_X_now_markInspector r_X_now_markDay r_X_now_markEvents r_X_now_markValue r_X_now_markTrips r_X_now_knownEvent nm d e) := fun d e hd he => by
    rw [fillL_in (by omega)]; exact rowL_at he
  obtain ⟨u', xL⟩ := x_leastSum (u := r_X_ways_upTo) a2 (wm_le hM.1) hw
  have hu := mn_U (Lw (wmN r_X_now_kind r_X_now_markInspector r_X_now_markDay r_X_now_markEvents r_X_now_markValue r_X_now_markTrips r_X_now_knownEvent nm) lw 5) 4
  generalize mnF (Lw (wmN r_X_now_kind r_X_now_markInspector r_X_now_markDay r_X_now_markEvents r_X_now_markValue r_X_now_markTrips r_X_now_knownEvent nm) lw 5) 4 = R at *
  refine ⟨enc R, fillL (rowL (wmN r_X_now_kind r_X_now_markInspector r_X_now_markDay r_X_now_markEvents r_X_now_markValue r_X_now_markTrips r_X_now_knownEvent nm)) r_X_ways_weight 24, u', fillI (fun i => r_M_now (14 + i)) r_M_kinds ni, ?_, mW, hR0⟩
  rw [f_X4_wrong, xW, bd1_n, xL, bd2_n]
  have hlg : lg_cmp (lN R) (1048576 : Int64) < 0 ↔ R < UU := by rw [lg_lt, lU, l_lt (by omega) (by omega)]
  by_cases c : R < UU
  · rw [if_pos (hlg.mpr c), pk_lN_i, show (255 : Int32) = nI 255 from rfl, n_and, show R &&& 255 = R % 256 from Nat.and_two_pow_sub_one_eq_mod R 8]
    unfold enc
    rw [if_neg (by omega)]
  · rw [if_neg (fun z => c (hlg.mp z))]
    unfold enc
    rw [if_pos (by omega)]; rfl
