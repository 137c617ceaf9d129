/-! the class: sums over the days -/
def lwB (lw a b : Nat) : Bool := (lw / 2 ^ (4 * a + b)) % 2 == 1
def trN (lw a b : Nat) : Nat := if lwB lw a b then 0 else 1
theorem x_isLaw {lw a b : Nat} (hl : lw < 65536) (ha : a < 4) (hb : b < 4) : f_X0_isLaw (nI a) (nI b) (nI lw) = nI (if lwB lw a b then 1 else 0) := by
  have hd : lw / 2 ^ (4 * a + b) < 2 ^ 31 := Nat.lt_of_le_of_lt (Nat.div_le_self _ _) (by omega)
  simp (disch := omega) only [f_X0_isLaw, ↓n_neg1, ↓n_neg2, ↓n_neg3, ↓n_neg4, ↓n_neg5, ↓n_neg10, n_lit, n_le, n_lt, n_eq, n_cl, n_add, n_mul, n_sub, ckI_n, n_shl1, n_shr, n_and, n_or, bd1_n, n_ng, ng_n, ng_ng, m_and1]
  unfold lwB
  by_cases h : lw / 2 ^ (4 * a + b) % 2 = 1
  · simp [h]
  · simp [h]
theorem lN_0 : (0 : Int64) = lN 0 := rfl
theorem x_sumBefore {lw d e : Nat} {u : Nat → Int64} {F : Nat → Nat} (hl : lw < 65536) (hd : d < 5) (he : e < 4) (hu : ∀ a, a < 4 → u (4 * d + a) = lN (F a)) : f_X3_sumBefore (nI (d + 1)) (nI e) u (nI lw) = some (lN (trN lw 0 e * F 0 + trN lw 1 e * F 1 + trN lw 2 e * F 2 + trN lw 3 e * F 3)) := by
  refine (lq2_run (fun i => lN (sN (fun a => trN lw a e * F a) i)) (fun i => nI i) 4 (out := some (lN (sN (fun a => trN lw a e * F a) 4))) (fun k i hi => ?_) (fun k => ?_) (by have := fu; omega)).trans (by simp [sN])
  · simp (disch := omega) only [f_X3_sumBefore_B6, f_X3_place, ↓n_neg1, ↓n_neg2, ↓n_neg3, ↓n_neg4, ↓n_neg5, ↓n_neg10, n_lit, n_le, n_lt, n_eq, n_cl, n_add, n_mul, n_sub, ckI_n, n_shl1, n_shr, n_and, n_or, bd1_n, n_ng, ng_n, ng_ng, x_isLaw hl hi he, Nat.add_sub_cancel, hu i hi, lN_add]
    rw [if_neg (by omega), sN, trN]
    cases lwB lw i e with
    | true => simp (disch := omega) [↓n_neg1, ↓n_neg2, ↓n_neg3, ↓n_neg4, ↓n_neg5, ↓n_neg10, n_lit, n_le, n_lt, n_eq, n_cl, n_add, n_mul, n_sub, ckI_n, n_shl1, n_shr, n_and, n_or, bd1_n, n_ng, ng_n, ng_ng]
    | false => simp (disch := omega) [↓n_neg1, ↓n_neg2, ↓n_neg3, ↓n_neg4, ↓n_neg5, ↓n_neg10, n_lit, n_le, n_lt, n_eq, n_cl, n_add, n_mul, n_sub, ckI_n, n_shl1, n_shr, n_and, n_or, bd1_n, n_ng, ng_n, ng_ng]
  · simp (disch := omega) only [f_X3_sumBefore_B6, ↓n_neg1, ↓n_neg2, ↓n_neg3, ↓n_neg4, ↓n_neg5, ↓n_neg10, n_lit, n_le, n_lt, n_eq, n_cl, n_add, n_mul, n_sub, ckI_n, n_shl1, n_shr, n_and, n_or, bd1_n, n_ng, ng_n, ng_ng]
    rw [if_pos (by omega)]
theorem x_sumBehind {lw d e : Nat} {w b : Nat → Int64} {G F : Nat → Nat} (hl : lw < 65536) (hd : d < 5) (he : e < 4) (hw : ∀ a, a < 4 → w (4 * (d + 1) + a) = lN (G a)) (hb : ∀ a, a < 4 → b (4 * (d + 1) + a) = lN (F a)) : f_X3_sumBehind (nI d) (nI e) w b (nI lw) = some (lN (trN lw e 0 * (G 0 * F 0) + trN lw e 1 * (G 1 * F 1) + trN lw e 2 * (G 2 * F 2) + trN lw e 3 * (G 3 * F 3))) := by
  refine (lq2_run (fun i => lN (sN (fun a => trN lw e a * (G a * F a)) i)) (fun i => nI i) 4 (out := some (lN (sN (fun a => trN lw e a * (G a * F a)) 4))) (fun k i hi => ?_) (fun k => ?_) (by have := fu; omega)).trans (by simp [sN])
  · simp (disch := omega) only [f_X3_sumBehind_B6, f_X3_place, ↓n_neg1, ↓n_neg2, ↓n_neg3, ↓n_neg4, ↓n_neg5, ↓n_neg10, n_lit, n_le, n_lt, n_eq, n_cl, n_add, n_mul, n_sub, ckI_n, n_shl1, n_shr, n_and, n_or, bd1_n, n_ng, ng_n, ng_ng, x_isLaw hl he hi, hw i hi, hb i hi, lN_mul, lN_add]
    rw [if_neg (by omega), sN, trN]
    cases lwB lw e i with
    | true => simp (disch := omega) [↓n_neg1, ↓n_neg2, ↓n_neg3, ↓n_neg4, ↓n_neg5, ↓n_neg10, n_lit, n_le, n_lt, n_eq, n_cl, n_add, n_mul, n_sub, ckI_n, n_shl1, n_shr, n_and, n_or, bd1_n, n_ng, ng_n, ng_ng]
    | false => simp (disch := omega) [↓n_neg1, ↓n_neg2, ↓n_neg3, ↓n_neg4, ↓n_neg5, ↓n_neg10, n_lit, n_le, n_lt, n_eq, n_cl, n_add, n_mul, n_sub, ckI_n, n_shl1, n_shr, n_and, n_or, bd1_n, n_ng, ng_n, ng_ng]
  · simp (disch := omega) only [f_X3_sumBehind_B6, ↓n_neg1, ↓n_neg2, ↓n_neg3, ↓n_neg4, ↓n_neg5, ↓n_neg10, n_lit, n_le, n_lt, n_eq, n_cl, n_add, n_mul, n_sub, ckI_n, n_shl1, n_shr, n_and, n_or, bd1_n, n_ng, ng_n, ng_ng]
    rw [if_pos (by omega)]
/-- rows that hold functions of day and event up to a place; the rest is free -/
theorem x_sum {lw : Nat} {w u b : Nat → Int64} {wt : Nat → Nat → Nat} (hl : lw < 65536) (hw : ∀ d e, d < 6 → e < 4 → w (4 * d + e) = lN (wt d e)) : ∃ u' b', f_X3_sum w u b (nI lw) = some (u', b') ∧ (∀ d e, d < 6 → e < 4 → u' (4 * d + e) = lN (Uw wt (trN lw) d e)) ∧ ∀ d e, d < 6 → e < 4 → b' (4 * d + e) = lN (Bw wt (trN lw) (5 - d) e) := by
  -- the rows as they end
  let V : Nat → Int64 := rowL (Uw wt (trN lw))
  let Z : Nat → Int64 := rowL (fun d e => Bw wt (trN lw) (5 - d) e)
  have hV : ∀ d e, e < 4 → V (4 * d + e) = lN (Uw wt (trN lw) d e) := fun d e he => rowL_at he
  have hZ : ∀ d e, e < 4 → Z (4 * d + e) = lN (Bw wt (trN lw) (5 - d) e) := fun d e he => rowL_at he
  -- rows of which the places from p on hold Z
  let fb : Nat → Nat → Nat → Int64 := fun lo hi j => if lo ≤ j ∧ j < hi then Z j else b j
  -- first loop
  have s3 : ∀ (bb : Nat → Int64), (∀ e, e < 4 → bb (20 + e) = Z (20 + e)) → ∃ b', lq3 (f_X3_sum_B101 w (nI lw)) FU (nI 4) (fillL V u 24) bb = some (fillL V u 24, b') ∧ ∀ d e, d < 6 → e < 4 → b' (4 * d + e) = Z (4 * d + e) := by
    intro bb hbb
    have key : ∀ (m : Nat) (bb : Nat → Int64) (n : Nat), m ≤ 5 → m < n → (∀ j, 4 * m ≤ j → j < 24 → bb j = Z j) → ∃ b', lq3 (f_X3_sum_B101 w (nI lw)) n (nI m - 1) (fillL V u 24) bb = some (fillL V u 24, b') ∧ ∀ j, j < 24 → b' j = Z j := by
      intro m
      induction m with
      | zero =>
        intro bb n hm hn hb
        obtain ⟨n, rfl⟩ : ∃ z, n = z + 1 := ⟨n - 1, by omega⟩
        refine ⟨bb, ?_, fun j hj => hb j (by omega) hj⟩
        show f_X3_sum_B101 w (nI lw) _ _ _ _ = _
        rw [f_X3_sum_B101, if_pos (by decide)]
      | succ m ih =>
        intro bb n hm hn hb
        obtain ⟨n, rfl⟩ : ∃ z, n = z + 1 := ⟨n - 1, by omega⟩
        let g : Nat → Nat → Int64 := fun e j => if 4 * m ≤ j ∧ j < 4 * m + e then Z j else bb j
        have hg0 : bb = g 0 := by
          funext j
          show bb j = if 4 * m ≤ j ∧ j < 4 * m + 0 then Z j else bb j
          rw [if_neg (by omega)]
        have hg4 : ∀ j, 4 * m ≤ j → j < 24 → g 4 j = Z j := by
          intro j h1 h2
          show (if 4 * m ≤ j ∧ j < 4 * m + 4 then Z j else bb j) = Z j
          by_cases q : j < 4 * m + 4
          · rw [if_pos ⟨h1, q⟩]
          · rw [if_neg (by omega)]; exact hb j (by omega) h2
        obtain ⟨b', e1, e2⟩ := ih (g 4) n (by omega) (by omega) hg4
        refine ⟨b', ?_, e2⟩
        refine Eq.trans ?_ e1
        show f_X3_sum_B101 w (nI lw) (lq3 (f_X3_sum_B101 w (nI lw)) n) (nI (m + 1) - 1) (fillL V u 24) bb = _
        rw [nI_pred, f_X3_sum_B101, if_neg (nI_pos (by omega)), hg0]
        refine lq4_run (fun _ => nI m) (fun e => nI e) (fun _ => fillL V u 24) g 4 (fun k e he => ?_) (fun k => ?_) (by have := fu; omega)
        · have hsb : f_X3_sumBehind (nI m) (nI e) w (g e) (nI lw) = some (Z (4 * m + e)) := by
            have hgf : ∀ a, a < 4 → g e (4 * (m + 1) + a) = lN (Bw wt (trN lw) (5 - (m + 1)) a) := by
              intro a ha
              show (if 4 * m ≤ 4 * (m + 1) + a ∧ 4 * (m + 1) + a < 4 * m + e then Z (4 * (m + 1) + a) else bb (4 * (m + 1) + a)) = _
              rw [if_neg (by omega), hb _ (by omega) (by omega)]
              exact hZ _ _ ha
            rw [x_sumBehind hl (by omega) he (fun a ha => hw (m + 1) a (by omega) ha) hgf, hZ m e he, show 5 - m = (5 - (m + 1)) + 1 by omega, Bw, show 5 - (5 - (m + 1)) = m + 1 by omega]
          have hup : vp_updL (g e) (4 * m + e) (Z (4 * m + e)) = g (e + 1) := by
            funext j
            show (if j = 4 * m + e then Z (4 * m + e) else if 4 * m ≤ j ∧ j < 4 * m + e then Z j else bb j) = if 4 * m ≤ j ∧ j < 4 * m + (e + 1) then Z j else bb j
            by_cases q : j = 4 * m + e
            · rw [if_pos q, if_pos (by omega), q]
            · rw [if_neg q]
              by_cases q2 : 4 * m ≤ j ∧ j < 4 * m + e
              · rw [if_pos q2, if_pos (by omega)]
              · rw [if_neg q2, if_neg (by omega)]
          simp (disch := omega) only [f_X3_sum_B107, f_X3_place, ↓n_neg1, ↓n_neg2, ↓n_neg3, ↓n_neg4, ↓n_neg5, ↓n_neg10, n_lit, n_le, n_lt, n_eq, n_cl, n_add, n_mul, n_sub, ckI_n, n_shl1, n_shr, n_and, n_or, bd1_n, n_ng, ng_n, ng_ng, hsb, hup]
          rw [if_neg (by omega)]
        · simp (disch := omega) only [f_X3_sum_B107, ↓n_neg1, ↓n_neg2, ↓n_neg3, ↓n_neg4, ↓n_neg5, ↓n_neg10, n_lit, n_le, n_lt, n_eq, n_cl, n_add, n_mul, n_sub, ckI_n, n_shl1, n_shr, n_and, n_or, bd1_n, n_ng, ng_n, ng_ng]
          rw [if_pos (by omega)]
          rw [show nI m + ngI 1 = nI m - nI 1 from (Int32.sub_eq_add_neg _ _).symm]
    obtain ⟨b', e1, e2⟩ := key 5 bb FU (by omega) (by have := fu; omega) (fun j h1 h2 => by
      have := hbb (j - 20) (by omega)
      rw [show 20 + (j - 20) = j by omega] at this
      exact this)
    exact ⟨b', e1, fun d e hd he => e2 _ (by omega)⟩
  let g5 : Nat → Nat → Int64 := fun e j => if 20 ≤ j ∧ j < 20 + e then Z j else b j
  obtain ⟨b', e1, e2⟩ := s3 (g5 4) (fun e he => by
    show (if 20 ≤ 20 + e ∧ 20 + e < 20 + 4 then Z (20 + e) else b (20 + e)) = Z (20 + e)
    rw [if_pos (by omega)])
  refine ⟨fillL V u 24, b', ?_, fun d e hd he => ?_, fun d e hd he => ?_⟩
  · have s2 : lq3 (f_X3_sum_B46 w (nI lw)) FU (nI (0 + 1)) (fillL V u (4 * (0 + 1))) (g5 4) = some (fillL V u 24, b') := by
      refine lq3_run (fun i => nI (i + 1)) (fun i => fillL V u (4 * (i + 1))) (fun _ => g5 4) 5 (fun k i hi => ?_) (fun k => ?_) (by have := fu; omega)
      · simp (disch := omega) only [f_X3_sum_B46, ↓n_neg1, ↓n_neg2, ↓n_neg3, ↓n_neg4, ↓n_neg5, ↓n_neg10, n_lit, n_le, n_lt, n_eq, n_cl, n_add, n_mul, n_sub, ckI_n, n_shl1, n_shr, n_and, n_or, bd1_n, n_ng, ng_n, ng_ng]
        rw [if_neg (by omega)]
        refine lq4_run (fun _ => nI (i + 1)) (fun e => nI e) (fun e => fillL V u (4 * (i + 1) + e)) (fun _ => g5 4) 4 (fun k e he => ?_) (fun k => ?_) (by have := fu; omega)
        · have hsb : f_X3_sumBefore (nI (i + 1)) (nI e) (fillL V u (4 * (i + 1) + e)) (nI lw) = some (lN (trN lw 0 e * Uw wt (trN lw) i 0 + trN lw 1 e * Uw wt (trN lw) i 1 + trN lw 2 e * Uw wt (trN lw) i 2 + trN lw 3 e * Uw wt (trN lw) i 3)) :=
            x_sumBefore hl (by omega) he (fun a ha => by rw [fillL_in (by omega)]; exact hV i a ha)
          have hup := fillL_s V u (4 * (i + 1) + e)
          rw [hV (i + 1) e he, Uw, ← lN_mul, ← hw (i + 1) e (by omega) he] at hup
          simp (disch := omega) only [f_X3_sum_B54, f_X3_place, ↓n_neg1, ↓n_neg2, ↓n_neg3, ↓n_neg4, ↓n_neg5, ↓n_neg10, n_lit, n_le, n_lt, n_eq, n_cl, n_add, n_mul, n_sub, ckI_n, n_shl1, n_shr, n_and, n_or, bd1_n, n_ng, ng_n, ng_ng, hsb, hup]
          rw [if_neg (by omega)]
          rfl
        · simp (disch := omega) only [f_X3_sum_B54, ↓n_neg1, ↓n_neg2, ↓n_neg3, ↓n_neg4, ↓n_neg5, ↓n_neg10, n_lit, n_le, n_lt, n_eq, n_cl, n_add, n_mul, n_sub, ckI_n, n_shl1, n_shr, n_and, n_or, bd1_n, n_ng, ng_n, ng_ng]
          rw [if_pos (by omega)]
          rfl
      · simp (disch := omega) only [f_X3_sum_B46, ↓n_neg1, ↓n_neg2, ↓n_neg3, ↓n_neg4, ↓n_neg5, ↓n_neg10, n_lit, n_le, n_lt, n_eq, n_cl, n_add, n_mul, n_sub, ckI_n, n_shl1, n_shr, n_and, n_or, bd1_n, n_ng, ng_n, ng_ng]
        rw [if_pos (by omega)]
        exact e1
    have hu0 : u = fillL V u 0 := (fillL_0 _ _).symm
    have hb0 : b = g5 0 := by
      funext j
      show b j = if 20 ≤ j ∧ j < 20 + 0 then Z j else b j
      rw [if_neg (by omega)]
    have s1 : lq3 (f_X3_sum_B2 w (nI lw)) FU (nI 0) (fillL V u 0) (g5 0) = some (fillL V u 24, b') := by
      refine lq3_run (fun e => nI e) (fun e => fillL V u e) g5 4 (fun k e he => ?_) (fun k => ?_) (by have := fu; omega)
      · have hup := fillL_s V u e
        have hVe : V e = lN (wt 0 e) := by
          have := hV 0 e he
          rw [Nat.mul_zero, Nat.zero_add] at this
          exact this
        have hwe : w e = lN (wt 0 e) := by
          have := hw 0 e (by omega) he
          rw [Nat.mul_zero, Nat.zero_add] at this
          exact this
        have hZe : Z (20 + e) = lN 1 := hZ 5 e he
        have hupb : vp_updL (g5 e) (20 + e) (lN 1) = g5 (e + 1) := by
          funext j
          show (if j = 20 + e then lN 1 else if 20 ≤ j ∧ j < 20 + e then Z j else b j) = if 20 ≤ j ∧ j < 20 + (e + 1) then Z j else b j
          by_cases q : j = 20 + e
          · rw [if_pos q, if_pos (by omega), q, hZe]
          · rw [if_neg q]
            by_cases q2 : 20 ≤ j ∧ j < 20 + e
            · rw [if_pos q2, if_pos (by omega)]
            · rw [if_neg q2, if_neg (by omega)]
        rw [hVe, ← hwe] at hup
        simp (disch := omega) only [f_X3_sum_B2, f_X3_place, ↓n_neg1, ↓n_neg2, ↓n_neg3, ↓n_neg4, ↓n_neg5, ↓n_neg10, n_lit, n_le, n_lt, n_eq, n_cl, n_add, n_mul, n_sub, ckI_n, n_shl1, n_shr, n_and, n_or, bd1_n, n_ng, ng_n, ng_ng, l_lit, Nat.mul_zero, Nat.zero_add, hup, hupb, Nat.reduceMul]
        rw [if_neg (by omega)]
      · simp (disch := omega) only [f_X3_sum_B2, ↓n_neg1, ↓n_neg2, ↓n_neg3, ↓n_neg4, ↓n_neg5, ↓n_neg10, n_lit, n_le, n_lt, n_eq, n_cl, n_add, n_mul, n_sub, ckI_n, n_shl1, n_shr, n_and, n_or, bd1_n, n_ng, ng_n, ng_ng]
        rw [if_pos (by omega)]
        exact s2
    rw [← hu0, ← hb0] at s1
    exact s1
  · rw [fillL_in (by omega)]; exact hV d e he
  · rw [e2 d e hd he]; exact hZ d e he
theorem x_all {u : Nat → Int64} {F : Nat → Nat} (hu : ∀ a, a < 4 → u (20 + a) = lN (F a)) : f_X3_all u = some (lN (F 0 + F 1 + F 2 + F 3)) := by
  refine (lq2_run (fun i => lN (sN F i)) (fun i => nI i) 4 (out := some (lN (sN F 4))) (fun k i hi => ?_) (fun k => ?_) (by have := fu; omega)).trans (by simp [sN])
  · simp (disch := omega) only [f_X3_all_B4, f_X3_place, ↓n_neg1, ↓n_neg2, ↓n_neg3, ↓n_neg4, ↓n_neg5, ↓n_neg10, n_lit, n_le, n_lt, n_eq, n_cl, n_add, n_mul, n_sub, ckI_n, n_shl1, n_shr, n_and, n_or, bd1_n, n_ng, ng_n, ng_ng, Nat.reduceMul, hu i hi, lN_add]
    rw [if_neg (by omega), sN]
  · simp (disch := omega) only [f_X3_all_B4, ↓n_neg1, ↓n_neg2, ↓n_neg3, ↓n_neg4, ↓n_neg5, ↓n_neg10, n_lit, n_le, n_lt, n_eq, n_cl, n_add, n_mul, n_sub, ckI_n, n_shl1, n_shr, n_and, n_or, bd1_n, n_ng, ng_n, ng_ng]
    rw [if_pos (by omega)]
theorem x_having {u b : Nat → Int64} {d e x y : Nat} (hd : d < 6) (he : e < 4) (hu : u (4 * d + e) = lN x) (hb : b (4 * d + e) = lN y) : f_X3_having (nI d) (nI e) u b = some (lN (x * y)) := by
  simp (disch := omega) only [f_X3_having, f_X3_place, ↓n_neg1, ↓n_neg2, ↓n_neg3, ↓n_neg4, ↓n_neg5, ↓n_neg10, n_lit, n_le, n_lt, n_eq, n_cl, n_add, n_mul, n_sub, ckI_n, n_shl1, n_shr, n_and, n_or, bd1_n, n_ng, ng_n, ng_ng, hu, hb, lN_mul]
theorem l_le {a b : Nat} (ha : a < 2 ^ 63) (hb : b < 2 ^ 63) : lN a ≤ lN b ↔ a ≤ b := pk_lLE ha hb
theorem l_lt {a b : Nat} (ha : a < 2 ^ 63) (hb : b < 2 ^ 63) : lN a < lN b ↔ a < b := pk_lLT ha hb
theorem l_eq {a b : Nat} (ha : a < 2 ^ 63) (hb : b < 2 ^ 63) : lN a = lN b ↔ a = b := pk_lEQ ha hb
theorem x_eventsOn {u b : Nat → Int64} {d : Nat} {H : Nat → Nat} (hd : d < 6) (hH : ∀ e, e < 4 → H e < 2 ^ 63) (hh : ∀ e, e < 4 → f_X3_having (nI d) (nI e) u b = some (lN (H e))) : f_X3_eventsOn (nI d) u b = some (nI (sB (fun e => decide (0 < H e)) 4)) := by
  refine lq2_run (fun i => nI (sB (fun e => decide (0 < H e)) i)) (fun i => nI i) 4 (fun k i hi => ?_) (fun k => ?_) (by have := fu; omega)
  · have h1 := hH i hi
    have hc : lg_cmp (lN (H i)) (lN 0) ≤ nI 0 ↔ H i ≤ 0 := lg_le.trans (l_le h1 (by omega))
    simp (disch := omega) only [f_X3_eventsOn_B4, ↓n_neg1, ↓n_neg2, ↓n_neg3, ↓n_neg4, ↓n_neg5, ↓n_neg10, n_lit, n_le, n_lt, n_eq, n_cl, n_add, n_mul, n_sub, ckI_n, n_shl1, n_shr, n_and, n_or, bd1_n, n_ng, ng_n, ng_ng, hh i hi, l_lit]
    rw [if_neg (by omega)]
    by_cases q : 0 < H i
    · rw [if_neg (fun z => by have := hc.mp z; omega), sB_or _ _ (decide_eq_true q)]
    · rw [if_pos (hc.mpr (by omega)), sB_no _ _ (decide_eq_false q)]
  · simp (disch := omega) only [f_X3_eventsOn_B4, ↓n_neg1, ↓n_neg2, ↓n_neg3, ↓n_neg4, ↓n_neg5, ↓n_neg10, n_lit, n_le, n_lt, n_eq, n_cl, n_add, n_mul, n_sub, ckI_n, n_shl1, n_shr, n_and, n_or, bd1_n, n_ng, ng_n, ng_ng]
    rw [if_pos (by omega)]
