theorem lq1_stop {body : (Int32 → Option Int32) → Int32 → Option Int32} (c : Nat → Bool) (N : Nat) (h1 : ∀ k i, i < N → c i = true → body k (nI i) = k (nI (i + 1))) (h0 : ∀ k i, i < N → c i = false → body k (nI i) = some (nI 0)) (hN : ∀ k, body k (nI N) = some (nI 1)) {n : Nat} (hn : N < n) : lq1 body n (nI 0) = some (nI (if allB c N then 1 else 0)) := by
  have key : ∀ m i : Nat, i ≤ N → N - i < m → (∀ j, j < i → c j = true) → lq1 body m (nI i) = some (nI (if allB c N then 1 else 0)) := by
    intro m
    induction m with
    | zero => intro i a b; omega
    | succ m ih =>
      intro i a b hj
      show body (lq1 body m) (nI i) = _
      rcases Nat.lt_or_ge i N with q | q
      · cases hc : c i with
        | true =>
          rw [h1 _ i q hc]
          exact ih (i + 1) q (by omega) (fun j hj' => by
            rcases Nat.lt_or_ge j i with z | z
            · exact hj j z
            · rw [show j = i by omega]; exact hc)
        | false =>
          rw [h0 _ i q hc, if_neg (fun z => by have := allB_iff.mp z i q; rw [hc] at this; exact absurd this (by decide))]
      · have e : i = N := by omega
        subst e
        rw [hN, if_pos (allB_iff.mpr hj)]
  exact key n 0 (by omega) (by omega) (fun j hj => by omega)
def gN (F : Nat → Bool) (d a b : Nat) : Nat := if a = b then hF F 4096 d a / 2 else hF F 4096 d a
theorem gN_le (F : Nat → Bool) (d a b : Nat) : gN F d a b ≤ 4096 := by
  have := hF_le F 4096 d a
  unfold gN; split <;> omega
def rsB (F : Nat → Bool) (d a b : Nat) : Bool := allB (fun y => decide (gN F d y b ≤ gN F d a b) && decide (gN F d y a ≤ gN F d b a)) 4
theorem x_gain {F : Nat → Bool} {u b : Nat → Int64} {d x y : Nat} (s3 : ∀ d e, d < 6 → e < 4 → f_X3_having (nI d) (nI e) u b = some (lN (hF F 4096 d e))) (hd : d < 6) (hx : x < 4) (hy : y < 4) : f_X4_gain (nI d) (nI x) (nI y) u b = some (lN (gN F d x y)) := by
  have := hF_le F 4096 d x
  unfold f_X4_gain gN
  rw [s3 d x hd hx, bd1_n]
  by_cases q : x = y
  · rw [if_pos (by rw [q]), if_pos q, show (2 : Int64) = lN 2 from rfl, pk_lDiv (by omega) (by omega) (by omega)]
  · rw [if_neg (by rw [n_eq (by omega) (by omega)]; exact q), if_neg q]
theorem m_gets {F : Nat → Bool} {g : Nat → Int32} {d x y : Nat} (hd : d < 6) (hx : x < 4) (hy : y < 4) : f_X5_getsBy (nI d) (nI x) (nI y) (hRow F g 4096) = some (nI (gN F d x y)) := by
  have := hF_le F 4096 d x
  unfold gN
  simp (disch := omega) only [f_X5_getsBy, ↓n_neg1, ↓n_neg2, ↓n_neg3, ↓n_neg4, ↓n_neg5, ↓n_neg10, n_lit, n_le, n_lt, n_eq, n_cl, n_add, n_mul, n_sub, ckI_n, n_shl1, n_shr, n_and, n_or, bd1_n, n_ng, ng_n, ng_ng, hRow_at hd hx, n_div]
  by_cases q : x = y
  · rw [if_pos q, if_pos q]
  · rw [if_neg q, if_neg q]
theorem x_rests {F : Nat → Bool} {u b : Nat → Int64} {d x y : Nat} (s3 : ∀ d e, d < 6 → e < 4 → f_X3_having (nI d) (nI e) u b = some (lN (hF F 4096 d e))) (hd : d < 6) (hx : x < 4) (hy : y < 4) : f_X4_rests (nI d) (nI x) (nI y) u b = some (nI (if rsB F d x y then 1 else 0)) := by
  have stp : ∀ (k : Int32 → Option Int32) (i : Nat), i < 4 → f_X4_rests_B3 (nI d) (nI x) (nI y) u b k (nI i) = if (decide (gN F d i y ≤ gN F d x y) && decide (gN F d i x ≤ gN F d y x)) = true then k (nI (i + 1)) else some (nI 0) := by
    intro k i hi
    have l1 := gN_le F d i y
    have l2 := gN_le F d x y
    have l3 := gN_le F d i x
    have l4 := gN_le F d y x
    unfold f_X4_rests_B3
    rw [if_neg (show ¬ (4 : Int32) ≤ nI i from show ¬ nI 4 ≤ nI i by rw [n_le (by omega) (by omega)]; omega), x_gain s3 hd hi hy, bd1_n, x_gain s3 hd hx hy, bd1_n]
    by_cases c : gN F d i y ≤ gN F d x y
    · rw [if_neg (fun q => by rw [lg_gt, l_lt (by omega) (by omega)] at q; omega), x_gain s3 hd hi hx, bd1_n, x_gain s3 hd hy hx, bd1_n, decide_eq_true c, Bool.true_and]
      by_cases c2 : gN F d i x ≤ gN F d y x
      · rw [if_pos (by rw [lg_le, l_le (by omega) (by omega)]; exact c2), if_pos (decide_eq_true c2), show nI i + 1 = nI (i + 1) from n_add i 1]
      · rw [if_neg (fun q => by rw [lg_le, l_le (by omega) (by omega)] at q; omega), if_neg (by rw [decide_eq_false c2]; decide)]; rfl
    · rw [if_pos (by rw [lg_gt, l_lt (by omega) (by omega)]; omega), decide_eq_false c, Bool.false_and, if_neg Bool.false_ne_true]; rfl
  refine lq1_stop (fun i => decide (gN F d i y ≤ gN F d x y) && decide (gN F d i x ≤ gN F d y x)) 4 (fun k i hi hc => ?_) (fun k i hi hc => ?_) (fun k => ?_) (by have := fu; omega)
  · rw [stp k i hi, if_pos hc]
  · rw [stp k i hi, if_neg (by rw [hc]; decide)]
  · unfold f_X4_rests_B3
    rw [if_pos (by decide)]; rfl
theorem m_rests {F : Nat → Bool} {g : Nat → Int32} {d x y : Nat} (hd : d < 6) (hx : x < 4) (hy : y < 4) : f_X5_rests (nI d) (nI x) (nI y) (hRow F g 4096) = some (nI (if rsB F d x y then 1 else 0)) := by
  refine lq2_run (fun i => nI (if allB (fun y' => decide (gN F d y' y ≤ gN F d x y) && decide (gN F d y' x ≤ gN F d y x)) i then 1 else 0)) (fun i => nI i) 4 (fun k i hi => ?_) (fun k => ?_) (by have := fu; omega)
  · have l1 := gN_le F d i y
    have l2 := gN_le F d x y
    have l3 := gN_le F d i x
    have l4 := gN_le F d y x
    simp (disch := omega) only [f_X5_rests_B6, ↓n_neg1, ↓n_neg2, ↓n_neg3, ↓n_neg4, ↓n_neg5, ↓n_neg10, n_lit, n_le, n_lt, n_eq, n_cl, n_add, n_mul, n_sub, ckI_n, n_shl1, n_shr, n_and, n_or, bd1_n, n_ng, ng_n, ng_ng, m_gets hd hi hy, m_gets hd hx hy, m_gets hd hi hx, m_gets hd hy hx]
    rw [if_neg (by omega)]
    have eS : allB (fun y' => decide (gN F d y' y ≤ gN F d x y) && decide (gN F d y' x ≤ gN F d y x)) (i + 1) = (allB (fun y' => decide (gN F d y' y ≤ gN F d x y) && decide (gN F d y' x ≤ gN F d y x)) i && (decide (gN F d i y ≤ gN F d x y) && decide (gN F d i x ≤ gN F d y x))) := rfl
    by_cases hA : allB (fun y' => decide (gN F d y' y ≤ gN F d x y) && decide (gN F d y' x ≤ gN F d y x)) i = true
    · rw [if_neg (show ¬ nI (if allB (fun y' => decide (gN F d y' y ≤ gN F d x y) && decide (gN F d y' x ≤ gN F d y x)) i then 1 else 0) = nI 0 by rw [hA]; decide)]
      rw [hA, Bool.true_and] at eS
      by_cases c : gN F d i y ≤ gN F d x y
      · rw [decide_eq_true c, Bool.true_and] at eS
        rw [if_neg (by omega)]
        by_cases c2 : gN F d i x ≤ gN F d y x
        · rw [if_neg (by omega), if_pos (by rw [eS, decide_eq_true c2])]
        · rw [if_pos (by omega), if_neg (by rw [eS, decide_eq_false c2]; decide)]
      · rw [decide_eq_false c, Bool.false_and] at eS
        rw [if_pos (by omega), if_neg (by rw [eS]; decide)]
    · have hB : allB (fun y' => decide (gN F d y' y ≤ gN F d x y) && decide (gN F d y' x ≤ gN F d y x)) i = false := by simpa using hA
      rw [hB, Bool.false_and] at eS
      rw [if_pos (show nI (if allB (fun y' => decide (gN F d y' y ≤ gN F d x y) && decide (gN F d y' x ≤ gN F d y x)) i then 1 else 0) = nI 0 by rw [hB]; rfl), if_neg (by rw [eS]; decide)]
  · simp (disch := omega) only [f_X5_rests_B6, ↓n_neg1, ↓n_neg2, ↓n_neg3, ↓n_neg4, ↓n_neg5, ↓n_neg10, n_lit, n_le, n_lt, n_eq, n_cl, n_add, n_mul, n_sub, ckI_n, n_shl1, n_shr, n_and, n_or, bd1_n, n_ng, ng_n, ng_ng]
    rw [if_pos (by omega)]
    unfold rsB
    cases allB (fun y' => decide (gN F d y' y ≤ gN F d x y) && decide (gN F d y' x ≤ gN F d y x)) 4 with
    | false => rw [if_neg Bool.false_ne_true]; exact ckB_0 _
    | true => rw [if_pos rfl]; exact ckB_1 _
theorem ctN_mono {q : Nat → Bool} {i : Nat} : ∀ {j : Nat}, i ≤ j → ctN q i ≤ ctN q j
  | 0, h => by rw [show i = 0 by omega]; exact Nat.le_refl _
  | j + 1, h => by
    rcases Nat.lt_or_ge i (j + 1) with z | z
    · have := ctN_mono (q := q) (i := i) (j := j) (by omega)
      simp only [ctN]; omega
    · rw [show i = j + 1 by omega]; exact Nat.le_refl _
def anN (q : Nat → Bool) (x : Int32) : Nat → Int32
  | 0 => ngI 5
  | i + 1 => if q i = true ∧ nI (ctN q i) = x then nI i else anN q x i
theorem an_no {q : Nat → Bool} {x : Int32} : ∀ {i : Nat}, (∀ j, j < i → ¬ (q j = true ∧ nI (ctN q j) = x)) → anN q x i = ngI 5
  | 0, _ => rfl
  | i + 1, h => by
    show (if q i = true ∧ nI (ctN q i) = x then nI i else anN q x i) = _
    rw [if_neg (h i (by omega)), an_no (fun j hj => h j (by omega))]
theorem an_at {q : Nat → Bool} {x : Int32} {i : Nat} (hq : q i = true) (hx : nI (ctN q i) = x) : ∀ {j : Nat}, i < j → j ≤ 16 → anN q x j = nI i
  | 0, h, _ => by omega
  | j + 1, h, h16 => by
    show (if q j = true ∧ nI (ctN q j) = x then nI j else anN q x j) = _
    rcases Nat.lt_or_ge i j with z | z
    · rw [if_neg (fun c => ?_), an_at hq hx z (by omega)]
      have h1 : ctN q (i + 1) ≤ ctN q j := ctN_mono z
      have h2 : ctN q (i + 1) = ctN q i + 1 := by simp only [ctN, hq, if_true]
      have h3 := ctN_le (p := q) j
      have h4 := ctN_le (p := q) i
      have := c.2
      rw [← hx, n_eq (by omega) (by omega)] at this
      omega
    · have : j = i := by omega
      subst this
      rw [if_pos ⟨hq, hx⟩]
theorem st_bets (v_X_firstKept : Int32) (v_X_secondKept : Int32) (v_X_above : Int64) (v_X_below : Int64) (v_X_refusedBad : Int32) (v_X_refusedNo : Int32) (v_X_refusedFull : Int32) (v_X_now_laws : Int32) (v_X_now_inspectors : Int32) (v_X_now_marks : Int32) (v_X_now_undos : Int32) (r_X_now_knownEvent : Nat → Int32) (r_X_now_kind : Nat → Int32) (r_X_now_trips : Nat → Int32) (r_X_now_markInspector : Nat → Int32) (r_X_now_markDay : Nat → Int32) (r_X_now_markEvents : Nat → Int32) (r_X_now_markValue : Nat → Int32) (r_X_now_markTrips : Nat → Int32) (r_X_now_undoDay : Nat → Int32) (r_X_now_undoEvent : Nat → Int32) (v_X_firstImage_laws : Int32) (v_X_firstImage_inspectors : Int32) (v_X_firstImage_marks : Int32) (v_X_firstImage_undos : Int32) (r_X_firstImage_knownEvent : Nat → Int32) (r_X_firstImage_kind : Nat → Int32) (r_X_firstImage_trips : Nat → Int32) (r_X_firstImage_markInspector : Nat → Int32) (r_X_firstImage_markDay : Nat → Int32) (r_X_firstImage_markEvents : Nat → Int32) (r_X_firstImage_markValue : Nat → Int32) (r_X_firstImage_markTrips : Nat → Int32) (r_X_firstImage_undoDay : Nat → Int32) (r_X_firstImage_undoEvent : Nat → Int32) (v_X_secondImage_laws : Int32) (v_X_secondImage_inspectors : Int32) (v_X_secondImage_marks : Int32) (v_X_secondImage_undos : Int32) (r_X_secondImage_knownEvent : Nat → Int32) (r_X_secondImage_kind : Nat → Int32) (r_X_secondImage_trips : Nat → Int32) (r_X_secondImage_markInspector : Nat → Int32) (r_X_secondImage_markDay : Nat → Int32) (r_X_secondImage_markEvents : Nat → Int32) (r_X_secondImage_markValue : Nat → Int32) (r_X_secondImage_markTrips : Nat → Int32) (r_X_secondImage_undoDay : Nat → Int32) (r_X_secondImage_undoEvent : Nat → Int32) (v_X_text_length : Int32) (r_X_text_bytes : Nat → Int32) (r_X_ways_weight : Nat → Int64) (r_X_ways_upTo : Nat → Int64) (r_X_ways_behind : Nat → Int64) (v_M_above : Int64) (v_M_below : Int64) (v_M_manyFit : Int32) (v_M_bytesLong : Int32) (r_M_now : Nat → Int32) (r_M_kept : Nat → Int32) (r_M_isKept : Nat → Int32) (r_M_refused : Nat → Int32) (r_M_kinds : Nat → Int32) (r_M_have : Nat → Int32) (r_M_bytes : Nat → Int32) (x1 : Int32) (x2 : Int32) (hR : Rel (v_X_now_laws, v_X_now_inspectors, v_X_now_marks, v_X_now_undos, r_X_now_knownEvent, r_X_now_kind, r_X_now_trips, r_X_now_markInspector, r_X_now_markDay, r_X_now_markEvents, r_X_now_markValue, r_X_now_markTrips, r_X_now_undoDay, r_X_now_undoEvent) (v_X_firstImage_laws, v_X_firstImage_inspectors, v_X_firstImage_marks, v_X_firstImage_undos, r_X_firstImage_knownEvent, r_X_firstImage_kind, r_X_firstImage_trips, r_X_firstImage_markInspector, r_X_firstImage_markDay, r_X_firstImage_markEvents, r_X_firstImage_markValue, r_X_firstImage_markTrips, r_X_firstImage_undoDay, r_X_firstImage_undoEvent) (v_X_secondImage_laws, v_X_secondImage_inspectors, v_X_secondImage_marks, v_X_secondImage_undos, r_X_secondImage_knownEvent, r_X_secondImage_kind, r_X_secondImage_trips, r_X_secondImage_markInspector, r_X_secondImage_markDay, r_X_secondImage_markEvents, r_X_secondImage_markValue, r_X_secondImage_markTrips, r_X_secondImage_undoDay, r_X_secondImage_undoEvent) v_X_firstKept v_X_secondKept v_X_text_length r_X_text_bytes v_X_above v_X_below v_X_refusedBad v_X_refusedNo v_X_refusedFull r_M_now r_M_kept r_M_isKept r_M_refused v_M_above v_M_below r_M_bytes v_M_bytesLong) : ∃ (r : Int32) (ov_X_refusedBad : Int32) (or_X_ways_weight : Nat → Int64) (or_X_ways_upTo : Nat → Int64) (or_X_ways_behind : Nat → Int64) (ov_M_manyFit : Int32) (or_M_refused : Nat → Int32) (or_M_kinds : Nat → Int32) (or_M_have : Nat → Int32), f_X4_bets x1 x2 v_X_refusedBad v_X_now_laws v_X_now_marks r_X_now_knownEvent r_X_now_kind r_X_now_markInspector r_X_now_markDay r_X_now_markEvents r_X_now_markValue r_X_now_markTrips r_X_ways_weight r_X_ways_upTo r_X_ways_behind = some (r, ov_X_refusedBad, or_X_ways_weight, or_X_ways_upTo, or_X_ways_behind) ∧ f_X5_bets x1 x2 v_M_manyFit r_M_now r_M_refused r_M_kinds r_M_have = some (r, ov_M_manyFit, or_M_refused, or_M_kinds, or_M_have) ∧ Rel (v_X_now_laws, v_X_now_inspectors, v_X_now_marks, v_X_now_undos, r_X_now_knownEvent, r_X_now_kind, r_X_now_trips, r_X_now_markInspector, r_X_now_markDay, r_X_now_markEvents, r_X_now_markValue, r_X_now_markTrips, r_X_now_undoDay, r_X_now_undoEvent) (v_X_firstImage_laws, v_X_firstImage_inspectors, v_X_firstImage_marks, v_X_firstImage_undos, r_X_firstImage_knownEvent, r_X_firstImage_kind, r_X_firstImage_trips, r_X_firstImage_markInspector, r_X_firstImage_markDay, r_X_firstImage_markEvents, r_X_firstImage_markValue, r_X_firstImage_markTrips, r_X_firstImage_undoDay, r_X_firstImage_undoEvent) (v_X_secondImage_laws, v_X_secondImage_inspectors, v_X_secondImage_marks, v_X_secondImage_undos, r_X_secondImage_knownEvent, r_X_secondImage_kind, r_X_secondImage_trips, r_X_secondImage_markInspector, r_X_secondImage_markDay, r_X_secondImage_markEvents, r_X_secondImage_markValue, r_X_secondImage_markTrips, r_X_secondImage_undoDay, r_X_secondImage_undoEvent) v_X_firstKept v_X_secondKept v_X_text_length r_X_text_bytes v_X_above v_X_below ov_X_refusedBad v_X_refusedNo v_X_refusedFull r_M_now r_M_kept r_M_isKept or_M_refused v_M_above v_M_below r_M_bytes v_M_bytesLong := by
  have hR0 := hR
  have B1 : f_X4_bets_J12 v_X_refusedBad r_X_ways_weight r_X_ways_upTo r_X_ways_behind = some (ngI 10, v_X_refusedBad + 1, r_X_ways_weight, r_X_ways_upTo, r_X_ways_behind) := rfl
  have B2 : f_X5_bets_J12 v_M_manyFit r_M_refused r_M_kinds r_M_have = some (ngI 10, v_M_manyFit, upd r_M_refused 0 (r_M_refused 0 + 1), r_M_kinds, r_M_have) := rfl
  rcases rng x1 6 (by omega) with ⟨d, hd, rfl, hz⟩ | hz
  · by_cases hx2 : (-1 : Int32) ≤ x2
    · obtain ⟨F, w', u', b', kd', s1, s2, s3, s4, s5⟩ := both (v := v_M_manyFit) (k0 := r_M_kinds) (h0 := r_M_have) (g := r_X_ways_weight) (u := r_X_ways_upTo) (b := r_X_ways_behind) hR.1
      have s1 : f_X4_sumFits v_X_now_laws v_X_now_marks r_X_now_knownEvent r_X_now_kind r_X_now_markInspector r_X_now_markDay r_X_now_markEvents r_X_now_markValue r_X_now_markTrips r_X_ways_weight r_X_ways_upTo r_X_ways_behind = some (w', u', b') := s1
      obtain ⟨q, hq⟩ : ∃ q : Nat → Bool, ∀ i, rsB F d (i / 4) (i % 4) = q i := ⟨_, fun _ => rfl⟩
      have xr : ∀ i, i < 16 → f_X4_rests (nI d) (nI i / 4) (nI i - nI i / 4 * 4) u' b' = some (nI (if q i then 1 else 0)) := fun i hi => by
        show f_X4_rests (nI d) (nI i / nI 4) (nI i - nI i / nI 4 * nI 4) u' b' = _
        rw [n_div (by omega) (by omega) (by omega), n_mul, n_sub (by omega), show i - i / 4 * 4 = i % 4 by omega, x_rests s3 hd (by omega) (by omega), hq]
      have mr : ∀ i, i < 16 → f_X5_rests (nI d) (nI i / 4) (nI i - nI i / 4 * 4) (hRow F r_M_have 4096) = some (nI (if q i then 1 else 0)) := fun i hi => by
        show f_X5_rests (nI d) (nI i / nI 4) (nI i - nI i / nI 4 * nI 4) _ = _
        rw [n_div (by omega) (by omega) (by omega), n_mul, n_sub (by omega), show i - i / 4 * 4 = i % 4 by omega, m_rests hd (by omega) (by omega), hq]
      have hle : ∀ i, i < 16 → ¬ (16 : Int32) ≤ nI i := fun i hi => show ¬ nI 16 ≤ nI i by rw [n_le (by omega) (by omega)]; omega
      refine ⟨if x2 = -1 then nI (ctN q 16) else anN q x2 16, v_X_refusedBad, w', u', b', nI (cF F 4096), r_M_refused, kd', hRow F r_M_have 4096, ?_, ?_, hR0⟩
      · rw [f_X4_bets, xday_t hd, if_n1, if_pos hx2, s1, bd3_n]
        have key : ∀ m i : Nat, i ≤ 16 → 16 - i < m → (∀ j, j < i → ¬ (q j = true ∧ nI (ctN q j) = x2)) → lq6 (f_X4_bets_B29 (nI d) x2) m (nI (ctN q i)) (nI i) v_X_refusedBad w' u' b' = some (if x2 = -1 then nI (ctN q 16) else anN q x2 16, v_X_refusedBad, w', u', b') := by
          intro m
          induction m with
          | zero => intro i a b; omega
          | succ m ih =>
            intro i a b hj
            show f_X4_bets_B29 (nI d) x2 (lq6 (f_X4_bets_B29 (nI d) x2) m) (nI (ctN q i)) (nI i) v_X_refusedBad w' u' b' = _
            unfold f_X4_bets_B29
            rcases Nat.lt_or_ge i 16 with z | z
            · rw [if_neg (hle i z), xr i z, bd1_n, show nI i + 1 = nI (i + 1) from n_add i 1]
              cases hc : q i with
              | false =>
                rw [if_neg Bool.false_ne_true, if_n0]
                have := ih (i + 1) z (by omega) (fun j h => by
                  rcases Nat.lt_or_ge j i with y | y
                  · exact hj j y
                  · rw [show j = i by omega, hc]; exact fun t => absurd t.1 (by decide))
                rw [show ctN q (i + 1) = ctN q i by simp only [ctN, hc]; simp] at this
                exact this
              | true =>
                rw [if_pos rfl, if_n1]
                by_cases e : nI (ctN q i) = x2
                · rw [if_pos e, if_neg (fun t => ?_), an_at hc e z (by omega)]
                  have l := ctN_le (p := q) i
                  rw [t] at e
                  exact (n_ng (a := ctN q i) (b := 1) (by omega) (by omega) (by omega)).mp e
                · rw [if_neg e, show nI (ctN q i) + 1 = nI (ctN q i + 1) from n_add _ 1]
                  have := ih (i + 1) z (by omega) (fun j h => by
                    rcases Nat.lt_or_ge j i with y | y
                    · exact hj j y
                    · rw [show j = i by omega]; exact fun t => e t.2)
                  rw [show ctN q (i + 1) = ctN q i + 1 by simp only [ctN, hc, if_true]] at this
                  exact this
            · have e : i = 16 := by omega
              subst e
              rw [if_pos (by decide), an_no hj]
              by_cases t : x2 = -1
              · rw [if_pos t, if_pos t]
              · rw [if_neg t, if_neg t]; rfl
        exact key FU 0 (by omega) (by have := fu; omega) (fun j hj => by omega)
      · rw [f_X5_bets, mday_t hd, if_n1, if_pos hx2, s5, bd3_n]
        refine lq7_run (fun i => nI (ctN q i)) (fun i => anN q x2 i) (fun i => nI i) (fun _ => nI (cF F 4096)) (fun _ => r_M_refused) (fun _ => kd') (fun _ => hRow F r_M_have 4096) 16 (fun k i hi => ?_) (fun k => ?_) (by have := fu; omega)
        · unfold f_X5_bets_B32
          rw [if_neg (hle i hi), mr i hi, bd1_n, show nI i + 1 = nI (i + 1) from n_add i 1]
          have ea : anN q x2 (i + 1) = if q i = true ∧ nI (ctN q i) = x2 then nI i else anN q x2 i := rfl
          cases hc : q i with
          | false =>
            rw [if_neg Bool.false_ne_true, if_n0, show ctN q (i + 1) = ctN q i by simp only [ctN, hc]; simp, ea, if_neg (by rw [hc]; exact fun t => absurd t.1 (by decide))]
          | true =>
            rw [if_pos rfl, if_n1, show ctN q (i + 1) = ctN q i + 1 by simp only [ctN, hc, if_true], show nI (ctN q i) + 1 = nI (ctN q i + 1) from n_add _ 1, ea]
            by_cases e : nI (ctN q i) = x2
            · rw [if_pos e, if_pos ⟨hc, e⟩]
            · rw [if_neg e, if_neg (fun t => e t.2)]
        · unfold f_X5_bets_B32
          rw [if_pos (by decide)]
          by_cases t : x2 = -1
          · rw [if_pos t, if_pos t]
          · rw [if_neg t, if_neg t]
    · refine ⟨ngI 10, v_X_refusedBad + 1, r_X_ways_weight, r_X_ways_upTo, r_X_ways_behind, v_M_manyFit, upd r_M_refused 0 (r_M_refused 0 + 1), r_M_kinds, r_M_have, ?_, ?_, hR0.bad⟩
      · rw [f_X4_bets, xday_t hd, if_n1, if_neg hx2, B1]
      · rw [f_X5_bets, mday_t hd, if_n1, if_neg hx2, B2]
  · refine ⟨ngI 10, v_X_refusedBad + 1, r_X_ways_weight, r_X_ways_upTo, r_X_ways_behind, v_M_manyFit, upd r_M_refused 0 (r_M_refused 0 + 1), r_M_kinds, r_M_have, ?_, ?_, hR0.bad⟩
    · rw [f_X4_bets, xday_f hz, if_n0, B1]
    · rw [f_X5_bets, mday_f hz, if_n0, B2]
