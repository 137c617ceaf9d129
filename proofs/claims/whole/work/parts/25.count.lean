theorem ctN_congr {p q : Nat → Bool} : ∀ {n : Nat}, (∀ i, i < n → p i = q i) → ctN p n = ctN q n
  | 0, _ => rfl
  | n + 1, h => by rw [ctN, ctN, ctN_congr (fun i hi => h i (by omega)), h n (by omega)]
def cntV (ni lw nm kc nu len : Nat) (i : Nat) : Int32 := match i with
  | 0 => nI ni
  | 1 => nI (pc 31 lw)
  | 2 => nI nm
  | 3 => nI kc
  | 4 => nI nu
  | _ => nI len
theorem x_howMany {ni lw nm nu len : Nat} {kn : Nat → Int32} (hl : lw < 65536) {i : Nat} (hi : i < 6) : f_X4_howMany (nI i) (nI lw) (nI ni) (nI nm) (nI nu) kn (nI len) = some (cntV ni lw nm (ctN (fun d => !decide (kn d = ngI 1)) 6) nu len i) := by
  rcases (show i = 0 ∨ i = 1 ∨ i = 2 ∨ i = 3 ∨ i = 4 ∨ i = 5 by omega) with rfl | rfl | rfl | rfl | rfl | rfl
  · rfl
  · show some (f_J6_bitCount_0f7a4 (nI lw)) = _
    rw [m_bitCount16 hl]; rfl
  · rfl
  · show bd1 (f_X0_knownDays kn) _ = _
    rw [x_knownDays]; rfl
  · rfl
  · rfl
theorem m_counted {ni lw nm nu len : Nat} {f kn : Nat → Int32} (hl : lw < 65536) (h0 : f 0 = nI ni) (h1 : f 1 = nI lw) (h2 : f 2 = nI nu) (h3 : f 3 = nI nm) (hk : ∀ d, d < 6 → f (4 + d) = kn d) {i : Nat} (hi : i < 6) : f_X5_counted (nI i) (nI len) f = some (cntV ni lw nm (ctN (fun d => !decide (kn d = ngI 1)) 6) nu len i) := by
  rcases (show i = 0 ∨ i = 1 ∨ i = 2 ∨ i = 3 ∨ i = 4 ∨ i = 5 by omega) with rfl | rfl | rfl | rfl | rfl | rfl
  · show some (f 0) = _
    rw [h0]; rfl
  · show bd1 (f_X5_bits (f 1)) _ = _
    rw [h1, m_bits (by omega)]; rfl
  · show some (f 3) = _
    rw [h3]; rfl
  · show bd1 (f_X5_manyKnown f) _ = _
    rw [m_manyKnown, ctN_congr (q := fun d => !decide (kn d = ngI 1)) (fun d hd => by rw [hk d hd])]; rfl
  · show some (f 2) = _
    rw [h2]; rfl
  · rfl
theorem st_count (v_X_firstKept : Int32) (v_X_secondKept : Int32) (v_X_above : Int64) (v_X_below : Int64) (v_X_refusedBad : Int32) (v_X_refusedNo : Int32) (v_X_refusedFull : Int32) (v_X_now_laws : Int32) (v_X_now_inspectors : Int32) (v_X_now_marks : Int32) (v_X_now_undos : Int32) (r_X_now_knownEvent : Nat → Int32) (r_X_now_kind : Nat → Int32) (r_X_now_trips : Nat → Int32) (r_X_now_markInspector : Nat → Int32) (r_X_now_markDay : Nat → Int32) (r_X_now_markEvents : Nat → Int32) (r_X_now_markValue : Nat → Int32) (r_X_now_markTrips : Nat → Int32) (r_X_now_undoDay : Nat → Int32) (r_X_now_undoEvent : Nat → Int32) (v_X_firstImage_laws : Int32) (v_X_firstImage_inspectors : Int32) (v_X_firstImage_marks : Int32) (v_X_firstImage_undos : Int32) (r_X_firstImage_knownEvent : Nat → Int32) (r_X_firstImage_kind : Nat → Int32) (r_X_firstImage_trips : Nat → Int32) (r_X_firstImage_markInspector : Nat → Int32) (r_X_firstImage_markDay : Nat → Int32) (r_X_firstImage_markEvents : Nat → Int32) (r_X_firstImage_markValue : Nat → Int32) (r_X_firstImage_markTrips : Nat → Int32) (r_X_firstImage_undoDay : Nat → Int32) (r_X_firstImage_undoEvent : Nat → Int32) (v_X_secondImage_laws : Int32) (v_X_secondImage_inspectors : Int32) (v_X_secondImage_marks : Int32) (v_X_secondImage_undos : Int32) (r_X_secondImage_knownEvent : Nat → Int32) (r_X_secondImage_kind : Nat → Int32) (r_X_secondImage_trips : Nat → Int32) (r_X_secondImage_markInspector : Nat → Int32) (r_X_secondImage_markDay : Nat → Int32) (r_X_secondImage_markEvents : Nat → Int32) (r_X_secondImage_markValue : Nat → Int32) (r_X_secondImage_markTrips : Nat → Int32) (r_X_secondImage_undoDay : Nat → Int32) (r_X_secondImage_undoEvent : Nat → Int32) (v_X_text_length : Int32) (r_X_text_bytes : Nat → Int32) (v_M_above : Int64) (v_M_below : Int64) (v_M_bytesLong : Int32) (r_M_now : Nat → Int32) (r_M_kept : Nat → Int32) (r_M_isKept : Nat → Int32) (r_M_refused : Nat → Int32) (r_M_bytes : Nat → Int32) (x1 : Int32) (hR : Rel (v_X_now_laws, v_X_now_inspectors, v_X_now_marks, v_X_now_undos, r_X_now_knownEvent, r_X_now_kind, r_X_now_trips, r_X_now_markInspector, r_X_now_markDay, r_X_now_markEvents, r_X_now_markValue, r_X_now_markTrips, r_X_now_undoDay, r_X_now_undoEvent) (v_X_firstImage_laws, v_X_firstImage_inspectors, v_X_firstImage_marks, v_X_firstImage_undos, r_X_firstImage_knownEvent, r_X_firstImage_kind, r_X_firstImage_trips, r_X_firstImage_markInspector, r_X_firstImage_markDay, r_X_firstImage_markEvents, r_X_firstImage_markValue, r_X_firstImage_markTrips, r_X_firstImage_undoDay, r_X_firstImage_undoEvent) (v_X_secondImage_laws, v_X_secondImage_inspectors, v_X_secondImage_marks, v_X_secondImage_undos, r_X_secondImage_knownEvent, r_X_secondImage_kind, r_X_secondImage_trips, r_X_secondImage_markInspector, r_X_secondImage_markDay, r_X_secondImage_markEvents, r_X_secondImage_markValue, r_X_secondImage_markTrips, r_X_secondImage_undoDay, r_X_secondImage_undoEvent) v_X_firstKept v_X_secondKept v_X_text_length r_X_text_bytes v_X_above v_X_below v_X_refusedBad v_X_refusedNo v_X_refusedFull r_M_now r_M_kept r_M_isKept r_M_refused v_M_above v_M_below r_M_bytes v_M_bytesLong) : ∃ (r : Int32) (ov_X_refusedBad : Int32) (or_M_refused : Nat → Int32), f_X4_count x1 v_X_refusedBad v_X_now_laws v_X_now_inspectors v_X_now_marks v_X_now_undos r_X_now_knownEvent v_X_text_length = some (r, ov_X_refusedBad) ∧ f_X5_count x1 v_M_bytesLong r_M_now r_M_refused = some (r, or_M_refused) ∧ Rel (v_X_now_laws, v_X_now_inspectors, v_X_now_marks, v_X_now_undos, r_X_now_knownEvent, r_X_now_kind, r_X_now_trips, r_X_now_markInspector, r_X_now_markDay, r_X_now_markEvents, r_X_now_markValue, r_X_now_markTrips, r_X_now_undoDay, r_X_now_undoEvent) (v_X_firstImage_laws, v_X_firstImage_inspectors, v_X_firstImage_marks, v_X_firstImage_undos, r_X_firstImage_knownEvent, r_X_firstImage_kind, r_X_firstImage_trips, r_X_firstImage_markInspector, r_X_firstImage_markDay, r_X_firstImage_markEvents, r_X_firstImage_markValue, r_X_firstImage_markTrips, r_X_firstImage_undoDay, r_X_firstImage_undoEvent) (v_X_secondImage_laws, v_X_secondImage_inspectors, v_X_secondImage_marks, v_X_secondImage_undos, r_X_secondImage_knownEvent, r_X_secondImage_kind, r_X_secondImage_trips, r_X_secondImage_markInspector, r_X_secondImage_markDay, r_X_secondImage_markEvents, r_X_secondImage_markValue, r_X_secondImage_markTrips, r_X_secondImage_undoDay, r_X_secondImage_undoEvent) v_X_firstKept v_X_secondKept v_X_text_length r_X_text_bytes v_X_above v_X_below ov_X_refusedBad v_X_refusedNo v_X_refusedFull r_M_now r_M_kept r_M_isKept or_M_refused v_M_above v_M_below r_M_bytes v_M_bytesLong := by
  have hR0 := hR
  obtain ⟨⟨lw, ni, nm, nu, q1, q2, q3, q4, h⟩, h0, h1, ⟨n, hn, e1, e2, hb⟩, hrest⟩ := hR
  have q1 : v_X_now_laws = nI lw := q1
  have q2 : v_X_now_inspectors = nI ni := q2
  have q3 : v_X_now_marks = nI nm := q3
  have q4 : v_X_now_undos = nI nu := q4
  subst q1 q2 q3 q4 e1 e2
  obtain ⟨⟨a1, a2⟩, ⟨b1, b2⟩, c1, ⟨d1, d2⟩, e1, f1, g1, k1, l1⟩ := h
  have e1 : ∀ d, d < 6 → r_M_now (4 + d) = r_X_now_knownEvent d ∧ KOK (r_X_now_knownEvent d) := e1
  rcases rng x1 6 (by omega) with ⟨x, hx, rfl, hz⟩ | hz
  · have hin : f_X5_in (Int32.toInt64 (nI x)) 0 5 = nI 1 := in_t (lo := 0) (hi := 5) rfl rfl (by omega) (by omega)
    refine ⟨cntV ni lw nm (ctN (fun d => !decide (r_X_now_knownEvent d = ngI 1)) 6) nu n x, v_X_refusedBad, r_M_refused, ?_, ?_, hR0⟩
    · rw [f_X4_count, if_neg (not_lt0 (by omega)), if_pos (by rw [show (6 : Int32) = nI 6 from rfl, n_lt (by omega) (by omega)]; exact hx), x_howMany a2 hx]; rfl
    · rw [f_X5_count, hin, if_n1, m_counted a2 b1 a1 d1 c1 (fun d hd => (e1 d hd).1) hx]; rfl
  · have hin : f_X5_in (Int32.toInt64 x1) 0 5 = nI 0 := in_f (lo := 0) (hi := 5) rfl rfl (by omega)
    have B1 : f_X4_count_J10 v_X_refusedBad = some (ngI 2, v_X_refusedBad + 1) := rfl
    have e6 : (6 : Int32).toInt = 6 := rfl
    refine ⟨ngI 2, _, _, ?_, by rw [f_X5_count, hin, if_n0]; rfl, hR0.bad⟩
    rw [f_X4_count, B1]
    by_cases c : x1 < 0
    · rw [if_pos c]
    · rw [if_neg c, if_neg (fun q => ?_)]
      rw [i_lt, t0] at c
      rw [i_lt, e6] at q
      omega
/-- 31 h + v -/
def fold31 (h0 : Int64) (C : Nat → Int32) : Nat → Int64
  | 0 => h0
  | n + 1 => (31 : Int64) * fold31 h0 C n + (C n).toInt64
theorem fold31_congr {h0 : Int64} {C D : Nat → Int32} : ∀ {n : Nat}, (∀ i, i < n → C i = D i) → fold31 h0 C n = fold31 h0 D n
  | 0, _ => rfl
  | n + 1, h => by rw [fold31, fold31, fold31_congr (fun i hi => h i (by omega)), h n (by omega)]
theorem m_sums {f : Nat → Int32} {h : Int64} {a n : Nat} (hn : a + n ≤ 146) : f_X5_sums h (nI a) (nI n) f = some (fold31 h (fun k => f (a + k)) n) := by
  refine lq2_run (fun i => fold31 h (fun k => f (a + k)) i) (fun i => nI i) n (fun k i hi => ?_) (fun k => ?_) (by have := fu; omega)
  · simp (disch := omega) only [f_X5_sums_B6, ↓n_neg1, ↓n_neg2, ↓n_neg3, ↓n_neg4, ↓n_neg5, ↓n_neg10, n_lit, n_le, n_lt, n_eq, n_cl, n_add, n_mul, n_sub, ckI_n, n_shl1, n_shr, n_and, n_or, bd1_n, n_ng, ng_n, ng_ng]
    rw [if_neg (by omega)]; rfl
  · simp (disch := omega) only [f_X5_sums_B6, ↓n_neg1, ↓n_neg2, ↓n_neg3, ↓n_neg4, ↓n_neg5, ↓n_neg10, n_lit, n_le, n_lt, n_eq, n_cl, n_add, n_mul, n_sub, ckI_n, n_shl1, n_shr, n_and, n_or, bd1_n, n_ng, ng_n, ng_ng]
    rw [if_pos (by omega)]
def foldI (h0 : Int64) (kd tr : Nat → Int32) : Nat → Int64
  | 0 => h0
  | n + 1 => (31 : Int64) * ((31 : Int64) * foldI h0 kd tr n + (kd n).toInt64) + (tr n).toInt64
theorem foldI_congr {h0 : Int64} {kd tr kd' tr' : Nat → Int32} : ∀ {n : Nat}, (∀ i, i < n → kd i = kd' i ∧ tr i = tr' i) → foldI h0 kd tr n = foldI h0 kd' tr' n
  | 0, _ => rfl
  | n + 1, h => by rw [foldI, foldI, foldI_congr (fun i hi => h i (by omega)), (h n (by omega)).1, (h n (by omega)).2]
def foldM (h0 : Int64) (mi md me mv mt : Nat → Int32) : Nat → Int64
  | 0 => h0
  | n + 1 => (31 : Int64) * ((31 : Int64) * ((31 : Int64) * ((31 : Int64) * ((31 : Int64) * foldM h0 mi md me mv mt n + (mi n).toInt64) + (md n).toInt64) + (me n).toInt64) + (mv n).toInt64) + (mt n).toInt64
theorem foldM_eq {h0 : Int64} {f mi md me mv mt : Nat → Int32} : ∀ {n : Nat}, MR n f mi md me mv mt → fold31 h0 (fun k => f (18 + k)) (5 * n) = foldM h0 mi md me mv mt n
  | 0, _ => rfl
  | n + 1, h => by
    obtain ⟨a, b, c, d, e⟩ := h n (by omega)
    rw [show 5 * (n + 1) = 5 * n + 1 + 1 + 1 + 1 + 1 by omega]
    simp only [fold31, foldM, foldM_eq (n := n) (fun j hj => h j (by omega)), show 18 + (5 * n + 1) = 18 + 5 * n + 1 by omega, show 18 + (5 * n + 1 + 1) = 18 + 5 * n + 2 by omega, show 18 + (5 * n + 1 + 1 + 1) = 18 + 5 * n + 3 by omega, show 18 + (5 * n + 1 + 1 + 1 + 1) = 18 + 5 * n + 4 by omega, a, b, c, d, e]
def lawV (lw i : Nat) : Int32 := nI (lw / 2 ^ i % 2)
theorem x_digestOn {lw ni nm : Nat} {h : Int64} {kn kd tr mi md me mv mt : Nat → Int32} (hl : lw < 65536) (hn : ni ≤ 4) (hm : nm ≤ 8) : f_X0_digestOn h (nI lw) (nI ni) (nI nm) kn kd tr mi md me mv mt = some (foldM (foldI (fold31 (fold31 h (lawV lw) 16) kn 6) kd tr ni) mi md me mv mt nm) := by
  have s4 : ∀ h : Int64, lq2 (f_X0_digestOn_B117 (nI nm) mi md me mv mt) FU h (nI 0) = some (foldM h mi md me mv mt nm) := by
    intro h
    refine lq2_run (fun i => foldM h mi md me mv mt i) (fun i => nI i) nm (fun k i hi => ?_) (fun k => ?_) (by have := fu; omega)
    · simp (disch := omega) only [f_X0_digestOn_B117, ↓n_neg1, ↓n_neg2, ↓n_neg3, ↓n_neg4, ↓n_neg5, ↓n_neg10, n_lit, n_le, n_lt, n_eq, n_cl, n_add, n_mul, n_sub, ckI_n, n_shl1, n_shr, n_and, n_or, bd1_n, n_ng, ng_n, ng_ng]
      rw [if_neg (by omega)]; rfl
    · simp (disch := omega) only [f_X0_digestOn_B117, ↓n_neg1, ↓n_neg2, ↓n_neg3, ↓n_neg4, ↓n_neg5, ↓n_neg10, n_lit, n_le, n_lt, n_eq, n_cl, n_add, n_mul, n_sub, ckI_n, n_shl1, n_shr, n_and, n_or, bd1_n, n_ng, ng_n, ng_ng]
      rw [if_pos (by omega)]
  have s3 : ∀ h : Int64, lq2 (f_X0_digestOn_B69 (nI ni) (nI nm) kd tr mi md me mv mt) FU h (nI 0) = some (foldM (foldI h kd tr ni) mi md me mv mt nm) := by
    intro h
    refine lq2_run (fun i => foldI h kd tr i) (fun i => nI i) ni (fun k i hi => ?_) (fun k => ?_) (by have := fu; omega)
    · simp (disch := omega) only [f_X0_digestOn_B69, ↓n_neg1, ↓n_neg2, ↓n_neg3, ↓n_neg4, ↓n_neg5, ↓n_neg10, n_lit, n_le, n_lt, n_eq, n_cl, n_add, n_mul, n_sub, ckI_n, n_shl1, n_shr, n_and, n_or, bd1_n, n_ng, ng_n, ng_ng]
      rw [if_neg (by omega)]; rfl
    · simp (disch := omega) only [f_X0_digestOn_B69, ↓n_neg1, ↓n_neg2, ↓n_neg3, ↓n_neg4, ↓n_neg5, ↓n_neg10, n_lit, n_le, n_lt, n_eq, n_cl, n_add, n_mul, n_sub, ckI_n, n_shl1, n_shr, n_and, n_or, bd1_n, n_ng, ng_n, ng_ng]
      rw [if_pos (by omega)]; exact s4 _
  have s2 : ∀ h : Int64, lq2 (f_X0_digestOn_B38 (nI ni) (nI nm) kn kd tr mi md me mv mt) FU h (nI 0) = some (foldM (foldI (fold31 h kn 6) kd tr ni) mi md me mv mt nm) := by
    intro h
    refine lq2_run (fun i => fold31 h kn i) (fun i => nI i) 6 (fun k i hi => ?_) (fun k => ?_) (by have := fu; omega)
    · simp (disch := omega) only [f_X0_digestOn_B38, ↓n_neg1, ↓n_neg2, ↓n_neg3, ↓n_neg4, ↓n_neg5, ↓n_neg10, n_lit, n_le, n_lt, n_eq, n_cl, n_add, n_mul, n_sub, ckI_n, n_shl1, n_shr, n_and, n_or, bd1_n, n_ng, ng_n, ng_ng]
      rw [if_neg (by omega)]; rfl
    · simp (disch := omega) only [f_X0_digestOn_B38, ↓n_neg1, ↓n_neg2, ↓n_neg3, ↓n_neg4, ↓n_neg5, ↓n_neg10, n_lit, n_le, n_lt, n_eq, n_cl, n_add, n_mul, n_sub, ckI_n, n_shl1, n_shr, n_and, n_or, bd1_n, n_ng, ng_n, ng_ng]
      rw [if_pos (by omega)]; exact s3 _
  refine lq2_run (fun i => fold31 h (lawV lw) i) (fun i => nI i) 16 (fun k i hi => ?_) (fun k => ?_) (by have := fu; omega)
  · have hd : lw / 2 ^ i < 2 ^ 31 := Nat.lt_of_le_of_lt (Nat.div_le_self _ _) (by omega)
    simp (disch := omega) only [f_X0_digestOn_B5, ↓n_neg1, ↓n_neg2, ↓n_neg3, ↓n_neg4, ↓n_neg5, ↓n_neg10, n_lit, n_le, n_lt, n_eq, n_cl, n_add, n_mul, n_sub, ckI_n, n_shl1, n_shr, n_and, n_or, bd1_n, n_ng, ng_n, ng_ng, m_and1]
    rw [if_neg (by omega)]; rfl
  · simp (disch := omega) only [f_X0_digestOn_B5, ↓n_neg1, ↓n_neg2, ↓n_neg3, ↓n_neg4, ↓n_neg5, ↓n_neg10, n_lit, n_le, n_lt, n_eq, n_cl, n_add, n_mul, n_sub, ckI_n, n_shl1, n_shr, n_and, n_or, bd1_n, n_ng, ng_n, ng_ng]
    rw [if_pos (by omega)]; exact s2 _
theorem st_digest (v_X_firstKept : Int32) (v_X_secondKept : Int32) (v_X_above : Int64) (v_X_below : Int64) (v_X_refusedBad : Int32) (v_X_refusedNo : Int32) (v_X_refusedFull : Int32) (v_X_now_laws : Int32) (v_X_now_inspectors : Int32) (v_X_now_marks : Int32) (v_X_now_undos : Int32) (r_X_now_knownEvent : Nat → Int32) (r_X_now_kind : Nat → Int32) (r_X_now_trips : Nat → Int32) (r_X_now_markInspector : Nat → Int32) (r_X_now_markDay : Nat → Int32) (r_X_now_markEvents : Nat → Int32) (r_X_now_markValue : Nat → Int32) (r_X_now_markTrips : Nat → Int32) (r_X_now_undoDay : Nat → Int32) (r_X_now_undoEvent : Nat → Int32) (v_X_firstImage_laws : Int32) (v_X_firstImage_inspectors : Int32) (v_X_firstImage_marks : Int32) (v_X_firstImage_undos : Int32) (r_X_firstImage_knownEvent : Nat → Int32) (r_X_firstImage_kind : Nat → Int32) (r_X_firstImage_trips : Nat → Int32) (r_X_firstImage_markInspector : Nat → Int32) (r_X_firstImage_markDay : Nat → Int32) (r_X_firstImage_markEvents : Nat → Int32) (r_X_firstImage_markValue : Nat → Int32) (r_X_firstImage_markTrips : Nat → Int32) (r_X_firstImage_undoDay : Nat → Int32) (r_X_firstImage_undoEvent : Nat → Int32) (v_X_secondImage_laws : Int32) (v_X_secondImage_inspectors : Int32) (v_X_secondImage_marks : Int32) (v_X_secondImage_undos : Int32) (r_X_secondImage_knownEvent : Nat → Int32) (r_X_secondImage_kind : Nat → Int32) (r_X_secondImage_trips : Nat → Int32) (r_X_secondImage_markInspector : Nat → Int32) (r_X_secondImage_markDay : Nat → Int32) (r_X_secondImage_markEvents : Nat → Int32) (r_X_secondImage_markValue : Nat → Int32) (r_X_secondImage_markTrips : Nat → Int32) (r_X_secondImage_undoDay : Nat → Int32) (r_X_secondImage_undoEvent : Nat → Int32) (v_X_text_length : Int32) (r_X_text_bytes : Nat → Int32) (v_M_above : Int64) (v_M_below : Int64) (v_M_bytesLong : Int32) (r_M_now : Nat → Int32) (r_M_kept : Nat → Int32) (r_M_isKept : Nat → Int32) (r_M_refused : Nat → Int32) (r_M_bytes : Nat → Int32)  (hR : Rel (v_X_now_laws, v_X_now_inspectors, v_X_now_marks, v_X_now_undos, r_X_now_knownEvent, r_X_now_kind, r_X_now_trips, r_X_now_markInspector, r_X_now_markDay, r_X_now_markEvents, r_X_now_markValue, r_X_now_markTrips, r_X_now_undoDay, r_X_now_undoEvent) (v_X_firstImage_laws, v_X_firstImage_inspectors, v_X_firstImage_marks, v_X_firstImage_undos, r_X_firstImage_knownEvent, r_X_firstImage_kind, r_X_firstImage_trips, r_X_firstImage_markInspector, r_X_firstImage_markDay, r_X_firstImage_markEvents, r_X_firstImage_markValue, r_X_firstImage_markTrips, r_X_firstImage_undoDay, r_X_firstImage_undoEvent) (v_X_secondImage_laws, v_X_secondImage_inspectors, v_X_secondImage_marks, v_X_secondImage_undos, r_X_secondImage_knownEvent, r_X_secondImage_kind, r_X_secondImage_trips, r_X_secondImage_markInspector, r_X_secondImage_markDay, r_X_secondImage_markEvents, r_X_secondImage_markValue, r_X_secondImage_markTrips, r_X_secondImage_undoDay, r_X_secondImage_undoEvent) v_X_firstKept v_X_secondKept v_X_text_length r_X_text_bytes v_X_above v_X_below v_X_refusedBad v_X_refusedNo v_X_refusedFull r_M_now r_M_kept r_M_isKept r_M_refused v_M_above v_M_below r_M_bytes v_M_bytesLong) : ∃ (r : Int64), f_X4_digest v_X_above v_X_below v_X_now_laws v_X_now_inspectors v_X_now_marks v_X_now_undos r_X_now_knownEvent r_X_now_kind r_X_now_trips r_X_now_markInspector r_X_now_markDay r_X_now_markEvents r_X_now_markValue r_X_now_markTrips v_X_text_length = some r ∧ f_X5_digest v_M_above v_M_below v_M_bytesLong r_M_now = some r ∧ Rel (v_X_now_laws, v_X_now_inspectors, v_X_now_marks, v_X_now_undos, r_X_now_knownEvent, r_X_now_kind, r_X_now_trips, r_X_now_markInspector, r_X_now_markDay, r_X_now_markEvents, r_X_now_markValue, r_X_now_markTrips, r_X_now_undoDay, r_X_now_undoEvent) (v_X_firstImage_laws, v_X_firstImage_inspectors, v_X_firstImage_marks, v_X_firstImage_undos, r_X_firstImage_knownEvent, r_X_firstImage_kind, r_X_firstImage_trips, r_X_firstImage_markInspector, r_X_firstImage_markDay, r_X_firstImage_markEvents, r_X_firstImage_markValue, r_X_firstImage_markTrips, r_X_firstImage_undoDay, r_X_firstImage_undoEvent) (v_X_secondImage_laws, v_X_secondImage_inspectors, v_X_secondImage_marks, v_X_secondImage_undos, r_X_secondImage_knownEvent, r_X_secondImage_kind, r_X_secondImage_trips, r_X_secondImage_markInspector, r_X_secondImage_markDay, r_X_secondImage_markEvents, r_X_secondImage_markValue, r_X_secondImage_markTrips, r_X_secondImage_undoDay, r_X_secondImage_undoEvent) v_X_firstKept v_X_secondKept v_X_text_length r_X_text_bytes v_X_above v_X_below v_X_refusedBad v_X_refusedNo v_X_refusedFull r_M_now r_M_kept r_M_isKept r_M_refused v_M_above v_M_below r_M_bytes v_M_bytesLong := by
  have hR0 := hR
  obtain ⟨⟨lw, ni, nm, nu, q1, q2, q3, q4, h⟩, h0, h1, ⟨n, hn, e1, e2, hb⟩, ⟨z1, z2⟩, hrest⟩ := hR
  have q1 : v_X_now_laws = nI lw := q1
  have q2 : v_X_now_inspectors = nI ni := q2
  have q3 : v_X_now_marks = nI nm := q3
  have q4 : v_X_now_undos = nI nu := q4
  subst q1 q2 q3 q4 e1 e2
  obtain ⟨⟨a1, a2⟩, ⟨b1, b2⟩, c1, ⟨d1, d2⟩, e1, f1, g1, k1, l1⟩ := h
  have e1 : ∀ d, d < 6 → r_M_now (4 + d) = r_X_now_knownEvent d ∧ KOK (r_X_now_knownEvent d) := e1
  have f1 : ∀ i, i < ni → r_M_now (14 + i) = r_X_now_kind i ∧ r_M_now (10 + i) = r_X_now_trips i := f1
  have g0 : nm ≤ 8 := g1.1
  have k1 : MR nm r_M_now r_X_now_markInspector r_X_now_markDay r_X_now_markEvents r_X_now_markValue r_X_now_markTrips := k1
  generalize hC : cntV ni lw nm (ctN (fun d => !decide (r_X_now_knownEvent d = ngI 1)) 6) nu n = C
  have hX : ∀ i, i < 6 → f_X4_howMany (nI i) (nI lw) (nI ni) (nI nm) (nI nu) r_X_now_knownEvent (nI n) = some (C i) := fun i hi => by rw [x_howMany a2 hi, hC]
  have hM : ∀ i, i < 6 → f_X5_counted (nI i) (nI n) r_M_now = some (C i) := fun i hi => by rw [m_counted a2 b1 a1 d1 c1 (fun d hd => (e1 d hd).1) hi, hC]
  refine ⟨(31 : Int64) * ((31 : Int64) * foldM (foldI (fold31 (fold31 (fold31 1291 C 6) (lawV lw) 16) r_X_now_knownEvent 6) r_X_now_kind r_X_now_trips ni) r_X_now_markInspector r_X_now_markDay r_X_now_markEvents r_X_now_markValue r_X_now_markTrips nm + v_X_above) + v_X_below, ?_, ?_, hR0⟩
  · refine lq2_run (fun i => fold31 1291 C i) (fun i => nI i) 6 (fun k i hi => ?_) (fun k => ?_) (by have := fu; omega)
    · simp (disch := omega) only [f_X4_digest_B6, hX i hi, ↓n_neg1, ↓n_neg2, ↓n_neg3, ↓n_neg4, ↓n_neg5, ↓n_neg10, n_lit, n_le, n_lt, n_eq, n_cl, n_add, n_mul, n_sub, ckI_n, n_shl1, n_shr, n_and, n_or, bd1_n, n_ng, ng_n, ng_ng]
      rw [if_neg (by omega)]; rfl
    · simp (disch := omega) only [f_X4_digest_B6, x_digestOn a2 b2 g0, ↓n_neg1, ↓n_neg2, ↓n_neg3, ↓n_neg4, ↓n_neg5, ↓n_neg10, n_lit, n_le, n_lt, n_eq, n_cl, n_add, n_mul, n_sub, ckI_n, n_shl1, n_shr, n_and, n_or, bd1_n, n_ng, ng_n, ng_ng]
      rw [if_pos (by omega)]
  · have s3 : ∀ h : Int64, lq2 (f_X5_digest_B74 v_M_above v_M_below r_M_now) FU h (nI 0) = some ((31 : Int64) * ((31 : Int64) * foldM (foldI h r_X_now_kind r_X_now_trips ni) r_X_now_markInspector r_X_now_markDay r_X_now_markEvents r_X_now_markValue r_X_now_markTrips nm + v_X_above) + v_X_below) := by
      intro h
      have b1' : r_M_now 0 = nI ni := b1
      have c1' : r_M_now 3 = nI nm := c1
      rw [foldI_congr (kd' := fun i => r_M_now (14 + i)) (tr' := fun i => r_M_now (10 + i)) (fun i hi => ⟨(f1 i hi).1.symm, (f1 i hi).2.symm⟩)]
      refine lq2_run (fun i => foldI h (fun i => r_M_now (14 + i)) (fun i => r_M_now (10 + i)) i) (fun i => nI i) ni (fun k i hi => ?_) (fun k => ?_) (by have := fu; omega)
      · simp (disch := omega) only [f_X5_digest_B74, f_X5_many, b1', ↓n_neg1, ↓n_neg2, ↓n_neg3, ↓n_neg4, ↓n_neg5, ↓n_neg10, n_lit, n_le, n_lt, n_eq, n_cl, n_add, n_mul, n_sub, ckI_n, n_shl1, n_shr, n_and, n_or, bd1_n, n_ng, ng_n, ng_ng]
        rw [if_neg (by omega)]; rfl
      · simp (disch := omega) only [f_X5_digest_B74, f_X5_many, f_X5_marks, b1', c1', ↓n_neg1, ↓n_neg2, ↓n_neg3, ↓n_neg4, ↓n_neg5, ↓n_neg10, n_lit, n_le, n_lt, n_eq, n_cl, n_add, n_mul, n_sub, ckI_n, n_shl1, n_shr, n_and, n_or, bd1_n, n_ng, ng_n, ng_ng]
        rw [if_pos (by omega), m_sums (by omega), bd1_n, foldM_eq k1, z1, z2]
    have s2 : ∀ h : Int64, lq2 (f_X5_digest_B33 v_M_above v_M_below r_M_now) FU h (nI 0) = some ((31 : Int64) * ((31 : Int64) * foldM (foldI (fold31 (fold31 h (lawV lw) 16) r_X_now_knownEvent 6) r_X_now_kind r_X_now_trips ni) r_X_now_markInspector r_X_now_markDay r_X_now_markEvents r_X_now_markValue r_X_now_markTrips nm + v_X_above) + v_X_below) := by
      intro h
      have a1' : r_M_now 1 = nI lw := a1
      refine lq2_run (fun i => fold31 h (lawV lw) i) (fun i => nI i) 16 (fun k i hi => ?_) (fun k => ?_) (by have := fu; omega)
      · have hd : lw / 2 ^ i < 2 ^ 31 := Nat.lt_of_le_of_lt (Nat.div_le_self _ _) (by omega)
        simp (disch := omega) only [f_X5_digest_B33, a1', ↓n_neg1, ↓n_neg2, ↓n_neg3, ↓n_neg4, ↓n_neg5, ↓n_neg10, n_lit, n_le, n_lt, n_eq, n_cl, n_add, n_mul, n_sub, ckI_n, n_shl1, n_shr, n_and, n_or, bd1_n, n_ng, ng_n, ng_ng, m_and1]
        rw [if_neg (by omega)]; rfl
      · simp (disch := omega) only [f_X5_digest_B33, ↓n_neg1, ↓n_neg2, ↓n_neg3, ↓n_neg4, ↓n_neg5, ↓n_neg10, n_lit, n_le, n_lt, n_eq, n_cl, n_add, n_mul, n_sub, ckI_n, n_shl1, n_shr, n_and, n_or, bd1_n, n_ng, ng_n, ng_ng]
        rw [if_pos (by omega), m_sums (by omega), bd1_n, fold31_congr (D := r_X_now_knownEvent) (fun d hd => (e1 d hd).1)]
        exact s3 _
    refine lq2_run (fun i => fold31 1291 C i) (fun i => nI i) 6 (fun k i hi => ?_) (fun k => ?_) (by have := fu; omega)
    · simp (disch := omega) only [f_X5_digest_B6, hM i hi, ↓n_neg1, ↓n_neg2, ↓n_neg3, ↓n_neg4, ↓n_neg5, ↓n_neg10, n_lit, n_le, n_lt, n_eq, n_cl, n_add, n_mul, n_sub, ckI_n, n_shl1, n_shr, n_and, n_or, bd1_n, n_ng, ng_n, ng_ng]
      rw [if_neg (by omega)]; rfl
    · simp (disch := omega) only [f_X5_digest_B6, ↓n_neg1, ↓n_neg2, ↓n_neg3, ↓n_neg4, ↓n_neg5, ↓n_neg10, n_lit, n_le, n_lt, n_eq, n_cl, n_add, n_mul, n_sub, ckI_n, n_shl1, n_shr, n_and, n_or, bd1_n, n_ng, ng_n, ng_ng]
      rw [if_pos (by omega)]
      exact s2 _
