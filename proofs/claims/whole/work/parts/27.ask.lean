theorem asked {ni : Nat} {f : Nat → Int32} (x1 x2 x3 x4 : Int32) (hf : f 0 = nI ni) (hn : ni ≤ 4) :
    (∃ i d e v, i < ni ∧ d < 6 ∧ 1 ≤ e ∧ e < 15 ∧ v < 3 ∧ x1 = nI i ∧ x2 = nI d ∧ x3 = nI e ∧ x4 = nI v ∧ f_X4_isAsked x1 x2 x3 x4 (nI ni) = nI 1 ∧ f_X5_isOne x1 f = nI 1 ∧ f_X5_isDay x2 = nI 1 ∧ f_X5_areEvents x3 = nI 1 ∧ f_X5_in (Int32.toInt64 x4) 0 2 = nI 1) ∨
    (f_X4_isAsked x1 x2 x3 x4 (nI ni) = nI 0 ∧ (f_X5_isOne x1 f = nI 0 ∨ (f_X5_isOne x1 f = nI 1 ∧ (f_X5_isDay x2 = nI 0 ∨ (f_X5_isDay x2 = nI 1 ∧ (f_X5_areEvents x3 = nI 0 ∨ (f_X5_areEvents x3 = nI 1 ∧ f_X5_in (Int32.toInt64 x4) 0 2 = nI 0))))))) := by
  have e1 : (1 : Int32).toInt = 1 := rfl
  have e15 : (15 : Int32).toInt = 15 := rfl
  have e3 : (3 : Int32).toInt = 3 := rfl
  unfold f_X4_isAsked
  rcases rng x1 ni (by omega) with ⟨i, hi, rfl, hz⟩ | hz
  · rw [xone_t hi hn, if_n1, mone_t hf hi hn]
    rcases rng x2 6 (by omega) with ⟨d, hd, rfl, hy⟩ | hy
    · rw [xday_t hd, if_n1, mday_t hd]
      by_cases c : 1 ≤ x3.toInt ∧ x3.toInt ≤ 14
      · rw [m_areEvents, if_pos c, if_neg (by rw [i_lt, e1]; omega), if_neg (by rw [i_le, e15]; omega)]
        obtain ⟨e, he, ee⟩ := vp_in_of (vp_in_iff.mpr ⟨by omega, by omega⟩ : vp_in x3 15) (by omega)
        subst ee
        rw [tN e (by omega)] at c
        rcases rng x4 3 (by omega) with ⟨v, hv, rfl, hw⟩ | hw
        · refine Or.inl ⟨i, d, e, v, hi, hd, by omega, he, hv, rfl, rfl, rfl, rfl, ?_, rfl, rfl, rfl, in_t (lo := 0) (hi := 2) rfl rfl (by omega) (by omega)⟩
          rw [if_neg (not_lt0 (by omega)), if_neg (by rw [i_le, e3, tN v (by omega)]; omega)]; rfl
        · refine Or.inr ⟨?_, Or.inr ⟨rfl, Or.inr ⟨rfl, Or.inr ⟨rfl, in_f (lo := 0) (hi := 2) rfl rfl (by omega)⟩⟩⟩⟩
          by_cases q : x4 < 0
          · rw [if_pos q]; rfl
          · rw [if_neg q, if_pos (by rw [i_lt, t0] at q; rw [i_le, e3]; omega)]; rfl
      · refine Or.inr ⟨?_, Or.inr ⟨rfl, Or.inr ⟨rfl, Or.inl (by rw [m_areEvents, if_neg c])⟩⟩⟩
        by_cases q : x3 < 1
        · rw [if_pos q]; rfl
        · rw [if_neg q, if_pos (by rw [i_lt, e1] at q; rw [i_le, e15]; omega)]; rfl
    · exact Or.inr ⟨by rw [xday_f hy, if_n0]; rfl, Or.inr ⟨rfl, Or.inl (mday_f hy)⟩⟩
  · exact Or.inr ⟨by rw [xone_f hn hz, if_n0]; rfl, Or.inl (mone_f hf hn hz)⟩
theorem m_givesIn {F : Nat → Bool} {f h0 kd : Nat → Int32} {i d ev : Nat} {t : Int32} {v : Int32} (hi : i < 4) (hd : d < 6) (he1 : 1 ≤ ev) (he : ev < 15) (hk : f (14 + i) = kd i) : f_X5_givesIn (nI i) (nI d) (nI ev) t v f (hRow F h0 4096) = some (nI (sN (fun e => if f_X4_given (kd i) (f_X4_truth (nI ev) (nI e)) (nI d) (nI ev) t = v then hF F 4096 d e else 0) 4)) := by
  refine lq2_run (fun k => nI (sN (fun e => if f_X4_given (kd i) (f_X4_truth (nI ev) (nI e)) (nI d) (nI ev) t = v then hF F 4096 d e else 0) k)) (fun k => nI k) 4 (fun k e hh => ?_) (fun k => ?_) (by have := fu; omega)
  · simp (disch := omega) only [f_X5_givesIn_B6, ↓n_neg1, ↓n_neg2, ↓n_neg3, ↓n_neg4, ↓n_neg5, ↓n_neg10, n_lit, n_le, n_lt, n_eq, n_cl, n_add, n_mul, n_sub, ckI_n, n_shl1, n_shr, n_and, n_or, bd1_n, n_ng, ng_n, ng_ng, m_bits, hk]
    rw [if_neg (by omega), markAs_eq (ev := nI ev) (tv := f_X5_has (nI ev) (nI e)) (tr_01 (nI ev) (nI e)) (m_bitCount8 ev (by omega))]
    rw [show f_X5_has (nI ev) (nI e) = f_X4_truth (nI ev) (nI e) from rfl]
    by_cases c : f_X4_given (kd i) (f_X4_truth (nI ev) (nI e)) (nI d) (nI ev) t = v
    · rw [if_pos c, hRow_at hd hh, n_add, sN, if_pos c]
    · rw [if_neg c, sN, if_neg c]
  · simp (disch := omega) only [f_X5_givesIn_B6, ↓n_neg1, ↓n_neg2, ↓n_neg3, ↓n_neg4, ↓n_neg5, ↓n_neg10, n_lit, n_le, n_lt, n_eq, n_cl, n_add, n_mul, n_sub, ckI_n, n_shl1, n_shr, n_and, n_or, bd1_n, n_ng, ng_n, ng_ng]
    rw [if_pos (by omega)]
theorem st_gives (v_X_firstKept : Int32) (v_X_secondKept : Int32) (v_X_above : Int64) (v_X_below : Int64) (v_X_refusedBad : Int32) (v_X_refusedNo : Int32) (v_X_refusedFull : Int32) (v_X_now_laws : Int32) (v_X_now_inspectors : Int32) (v_X_now_marks : Int32) (v_X_now_undos : Int32) (r_X_now_knownEvent : Nat → Int32) (r_X_now_kind : Nat → Int32) (r_X_now_trips : Nat → Int32) (r_X_now_markInspector : Nat → Int32) (r_X_now_markDay : Nat → Int32) (r_X_now_markEvents : Nat → Int32) (r_X_now_markValue : Nat → Int32) (r_X_now_markTrips : Nat → Int32) (r_X_now_undoDay : Nat → Int32) (r_X_now_undoEvent : Nat → Int32) (v_X_firstImage_laws : Int32) (v_X_firstImage_inspectors : Int32) (v_X_firstImage_marks : Int32) (v_X_firstImage_undos : Int32) (r_X_firstImage_knownEvent : Nat → Int32) (r_X_firstImage_kind : Nat → Int32) (r_X_firstImage_trips : Nat → Int32) (r_X_firstImage_markInspector : Nat → Int32) (r_X_firstImage_markDay : Nat → Int32) (r_X_firstImage_markEvents : Nat → Int32) (r_X_firstImage_markValue : Nat → Int32) (r_X_firstImage_markTrips : Nat → Int32) (r_X_firstImage_undoDay : Nat → Int32) (r_X_firstImage_undoEvent : Nat → Int32) (v_X_secondImage_laws : Int32) (v_X_secondImage_inspectors : Int32) (v_X_secondImage_marks : Int32) (v_X_secondImage_undos : Int32) (r_X_secondImage_knownEvent : Nat → Int32) (r_X_secondImage_kind : Nat → Int32) (r_X_secondImage_trips : Nat → Int32) (r_X_secondImage_markInspector : Nat → Int32) (r_X_secondImage_markDay : Nat → Int32) (r_X_secondImage_markEvents : Nat → Int32) (r_X_secondImage_markValue : Nat → Int32) (r_X_secondImage_markTrips : Nat → Int32) (r_X_secondImage_undoDay : Nat → Int32) (r_X_secondImage_undoEvent : Nat → Int32) (v_X_text_length : Int32) (r_X_text_bytes : Nat → Int32) (r_X_ways_weight : Nat → Int64) (r_X_ways_upTo : Nat → Int64) (r_X_ways_behind : Nat → Int64) (v_M_above : Int64) (v_M_below : Int64) (v_M_manyFit : Int32) (v_M_bytesLong : Int32) (r_M_now : Nat → Int32) (r_M_kept : Nat → Int32) (r_M_isKept : Nat → Int32) (r_M_refused : Nat → Int32) (r_M_kinds : Nat → Int32) (r_M_have : Nat → Int32) (r_M_bytes : Nat → Int32) (x1 : Int32) (x2 : Int32) (x3 : Int32) (x4 : Int32) (hR : Rel (v_X_now_laws, v_X_now_inspectors, v_X_now_marks, v_X_now_undos, r_X_now_knownEvent, r_X_now_kind, r_X_now_trips, r_X_now_markInspector, r_X_now_markDay, r_X_now_markEvents, r_X_now_markValue, r_X_now_markTrips, r_X_now_undoDay, r_X_now_undoEvent) (v_X_firstImage_laws, v_X_firstImage_inspectors, v_X_firstImage_marks, v_X_firstImage_undos, r_X_firstImage_knownEvent, r_X_firstImage_kind, r_X_firstImage_trips, r_X_firstImage_markInspector, r_X_firstImage_markDay, r_X_firstImage_markEvents, r_X_firstImage_markValue, r_X_firstImage_markTrips, r_X_firstImage_undoDay, r_X_firstImage_undoEvent) (v_X_secondImage_laws, v_X_secondImage_inspectors, v_X_secondImage_marks, v_X_secondImage_undos, r_X_secondImage_knownEvent, r_X_secondImage_kind, r_X_secondImage_trips, r_X_secondImage_markInspector, r_X_secondImage_markDay, r_X_secondImage_markEvents, r_X_secondImage_markValue, r_X_secondImage_markTrips, r_X_secondImage_undoDay, r_X_secondImage_undoEvent) v_X_firstKept v_X_secondKept v_X_text_length r_X_text_bytes v_X_above v_X_below v_X_refusedBad v_X_refusedNo v_X_refusedFull r_M_now r_M_kept r_M_isKept r_M_refused v_M_above v_M_below r_M_bytes v_M_bytesLong) : ∃ (r : Int32) (ov_X_refusedBad : Int32) (or_X_ways_weight : Nat → Int64) (or_X_ways_upTo : Nat → Int64) (or_X_ways_behind : Nat → Int64) (ov_M_manyFit : Int32) (or_M_refused : Nat → Int32) (or_M_kinds : Nat → Int32) (or_M_have : Nat → Int32), f_X4_gives x1 x2 x3 x4 v_X_refusedBad v_X_now_laws v_X_now_inspectors v_X_now_marks r_X_now_knownEvent r_X_now_kind r_X_now_trips r_X_now_markInspector r_X_now_markDay r_X_now_markEvents r_X_now_markValue r_X_now_markTrips r_X_ways_weight r_X_ways_upTo r_X_ways_behind = some (r, ov_X_refusedBad, or_X_ways_weight, or_X_ways_upTo, or_X_ways_behind) ∧ f_X5_gives x1 x2 x3 x4 v_M_manyFit r_M_now r_M_refused r_M_kinds r_M_have = some (r, ov_M_manyFit, or_M_refused, or_M_kinds, or_M_have) ∧ Rel (v_X_now_laws, v_X_now_inspectors, v_X_now_marks, v_X_now_undos, r_X_now_knownEvent, r_X_now_kind, r_X_now_trips, r_X_now_markInspector, r_X_now_markDay, r_X_now_markEvents, r_X_now_markValue, r_X_now_markTrips, r_X_now_undoDay, r_X_now_undoEvent) (v_X_firstImage_laws, v_X_firstImage_inspectors, v_X_firstImage_marks, v_X_firstImage_undos, r_X_firstImage_knownEvent, r_X_firstImage_kind, r_X_firstImage_trips, r_X_firstImage_markInspector, r_X_firstImage_markDay, r_X_firstImage_markEvents, r_X_firstImage_markValue, r_X_firstImage_markTrips, r_X_firstImage_undoDay, r_X_firstImage_undoEvent) (v_X_secondImage_laws, v_X_secondImage_inspectors, v_X_secondImage_marks, v_X_secondImage_undos, r_X_secondImage_knownEvent, r_X_secondImage_kind, r_X_secondImage_trips, r_X_secondImage_markInspector, r_X_secondImage_markDay, r_X_secondImage_markEvents, r_X_secondImage_markValue, r_X_secondImage_markTrips, r_X_secondImage_undoDay, r_X_secondImage_undoEvent) v_X_firstKept v_X_secondKept v_X_text_length r_X_text_bytes v_X_above v_X_below ov_X_refusedBad v_X_refusedNo v_X_refusedFull r_M_now r_M_kept r_M_isKept or_M_refused v_M_above v_M_below r_M_bytes v_M_bytesLong := by
  have hR0 := hR
  obtain ⟨F, w', u', b', kd', s1, s2, s3, s4, s5⟩ := both (v := v_M_manyFit) (k0 := r_M_kinds) (h0 := r_M_have) (g := r_X_ways_weight) (u := r_X_ways_upTo) (b := r_X_ways_behind) hR.1
  have s1 : f_X4_sumFits v_X_now_laws v_X_now_marks r_X_now_knownEvent r_X_now_kind r_X_now_markInspector r_X_now_markDay r_X_now_markEvents r_X_now_markValue r_X_now_markTrips r_X_ways_weight r_X_ways_upTo r_X_ways_behind = some (w', u', b') := s1
  obtain ⟨lw, ni, nm, nu, q1, q2, q3, q4, h⟩ := hR.1
  have q2 : v_X_now_inspectors = nI ni := q2
  subst q2
  have hf0 := h.2.1.1
  have hn := h.2.1.2
  have hk : ∀ i, i < ni → r_M_now (14 + i) = r_X_now_kind i ∧ r_M_now (10 + i) = r_X_now_trips i := h.2.2.2.2.2.1
  rcases asked x1 x2 x3 x4 hf0 hn with ⟨i, d, e, v, hi, hd, he1, he, hv, rfl, rfl, rfl, rfl, g1, g2, g3, g4, g5⟩ | ⟨g1, g⟩
  · obtain ⟨k1, k2⟩ := hk i hi
    refine ⟨nI (sN (fun x => if f_X4_given (r_X_now_kind i) (f_X4_truth (nI e) (nI x)) (nI d) (nI e) (r_X_now_trips i) = nI v then hF F 4096 d x else 0) 4), v_X_refusedBad, w', u', b', nI (cF F 4096), r_M_refused, kd', hRow F r_M_have 4096, ?_, ?_, hR0⟩
    · rw [f_X4_gives, g1, if_n1, s1, bd3_n]
      refine lq6_run (fun k => nI (sN (fun x => if f_X4_given (r_X_now_kind i) (f_X4_truth (nI e) (nI x)) (nI d) (nI e) (r_X_now_trips i) = nI v then hF F 4096 d x else 0) k)) (fun k => nI k) (fun _ => v_X_refusedBad) (fun _ => w') (fun _ => u') (fun _ => b') 4 (fun k x hh => ?_) (fun k => ?_) (by have := fu; omega)
      · simp (disch := omega) only [f_X4_gives_B27, ↓n_neg1, ↓n_neg2, ↓n_neg3, ↓n_neg4, ↓n_neg5, ↓n_neg10, n_lit, n_le, n_lt, n_eq, n_cl, n_add, n_mul, n_sub, ckI_n, n_shl1, n_shr, n_and, n_or, bd1_n, n_ng, ng_n, ng_ng, s3 d x hd hh, pk_lN_i]
        rw [if_neg (by omega)]
        by_cases c : f_X4_given (r_X_now_kind i) (f_X4_truth (nI e) (nI x)) (nI d) (nI e) (r_X_now_trips i) = nI v
        · rw [if_pos c, sN, if_pos c]
        · rw [if_neg c, sN, if_neg c]; rfl
      · simp (disch := omega) only [f_X4_gives_B27, ↓n_neg1, ↓n_neg2, ↓n_neg3, ↓n_neg4, ↓n_neg5, ↓n_neg10, n_lit, n_le, n_lt, n_eq, n_cl, n_add, n_mul, n_sub, ckI_n, n_shl1, n_shr, n_and, n_or, bd1_n, n_ng, ng_n, ng_ng]
        rw [if_pos (by omega)]
    · rw [f_X5_gives, g2, if_n1, g3, if_n1, g4, if_n1, g5, if_n1, s5, bd3_n]
      simp (disch := omega) only [↓n_neg1, ↓n_neg2, ↓n_neg3, ↓n_neg4, ↓n_neg5, ↓n_neg10, n_lit, n_le, n_lt, n_eq, n_cl, n_add, n_mul, n_sub, ckI_n, n_shl1, n_shr, n_and, n_or, bd1_n, n_ng, ng_n, ng_ng, k2, m_givesIn (show i < 4 by omega) hd he1 he k1]
  · refine ⟨ngI 2, v_X_refusedBad + 1, r_X_ways_weight, r_X_ways_upTo, r_X_ways_behind, v_M_manyFit, upd r_M_refused 0 (r_M_refused 0 + 1), r_M_kinds, r_M_have, ?_, ?_, hR0.bad⟩
    · rw [f_X4_gives, g1, if_n0]; rfl
    · rcases g with g | ⟨ga, g | ⟨gb, g | ⟨gc, g⟩⟩⟩
      · rw [f_X5_gives, g, if_n0]; rfl
      · rw [f_X5_gives, ga, if_n1, g, if_n0]; rfl
      · rw [f_X5_gives, ga, if_n1, gb, if_n1, g, if_n0]; rfl
      · rw [f_X5_gives, ga, if_n1, gb, if_n1, gc, if_n1, g, if_n0]; rfl
