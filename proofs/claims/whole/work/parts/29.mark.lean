def lmF (g : Nat → Int32) (nm i : Nat) (x1 x2 x3 x4 : Int32) : Nat → Int32 := upd (upd (upd (upd (upd (upd (upd g (18 + 5 * nm) x1) (18 + 5 * nm + 1) x2) (18 + 5 * nm + 2) x3) (18 + 5 * nm + 3) x4) (18 + 5 * nm + 4) (g (10 + i))) (10 + i) (g (10 + i) + nI 1)) 3 (nI (nm + 1))
theorem m_layMark {g : Nat → Int32} {nm i : Nat} {x2 x3 x4 : Int32} (h3 : g 3 = nI nm) (hm : nm < 8) (hi : i < 4) : f_X5_layMark (nI i) x2 x3 x4 146 g = some (lmF g nm i (nI i) x2 x3 x4) := by
  simp (disch := omega) only [f_X5_layMark, ↓n_neg1, ↓n_neg2, ↓n_neg3, ↓n_neg4, ↓n_neg5, ↓n_neg10, n_lit, n_le, n_lt, n_eq, n_cl, n_add, n_mul, n_sub, ckI_n, n_shl1, n_shr, n_and, n_or, bd1_n, n_ng, ng_n, ng_ng, h3, pk_un, Nat.add_zero, pk_us]
  rfl
theorem lm_lo {g : Nat → Int32} {nm i j : Nat} {x1 x2 x3 x4 : Int32} (h1 : j ≠ 18 + 5 * nm) (h2 : j ≠ 18 + 5 * nm + 1) (h3 : j ≠ 18 + 5 * nm + 2) (h4 : j ≠ 18 + 5 * nm + 3) (h5 : j ≠ 18 + 5 * nm + 4) (h6 : j ≠ 10 + i) (h7 : j ≠ 3) : lmF g nm i x1 x2 x3 x4 j = g j := by
  unfold lmF
  rw [pk_un h7, pk_un h6, pk_un h5, pk_un h4, pk_un h3, pk_un h2, pk_un h1]
theorem OK4_mark {lw ni nm n i d e : Nat} {x : Int32} {kn kd tr mi md me mv mt ud ue f : Nat → Int32} (hn7 : n ≤ 7) (hm : nm < 8) (hi : i < ni) (hd : d < 6) (he1 : 1 ≤ e) (he : e < 15) (h : OK4 lw ni nm n kn kd tr mi md me mv mt ud ue f) : OK4 lw ni (nm + 1) (n + 1) kn kd (upd tr i (tr i + nI 1)) (upd mi nm (nI i)) (upd md nm (nI d)) (upd me nm (nI e)) (upd mv nm x) (upd mt nm (tr i)) (upd ud n (ngI 1)) (upd ue n (ngI 1)) (lmF (kpF f n) nm i (nI i) (nI d) (nI e) x) := by
  obtain ⟨⟨a1, a2⟩, ⟨b1, b2⟩, c1, ⟨d1, d2⟩, e1, f1, ⟨g0, g1⟩, k1, l1⟩ := h
  have hti : kpF f n (10 + i) = tr i := by rw [kp_lo (by omega) (by omega)]; exact (f1 i hi).2
  have hu : ∀ j, j ≠ 2 → j ≠ 10 + i → j ≠ 3 → (j < 18 + 5 * nm ∨ 18 + 5 * nm + 4 < j) → j < 58 + 11 * n → lmF (kpF f n) nm i (nI i) (nI d) (nI e) x j = f j := fun j h1 h2 h3 h4 h5 => by
    rw [lm_lo (by omega) (by omega) (by omega) (by omega) (by omega) h2 h3, kp_lo h1 h5]
  refine ⟨⟨by rw [hu _ (by omega) (by omega) (by omega) (by omega) (by omega)]; exact a1, a2⟩, ⟨by rw [hu _ (by omega) (by omega) (by omega) (by omega) (by omega)]; exact b1, b2⟩, pk_us, ⟨?_, by omega⟩, fun dd hdd => ?_, fun ii hii => ?_, ⟨by omega, fun j hj => ?_⟩, fun j hj => ?_, ?_⟩
  · rw [lm_lo (by omega) (by omega) (by omega) (by omega) (by omega) (by omega) (by omega)]; exact pk_us
  · rw [hu _ (by omega) (by omega) (by omega) (by omega) (by omega)]; exact e1 dd hdd
  · rw [hu _ (by omega) (by omega) (by omega) (by omega) (by omega)]
    refine ⟨(f1 ii hii).1, ?_⟩
    by_cases q : ii = i
    · subst q
      unfold lmF
      rw [pk_un (by omega), pk_us, pk_us, hti]
    · rw [hu _ (by omega) (by omega) (by omega) (by omega) (by omega), pk_un q]; exact (f1 ii hii).2
  · by_cases q : j = nm
    · subst q
      rw [pk_us, pk_us, pk_us]
      exact ⟨⟨i, hi, rfl⟩, ⟨d, hd, rfl⟩, e, he1, he, rfl⟩
    · rw [pk_un q, pk_un q, pk_un q]; exact g1 j (by omega)
  · by_cases q : j = nm
    · subst q
      rw [pk_us, pk_us, pk_us, pk_us, pk_us]
      unfold lmF
      refine ⟨?_, ?_, ?_, ?_, ?_⟩
      · rw [pk_un (by omega), pk_un (by omega), pk_un (by omega), pk_un (by omega), pk_un (by omega), pk_un (by omega), pk_us]
      · rw [pk_un (by omega), pk_un (by omega), pk_un (by omega), pk_un (by omega), pk_un (by omega), pk_us]
      · rw [pk_un (by omega), pk_un (by omega), pk_un (by omega), pk_un (by omega), pk_us]
      · rw [pk_un (by omega), pk_un (by omega), pk_un (by omega), pk_us]
      · rw [pk_un (by omega), pk_un (by omega), pk_us, hti]
    · rw [pk_un q, pk_un q, pk_un q, pk_un q, pk_un q, hu _ (by omega) (by omega) (by omega) (by omega) (by omega), hu _ (by omega) (by omega) (by omega) (by omega) (by omega), hu _ (by omega) (by omega) (by omega) (by omega) (by omega), hu _ (by omega) (by omega) (by omega) (by omega) (by omega), hu _ (by omega) (by omega) (by omega) (by omega) (by omega)]
      exact k1 j (by omega)
  · have et : upd (upd tr i (tr i + nI 1)) i (tr i) = tr := by
      funext j
      unfold upd
      by_cases q : j = i
      · rw [if_pos q, q]
      · rw [if_neg q, if_neg q]
    refine Or.inr ⟨pk_us, nm, rfl, i, hi, pk_us, ?_, ?_⟩
    · rw [pk_us, et]
      obtain ⟨p1, p2, p3⟩ := kp_PS (g := f) (n := n) b2 c1 (fun d hd => (e1 d hd).1) (fun i hi => (f1 i hi).2)
      have hv : ∀ j, 58 ≤ j → lmF (kpF f n) nm i (nI i) (nI d) (nI e) x j = kpF f n j := fun j hj => lm_lo (by omega) (by omega) (by omega) (by omega) (by omega) (by omega) (by omega)
      exact ⟨by rw [hv _ (by omega)]; exact p1, fun dd hdd => by rw [hv _ (by omega)]; exact p2 dd hdd, fun i hi => by rw [hv _ (by omega)]; exact p3 i hi⟩
    · rw [pk_us, et]
      exact UC_congr (fun j hj => ⟨pk_un (by omega), pk_un (by omega)⟩) (fun j hj => ⟨pk_un (by omega), pk_un (by omega)⟩) (fun j h1 h2 => by rw [hu _ (by omega) (by omega) (by omega) (by omega) h2]) (fun _ _ => rfl) (fun _ _ => rfl) b2 l1
theorem st_mark (v_X_firstKept : Int32) (v_X_secondKept : Int32) (v_X_above : Int64) (v_X_below : Int64) (v_X_refusedBad : Int32) (v_X_refusedNo : Int32) (v_X_refusedFull : Int32) (v_X_now_laws : Int32) (v_X_now_inspectors : Int32) (v_X_now_marks : Int32) (v_X_now_undos : Int32) (r_X_now_knownEvent : Nat → Int32) (r_X_now_kind : Nat → Int32) (r_X_now_trips : Nat → Int32) (r_X_now_markInspector : Nat → Int32) (r_X_now_markDay : Nat → Int32) (r_X_now_markEvents : Nat → Int32) (r_X_now_markValue : Nat → Int32) (r_X_now_markTrips : Nat → Int32) (r_X_now_undoDay : Nat → Int32) (r_X_now_undoEvent : Nat → Int32) (v_X_firstImage_laws : Int32) (v_X_firstImage_inspectors : Int32) (v_X_firstImage_marks : Int32) (v_X_firstImage_undos : Int32) (r_X_firstImage_knownEvent : Nat → Int32) (r_X_firstImage_kind : Nat → Int32) (r_X_firstImage_trips : Nat → Int32) (r_X_firstImage_markInspector : Nat → Int32) (r_X_firstImage_markDay : Nat → Int32) (r_X_firstImage_markEvents : Nat → Int32) (r_X_firstImage_markValue : Nat → Int32) (r_X_firstImage_markTrips : Nat → Int32) (r_X_firstImage_undoDay : Nat → Int32) (r_X_firstImage_undoEvent : Nat → Int32) (v_X_secondImage_laws : Int32) (v_X_secondImage_inspectors : Int32) (v_X_secondImage_marks : Int32) (v_X_secondImage_undos : Int32) (r_X_secondImage_knownEvent : Nat → Int32) (r_X_secondImage_kind : Nat → Int32) (r_X_secondImage_trips : Nat → Int32) (r_X_secondImage_markInspector : Nat → Int32) (r_X_secondImage_markDay : Nat → Int32) (r_X_secondImage_markEvents : Nat → Int32) (r_X_secondImage_markValue : Nat → Int32) (r_X_secondImage_markTrips : Nat → Int32) (r_X_secondImage_undoDay : Nat → Int32) (r_X_secondImage_undoEvent : Nat → Int32) (v_X_text_length : Int32) (r_X_text_bytes : Nat → Int32) (v_M_above : Int64) (v_M_below : Int64) (v_M_bytesLong : Int32) (r_M_now : Nat → Int32) (r_M_kept : Nat → Int32) (r_M_isKept : Nat → Int32) (r_M_refused : Nat → Int32) (r_M_bytes : Nat → Int32) (x1 : Int32) (x2 : Int32) (x3 : Int32) (x4 : Int32) (hR : Rel (v_X_now_laws, v_X_now_inspectors, v_X_now_marks, v_X_now_undos, r_X_now_knownEvent, r_X_now_kind, r_X_now_trips, r_X_now_markInspector, r_X_now_markDay, r_X_now_markEvents, r_X_now_markValue, r_X_now_markTrips, r_X_now_undoDay, r_X_now_undoEvent) (v_X_firstImage_laws, v_X_firstImage_inspectors, v_X_firstImage_marks, v_X_firstImage_undos, r_X_firstImage_knownEvent, r_X_firstImage_kind, r_X_firstImage_trips, r_X_firstImage_markInspector, r_X_firstImage_markDay, r_X_firstImage_markEvents, r_X_firstImage_markValue, r_X_firstImage_markTrips, r_X_firstImage_undoDay, r_X_firstImage_undoEvent) (v_X_secondImage_laws, v_X_secondImage_inspectors, v_X_secondImage_marks, v_X_secondImage_undos, r_X_secondImage_knownEvent, r_X_secondImage_kind, r_X_secondImage_trips, r_X_secondImage_markInspector, r_X_secondImage_markDay, r_X_secondImage_markEvents, r_X_secondImage_markValue, r_X_secondImage_markTrips, r_X_secondImage_undoDay, r_X_secondImage_undoEvent) v_X_firstKept v_X_secondKept v_X_text_length r_X_text_bytes v_X_above v_X_below v_X_refusedBad v_X_refusedNo v_X_refusedFull r_M_now r_M_kept r_M_isKept r_M_refused v_M_above v_M_below r_M_bytes v_M_bytesLong) : ∃ (r : Int32) (ov_X_refusedBad : Int32) (ov_X_refusedFull : Int32) (ov_X_now_marks : Int32) (ov_X_now_undos : Int32) (or_X_now_trips : Nat → Int32) (or_X_now_markInspector : Nat → Int32) (or_X_now_markDay : Nat → Int32) (or_X_now_markEvents : Nat → Int32) (or_X_now_markValue : Nat → Int32) (or_X_now_markTrips : Nat → Int32) (or_X_now_undoDay : Nat → Int32) (or_X_now_undoEvent : Nat → Int32) (or_M_now : Nat → Int32) (or_M_refused : Nat → Int32), f_X4_mark x1 x2 x3 x4 v_X_refusedBad v_X_refusedFull v_X_now_inspectors v_X_now_marks v_X_now_undos r_X_now_trips r_X_now_markInspector r_X_now_markDay r_X_now_markEvents r_X_now_markValue r_X_now_markTrips r_X_now_undoDay r_X_now_undoEvent = some (r, ov_X_refusedBad, ov_X_refusedFull, ov_X_now_marks, ov_X_now_undos, or_X_now_trips, or_X_now_markInspector, or_X_now_markDay, or_X_now_markEvents, or_X_now_markValue, or_X_now_markTrips, or_X_now_undoDay, or_X_now_undoEvent) ∧ f_X5_mark x1 x2 x3 x4 r_M_now r_M_refused = some (r, or_M_now, or_M_refused) ∧ Rel (v_X_now_laws, v_X_now_inspectors, ov_X_now_marks, ov_X_now_undos, r_X_now_knownEvent, r_X_now_kind, or_X_now_trips, or_X_now_markInspector, or_X_now_markDay, or_X_now_markEvents, or_X_now_markValue, or_X_now_markTrips, or_X_now_undoDay, or_X_now_undoEvent) (v_X_firstImage_laws, v_X_firstImage_inspectors, v_X_firstImage_marks, v_X_firstImage_undos, r_X_firstImage_knownEvent, r_X_firstImage_kind, r_X_firstImage_trips, r_X_firstImage_markInspector, r_X_firstImage_markDay, r_X_firstImage_markEvents, r_X_firstImage_markValue, r_X_firstImage_markTrips, r_X_firstImage_undoDay, r_X_firstImage_undoEvent) (v_X_secondImage_laws, v_X_secondImage_inspectors, v_X_secondImage_marks, v_X_secondImage_undos, r_X_secondImage_knownEvent, r_X_secondImage_kind, r_X_secondImage_trips, r_X_secondImage_markInspector, r_X_secondImage_markDay, r_X_secondImage_markEvents, r_X_secondImage_markValue, r_X_secondImage_markTrips, r_X_secondImage_undoDay, r_X_secondImage_undoEvent) v_X_firstKept v_X_secondKept v_X_text_length r_X_text_bytes v_X_above v_X_below ov_X_refusedBad v_X_refusedNo ov_X_refusedFull or_M_now r_M_kept r_M_isKept or_M_refused v_M_above v_M_below r_M_bytes v_M_bytesLong := by
  have hR0 := hR
  obtain ⟨hO, h0, h1, hT, hb, r1, r2, r3⟩ := hR
  obtain ⟨lw, ni, nm, nu, q1, q2, q3, q4, h⟩ := hO
  have q4 : v_X_now_undos = nI nu := q4
  have q3 : v_X_now_marks = nI nm := q3
  have q2 : v_X_now_inspectors = nI ni := q2
  subst q4 q3 q2
  have h : OK4 lw ni nm nu r_X_now_knownEvent r_X_now_kind r_X_now_trips r_X_now_markInspector r_X_now_markDay r_X_now_markEvents r_X_now_markValue r_X_now_markTrips r_X_now_undoDay r_X_now_undoEvent r_M_now := h
  have hf0 := h.2.1.1
  have hn := h.2.1.2
  have h3 := h.2.2.1
  have h2 := h.2.2.2.1.1
  have hm8 := h.2.2.2.2.2.2.1.1
  rcases asked x1 x2 x3 x4 hf0 hn with ⟨i, d, e, v, hi, hd, he1, he, hv, rfl, rfl, rfl, rfl, g1, g2, g3, g4, g5⟩ | ⟨g1, g⟩
  · by_cases c : nm < 8
    · have c8 : ¬ f_X5_marks r_M_now = 8 := by
        show ¬ r_M_now 3 = nI 8
        rw [h3, n_eq (by omega) (by omega)]; omega
      rcases (show nu ≤ 7 ∨ nu = 8 by have := h.2.2.2.1.2; omega) with hn7 | rfl
      · refine ⟨nI (nm + 1), v_X_refusedBad, v_X_refusedFull, nI (nm + 1), nI (nu + 1), upd r_X_now_trips i (r_X_now_trips i + nI 1), upd r_X_now_markInspector nm (nI i), upd r_X_now_markDay nm (nI d), upd r_X_now_markEvents nm (nI e), upd r_X_now_markValue nm (nI v), upd r_X_now_markTrips nm (r_X_now_trips i), upd r_X_now_undoDay nu (ngI 1), upd r_X_now_undoEvent nu (ngI 1), lmF (kpF r_M_now nu) nm i (nI i) (nI d) (nI e) (nI v), r_M_refused, ?_, ?_, ⟨lw, ni, nm + 1, nu + 1, q1, rfl, rfl, rfl, OK4_mark hn7 c hi hd he1 he h⟩, h0, h1, hT, hb, r1, r2, r3⟩
        · rw [f_X4_mark, g1, if_n1]
          simp (disch := omega) only [f_X0_addMark, ↓n_neg1, ↓n_neg2, ↓n_neg3, ↓n_neg4, ↓n_neg5, ↓n_neg10, n_lit, n_le, n_lt, n_eq, n_cl, n_add, n_mul, n_sub, ckI_n, n_shl1, n_shr, n_and, n_or, bd1_n, n_ng, ng_n, ng_ng, x_rem1 hn7]
          rw [if_pos c, if_neg (by omega)]
          rfl
        · rw [f_X5_mark, g2, if_n1, g3, if_n1, g4, if_n1, g5, if_n1, if_neg c8, m_keep1 hn7 h2, bd1_n, m_layMark (by rw [kp_lo (by omega) (by omega)]; exact h3) c (by omega), bd1_n]
          rfl
      · have h7 := OK4_shift h
        refine ⟨nI (nm + 1), v_X_refusedBad, v_X_refusedFull, nI (nm + 1), nI (7 + 1), upd r_X_now_trips i (r_X_now_trips i + nI 1), upd r_X_now_markInspector nm (nI i), upd r_X_now_markDay nm (nI d), upd r_X_now_markEvents nm (nI e), upd r_X_now_markValue nm (nI v), upd r_X_now_markTrips nm (r_X_now_trips i), upd (suF r_X_now_undoDay 8) 7 (ngI 1), upd (suF r_X_now_undoEvent 8) 7 (ngI 1), lmF (kpF (upd (shF r_M_now 77) 2 (nI 7)) 7) nm i (nI i) (nI d) (nI e) (nI v), r_M_refused, ?_, ?_, ⟨lw, ni, nm + 1, 7 + 1, q1, rfl, rfl, rfl, OK4_mark (by omega) c hi hd he1 he h7⟩, h0, h1, hT, hb, r1, r2, r3⟩
        · rw [f_X4_mark, g1, if_n1]
          simp (disch := omega) only [f_X0_addMark, ↓n_neg1, ↓n_neg2, ↓n_neg3, ↓n_neg4, ↓n_neg5, ↓n_neg10, n_lit, n_le, n_lt, n_eq, n_cl, n_add, n_mul, n_sub, ckI_n, n_shl1, n_shr, n_and, n_or, bd1_n, n_ng, ng_n, ng_ng, x_rem8]
          rw [if_pos c, if_neg (by omega)]
          rfl
        · rw [f_X5_mark, g2, if_n1, g3, if_n1, g4, if_n1, g5, if_n1, if_neg c8, m_keep8 h2, bd1_n, m_layMark (by rw [kp_lo (by omega) (by omega)]; exact h7.2.2.1) c (by omega), bd1_n]
          rfl
    · refine ⟨ngI 4, v_X_refusedBad, v_X_refusedFull + 1, _, _, _, _, _, _, _, _, _, _, _, upd r_M_refused 2 (r_M_refused 2 + 1), ?_, ?_, hR0.full⟩
      · rw [f_X4_mark, g1, if_n1, if_neg (show ¬ nI nm < 8 from show ¬ nI nm < nI 8 by rw [n_lt (by omega) (by omega)]; omega)]; rfl
      · rw [f_X5_mark, g2, if_n1, g3, if_n1, g4, if_n1, g5, if_n1, if_pos (show f_X5_marks r_M_now = 8 from show r_M_now 3 = nI 8 by rw [h3, show nm = 8 by omega])]; rfl
  · refine ⟨ngI 2, v_X_refusedBad + 1, v_X_refusedFull, _, _, _, _, _, _, _, _, _, _, _, upd r_M_refused 0 (r_M_refused 0 + 1), ?_, ?_, hR0.bad⟩
    · rw [f_X4_mark, g1, if_n0]; rfl
    · rcases g with g | ⟨ga, g | ⟨gb, g | ⟨gc, g⟩⟩⟩
      · rw [f_X5_mark, g, if_n0]; rfl
      · rw [f_X5_mark, ga, if_n1, g, if_n0]; rfl
      · rw [f_X5_mark, ga, if_n1, gb, if_n1, g, if_n0]; rfl
      · rw [f_X5_mark, ga, if_n1, gb, if_n1, gc, if_n1, g, if_n0]; rfl
/-- the reference's undo -/
def unF (f : Nat → Int32) (k i j : Nat) : Int32 := if j = 2 then nI k else if 3 ≤ j ∧ j < 3 + i then f (58 + 11 * k + (j - 3)) else f j
theorem m_undo {f r : Nat → Int32} {k m : Nat} (hk : k < 8) (h2 : f 2 = nI (k + 1)) (hp : f (58 + 11 * k) = nI m) : f_X5_undo f r = some (nI m, unF f k 11, r) := by
  unfold f_X5_undo
  rw [if_neg (show ¬ f (Int32.toNatClampNeg 2) = 0 from show ¬ f 2 = nI 0 by rw [h2, n_eq (by omega) (by omega)]; omega)]
  have e0 : upd f (Int32.toNatClampNeg 2) (f (Int32.toNatClampNeg 2) - 1) = unF f k 0 := by
    show upd f 2 (f 2 - nI 1) = _
    rw [h2, n_sub (by omega), Nat.add_sub_cancel]
    funext j
    unfold upd unF
    by_cases q : j = 2
    · rw [if_pos q, if_pos q]
    · rw [if_neg q, if_neg q, if_neg (by omega)]
  rw [e0]
  refine lq3_run (fun i => nI i) (fun i => unF f k i) (fun _ => r) 11 (fun kk i hi => ?_) (fun kk => ?_) (by have := fu; omega)
  · have z2 : unF f k i 2 = nI k := by unfold unF; rw [if_pos rfl]
    have z3 : unF f k i (58 + 11 * k + i) = f (58 + 11 * k + i) := by unfold unF; rw [if_neg (by omega), if_neg (by omega)]
    simp (disch := omega) only [f_X5_undo_B26, ↓n_neg1, ↓n_neg2, ↓n_neg3, ↓n_neg4, ↓n_neg5, ↓n_neg10, n_lit, n_le, n_lt, n_eq, n_cl, n_add, n_mul, n_sub, ckI_n, n_shl1, n_shr, n_and, n_or, bd1_n, n_ng, ng_n, ng_ng, z2, z3]
    rw [if_neg (by omega)]
    have st : upd (unF f k i) (3 + i) (f (58 + 11 * k + i)) = unF f k (i + 1) := by
      funext j
      unfold upd
      by_cases q : j = 3 + i
      · rw [if_pos q]; unfold unF; rw [if_neg (by omega), if_pos (by omega)]; congr 1; omega
      · rw [if_neg q]; unfold unF
        by_cases q1 : j = 2
        · rw [if_pos q1, if_pos q1]
        · rw [if_neg q1, if_neg q1]
          by_cases q2 : 3 ≤ j ∧ j < 3 + i
          · rw [if_pos q2, if_pos (by omega)]
          · rw [if_neg q2, if_neg (by omega)]
    rw [st]
  · simp (disch := omega) only [f_X5_undo_B26, f_X5_marks, ↓n_neg1, ↓n_neg2, ↓n_neg3, ↓n_neg4, ↓n_neg5, ↓n_neg10, n_lit, n_le, n_lt, n_eq, n_cl, n_add, n_mul, n_sub, ckI_n, n_shl1, n_shr, n_and, n_or, bd1_n, n_ng, ng_n, ng_ng]
    rw [if_pos (by omega)]
    have : unF f k 11 3 = nI m := by unfold unF; rw [if_neg (by omega), if_pos (by omega)]; exact hp
    rw [this]
theorem OK4_undo {lw ni nm nm' k : Nat} {kn kn' kd tr tr' mi md me mv mt ud ue f : Nat → Int32} (hm : nm' ≤ nm) (hk : k < 8) (hK : ∀ d, d < 6 → KOK (kn' d)) (hp : PS f k nm' ni kn' tr') (hU : UC mi mt ud ue f ni k nm' kn' tr') (h : OK4 lw ni nm (k + 1) kn kd tr mi md me mv mt ud ue f) : OK4 lw ni nm' k kn' kd tr' mi md me mv mt ud ue (unF f k 11) := by
  obtain ⟨⟨a1, a2⟩, ⟨b1, b2⟩, c1, ⟨d1, d2⟩, e1, f1, ⟨g0, g1⟩, k1, l1⟩ := h
  obtain ⟨p1, p2, p3⟩ := hp
  have hu : ∀ j, j ≠ 2 → (j < 3 ∨ 14 ≤ j) → unF f k 11 j = f j := fun j h1 h2 => by unfold unF; rw [if_neg h1, if_neg (by omega)]
  have hv : ∀ i, i < 11 → unF f k 11 (3 + i) = f (58 + 11 * k + i) := fun i hi => by unfold unF; rw [if_neg (by omega), if_pos (by omega)]; congr 1; omega
  refine ⟨⟨by rw [hu _ (by omega) (by omega)]; exact a1, a2⟩, ⟨by rw [hu _ (by omega) (by omega)]; exact b1, b2⟩, ?_, ⟨by unfold unF; rw [if_pos rfl], by omega⟩, fun d hd => ⟨?_, hK d hd⟩, fun i hi => ⟨?_, ?_⟩, ⟨by omega, fun j hj => g1 j (by omega)⟩, fun j hj => ?_, ?_⟩
  · have := hv 0 (by omega)
    rw [Nat.add_zero, Nat.add_zero] at this
    rw [this]; exact p1
  · rw [show 4 + d = 3 + (1 + d) by omega, hv _ (by omega), ← p2 d hd]; congr 1; omega
  · rw [hu _ (by omega) (by omega)]; exact (f1 i hi).1
  · rw [show 10 + i = 3 + (7 + i) by omega, hv _ (by omega), ← p3 i hi]; congr 1; omega
  · rw [hu _ (by omega) (by omega), hu _ (by omega) (by omega), hu _ (by omega) (by omega), hu _ (by omega) (by omega), hu _ (by omega) (by omega)]; exact k1 j (by omega)
  · exact UC_congr (fun j hj => ⟨rfl, rfl⟩) (fun j hj => ⟨rfl, rfl⟩) (fun j h1 h2 => hu j (by omega) (by omega)) (fun _ _ => rfl) (fun _ _ => rfl) b2 hU
theorem st_undo (v_X_firstKept : Int32) (v_X_secondKept : Int32) (v_X_above : Int64) (v_X_below : Int64) (v_X_refusedBad : Int32) (v_X_refusedNo : Int32) (v_X_refusedFull : Int32) (v_X_now_laws : Int32) (v_X_now_inspectors : Int32) (v_X_now_marks : Int32) (v_X_now_undos : Int32) (r_X_now_knownEvent : Nat → Int32) (r_X_now_kind : Nat → Int32) (r_X_now_trips : Nat → Int32) (r_X_now_markInspector : Nat → Int32) (r_X_now_markDay : Nat → Int32) (r_X_now_markEvents : Nat → Int32) (r_X_now_markValue : Nat → Int32) (r_X_now_markTrips : Nat → Int32) (r_X_now_undoDay : Nat → Int32) (r_X_now_undoEvent : Nat → Int32) (v_X_firstImage_laws : Int32) (v_X_firstImage_inspectors : Int32) (v_X_firstImage_marks : Int32) (v_X_firstImage_undos : Int32) (r_X_firstImage_knownEvent : Nat → Int32) (r_X_firstImage_kind : Nat → Int32) (r_X_firstImage_trips : Nat → Int32) (r_X_firstImage_markInspector : Nat → Int32) (r_X_firstImage_markDay : Nat → Int32) (r_X_firstImage_markEvents : Nat → Int32) (r_X_firstImage_markValue : Nat → Int32) (r_X_firstImage_markTrips : Nat → Int32) (r_X_firstImage_undoDay : Nat → Int32) (r_X_firstImage_undoEvent : Nat → Int32) (v_X_secondImage_laws : Int32) (v_X_secondImage_inspectors : Int32) (v_X_secondImage_marks : Int32) (v_X_secondImage_undos : Int32) (r_X_secondImage_knownEvent : Nat → Int32) (r_X_secondImage_kind : Nat → Int32) (r_X_secondImage_trips : Nat → Int32) (r_X_secondImage_markInspector : Nat → Int32) (r_X_secondImage_markDay : Nat → Int32) (r_X_secondImage_markEvents : Nat → Int32) (r_X_secondImage_markValue : Nat → Int32) (r_X_secondImage_markTrips : Nat → Int32) (r_X_secondImage_undoDay : Nat → Int32) (r_X_secondImage_undoEvent : Nat → Int32) (v_X_text_length : Int32) (r_X_text_bytes : Nat → Int32) (v_M_above : Int64) (v_M_below : Int64) (v_M_bytesLong : Int32) (r_M_now : Nat → Int32) (r_M_kept : Nat → Int32) (r_M_isKept : Nat → Int32) (r_M_refused : Nat → Int32) (r_M_bytes : Nat → Int32)  (hR : Rel (v_X_now_laws, v_X_now_inspectors, v_X_now_marks, v_X_now_undos, r_X_now_knownEvent, r_X_now_kind, r_X_now_trips, r_X_now_markInspector, r_X_now_markDay, r_X_now_markEvents, r_X_now_markValue, r_X_now_markTrips, r_X_now_undoDay, r_X_now_undoEvent) (v_X_firstImage_laws, v_X_firstImage_inspectors, v_X_firstImage_marks, v_X_firstImage_undos, r_X_firstImage_knownEvent, r_X_firstImage_kind, r_X_firstImage_trips, r_X_firstImage_markInspector, r_X_firstImage_markDay, r_X_firstImage_markEvents, r_X_firstImage_markValue, r_X_firstImage_markTrips, r_X_firstImage_undoDay, r_X_firstImage_undoEvent) (v_X_secondImage_laws, v_X_secondImage_inspectors, v_X_secondImage_marks, v_X_secondImage_undos, r_X_secondImage_knownEvent, r_X_secondImage_kind, r_X_secondImage_trips, r_X_secondImage_markInspector, r_X_secondImage_markDay, r_X_secondImage_markEvents, r_X_secondImage_markValue, r_X_secondImage_markTrips, r_X_secondImage_undoDay, r_X_secondImage_undoEvent) v_X_firstKept v_X_secondKept v_X_text_length r_X_text_bytes v_X_above v_X_below v_X_refusedBad v_X_refusedNo v_X_refusedFull r_M_now r_M_kept r_M_isKept r_M_refused v_M_above v_M_below r_M_bytes v_M_bytesLong) : ∃ (r : Int32) (ov_X_refusedNo : Int32) (ov_X_now_marks : Int32) (ov_X_now_undos : Int32) (or_X_now_knownEvent : Nat → Int32) (or_X_now_trips : Nat → Int32) (or_M_now : Nat → Int32) (or_M_refused : Nat → Int32), f_X4_undo v_X_refusedNo v_X_now_marks v_X_now_undos r_X_now_knownEvent r_X_now_trips r_X_now_markInspector r_X_now_markTrips r_X_now_undoDay r_X_now_undoEvent = some (r, ov_X_refusedNo, ov_X_now_marks, ov_X_now_undos, or_X_now_knownEvent, or_X_now_trips) ∧ f_X5_undo r_M_now r_M_refused = some (r, or_M_now, or_M_refused) ∧ Rel (v_X_now_laws, v_X_now_inspectors, ov_X_now_marks, ov_X_now_undos, or_X_now_knownEvent, r_X_now_kind, or_X_now_trips, r_X_now_markInspector, r_X_now_markDay, r_X_now_markEvents, r_X_now_markValue, r_X_now_markTrips, r_X_now_undoDay, r_X_now_undoEvent) (v_X_firstImage_laws, v_X_firstImage_inspectors, v_X_firstImage_marks, v_X_firstImage_undos, r_X_firstImage_knownEvent, r_X_firstImage_kind, r_X_firstImage_trips, r_X_firstImage_markInspector, r_X_firstImage_markDay, r_X_firstImage_markEvents, r_X_firstImage_markValue, r_X_firstImage_markTrips, r_X_firstImage_undoDay, r_X_firstImage_undoEvent) (v_X_secondImage_laws, v_X_secondImage_inspectors, v_X_secondImage_marks, v_X_secondImage_undos, r_X_secondImage_knownEvent, r_X_secondImage_kind, r_X_secondImage_trips, r_X_secondImage_markInspector, r_X_secondImage_markDay, r_X_secondImage_markEvents, r_X_secondImage_markValue, r_X_secondImage_markTrips, r_X_secondImage_undoDay, r_X_secondImage_undoEvent) v_X_firstKept v_X_secondKept v_X_text_length r_X_text_bytes v_X_above v_X_below v_X_refusedBad ov_X_refusedNo v_X_refusedFull or_M_now r_M_kept r_M_isKept or_M_refused v_M_above v_M_below r_M_bytes v_M_bytesLong := by
  have hR0 := hR
  obtain ⟨hO, h0, h1, hT, hb, r1, r2, r3⟩ := hR
  obtain ⟨lw, ni, nm, nu, q1, q2, q3, q4, h⟩ := hO
  have q4 : v_X_now_undos = nI nu := q4
  have q3 : v_X_now_marks = nI nm := q3
  subst q4 q3
  have h : OK4 lw ni nm nu r_X_now_knownEvent r_X_now_kind r_X_now_trips r_X_now_markInspector r_X_now_markDay r_X_now_markEvents r_X_now_markValue r_X_now_markTrips r_X_now_undoDay r_X_now_undoEvent r_M_now := h
  have h2 := h.2.2.2.1.1
  have h8 := h.2.2.2.1.2
  have hn := h.2.1.2
  have hm8 := h.2.2.2.2.2.2.1.1
  have hKK := h.2.2.2.2.1
  cases nu with
  | zero =>
    refine ⟨ngI 3, v_X_refusedNo + 1, _, _, _, _, r_M_now, upd r_M_refused 1 (r_M_refused 1 + 1), ?_, ?_, hR0.no⟩
    · rw [f_X4_undo, if_neg (by decide)]; rfl
    · rw [f_X5_undo, if_pos (show r_M_now (Int32.toNatClampNeg 2) = 0 from h2)]; rfl
  | succ k =>
    have hX : (0 : Int32) < nI (k + 1) := by show nI 0 < nI (k + 1); rw [n_lt (by omega) (by omega)]; omega
    have hX2 : ¬ nI (k + 1) ≤ (0 : Int32) := by show ¬ nI (k + 1) ≤ nI 0; rw [n_le (by omega) (by omega)]; omega
    have hU : UC r_X_now_markInspector r_X_now_markTrips r_X_now_undoDay r_X_now_undoEvent r_M_now ni (k + 1) nm r_X_now_knownEvent r_X_now_trips := h.2.2.2.2.2.2.2.2
    rcases hU with ⟨d, hd, e1, e2, e3, e4⟩ | ⟨e1, m', em, w, hw, e2, e3, e4⟩
    · refine ⟨nI nm, v_X_refusedNo, nI nm, nI k, upd r_X_now_knownEvent d (r_X_now_undoEvent k), r_X_now_trips, unF r_M_now k 11, r_M_refused, ?_, m_undo (by omega) h2 e3.1, ⟨lw, ni, nm, k, q1, q2, rfl, rfl, OK4_undo (Nat.le_refl _) (by omega) (fun dd hdd => ?_) e3 e4 h⟩, h0, h1, hT, hb, r1, r2, r3⟩
      · rw [f_X4_undo, if_pos hX, f_X0_takeBack, if_neg hX2]
        simp (disch := omega) only [↓n_neg1, ↓n_neg2, ↓n_neg3, ↓n_neg4, ↓n_neg5, ↓n_neg10, n_lit, n_le, n_lt, n_eq, n_cl, n_add, n_mul, n_sub, ckI_n, n_shl1, n_shr, n_and, n_or, bd1_n, n_ng, ng_n, ng_ng, Nat.add_sub_cancel, e1, xday_t hd, if_n1]
        rw [if_neg (by decide)]
        rfl
      · show KOK (upd r_X_now_knownEvent d (r_X_now_undoEvent k) dd)
        by_cases q : dd = d
        · subst q; rw [pk_us]; exact e2
        · rw [pk_un q]; exact (hKK dd hdd).2
    · subst em
      refine ⟨nI m', v_X_refusedNo, nI m', nI k, r_X_now_knownEvent, upd r_X_now_trips w (r_X_now_markTrips m'), unF r_M_now k 11, r_M_refused, ?_, m_undo (by omega) h2 e3.1, ⟨lw, ni, m', k, q1, q2, rfl, rfl, OK4_undo (by omega) (by omega) (fun dd hdd => (hKK dd hdd).2) e3 e4 h⟩, h0, h1, hT, hb, r1, r2, r3⟩
      have hdd : f_X4_isDay (ngI 1) = nI 0 := by decide
      have hm0 : ¬ nI (m' + 1) ≤ (0 : Int32) := by show ¬ nI (m' + 1) ≤ nI 0; rw [n_le (by omega) (by omega)]; omega
      rw [f_X4_undo, if_pos hX, f_X0_takeBack, if_neg hX2, f_X0_dropLastMark, if_neg hm0]
      simp (disch := omega) only [↓n_neg1, ↓n_neg2, ↓n_neg3, ↓n_neg4, ↓n_neg5, ↓n_neg10, n_lit, n_le, n_lt, n_eq, n_cl, n_add, n_mul, n_sub, ckI_n, n_shl1, n_shr, n_and, n_or, bd1_n, n_ng, ng_n, ng_ng, Nat.add_sub_cancel, e1, hdd, e2]
      rfl
