theorem or_lt16 {a k : Nat} (ha : a < 65536) (hk : k < 16) : a ||| 2 ^ k < 65536 := by
  have h1 : a < 2 ^ 16 := ha
  have h2 : 2 ^ k < 2 ^ 16 := Nat.pow_lt_pow_right (by omega) hk
  exact Nat.or_lt_two_pow h1 h2
theorem st_never (v_X_firstKept : Int32) (v_X_secondKept : Int32) (v_X_above : Int64) (v_X_below : Int64) (v_X_refusedBad : Int32) (v_X_refusedNo : Int32) (v_X_refusedFull : Int32) (v_X_now_laws : Int32) (v_X_now_inspectors : Int32) (v_X_now_marks : Int32) (v_X_now_undos : Int32) (r_X_now_knownEvent : Nat → Int32) (r_X_now_kind : Nat → Int32) (r_X_now_trips : Nat → Int32) (r_X_now_markInspector : Nat → Int32) (r_X_now_markDay : Nat → Int32) (r_X_now_markEvents : Nat → Int32) (r_X_now_markValue : Nat → Int32) (r_X_now_markTrips : Nat → Int32) (r_X_now_undoDay : Nat → Int32) (r_X_now_undoEvent : Nat → Int32) (v_X_firstImage_laws : Int32) (v_X_firstImage_inspectors : Int32) (v_X_firstImage_marks : Int32) (v_X_firstImage_undos : Int32) (r_X_firstImage_knownEvent : Nat → Int32) (r_X_firstImage_kind : Nat → Int32) (r_X_firstImage_trips : Nat → Int32) (r_X_firstImage_markInspector : Nat → Int32) (r_X_firstImage_markDay : Nat → Int32) (r_X_firstImage_markEvents : Nat → Int32) (r_X_firstImage_markValue : Nat → Int32) (r_X_firstImage_markTrips : Nat → Int32) (r_X_firstImage_undoDay : Nat → Int32) (r_X_firstImage_undoEvent : Nat → Int32) (v_X_secondImage_laws : Int32) (v_X_secondImage_inspectors : Int32) (v_X_secondImage_marks : Int32) (v_X_secondImage_undos : Int32) (r_X_secondImage_knownEvent : Nat → Int32) (r_X_secondImage_kind : Nat → Int32) (r_X_secondImage_trips : Nat → Int32) (r_X_secondImage_markInspector : Nat → Int32) (r_X_secondImage_markDay : Nat → Int32) (r_X_secondImage_markEvents : Nat → Int32) (r_X_secondImage_markValue : Nat → Int32) (r_X_secondImage_markTrips : Nat → Int32) (r_X_secondImage_undoDay : Nat → Int32) (r_X_secondImage_undoEvent : Nat → Int32) (v_X_text_length : Int32) (r_X_text_bytes : Nat → Int32) (v_M_above : Int64) (v_M_below : Int64) (v_M_bytesLong : Int32) (r_M_now : Nat → Int32) (r_M_kept : Nat → Int32) (r_M_isKept : Nat → Int32) (r_M_refused : Nat → Int32) (r_M_bytes : Nat → Int32) (x1 : Int32) (x2 : Int32) (hR : Rel (v_X_now_laws, v_X_now_inspectors, v_X_now_marks, v_X_now_undos, r_X_now_knownEvent, r_X_now_kind, r_X_now_trips, r_X_now_markInspector, r_X_now_markDay, r_X_now_markEvents, r_X_now_markValue, r_X_now_markTrips, r_X_now_undoDay, r_X_now_undoEvent) (v_X_firstImage_laws, v_X_firstImage_inspectors, v_X_firstImage_marks, v_X_firstImage_undos, r_X_firstImage_knownEvent, r_X_firstImage_kind, r_X_firstImage_trips, r_X_firstImage_markInspector, r_X_firstImage_markDay, r_X_firstImage_markEvents, r_X_firstImage_markValue, r_X_firstImage_markTrips, r_X_firstImage_undoDay, r_X_firstImage_undoEvent) (v_X_secondImage_laws, v_X_secondImage_inspectors, v_X_secondImage_marks, v_X_secondImage_undos, r_X_secondImage_knownEvent, r_X_secondImage_kind, r_X_secondImage_trips, r_X_secondImage_markInspector, r_X_secondImage_markDay, r_X_secondImage_markEvents, r_X_secondImage_markValue, r_X_secondImage_markTrips, r_X_secondImage_undoDay, r_X_secondImage_undoEvent) v_X_firstKept v_X_secondKept v_X_text_length r_X_text_bytes v_X_above v_X_below v_X_refusedBad v_X_refusedNo v_X_refusedFull r_M_now r_M_kept r_M_isKept r_M_refused v_M_above v_M_below r_M_bytes v_M_bytesLong) : ∃ (r : Int32) (ov_X_refusedBad : Int32) (ov_X_now_laws : Int32) (ov_X_now_undos : Int32) (or_M_now : Nat → Int32) (or_M_refused : Nat → Int32), f_X4_never x1 x2 v_X_refusedBad v_X_now_laws v_X_now_undos = some (r, ov_X_refusedBad, ov_X_now_laws, ov_X_now_undos) ∧ f_X5_never x1 x2 r_M_now r_M_refused = some (r, or_M_now, or_M_refused) ∧ Rel (ov_X_now_laws, v_X_now_inspectors, v_X_now_marks, ov_X_now_undos, r_X_now_knownEvent, r_X_now_kind, r_X_now_trips, r_X_now_markInspector, r_X_now_markDay, r_X_now_markEvents, r_X_now_markValue, r_X_now_markTrips, r_X_now_undoDay, r_X_now_undoEvent) (v_X_firstImage_laws, v_X_firstImage_inspectors, v_X_firstImage_marks, v_X_firstImage_undos, r_X_firstImage_knownEvent, r_X_firstImage_kind, r_X_firstImage_trips, r_X_firstImage_markInspector, r_X_firstImage_markDay, r_X_firstImage_markEvents, r_X_firstImage_markValue, r_X_firstImage_markTrips, r_X_firstImage_undoDay, r_X_firstImage_undoEvent) (v_X_secondImage_laws, v_X_secondImage_inspectors, v_X_secondImage_marks, v_X_secondImage_undos, r_X_secondImage_knownEvent, r_X_secondImage_kind, r_X_secondImage_trips, r_X_secondImage_markInspector, r_X_secondImage_markDay, r_X_secondImage_markEvents, r_X_secondImage_markValue, r_X_secondImage_markTrips, r_X_secondImage_undoDay, r_X_secondImage_undoEvent) v_X_firstKept v_X_secondKept v_X_text_length r_X_text_bytes v_X_above v_X_below ov_X_refusedBad v_X_refusedNo v_X_refusedFull or_M_now r_M_kept r_M_isKept or_M_refused v_M_above v_M_below r_M_bytes v_M_bytesLong := by
  have hR0 := hR
  obtain ⟨⟨lw, ni, nm, nu, q1, q2, q3, q4, h⟩, hrest⟩ := hR
  have q1 : v_X_now_laws = nI lw := q1
  have q4 : v_X_now_undos = nI nu := q4
  subst q1 q4
  obtain ⟨⟨a1, a2⟩, b, c1, ⟨d1, d2⟩, e1, f1, g1, k1, l1⟩ := h
  have B1 : ∀ a b c : Int32, f_X4_never_J14 a b c = some (ngI 2, a + 1, b, c) := fun _ _ _ => rfl
  have B2 : ∀ a b : Nat → Int32, f_X5_never_J14 a b = some (ngI 2, a, upd b 0 (b 0 + 1)) := fun _ _ => rfl
  rcases rng x1 4 (by omega) with ⟨a, ha, rfl, hz⟩ | hz
  · rcases rng x2 4 (by omega) with ⟨b', hb', rfl, hy⟩ | hy
    · have hk : lw ||| 2 ^ (4 * a + b') < 65536 := or_lt16 a2 (by omega)
      refine ⟨nI (pc 31 (lw ||| 2 ^ (4 * a + b'))), v_X_refusedBad, nI (lw ||| 2 ^ (4 * a + b')), nI 0, upd (upd r_M_now 1 (nI (lw ||| 2 ^ (4 * a + b')))) 2 (nI 0), r_M_refused, ?_, ?_, ⟨⟨lw ||| 2 ^ (4 * a + b'), ni, nm, 0, rfl, q2, q3, rfl, ?_⟩, hrest⟩⟩
      · rw [f_X4_never, xev_t ha, if_n1, xev_t hb', if_n1]
        simp (disch := omega) only [f_X0_addLaw, ↓n_neg1, ↓n_neg2, ↓n_neg3, ↓n_neg4, ↓n_neg5, ↓n_neg10, n_lit, n_le, n_lt, n_eq, n_cl, n_add, n_mul, n_sub, ckI_n, n_shl1, n_shr, n_and, n_or, bd1_n, n_ng, ng_n, ng_ng, m_bitCount16 hk]
      · rw [f_X5_never, mev_t ha, if_n1, mev_t hb', if_n1]
        simp (disch := omega) only [↓n_neg1, ↓n_neg2, ↓n_neg3, ↓n_neg4, ↓n_neg5, ↓n_neg10, n_lit, n_le, n_lt, n_eq, n_cl, n_add, n_mul, n_sub, ckI_n, n_shl1, n_shr, n_and, n_or, bd1_n, n_ng, ng_n, ng_ng, a1]
        rw [show upd (upd r_M_now 1 (nI (lw ||| 2 ^ (4 * a + b')))) 2 (nI 0) 1 = nI (lw ||| 2 ^ (4 * a + b')) from rfl, m_bits (by omega)]
        rfl
      · have hu : ∀ j, j ≠ 1 → j ≠ 2 → upd (upd r_M_now 1 (nI (lw ||| 2 ^ (4 * a + b')))) 2 (nI 0) j = r_M_now j := fun j z1 z2 => by rw [pk_un z2, pk_un z1]
        refine ⟨⟨rfl, hk⟩, ⟨by rw [hu _ (by omega) (by omega)]; exact b.1, b.2⟩, by rw [hu _ (by omega) (by omega)]; exact c1, ⟨rfl, by omega⟩, fun d hd => ?_, fun i hi => ?_, g1, fun j hj => ?_, trivial⟩
        · rw [hu _ (by omega) (by omega)]; exact e1 d hd
        · rw [hu _ (by omega) (by omega), hu _ (by omega) (by omega)]; exact f1 i hi
        · rw [hu _ (by omega) (by omega), hu _ (by omega) (by omega), hu _ (by omega) (by omega), hu _ (by omega) (by omega), hu _ (by omega) (by omega)]; exact k1 j hj
    · exact ⟨_, _, _, _, _, _, by rw [f_X4_never, xev_t ha, if_n1, xev_f hy, if_n0, B1], by rw [f_X5_never, mev_t ha, if_n1, mev_f hy, if_n0, B2], hR0.bad⟩
  · exact ⟨_, _, _, _, _, _, by rw [f_X4_never, xev_f hz, if_n0, B1], by rw [f_X5_never, mev_f hz, if_n0, B2], hR0.bad⟩
theorem st_one (v_X_firstKept : Int32) (v_X_secondKept : Int32) (v_X_above : Int64) (v_X_below : Int64) (v_X_refusedBad : Int32) (v_X_refusedNo : Int32) (v_X_refusedFull : Int32) (v_X_now_laws : Int32) (v_X_now_inspectors : Int32) (v_X_now_marks : Int32) (v_X_now_undos : Int32) (r_X_now_knownEvent : Nat → Int32) (r_X_now_kind : Nat → Int32) (r_X_now_trips : Nat → Int32) (r_X_now_markInspector : Nat → Int32) (r_X_now_markDay : Nat → Int32) (r_X_now_markEvents : Nat → Int32) (r_X_now_markValue : Nat → Int32) (r_X_now_markTrips : Nat → Int32) (r_X_now_undoDay : Nat → Int32) (r_X_now_undoEvent : Nat → Int32) (v_X_firstImage_laws : Int32) (v_X_firstImage_inspectors : Int32) (v_X_firstImage_marks : Int32) (v_X_firstImage_undos : Int32) (r_X_firstImage_knownEvent : Nat → Int32) (r_X_firstImage_kind : Nat → Int32) (r_X_firstImage_trips : Nat → Int32) (r_X_firstImage_markInspector : Nat → Int32) (r_X_firstImage_markDay : Nat → Int32) (r_X_firstImage_markEvents : Nat → Int32) (r_X_firstImage_markValue : Nat → Int32) (r_X_firstImage_markTrips : Nat → Int32) (r_X_firstImage_undoDay : Nat → Int32) (r_X_firstImage_undoEvent : Nat → Int32) (v_X_secondImage_laws : Int32) (v_X_secondImage_inspectors : Int32) (v_X_secondImage_marks : Int32) (v_X_secondImage_undos : Int32) (r_X_secondImage_knownEvent : Nat → Int32) (r_X_secondImage_kind : Nat → Int32) (r_X_secondImage_trips : Nat → Int32) (r_X_secondImage_markInspector : Nat → Int32) (r_X_secondImage_markDay : Nat → Int32) (r_X_secondImage_markEvents : Nat → Int32) (r_X_secondImage_markValue : Nat → Int32) (r_X_secondImage_markTrips : Nat → Int32) (r_X_secondImage_undoDay : Nat → Int32) (r_X_secondImage_undoEvent : Nat → Int32) (v_X_text_length : Int32) (r_X_text_bytes : Nat → Int32) (v_M_above : Int64) (v_M_below : Int64) (v_M_bytesLong : Int32) (r_M_now : Nat → Int32) (r_M_kept : Nat → Int32) (r_M_isKept : Nat → Int32) (r_M_refused : Nat → Int32) (r_M_bytes : Nat → Int32) (x1 : Int32) (x2 : Int32) (hR : Rel (v_X_now_laws, v_X_now_inspectors, v_X_now_marks, v_X_now_undos, r_X_now_knownEvent, r_X_now_kind, r_X_now_trips, r_X_now_markInspector, r_X_now_markDay, r_X_now_markEvents, r_X_now_markValue, r_X_now_markTrips, r_X_now_undoDay, r_X_now_undoEvent) (v_X_firstImage_laws, v_X_firstImage_inspectors, v_X_firstImage_marks, v_X_firstImage_undos, r_X_firstImage_knownEvent, r_X_firstImage_kind, r_X_firstImage_trips, r_X_firstImage_markInspector, r_X_firstImage_markDay, r_X_firstImage_markEvents, r_X_firstImage_markValue, r_X_firstImage_markTrips, r_X_firstImage_undoDay, r_X_firstImage_undoEvent) (v_X_secondImage_laws, v_X_secondImage_inspectors, v_X_secondImage_marks, v_X_secondImage_undos, r_X_secondImage_knownEvent, r_X_secondImage_kind, r_X_secondImage_trips, r_X_secondImage_markInspector, r_X_secondImage_markDay, r_X_secondImage_markEvents, r_X_secondImage_markValue, r_X_secondImage_markTrips, r_X_secondImage_undoDay, r_X_secondImage_undoEvent) v_X_firstKept v_X_secondKept v_X_text_length r_X_text_bytes v_X_above v_X_below v_X_refusedBad v_X_refusedNo v_X_refusedFull r_M_now r_M_kept r_M_isKept r_M_refused v_M_above v_M_below r_M_bytes v_M_bytesLong) : ∃ (r : Int32) (ov_X_refusedBad : Int32) (ov_X_refusedFull : Int32) (ov_X_now_inspectors : Int32) (ov_X_now_undos : Int32) (or_X_now_kind : Nat → Int32) (or_X_now_trips : Nat → Int32) (or_M_now : Nat → Int32) (or_M_refused : Nat → Int32), f_X4_one x1 x2 v_X_refusedBad v_X_refusedFull v_X_now_inspectors v_X_now_undos r_X_now_kind r_X_now_trips = some (r, ov_X_refusedBad, ov_X_refusedFull, ov_X_now_inspectors, ov_X_now_undos, or_X_now_kind, or_X_now_trips) ∧ f_X5_one x1 x2 r_M_now r_M_refused = some (r, or_M_now, or_M_refused) ∧ Rel (v_X_now_laws, ov_X_now_inspectors, v_X_now_marks, ov_X_now_undos, r_X_now_knownEvent, or_X_now_kind, or_X_now_trips, r_X_now_markInspector, r_X_now_markDay, r_X_now_markEvents, r_X_now_markValue, r_X_now_markTrips, r_X_now_undoDay, r_X_now_undoEvent) (v_X_firstImage_laws, v_X_firstImage_inspectors, v_X_firstImage_marks, v_X_firstImage_undos, r_X_firstImage_knownEvent, r_X_firstImage_kind, r_X_firstImage_trips, r_X_firstImage_markInspector, r_X_firstImage_markDay, r_X_firstImage_markEvents, r_X_firstImage_markValue, r_X_firstImage_markTrips, r_X_firstImage_undoDay, r_X_firstImage_undoEvent) (v_X_secondImage_laws, v_X_secondImage_inspectors, v_X_secondImage_marks, v_X_secondImage_undos, r_X_secondImage_knownEvent, r_X_secondImage_kind, r_X_secondImage_trips, r_X_secondImage_markInspector, r_X_secondImage_markDay, r_X_secondImage_markEvents, r_X_secondImage_markValue, r_X_secondImage_markTrips, r_X_secondImage_undoDay, r_X_secondImage_undoEvent) v_X_firstKept v_X_secondKept v_X_text_length r_X_text_bytes v_X_above v_X_below ov_X_refusedBad v_X_refusedNo ov_X_refusedFull or_M_now r_M_kept r_M_isKept or_M_refused v_M_above v_M_below r_M_bytes v_M_bytesLong := by
  have hR0 := hR
  obtain ⟨⟨lw, ni, nm, nu, q1, q2, q3, q4, h⟩, hrest⟩ := hR
  have q2 : v_X_now_inspectors = nI ni := q2
  have q4 : v_X_now_undos = nI nu := q4
  subst q2 q4
  obtain ⟨a, ⟨b1, b2⟩, c1, ⟨d1, d2⟩, e1, f1, ⟨g0, g1⟩, k1, l1⟩ := h
  have B1 : ∀ (a b c d : Int32) (e f : Nat → Int32), f_X4_one_J20 a b c d e f = some (ngI 2, a + 1, b, c, d, e, f) := fun _ _ _ _ _ _ => rfl
  have B2 : ∀ a b : Nat → Int32, f_X5_one_J24 a b = some (ngI 2, a, upd b 0 (b 0 + 1)) := fun _ _ => rfl
  have e6 : (6 : Int32).toInt = 6 := rfl
  have e10 : (10 : Int32).toInt = 10 := rfl
  rcases rng x1 6 (by omega) with ⟨x, hx, rfl, hz⟩ | hz
  · have hin : f_X5_in (Int32.toInt64 (nI x)) 0 5 = nI 1 := in_t (lo := 0) (hi := 5) rfl rfl (by omega) (by omega)
    rcases rng x2 10 (by omega) with ⟨y, hy, rfl, hw⟩ | hw
    · have hin2 : f_X5_in (Int32.toInt64 (nI y)) 0 9 = nI 1 := in_t (lo := 0) (hi := 9) rfl rfl (by omega) (by omega)
      by_cases c : ni < 4
      · refine ⟨nI ni, v_X_refusedBad, v_X_refusedFull, nI (ni + 1), nI 0, upd r_X_now_kind ni (nI x), upd r_X_now_trips ni (nI y), upd (upd (upd (upd r_M_now (14 + ni) (nI x)) (10 + ni) (nI y)) 0 (nI (ni + 1))) 2 (nI 0), r_M_refused, ?_, ?_, ⟨⟨lw, ni + 1, nm, 0, q1, rfl, q3, rfl, ?_⟩, hrest⟩⟩
        · simp (disch := omega) only [f_X4_one, f_X0_addInspector, ↓n_neg1, ↓n_neg2, ↓n_neg3, ↓n_neg4, ↓n_neg5, ↓n_neg10, n_lit, n_le, n_lt, n_eq, n_cl, n_add, n_mul, n_sub, ckI_n, n_shl1, n_shr, n_and, n_or, bd1_n, n_ng, ng_n, ng_ng]
          rw [if_neg (by omega), if_neg (by omega), if_neg (by omega), if_pos (by omega), if_pos c, if_neg (by omega)]
          show some (nI (ni + 1) - nI 1, _) = _
          rw [n_sub (by omega), Nat.add_sub_cancel]
        · rw [f_X5_one, hin, if_n1, hin2, if_n1, f_X5_many, show r_M_now (Int32.toNatClampNeg 0) = nI ni from b1, if_neg (fun q => by rw [show (4 : Int32) = nI 4 from rfl, n_eq (by omega) (by omega)] at q; omega)]
          have hl : f_X5_layOne (nI x) (nI y) 146 r_M_now = some (upd (upd (upd r_M_now (14 + ni) (nI x)) (10 + ni) (nI y)) 0 (nI (ni + 1))) := by
            have z1 : upd r_M_now (14 + ni) (nI x) 0 = nI ni := by rw [pk_un (by omega)]; exact b1
            have z2 : upd (upd r_M_now (14 + ni) (nI x)) (10 + ni) (nI y) 0 = nI ni := by rw [pk_un (by omega)]; exact z1
            simp (disch := omega) only [f_X5_layOne, ↓n_neg1, ↓n_neg2, ↓n_neg3, ↓n_neg4, ↓n_neg5, ↓n_neg10, n_lit, n_le, n_lt, n_eq, n_cl, n_add, n_mul, n_sub, ckI_n, n_shl1, n_shr, n_and, n_or, bd1_n, n_ng, ng_n, ng_ng, b1, z1, z2]
          rw [hl, bd1_n, f_X5_many]
          show some (nI (ni + 1) - nI 1, _) = _
          rw [n_sub (by omega), Nat.add_sub_cancel]; rfl
        · have hu : ∀ j, j ≠ 14 + ni → j ≠ 10 + ni → j ≠ 0 → j ≠ 2 → upd (upd (upd (upd r_M_now (14 + ni) (nI x)) (10 + ni) (nI y)) 0 (nI (ni + 1))) 2 (nI 0) j = r_M_now j := fun j z1 z2 z3 z4 => by rw [pk_un z4, pk_un z3, pk_un z2, pk_un z1]
          refine ⟨⟨by rw [hu _ (by omega) (by omega) (by omega) (by omega)]; exact a.1, a.2⟩, ⟨rfl, by omega⟩, by rw [hu _ (by omega) (by omega) (by omega) (by omega)]; exact c1, ⟨rfl, by omega⟩, fun d hd => ?_, fun i hi => ?_, ⟨g0, fun j hj => ?_⟩, fun j hj => ?_, trivial⟩
          · rw [hu _ (by omega) (by omega) (by omega) (by omega)]; exact e1 d hd
          · by_cases z : i = ni
            · subst z
              constructor
              · rw [pk_un (by omega), pk_un (by omega), pk_un (by omega), pk_us]
                exact pk_us.symm
              · rw [pk_un (by omega), pk_un (by omega), pk_us]
                exact pk_us.symm
            · rw [hu _ (by omega) (by omega) (by omega) (by omega), hu _ (by omega) (by omega) (by omega) (by omega)]
              have := f1 i (by omega)
              exact ⟨by rw [this.1]; exact (pk_un z).symm, by rw [this.2]; exact (pk_un z).symm⟩
          · obtain ⟨⟨w, hw1, hw2⟩, r⟩ := g1 j hj
            exact ⟨⟨w, by omega, hw2⟩, r⟩
          · have h8 : j < 8 := by omega
            rw [hu _ (by omega) (by omega) (by omega) (by omega), hu _ (by omega) (by omega) (by omega) (by omega), hu _ (by omega) (by omega) (by omega) (by omega), hu _ (by omega) (by omega) (by omega) (by omega), hu _ (by omega) (by omega) (by omega) (by omega)]; exact k1 j hj
      · refine ⟨ngI 4, _, _, _, _, _, _, _, _, ?_, ?_, hR0.full⟩
        · simp (disch := omega) only [f_X4_one, ↓n_neg1, ↓n_neg2, ↓n_neg3, ↓n_neg4, ↓n_neg5, ↓n_neg10, n_lit, n_le, n_lt, n_eq, n_cl, n_add, n_mul, n_sub, ckI_n, n_shl1, n_shr, n_and, n_or, bd1_n, n_ng, ng_n, ng_ng, x_full]
          rw [if_neg (by omega), if_neg (by omega), if_neg (by omega), if_pos (by omega), if_neg c]
          rfl
        · rw [f_X5_one, hin, if_n1, hin2, if_n1, f_X5_many, show r_M_now (Int32.toNatClampNeg 0) = nI ni from b1, if_pos (show nI ni = 4 by rw [show ni = 4 by omega]; rfl)]
          rfl
    · have hin2 : f_X5_in (Int32.toInt64 x2) 0 9 = nI 0 := in_f (lo := 0) (hi := 9) rfl rfl (by omega)
      refine ⟨ngI 2, _, _, _, _, _, _, _, _, ?_, by rw [f_X5_one, hin, if_n1, hin2, if_n0, B2], hR0.bad⟩
      rw [f_X4_one, B1, if_neg (not_lt0 (by omega)), if_neg (by rw [i_le, tN _ (by omega), e6]; omega)]
      by_cases c : x2 < 0
      · rw [if_pos c]
      · rw [if_neg c, if_neg (fun q => ?_)]
        rw [i_lt, t0] at c
        rw [i_lt, e10] at q
        omega
  · have hin : f_X5_in (Int32.toInt64 x1) 0 5 = nI 0 := in_f (lo := 0) (hi := 5) rfl rfl (by omega)
    refine ⟨ngI 2, _, _, _, _, _, _, _, _, ?_, by rw [f_X5_one, hin, if_n0, B2], hR0.bad⟩
    rw [f_X4_one, B1]
    by_cases c : x1 < 0
    · rw [if_pos c]
    · rw [if_neg c, if_pos (by
        rw [i_lt, t0] at c
        rw [i_le, e6]
        omega)]
