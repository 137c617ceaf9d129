def RES (r o1 o2 o3 : Int32) (o5 o6 o7 o8 o9 o10 o11 o12 now now' : Nat → Int32) : Prop := (r ≤ 0 ∧ now' = now) ∨ (¬ r ≤ 0 ∧ ∃ (lw ni nm : Nat) (f : Nat → Int32), o1 = nI lw ∧ o2 = nI ni ∧ o3 = nI nm ∧ RO lw ni nm o5 o6 o7 o8 o9 o10 o11 o12 f ∧ ∀ j, j < 58 → now' j = f j)
theorem neg_le : ∀ p, p < 151 → (-10 : Int32) - nI p ≤ 0 := by decide +kernel
theorem m_copy {y1 t0 t1 t2 t3 : Int32} {now f vs : Nat → Int32} : lq9 f_X5_read_B109 FU y1 (0 : Int32) t0 t1 t2 t3 now f vs = some (y1, t0, t1, t2, t3, fillI f now 58, f, vs) := by
  have main : lq9 f_X5_read_B109 FU y1 (nI 0) t0 t1 t2 t3 (fillI f now 0) f vs = some (y1, t0, t1, t2, t3, fillI f now 58, f, vs) := by
    refine lq9_run (fun _ => y1) (fun i => nI i) (fun _ => t0) (fun _ => t1) (fun _ => t2) (fun _ => t3) (fun i => fillI f now i) (fun _ => f) (fun _ => vs) 58 (fun k i hi => ?_) (fun k => ?_) (by have := fu; omega)
    · have hs := fillI_s f now i
      unfold f_X5_read_B109
      rw [if_neg (show ¬ (58 : Int32) ≤ nI i from show ¬ nI 58 ≤ nI i by rw [n_le (by omega) (by omega)]; omega), ckI_n (by omega) (by omega), ckI_n (by omega) (by omega), n_cl (by omega), hs, show nI i + 1 = nI (i + 1) from n_add i 1]
    · unfold f_X5_read_B109
      rw [if_pos (by decide)]
  rw [fillI_0] at main
  exact main
theorem rd_F {q y s : Nat} {a T o1 o2 o3 o4 : Int32} {tok st va o5 o6 o7 o8 o9 o10 o11 o12 o13 o14 : Nat → Int32} (hq : 0 < q) (hy : y ≤ 150) (hs : s < 1000) : lq22 f_X1_makeOffice_B56 q (nI y) a (1 : Int32) (nI s) T tok st va o1 o2 o3 o4 o5 o6 o7 o8 o9 o10 o11 o12 o13 o14 = some ((-10 : Int32) - nI s, a, (1 : Int32), nI s, T, tok, st, va, o1, o2, o3, o4, o5, o6, o7, o8, o9, o10, o11, o12, o13, o14) := by
  obtain ⟨q, rfl⟩ : ∃ z, q = z + 1 := ⟨q - 1, by omega⟩
  show f_X1_makeOffice_B56 (lq22 f_X1_makeOffice_B56 q) (nI y) a (1 : Int32) (nI s) T tok st va o1 o2 o3 o4 o5 o6 o7 o8 o9 o10 o11 o12 o13 o14 = _
  unfold f_X1_makeOffice_B56 f_X1_makeOffice_J90
  rw [if_neg (show ¬ (150 : Int32) < nI y from show ¬ nI 150 < nI y by rw [n_lt (by omega) (by omega)]; omega), if_neg (ne_neg (by omega)), if_neg (ne_neg (by omega))]
section
variable {n m : Nat} {mb tok st va : Nat → Int32} {P C v : Nat → Nat} {L K V : Nat → Int32}
theorem rd_loop (h : TKS n mb tok st va m P C v L K V) {T : Int32} {now : Nat → Int32} : ∀ (Z i y lw ni nm nu q q2 : Nat) (kn kd tr mi md me mv mt ud ue f vs : Nat → Int32), i ≤ m → m - i < Z → Z < q → Z < q2 → 1 ≤ y → y ≤ i → nu ≤ 8 → RO lw ni nm kn kd tr mi md me mv mt f →
    ∃ (r a t fl o1 o2 o3 o4 b1 b2 b3 b4 : Int32) (o5 o6 o7 o8 o9 o10 o11 o12 o13 o14 now' f' vs' : Nat → Int32), lq22 f_X1_makeOffice_B56 q (nI y) (nI i) (nI (C i)) (-1 : Int32) T tok st va (nI lw) (nI ni) (nI nm) (nI nu) kn kd tr mi md me mv mt ud ue = some (r, a, t, fl, T, tok, st, va, o1, o2, o3, o4, o5, o6, o7, o8, o9, o10, o11, o12, o13, o14) ∧ lq8 (f_X5_read_B67 (nI n) mb) q2 (nI y) (nI (P i)) (L i) (K i) (V i) now f vs = some (r, b1, b2, b3, b4, now', f', vs') ∧ RES r o1 o2 o3 o5 o6 o7 o8 o9 o10 o11 o12 now now' := by
  have h150 := h.1.1
  intro Z
  induction Z with
  | zero => intro i y lw ni nm nu q q2 kn kd tr mi md me mv mt ud ue f vs h1 h2; omega
  | succ Z ih =>
    intro i y lw ni nm nu q q2 kn kd tr mi md me mv mt ud ue f vs h1 h2 hq hq2 hy1 hy hu hR
    obtain ⟨q, rfl⟩ : ∃ z, q = z + 1 := ⟨q - 1, by omega⟩
    obtain ⟨q2, rfl⟩ : ∃ z, q2 = z + 1 := ⟨q2 - 1, by omega⟩
    obtain ⟨g1, g2, g3, g4, g5, g6⟩ := h.2.1 i h1
    obtain ⟨k1, k2, k3, k4⟩ := h.2.2.2.1 i h1
    have X : ∀ w, lq22 f_X1_makeOffice_B56 (q + 1) (nI y) (nI i) (nI (C i)) (-1 : Int32) T tok st va (nI lw) (nI ni) (nI nm) (nI nu) kn kd tr mi md me mv mt ud ue = w ↔ f_X1_makeOffice_B56 (lq22 f_X1_makeOffice_B56 q) (nI y) (nI i) (nI (C i)) (-1 : Int32) T tok st va (nI lw) (nI ni) (nI nm) (nI nu) kn kd tr mi md me mv mt ud ue = w := fun w => Iff.rfl
    have M : ∀ w, lq8 (f_X5_read_B67 (nI n) mb) (q2 + 1) (nI y) (nI (P i)) (L i) (K i) (V i) now f vs = w ↔ f_X5_read_B67 (nI n) mb (lq8 (f_X5_read_B67 (nI n) mb) q2) (nI y) (nI (P i)) (L i) (K i) (V i) now f vs = w := fun w => Iff.rfl
    have hyb : ¬ (150 : Int32) < nI y := show ¬ nI 150 < nI y by rw [n_lt (by omega) (by omega)]; omega
    by_cases c0 : C i = 0
    · refine ⟨nI y, nI i, nI (C i), (-1 : Int32), nI lw, nI ni, nI nm, nI nu, nI (P i), L i, K i, V i, kn, kd, tr, mi, md, me, mv, mt, ud, ue, fillI f now 58, f, vs, (X _).mpr ?_, (M _).mpr ?_, Or.inr ⟨?_, lw, ni, nm, f, rfl, rfl, rfl, hR, fun j hj => fillI_in hj⟩⟩
      · unfold f_X1_makeOffice_B56 f_X1_makeOffice_J90
        rw [if_neg hyb, if_pos rfl, if_pos (show nI (C i) = (0 : Int32) by rw [c0]; rfl), if_pos rfl]
      · unfold f_X5_read_B67
        rw [if_pos (k3.mp c0)]
        exact m_copy
      · exact show ¬ nI y ≤ nI 0 by rw [n_le (by omega) (by omega)]; omega
    · have hi := tk_lt h h1 c0
      have hX : f_X1_makeOffice_B56 (lq22 f_X1_makeOffice_B56 q) (nI y) (nI i) (nI (C i)) (-1 : Int32) T tok st va (nI lw) (nI ni) (nI nm) (nI nu) kn kd tr mi md me mv mt ud ue = bd17 (f_X1_takeItem (nI i) (nI (C i)) (-1 : Int32) tok st va (nI lw) (nI ni) (nI nm) (nI nu) kn kd tr mi md me mv mt ud ue) fun u25 u26 u27 u28 u29 u30 u31 u32 u33 u34 u35 u36 u37 u38 u39 u40 u41 => lq22 f_X1_makeOffice_B56 q (nI (y + 1)) u25 u26 u27 T tok st va u28 u29 u30 u31 u32 u33 u34 u35 u36 u37 u38 u39 u40 u41 := by
        rw [f_X1_makeOffice_B56, if_neg hyb, if_pos rfl, if_neg (ne_zero (by omega) c0), show nI y + 1 = nI (y + 1) from n_add y 1]
      rcases item (ud := ud) (ue := ue) (vs := vs) h hi hu hR with ⟨j, lw', ni', nm', nu', kn', kd', tr', mi', md', me', mv', mt', ud', ue', f', vs', w1, w2, w3, w4, w5, w6, w7⟩ | ⟨j, a, z, o1, o2, o3, o4, o5, o6, o7, o8, o9, o10, o11, o12, o13, o14, f', vs', w1, w2, w3, w4⟩
      · obtain ⟨r, a, t, fl, o1, o2, o3, o4, b1, b2, b3, b4, o5, o6, o7, o8, o9, o10, o11, o12, o13, o14, now', f'', vs'', y1, y2, y3⟩ := ih (j + 1) (y + 1) lw' ni' nm' nu' q q2 kn' kd' tr' mi' md' me' mv' mt' ud' ue' f' vs' (by omega) (by omega) (by omega) (by omega) (by omega) (by omega) w4 w5
        refine ⟨r, a, t, fl, o1, o2, o3, o4, b1, b2, b3, b4, o5, o6, o7, o8, o9, o10, o11, o12, o13, o14, now', f'', vs'', (X _).mpr ?_, (M _).mpr ?_, y3⟩
        · rw [hX, w6]; exact y1
        · rw [f_X5_read_B67, if_neg (fun w => c0 (k3.mpr w)), w7, bd7_n, if_neg (by decide), if_pos ((h.2.2.2.1 j (by omega)).2.1.mp w3), h.2.2.1 j w2, bd4_n, show nI y + 1 = nI (y + 1) from n_add y 1]
          exact y2
      · have hpj := (h.2.1 j w1).2.2.2.1
        refine ⟨(-10 : Int32) - nI (P j), a, (1 : Int32), nI (P j), o1, o2, o3, o4, nI (P j), L j, K j, V j, o5, o6, o7, o8, o9, o10, o11, o12, o13, o14, now, f', vs', (X _).mpr ?_, (M _).mpr ?_, Or.inl ⟨neg_le _ (by omega), rfl⟩⟩
        · rw [hX, w2]
          exact rd_F (by omega) (by omega) (by omega)
        · rw [f_X5_read_B67, if_neg (fun w => c0 (k3.mpr w)), w3, bd7_n]
          rcases w4 with e | ⟨e, e2⟩
          · rw [e, if_pos rfl]
          · rw [e, if_neg (by decide), if_neg (fun w => e2 ((h.2.2.2.1 j w1).2.1.mpr w))]
theorem RO_begin (kn kd tr mi md me mv mt g : Nat → Int32) : RO 0 0 0 (fillI (fun _ => ngI 1) kn 6) kd tr mi md me mv mt (begF g) := by
  refine ⟨⟨rfl, by omega⟩, ⟨rfl, by omega⟩, rfl, rfl, fun d hd => ?_, fun i hi => by omega, ⟨by omega, fun j hj => by omega⟩, fun j hj => by omega⟩
  have e : fillI (fun _ => ngI 1) kn 6 d = ngI 1 := fillI_in hd
  rw [e]
  exact ⟨if_pos (by omega), Or.inl rfl⟩
/-- the whole reading -/
theorem rd_all {n : Nat} {b : Nat → Nat} {bb mb tok st va kn kd tr mi md me mv mt ud ue now f vs : Nat → Int32} {T0 a0 t0 f0 x1 x2 x3 x4 s0 s1 s2 s3 : Int32} (hb : TXB n bb mb b) :
    ∃ (r a t fl T o1 o2 o3 o4 b1 b2 b3 b4 : Int32) (tok' st' va' o5 o6 o7 o8 o9 o10 o11 o12 o13 o14 now' f' vs' : Nat → Int32), f_X1_makeOffice a0 t0 f0 (nI n) T0 bb tok st va x1 x2 x3 x4 kn kd tr mi md me mv mt ud ue = some (r, a, t, fl, T, tok', st', va', o1, o2, o3, o4, o5, o6, o7, o8, o9, o10, o11, o12, o13, o14) ∧ f_X5_read (nI n) s0 s1 s2 s3 now mb f vs = some (r, b1, b2, b3, b4, now', f', vs') ∧ RES r o1 o2 o3 o5 o6 o7 o8 o9 o10 o11 o12 now now' := by
  have hFU : 0 < FU := by have := fu; omega
  obtain ⟨m, tok', st', va', P, C, v, L, K, V, e1, e2, h⟩ := text_ok (T0 := T0) (t0 := s0) (t1 := s1) (t2 := s2) (t3 := s3) (tok := tok) (st := st) (va := va) hb
  have h150 := h.1.1
  obtain ⟨g1, g2, g3, g4, g5, g6⟩ := h.2.1 0 (by omega)
  obtain ⟨z0, -⟩ := h.2.2.2.2 0 (by omega)
  have gt : tok' (Int32.toNatClampNeg (0 : Int32)) = nI (C 0) := g1
  unfold f_X1_makeOffice f_X5_read
  rw [x_reset, bd5_n, e1, bd4_n, e2, bd4_n, z0, bd1_n, gt]
  by_cases c4 : C 0 = 4
  · have hm0 := tk_lt h (Nat.zero_le m) (by omega)
    have hA : f_X1_takeIf (1 : Int32) (0 : Int32) (nI (C 0)) (-1 : Int32) tok' st' = some (nI (0 + 1), nI (C (0 + 1)), (-1 : Int32)) := by
      unfold f_X1_takeIf
      rw [if_neg (by decide), show f_X1_advance (0 : Int32) (nI (C 0)) tok' = some (nI (0 + 1), nI (C (0 + 1))) from t_adv h hm0]; rfl
    obtain ⟨k1, k2, k3, k4⟩ := h.2.2.2.1 (0 + 1) (by omega)
    have hp1 := (h.2.1 (0 + 1) (by omega)).2.2.2.1
    rw [if_pos (show nI (C 0) = (4 : Int32) by rw [c4]; rfl), hA, bd3_n, if_pos c4, if_n1, h.2.2.1 0 hm0, bd4_n]
    by_cases c2 : C (0 + 1) = 2
    · have hm1 := tk_lt h (i := 0 + 1) (by omega) (by omega)
      rw [t_stop h hm1 c2, bd3_n, if_pos (k2.mp c2), h.2.2.1 (0 + 1) hm1, bd4_n, m_begin _ (by omega) (by omega), bd1_n]
      obtain ⟨r, a, t, fl, o1, o2, o3, o4, b1, b2, b3, b4, o5, o6, o7, o8, o9, o10, o11, o12, o13, o14, now', f'', vs'', y1, y2, y3⟩ := rd_loop (T := nI (m + 1)) (now := now) h 1000 (0 + 1 + 1) 1 0 0 0 0 FU FU (fillI (fun _ => ngI 1) kn 6) kd tr mi md me mv mt ud ue (begF f) vs (by omega) (by omega) (by have := fu; omega) (by have := fu; omega) (by omega) (by omega) (by omega) (RO_begin _ _ _ _ _ _ _ _ _)
      exact ⟨r, a, t, fl, nI (m + 1), o1, o2, o3, o4, b1, b2, b3, b4, tok', st', va', o5, o6, o7, o8, o9, o10, o11, o12, o13, o14, now', f'', vs'', y1, y2, y3⟩
    · rw [t_stopN h (by omega) c2, bd3_n, if_neg (fun w => c2 (k2.mpr w))]
      exact ⟨(-10 : Int32) - nI (P (0 + 1)), nI (0 + 1), (1 : Int32), nI (P (0 + 1)), nI (m + 1), nI 0, nI 0, nI 0, nI 0, nI (P (0 + 1)), L (0 + 1), K (0 + 1), V (0 + 1), tok', st', va', fillI (fun _ => ngI 1) kn 6, kd, tr, mi, md, me, mv, mt, ud, ue, now, f, vs, rd_F (y := 1) hFU (by omega) (by omega), rfl, Or.inl ⟨neg_le _ (by omega), rfl⟩⟩
  · have hA : f_X1_takeIf (0 : Int32) (0 : Int32) (nI (C 0)) (-1 : Int32) tok' st' = some (nI 0, (1 : Int32), nI (P 0)) := by
      unfold f_X1_takeIf
      rw [if_pos rfl, show f_X1_reject (0 : Int32) (nI (C 0)) (-1 : Int32) st' = some ((1 : Int32), nI (P 0)) from t_rej h (Nat.zero_le m)]; rfl
    rw [if_neg (show ¬ nI (C 0) = (4 : Int32) from fun w => c4 ((n_eq (b := 4) (by omega) (by omega)).mp w)), hA, bd3_n, t_stopF (by omega), bd3_n, if_neg c4, if_n0]
    exact ⟨(-10 : Int32) - nI (P 0), nI 0, (1 : Int32), nI (P 0), nI (m + 1), nI 0, nI 0, nI 0, nI 0, nI (P 0), L 0, K 0, V 0, tok', st', va', fillI (fun _ => ngI 1) kn 6, kd, tr, mi, md, me, mv, mt, ud, ue, now, f, vs, rd_F (y := 1) hFU (by omega) (by omega), rfl, Or.inl ⟨neg_le _ (by omega), rfl⟩⟩
end
theorem st_read (v_X_firstKept : Int32) (v_X_secondKept : Int32) (v_X_above : Int64) (v_X_below : Int64) (v_X_refusedBad : Int32) (v_X_refusedNo : Int32) (v_X_refusedFull : Int32) (v_X_now_laws : Int32) (v_X_now_inspectors : Int32) (v_X_now_marks : Int32) (v_X_now_undos : Int32) (r_X_now_knownEvent : Nat → Int32) (r_X_now_kind : Nat → Int32) (r_X_now_trips : Nat → Int32) (r_X_now_markInspector : Nat → Int32) (r_X_now_markDay : Nat → Int32) (r_X_now_markEvents : Nat → Int32) (r_X_now_markValue : Nat → Int32) (r_X_now_markTrips : Nat → Int32) (r_X_now_undoDay : Nat → Int32) (r_X_now_undoEvent : Nat → Int32) (v_X_spare_laws : Int32) (v_X_spare_inspectors : Int32) (v_X_spare_marks : Int32) (v_X_spare_undos : Int32) (r_X_spare_knownEvent : Nat → Int32) (r_X_spare_kind : Nat → Int32) (r_X_spare_trips : Nat → Int32) (r_X_spare_markInspector : Nat → Int32) (r_X_spare_markDay : Nat → Int32) (r_X_spare_markEvents : Nat → Int32) (r_X_spare_markValue : Nat → Int32) (r_X_spare_markTrips : Nat → Int32) (r_X_spare_undoDay : Nat → Int32) (r_X_spare_undoEvent : Nat → Int32) (v_X_firstImage_laws : Int32) (v_X_firstImage_inspectors : Int32) (v_X_firstImage_marks : Int32) (v_X_firstImage_undos : Int32) (r_X_firstImage_knownEvent : Nat → Int32) (r_X_firstImage_kind : Nat → Int32) (r_X_firstImage_trips : Nat → Int32) (r_X_firstImage_markInspector : Nat → Int32) (r_X_firstImage_markDay : Nat → Int32) (r_X_firstImage_markEvents : Nat → Int32) (r_X_firstImage_markValue : Nat → Int32) (r_X_firstImage_markTrips : Nat → Int32) (r_X_firstImage_undoDay : Nat → Int32) (r_X_firstImage_undoEvent : Nat → Int32) (v_X_secondImage_laws : Int32) (v_X_secondImage_inspectors : Int32) (v_X_secondImage_marks : Int32) (v_X_secondImage_undos : Int32) (r_X_secondImage_knownEvent : Nat → Int32) (r_X_secondImage_kind : Nat → Int32) (r_X_secondImage_trips : Nat → Int32) (r_X_secondImage_markInspector : Nat → Int32) (r_X_secondImage_markDay : Nat → Int32) (r_X_secondImage_markEvents : Nat → Int32) (r_X_secondImage_markValue : Nat → Int32) (r_X_secondImage_markTrips : Nat → Int32) (r_X_secondImage_undoDay : Nat → Int32) (r_X_secondImage_undoEvent : Nat → Int32) (v_X_text_length : Int32) (v_X_text_tokens : Int32) (r_X_text_bytes : Nat → Int32) (r_X_text_token : Nat → Int32) (r_X_text_start : Nat → Int32) (r_X_text_value : Nat → Int32) (v_X_reader_at : Int32) (v_X_reader_token : Int32) (v_X_reader_fault : Int32) (v_M_above : Int64) (v_M_below : Int64) (v_M_bytesLong : Int32) (v_M_tokenAt : Int32) (v_M_tokenLong : Int32) (v_M_token : Int32) (v_M_value : Int32) (r_M_now : Nat → Int32) (r_M_kept : Nat → Int32) (r_M_isKept : Nat → Int32) (r_M_refused : Nat → Int32) (r_M_bytes : Nat → Int32) (r_M_anew : Nat → Int32) (r_M_values : Nat → Int32)  (hR : Rel (v_X_now_laws, v_X_now_inspectors, v_X_now_marks, v_X_now_undos, r_X_now_knownEvent, r_X_now_kind, r_X_now_trips, r_X_now_markInspector, r_X_now_markDay, r_X_now_markEvents, r_X_now_markValue, r_X_now_markTrips, r_X_now_undoDay, r_X_now_undoEvent) (v_X_firstImage_laws, v_X_firstImage_inspectors, v_X_firstImage_marks, v_X_firstImage_undos, r_X_firstImage_knownEvent, r_X_firstImage_kind, r_X_firstImage_trips, r_X_firstImage_markInspector, r_X_firstImage_markDay, r_X_firstImage_markEvents, r_X_firstImage_markValue, r_X_firstImage_markTrips, r_X_firstImage_undoDay, r_X_firstImage_undoEvent) (v_X_secondImage_laws, v_X_secondImage_inspectors, v_X_secondImage_marks, v_X_secondImage_undos, r_X_secondImage_knownEvent, r_X_secondImage_kind, r_X_secondImage_trips, r_X_secondImage_markInspector, r_X_secondImage_markDay, r_X_secondImage_markEvents, r_X_secondImage_markValue, r_X_secondImage_markTrips, r_X_secondImage_undoDay, r_X_secondImage_undoEvent) v_X_firstKept v_X_secondKept v_X_text_length r_X_text_bytes v_X_above v_X_below v_X_refusedBad v_X_refusedNo v_X_refusedFull r_M_now r_M_kept r_M_isKept r_M_refused v_M_above v_M_below r_M_bytes v_M_bytesLong) : ∃ (r : Int32) (ov_X_now_laws : Int32) (ov_X_now_inspectors : Int32) (ov_X_now_marks : Int32) (ov_X_now_undos : Int32) (or_X_now_knownEvent : Nat → Int32) (or_X_now_kind : Nat → Int32) (or_X_now_trips : Nat → Int32) (or_X_now_markInspector : Nat → Int32) (or_X_now_markDay : Nat → Int32) (or_X_now_markEvents : Nat → Int32) (or_X_now_markValue : Nat → Int32) (or_X_now_markTrips : Nat → Int32) (or_X_now_undoDay : Nat → Int32) (or_X_now_undoEvent : Nat → Int32) (ov_X_spare_laws : Int32) (ov_X_spare_inspectors : Int32) (ov_X_spare_marks : Int32) (ov_X_spare_undos : Int32) (or_X_spare_knownEvent : Nat → Int32) (or_X_spare_kind : Nat → Int32) (or_X_spare_trips : Nat → Int32) (or_X_spare_markInspector : Nat → Int32) (or_X_spare_markDay : Nat → Int32) (or_X_spare_markEvents : Nat → Int32) (or_X_spare_markValue : Nat → Int32) (or_X_spare_markTrips : Nat → Int32) (or_X_spare_undoDay : Nat → Int32) (or_X_spare_undoEvent : Nat → Int32) (ov_X_text_tokens : Int32) (or_X_text_token : Nat → Int32) (or_X_text_start : Nat → Int32) (or_X_text_value : Nat → Int32) (ov_X_reader_at : Int32) (ov_X_reader_token : Int32) (ov_X_reader_fault : Int32) (ov_M_tokenAt : Int32) (ov_M_tokenLong : Int32) (ov_M_token : Int32) (ov_M_value : Int32) (or_M_now : Nat → Int32) (or_M_anew : Nat → Int32) (or_M_values : Nat → Int32), f_X4_read v_X_now_laws v_X_now_inspectors v_X_now_marks v_X_now_undos r_X_now_knownEvent r_X_now_kind r_X_now_trips r_X_now_markInspector r_X_now_markDay r_X_now_markEvents r_X_now_markValue r_X_now_markTrips r_X_now_undoDay r_X_now_undoEvent v_X_spare_laws v_X_spare_inspectors v_X_spare_marks v_X_spare_undos r_X_spare_knownEvent r_X_spare_kind r_X_spare_trips r_X_spare_markInspector r_X_spare_markDay r_X_spare_markEvents r_X_spare_markValue r_X_spare_markTrips r_X_spare_undoDay r_X_spare_undoEvent v_X_text_length v_X_text_tokens r_X_text_bytes r_X_text_token r_X_text_start r_X_text_value v_X_reader_at v_X_reader_token v_X_reader_fault = some (r, ov_X_now_laws, ov_X_now_inspectors, ov_X_now_marks, ov_X_now_undos, or_X_now_knownEvent, or_X_now_kind, or_X_now_trips, or_X_now_markInspector, or_X_now_markDay, or_X_now_markEvents, or_X_now_markValue, or_X_now_markTrips, or_X_now_undoDay, or_X_now_undoEvent, ov_X_spare_laws, ov_X_spare_inspectors, ov_X_spare_marks, ov_X_spare_undos, or_X_spare_knownEvent, or_X_spare_kind, or_X_spare_trips, or_X_spare_markInspector, or_X_spare_markDay, or_X_spare_markEvents, or_X_spare_markValue, or_X_spare_markTrips, or_X_spare_undoDay, or_X_spare_undoEvent, ov_X_text_tokens, or_X_text_token, or_X_text_start, or_X_text_value, ov_X_reader_at, ov_X_reader_token, ov_X_reader_fault) ∧ f_X5_read v_M_bytesLong v_M_tokenAt v_M_tokenLong v_M_token v_M_value r_M_now r_M_bytes r_M_anew r_M_values = some (r, ov_M_tokenAt, ov_M_tokenLong, ov_M_token, ov_M_value, or_M_now, or_M_anew, or_M_values) ∧ Rel (ov_X_now_laws, ov_X_now_inspectors, ov_X_now_marks, ov_X_now_undos, or_X_now_knownEvent, or_X_now_kind, or_X_now_trips, or_X_now_markInspector, or_X_now_markDay, or_X_now_markEvents, or_X_now_markValue, or_X_now_markTrips, or_X_now_undoDay, or_X_now_undoEvent) (v_X_firstImage_laws, v_X_firstImage_inspectors, v_X_firstImage_marks, v_X_firstImage_undos, r_X_firstImage_knownEvent, r_X_firstImage_kind, r_X_firstImage_trips, r_X_firstImage_markInspector, r_X_firstImage_markDay, r_X_firstImage_markEvents, r_X_firstImage_markValue, r_X_firstImage_markTrips, r_X_firstImage_undoDay, r_X_firstImage_undoEvent) (v_X_secondImage_laws, v_X_secondImage_inspectors, v_X_secondImage_marks, v_X_secondImage_undos, r_X_secondImage_knownEvent, r_X_secondImage_kind, r_X_secondImage_trips, r_X_secondImage_markInspector, r_X_secondImage_markDay, r_X_secondImage_markEvents, r_X_secondImage_markValue, r_X_secondImage_markTrips, r_X_secondImage_undoDay, r_X_secondImage_undoEvent) v_X_firstKept v_X_secondKept v_X_text_length r_X_text_bytes v_X_above v_X_below v_X_refusedBad v_X_refusedNo v_X_refusedFull or_M_now r_M_kept r_M_isKept r_M_refused v_M_above v_M_below r_M_bytes v_M_bytesLong := by
  have hR0 := hR
  obtain ⟨hO, p0, p1, ⟨n, hn, l1, l2, hbb⟩, p3⟩ := hR
  subst l1 l2
  have hb : TXB n r_X_text_bytes r_M_bytes (fun j => Int32.toNatClampNeg (r_X_text_bytes j)) := by
    refine ⟨hn, fun j hj => ?_⟩
    obtain ⟨q1, c, q2, q3⟩ := hbb j hj
    refine ⟨?_, ?_, ?_⟩
    · show _ = nI (Int32.toNatClampNeg (r_X_text_bytes j))
      rw [q3, n_cl (by omega)]
    · show _ = nI (Int32.toNatClampNeg (r_X_text_bytes j))
      rw [← q1, q3, n_cl (by omega)]
    · show Int32.toNatClampNeg (r_X_text_bytes j) < 128
      rw [q3, n_cl (by omega)]; exact q2
  obtain ⟨r, a, t, fl, T, o1, o2, o3, o4, b1, b2, b3, b4, tok', st', va', o5, o6, o7, o8, o9, o10, o11, o12, o13, o14, now', f', vs', y1, y2, y3⟩ := rd_all (T0 := v_X_text_tokens) (a0 := v_X_reader_at) (t0 := v_X_reader_token) (f0 := v_X_reader_fault) (x1 := v_X_spare_laws) (x2 := v_X_spare_inspectors) (x3 := v_X_spare_marks) (x4 := v_X_spare_undos) (s0 := v_M_tokenAt) (s1 := v_M_tokenLong) (s2 := v_M_token) (s3 := v_M_value) (tok := r_X_text_token) (st := r_X_text_start) (va := r_X_text_value) (kn := r_X_spare_knownEvent) (kd := r_X_spare_kind) (tr := r_X_spare_trips) (mi := r_X_spare_markInspector) (md := r_X_spare_markDay) (me := r_X_spare_markEvents) (mv := r_X_spare_markValue) (mt := r_X_spare_markTrips) (ud := r_X_spare_undoDay) (ue := r_X_spare_undoEvent) (now := r_M_now) (f := r_M_anew) (vs := r_M_values) hb
  rw [f_X4_read, y1, y2]
  rcases y3 with ⟨w1, w2⟩ | ⟨w1, lw, ni, nm, fin, e1, e2, e3, hRO, hfin⟩
  · subst w2
    refine ⟨r, v_X_now_laws, v_X_now_inspectors, v_X_now_marks, v_X_now_undos, r_X_now_knownEvent, r_X_now_kind, r_X_now_trips, r_X_now_markInspector, r_X_now_markDay, r_X_now_markEvents, r_X_now_markValue, r_X_now_markTrips, r_X_now_undoDay, r_X_now_undoEvent, o1, o2, o3, o4, o5, o6, o7, o8, o9, o10, o11, o12, o13, o14, T, tok', st', va', a, t, fl, b1, b2, b3, b4, now', f', vs', ?_, rfl, hR0⟩
    show (if r ≤ 0 then _ else _) = _
    rw [if_pos w1]
  · refine ⟨r, o1, o2, o3, (0 : Int32), va_cpy o5 r_X_now_knownEvent 0 0 6, va_cpy o6 r_X_now_kind 0 0 4, va_cpy o7 r_X_now_trips 0 0 4, va_cpy o8 r_X_now_markInspector 0 0 8, va_cpy o9 r_X_now_markDay 0 0 8, va_cpy o10 r_X_now_markEvents 0 0 8, va_cpy o11 r_X_now_markValue 0 0 8, va_cpy o12 r_X_now_markTrips 0 0 8, va_cpy o13 r_X_now_undoDay 0 0 8, va_cpy o14 r_X_now_undoEvent 0 0 8, o1, o2, o3, (0 : Int32), o5, o6, o7, o8, o9, o10, o11, o12, o13, o14, T, tok', st', va', a, t, fl, b1, b2, b3, b4, now', f', vs', ?_, rfl, ⟨lw, ni, nm, 0, e1, e2, e3, rfl, ?_⟩, p0, p1, ⟨n, hn, rfl, rfl, hbb⟩, p3⟩
    · show (if r ≤ 0 then _ else _) = _
      rw [if_neg w1]
      rfl
    · exact OK4_congr (fun _ _ => rfl) (fun j hj => cpy_in hj) (fun j hj => ⟨cpy_in hj, cpy_in hj⟩) (fun j hj => ⟨cpy_in hj, cpy_in hj, cpy_in hj, cpy_in hj, cpy_in hj, cpy_in hj, cpy_in hj⟩) (hRO.ok4 (ud := o13) (ue := o14) hfin)
