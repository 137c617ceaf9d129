theorem m_anyFit {lw nm : Nat} {f kk kn mi md me mv mt : Nat → Int32} (hl : lw < 65536) (hf1 : f 1 = nI lw) (hk : ∀ d, d < 6 → f (4 + d) = kn d) (hM : MO nm mi md me) (hR : MR nm f mi md me mv mt) (hf3 : f 3 = nI nm) : f_X5_doesAnyFit f kk = some (nI (if 0 < cF (Fw lw nm kn kk mi md me mv mt) 4096 then 1 else 0)) := by
  generalize hF0 : Fw lw nm kn kk mi md me mv mt = F
  have key : ∀ m i : Nat, i ≤ 4096 → 4096 - i < m → cF F i = 0 → lq1 (f_X5_doesAnyFit_B2 f kk) m (nI i) = some (nI (if 0 < cF F 4096 then 1 else 0)) := by
    intro m
    induction m with
    | zero => intro i h1 h2; omega
    | succ m ih =>
      intro i h1 h2 h0
      show f_X5_doesAnyFit_B2 f kk (lq1 (f_X5_doesAnyFit_B2 f kk) m) (nI i) = _
      rcases Nat.lt_or_ge i 4096 with q | q
      · have hb := sB_lt (wrB kk mi md me mv mt i) nm
        have hb2 : sB (wrB kk mi md me mv mt i) nm < 2 ^ 31 := Nat.lt_of_lt_of_le hb (Nat.pow_le_pow_right (by omega) (by have := hM.1; omega))
        have hFw : F i = (isW lw kn i && (sB (wrB kk mi md me mv mt i) nm == 0)) := by rw [← hF0]; rfl
        simp (disch := omega) only [f_X5_doesAnyFit_B2, ↓n_neg1, ↓n_neg2, ↓n_neg3, ↓n_neg4, ↓n_neg5, ↓n_neg10, n_lit, n_le, n_lt, n_eq, n_cl, n_add, n_mul, n_sub, ckI_n, n_shl1, n_shr, n_and, n_or, bd1_n, n_ng, ng_n, ng_ng, m_isWorld hl hf1 hk q, m_wrongIn hM hR hf3 q]
        rw [if_neg (by omega)]
        cases hi : isW lw kn i with
        | false =>
          rw [hi] at hFw
          rw [if_neg Bool.false_ne_true, if_pos rfl]
          exact ih (i + 1) q (by omega) (by rw [cF_s, hFw, h0]; rfl)
        | true =>
          rw [hi, Bool.true_and] at hFw
          rw [if_pos rfl, if_neg (by decide)]
          by_cases z : sB (wrB kk mi md me mv mt i) nm = 0
          · rw [if_pos z]
            have hT : F i = true := by rw [hFw, z]; rfl
            have : 0 < cF F 4096 := sN_pos.mpr ⟨i, q, by show 0 < (if F i then 1 else 0); rw [hT]; decide⟩
            rw [if_pos this]
          · rw [if_neg z]
            have hN : F i = false := by rw [hFw]; simpa using z
            exact ih (i + 1) q (by omega) (by rw [cF_s, hN, h0]; rfl)
      · have e : i = 4096 := by omega
        subst e
        simp (disch := omega) only [f_X5_doesAnyFit_B2, ↓n_neg1, ↓n_neg2, ↓n_neg3, ↓n_neg4, ↓n_neg5, ↓n_neg10, n_lit, n_le, n_lt, n_eq, n_cl, n_add, n_mul, n_sub, ckI_n, n_shl1, n_shr, n_and, n_or, bd1_n, n_ng, ng_n, ng_ng]
        rw [if_pos (by omega), if_neg (by omega)]
  exact key FU 0 (by omega) (by have := fu; omega) rfl
theorem st_is (v_X_firstKept : Int32) (v_X_secondKept : Int32) (v_X_above : Int64) (v_X_below : Int64) (v_X_refusedBad : Int32) (v_X_refusedNo : Int32) (v_X_refusedFull : Int32) (v_X_now_laws : Int32) (v_X_now_inspectors : Int32) (v_X_now_marks : Int32) (v_X_now_undos : Int32) (r_X_now_knownEvent : Nat → Int32) (r_X_now_kind : Nat → Int32) (r_X_now_trips : Nat → Int32) (r_X_now_markInspector : Nat → Int32) (r_X_now_markDay : Nat → Int32) (r_X_now_markEvents : Nat → Int32) (r_X_now_markValue : Nat → Int32) (r_X_now_markTrips : Nat → Int32) (r_X_now_undoDay : Nat → Int32) (r_X_now_undoEvent : Nat → Int32) (v_X_spare_laws : Int32) (v_X_spare_inspectors : Int32) (v_X_spare_marks : Int32) (v_X_spare_undos : Int32) (r_X_spare_knownEvent : Nat → Int32) (r_X_spare_kind : Nat → Int32) (r_X_spare_trips : Nat → Int32) (r_X_spare_markInspector : Nat → Int32) (r_X_spare_markDay : Nat → Int32) (r_X_spare_markEvents : Nat → Int32) (r_X_spare_markValue : Nat → Int32) (r_X_spare_markTrips : Nat → Int32) (r_X_spare_undoDay : Nat → Int32) (r_X_spare_undoEvent : Nat → Int32) (v_X_firstImage_laws : Int32) (v_X_firstImage_inspectors : Int32) (v_X_firstImage_marks : Int32) (v_X_firstImage_undos : Int32) (r_X_firstImage_knownEvent : Nat → Int32) (r_X_firstImage_kind : Nat → Int32) (r_X_firstImage_trips : Nat → Int32) (r_X_firstImage_markInspector : Nat → Int32) (r_X_firstImage_markDay : Nat → Int32) (r_X_firstImage_markEvents : Nat → Int32) (r_X_firstImage_markValue : Nat → Int32) (r_X_firstImage_markTrips : Nat → Int32) (r_X_firstImage_undoDay : Nat → Int32) (r_X_firstImage_undoEvent : Nat → Int32) (v_X_secondImage_laws : Int32) (v_X_secondImage_inspectors : Int32) (v_X_secondImage_marks : Int32) (v_X_secondImage_undos : Int32) (r_X_secondImage_knownEvent : Nat → Int32) (r_X_secondImage_kind : Nat → Int32) (r_X_secondImage_trips : Nat → Int32) (r_X_secondImage_markInspector : Nat → Int32) (r_X_secondImage_markDay : Nat → Int32) (r_X_secondImage_markEvents : Nat → Int32) (r_X_secondImage_markValue : Nat → Int32) (r_X_secondImage_markTrips : Nat → Int32) (r_X_secondImage_undoDay : Nat → Int32) (r_X_secondImage_undoEvent : Nat → Int32) (v_X_text_length : Int32) (r_X_text_bytes : Nat → Int32) (r_X_ways_weight : Nat → Int64) (r_X_ways_upTo : Nat → Int64) (r_X_ways_behind : Nat → Int64) (v_M_above : Int64) (v_M_below : Int64) (v_M_bytesLong : Int32) (r_M_now : Nat → Int32) (r_M_kept : Nat → Int32) (r_M_isKept : Nat → Int32) (r_M_refused : Nat → Int32) (r_M_kinds : Nat → Int32) (r_M_bytes : Nat → Int32) (x1 : Int32) (hR : Rel (v_X_now_laws, v_X_now_inspectors, v_X_now_marks, v_X_now_undos, r_X_now_knownEvent, r_X_now_kind, r_X_now_trips, r_X_now_markInspector, r_X_now_markDay, r_X_now_markEvents, r_X_now_markValue, r_X_now_markTrips, r_X_now_undoDay, r_X_now_undoEvent) (v_X_firstImage_laws, v_X_firstImage_inspectors, v_X_firstImage_marks, v_X_firstImage_undos, r_X_firstImage_knownEvent, r_X_firstImage_kind, r_X_firstImage_trips, r_X_firstImage_markInspector, r_X_firstImage_markDay, r_X_firstImage_markEvents, r_X_firstImage_markValue, r_X_firstImage_markTrips, r_X_firstImage_undoDay, r_X_firstImage_undoEvent) (v_X_secondImage_laws, v_X_secondImage_inspectors, v_X_secondImage_marks, v_X_secondImage_undos, r_X_secondImage_knownEvent, r_X_secondImage_kind, r_X_secondImage_trips, r_X_secondImage_markInspector, r_X_secondImage_markDay, r_X_secondImage_markEvents, r_X_secondImage_markValue, r_X_secondImage_markTrips, r_X_secondImage_undoDay, r_X_secondImage_undoEvent) v_X_firstKept v_X_secondKept v_X_text_length r_X_text_bytes v_X_above v_X_below v_X_refusedBad v_X_refusedNo v_X_refusedFull r_M_now r_M_kept r_M_isKept r_M_refused v_M_above v_M_below r_M_bytes v_M_bytesLong) : ∃ (r : Int32) (ov_X_refusedBad : Int32) (ov_X_spare_laws : Int32) (ov_X_spare_inspectors : Int32) (ov_X_spare_marks : Int32) (ov_X_spare_undos : Int32) (or_X_spare_knownEvent : Nat → Int32) (or_X_spare_kind : Nat → Int32) (or_X_spare_trips : Nat → Int32) (or_X_spare_markInspector : Nat → Int32) (or_X_spare_markDay : Nat → Int32) (or_X_spare_markEvents : Nat → Int32) (or_X_spare_markValue : Nat → Int32) (or_X_spare_markTrips : Nat → Int32) (or_X_spare_undoDay : Nat → Int32) (or_X_spare_undoEvent : Nat → Int32) (or_X_ways_weight : Nat → Int64) (or_X_ways_upTo : Nat → Int64) (or_X_ways_behind : Nat → Int64) (or_M_refused : Nat → Int32) (or_M_kinds : Nat → Int32), f_X4_is x1 v_X_refusedBad v_X_now_laws v_X_now_inspectors v_X_now_marks v_X_now_undos r_X_now_knownEvent r_X_now_kind r_X_now_trips r_X_now_markInspector r_X_now_markDay r_X_now_markEvents r_X_now_markValue r_X_now_markTrips r_X_now_undoDay r_X_now_undoEvent v_X_spare_laws v_X_spare_inspectors v_X_spare_marks v_X_spare_undos r_X_spare_knownEvent r_X_spare_kind r_X_spare_trips r_X_spare_markInspector r_X_spare_markDay r_X_spare_markEvents r_X_spare_markValue r_X_spare_markTrips r_X_spare_undoDay r_X_spare_undoEvent r_X_ways_weight r_X_ways_upTo r_X_ways_behind = some (r, ov_X_refusedBad, ov_X_spare_laws, ov_X_spare_inspectors, ov_X_spare_marks, ov_X_spare_undos, or_X_spare_knownEvent, or_X_spare_kind, or_X_spare_trips, or_X_spare_markInspector, or_X_spare_markDay, or_X_spare_markEvents, or_X_spare_markValue, or_X_spare_markTrips, or_X_spare_undoDay, or_X_spare_undoEvent, or_X_ways_weight, or_X_ways_upTo, or_X_ways_behind) ∧ f_X5_is x1 r_M_now r_M_refused r_M_kinds = some (r, or_M_refused, or_M_kinds) ∧ Rel (v_X_now_laws, v_X_now_inspectors, v_X_now_marks, v_X_now_undos, r_X_now_knownEvent, r_X_now_kind, r_X_now_trips, r_X_now_markInspector, r_X_now_markDay, r_X_now_markEvents, r_X_now_markValue, r_X_now_markTrips, r_X_now_undoDay, r_X_now_undoEvent) (v_X_firstImage_laws, v_X_firstImage_inspectors, v_X_firstImage_marks, v_X_firstImage_undos, r_X_firstImage_knownEvent, r_X_firstImage_kind, r_X_firstImage_trips, r_X_firstImage_markInspector, r_X_firstImage_markDay, r_X_firstImage_markEvents, r_X_firstImage_markValue, r_X_firstImage_markTrips, r_X_firstImage_undoDay, r_X_firstImage_undoEvent) (v_X_secondImage_laws, v_X_secondImage_inspectors, v_X_secondImage_marks, v_X_secondImage_undos, r_X_secondImage_knownEvent, r_X_secondImage_kind, r_X_secondImage_trips, r_X_secondImage_markInspector, r_X_secondImage_markDay, r_X_secondImage_markEvents, r_X_secondImage_markValue, r_X_secondImage_markTrips, r_X_secondImage_undoDay, r_X_secondImage_undoEvent) v_X_firstKept v_X_secondKept v_X_text_length r_X_text_bytes v_X_above v_X_below ov_X_refusedBad v_X_refusedNo v_X_refusedFull r_M_now r_M_kept r_M_isKept or_M_refused v_M_above v_M_below r_M_bytes v_M_bytesLong := by
  have hR0 := hR
  obtain ⟨hO, -⟩ := hR
  obtain ⟨lw, ni, nm, nu, q1, q2, q3, q4, h⟩ := hO
  have q1 : v_X_now_laws = nI lw := q1
  have q2 : v_X_now_inspectors = nI ni := q2
  have q3 : v_X_now_marks = nI nm := q3
  subst q1 q2 q3
  have h : OK4 lw ni nm nu r_X_now_knownEvent r_X_now_kind r_X_now_trips r_X_now_markInspector r_X_now_markDay r_X_now_markEvents r_X_now_markValue r_X_now_markTrips r_X_now_undoDay r_X_now_undoEvent r_M_now := h
  have hf0 := h.2.1.1
  have hn := h.2.1.2
  have hc : OK4 lw ni nm nu (va_cpy r_X_now_knownEvent r_X_spare_knownEvent 0 0 6) (va_cpy r_X_now_kind r_X_spare_kind 0 0 4) (va_cpy r_X_now_trips r_X_spare_trips 0 0 4) (va_cpy r_X_now_markInspector r_X_spare_markInspector 0 0 8) (va_cpy r_X_now_markDay r_X_spare_markDay 0 0 8) (va_cpy r_X_now_markEvents r_X_spare_markEvents 0 0 8) (va_cpy r_X_now_markValue r_X_spare_markValue 0 0 8) (va_cpy r_X_now_markTrips r_X_spare_markTrips 0 0 8) (va_cpy r_X_now_undoDay r_X_spare_undoDay 0 0 8) (va_cpy r_X_now_undoEvent r_X_spare_undoEvent 0 0 8) r_M_now := OK4_congr (fun _ _ => rfl) (fun j hj => cpy_in hj) (fun j hj => ⟨cpy_in hj, cpy_in hj⟩) (fun j hj => ⟨cpy_in hj, cpy_in hj, cpy_in hj, cpy_in hj, cpy_in hj, cpy_in hj, cpy_in hj⟩) h
  rcases rng x1 ni (by omega) with ⟨x, hx, rfl, hz⟩ | hz
  · have hcp : f_X0_copyFrom v_X_spare_laws v_X_spare_inspectors v_X_spare_marks v_X_spare_undos r_X_spare_knownEvent r_X_spare_kind r_X_spare_trips r_X_spare_markInspector r_X_spare_markDay r_X_spare_markEvents r_X_spare_markValue r_X_spare_markTrips r_X_spare_undoDay r_X_spare_undoEvent (nI lw) (nI ni) (nI nm) v_X_now_undos r_X_now_knownEvent r_X_now_kind r_X_now_trips r_X_now_markInspector r_X_now_markDay r_X_now_markEvents r_X_now_markValue r_X_now_markTrips r_X_now_undoDay r_X_now_undoEvent = some (nI lw, nI ni, nI nm, v_X_now_undos, va_cpy r_X_now_knownEvent r_X_spare_knownEvent 0 0 6, va_cpy r_X_now_kind r_X_spare_kind 0 0 4, va_cpy r_X_now_trips r_X_spare_trips 0 0 4, va_cpy r_X_now_markInspector r_X_spare_markInspector 0 0 8, va_cpy r_X_now_markDay r_X_spare_markDay 0 0 8, va_cpy r_X_now_markEvents r_X_spare_markEvents 0 0 8, va_cpy r_X_now_markValue r_X_spare_markValue 0 0 8, va_cpy r_X_now_markTrips r_X_spare_markTrips 0 0 8, va_cpy r_X_now_undoDay r_X_spare_undoDay 0 0 8, va_cpy r_X_now_undoEvent r_X_spare_undoEvent 0 0 8) := rfl
    generalize va_cpy r_X_now_knownEvent r_X_spare_knownEvent 0 0 6 = kn at hc hcp
    generalize va_cpy r_X_now_kind r_X_spare_kind 0 0 4 = kd at hc hcp
    generalize va_cpy r_X_now_trips r_X_spare_trips 0 0 4 = tr at hc hcp
    generalize va_cpy r_X_now_markInspector r_X_spare_markInspector 0 0 8 = mi at hc hcp
    generalize va_cpy r_X_now_markDay r_X_spare_markDay 0 0 8 = md at hc hcp
    generalize va_cpy r_X_now_markEvents r_X_spare_markEvents 0 0 8 = me at hc hcp
    generalize va_cpy r_X_now_markValue r_X_spare_markValue 0 0 8 = mv at hc hcp
    generalize va_cpy r_X_now_markTrips r_X_spare_markTrips 0 0 8 = mt at hc hcp
    generalize va_cpy r_X_now_undoDay r_X_spare_undoDay 0 0 8 = ud at hc hcp
    generalize va_cpy r_X_now_undoEvent r_X_spare_undoEvent 0 0 8 = ue at hc hcp
    obtain ⟨⟨a1, a2⟩, ⟨b1, b2⟩, c1, d1, e1, f1, g1, k1, -⟩ := hc
    have hM := g1.mo b2
    obtain ⟨C, hC⟩ : ∃ C : Nat → Nat, ∀ y, cF (Fw lw nm kn (upd kd x (nI y)) mi md me mv mt) 4096 = C y := ⟨_, fun _ => rfl⟩
    have hC4 : ∀ y, C y ≤ 4096 := fun y => by rw [← hC]; exact cF_le _ _
    have hFK : ∀ (y : Nat) (kk : Nat → Int32), (∀ w, w < ni → w ≠ x → kk w = kd w) → kk x = nI y → cF (Fw lw nm kn kk mi md me mv mt) 4096 = C y := by
      intro y kk h1 h2
      rw [← hC, Fw_congr]
      intro j hj
      obtain ⟨⟨w, hw, ew⟩, -⟩ := g1.2 j hj
      rw [ew, n_cl (by omega)]
      by_cases q : w = x
      · subst q; rw [h2, pk_us]
      · rw [pk_un q]; exact h1 w hw q
    obtain ⟨r, hr, hq⟩ := lq20_inv (body := f_X4_is_B28 (nI x)) (fun i y2 y3 y4 y5 _ y7 _ y9 y10 _ y12 y13 y14 y15 y16 _ _ _ _ _ => y2 = nI (sB (fun j => decide (0 < C j)) i) ∧ y3 = nI i ∧ y4 = v_X_refusedBad ∧ y5 = nI lw ∧ y7 = nI nm ∧ y9 = kn ∧ (∀ w, w < ni → w ≠ x → y10 w = kd w) ∧ y12 = mi ∧ y13 = md ∧ y14 = me ∧ y15 = mv ∧ y16 = mt) (fun r => r.1 = nI (sB (fun j => decide (0 < C j)) 6) ∧ r.2.1 = v_X_refusedBad) 6 (fun k i y2 y3 y4 y5 y6 y7 y8 y9 y10 y11 y12 y13 y14 y15 y16 y17 y18 g u b hi hI => by
        obtain ⟨rfl, rfl, rfl, rfl, rfl, rfl, h10, rfl, rfl, rfl, rfl, rfl⟩ := hI
        have hk' : ∀ w, w < ni → w ≠ x → upd y10 x (nI i) w = kd w := fun w hw q => by rw [pk_un q]; exact h10 w hw q
        obtain ⟨w2, u2, b2', t1, t2, t3, -⟩ := x_fits (lost := 0) (kn := y9) (kd := upd y10 x (nI i)) (mv := y15) (mt := y16) (g := g) (u := u) (b := b) a2 hM
        rw [show Gw lw nm 0 y9 (upd y10 x (nI i)) y12 y13 y14 y15 y16 = Fw lw nm y9 (upd y10 x (nI i)) y12 y13 y14 y15 y16 from funext (fun w => G_0 w), hFK i _ hk' pk_us] at t3
        have hc : lg_cmp (lN (C i)) (0 : Int64) ≤ nI 0 ↔ ¬ 0 < C i := by
          show lg_cmp (lN (C i)) (lN 0) ≤ 0 ↔ ¬ 0 < C i
          rw [lg_le, l_le (by have := hC4 i; omega) (by omega)]; omega
        refine ⟨nI (sB (fun j => decide (0 < C j)) (i + 1)), nI (i + 1), y4, nI lw, y6, nI nm, y8, y9, upd y10 x (nI i), y11, y12, y13, y14, y15, y16, y17, y18, w2, u2, b2', ⟨rfl, rfl, rfl, rfl, rfl, rfl, hk', rfl, rfl, rfl, rfl, rfl⟩, ?_⟩
        simp (disch := omega) only [f_X4_is_B28, ↓n_neg1, ↓n_neg2, ↓n_neg3, ↓n_neg4, ↓n_neg5, ↓n_neg10, n_lit, n_le, n_lt, n_eq, n_cl, n_add, n_mul, n_sub, ckI_n, n_shl1, n_shr, n_and, n_or, bd1_n, n_ng, ng_n, ng_ng, t1]
        rw [if_neg (by omega), t2, bd2_n, t3, bd1_n]
        by_cases c : 0 < C i
        · rw [if_neg (fun q => hc.mp q c), sB_or _ _ (decide_eq_true c)]
        · rw [if_pos (hc.mpr c), sB_no _ _ (decide_eq_false c)]) (fun k y2 y3 y4 y5 y6 y7 y8 y9 y10 y11 y12 y13 y14 y15 y16 y17 y18 g u b hI => by
        obtain ⟨rfl, rfl, rfl, -⟩ := hI
        refine ⟨(nI (sB (fun j => decide (0 < C j)) 6), y4, y5, y6, y7, y8, y9, y10, y11, y12, y13, y14, y15, y16, y17, y18, g, u, b), ?_, rfl, rfl⟩
        simp (disch := omega) only [f_X4_is_B28, ↓n_neg1, ↓n_neg2, ↓n_neg3, ↓n_neg4, ↓n_neg5, ↓n_neg10, n_lit, n_le, n_lt, n_eq, n_cl, n_add, n_mul, n_sub, ckI_n, n_shl1, n_shr, n_and, n_or, bd1_n, n_ng, ng_n, ng_ng]
        rw [if_pos (by omega)]) (n := FU) (by have := fu; omega) (a0 := nI 0) (a1 := nI 0) (a2 := v_X_refusedBad) (a3 := nI lw) (a4 := nI ni) (a5 := nI nm) (a6 := v_X_now_undos) (a7 := kn) (a8 := kd) (a9 := tr) (a10 := mi) (a11 := md) (a12 := me) (a13 := mv) (a14 := mt) (a15 := ud) (a16 := ue) (a17 := r_X_ways_weight) (a18 := r_X_ways_upTo) (a19 := r_X_ways_behind) ⟨rfl, rfl, rfl, rfl, rfl, rfl, fun _ _ _ => rfl, rfl, rfl, rfl, rfl, rfl⟩
    obtain ⟨rm, hrm, hqm⟩ := lq4_inv (body := f_X5_is_B23 (nI x) r_M_now) (fun i y2 y3 y4 y5 => y2 = nI (sB (fun j => decide (0 < C j)) i) ∧ y3 = nI i ∧ y4 = r_M_refused ∧ (∀ w, w < ni → w ≠ x → y5 w = kd w)) (fun r => r.1 = nI (sB (fun j => decide (0 < C j)) 6) ∧ r.2.1 = r_M_refused) 6 (fun k i y2 y3 y4 y5 hi hI => by
        obtain ⟨rfl, rfl, rfl, h10⟩ := hI
        have hk' : ∀ w, w < ni → w ≠ x → upd y5 x (nI i) w = kd w := fun w hw q => by rw [pk_un q]; exact h10 w hw q
        have hA := m_anyFit (kk := upd y5 x (nI i)) a2 a1 (fun d hd => (e1 d hd).1) hM k1 c1
        rw [hFK i _ hk' pk_us] at hA
        refine ⟨nI (sB (fun j => decide (0 < C j)) (i + 1)), nI (i + 1), y4, upd y5 x (nI i), ⟨rfl, rfl, rfl, hk'⟩, ?_⟩
        simp (disch := omega) only [f_X5_is_B23, ↓n_neg1, ↓n_neg2, ↓n_neg3, ↓n_neg4, ↓n_neg5, ↓n_neg10, n_lit, n_le, n_lt, n_eq, n_cl, n_add, n_mul, n_sub, ckI_n, n_shl1, n_shr, n_and, n_or, bd1_n, n_ng, ng_n, ng_ng, hA]
        rw [if_neg (by omega)]
        by_cases c : 0 < C i
        · rw [if_pos c, if_neg (by decide), sB_or _ _ (decide_eq_true c)]
        · rw [if_neg c, if_pos rfl, Nat.or_zero, sB_no _ _ (decide_eq_false c)]) (fun k y2 y3 y4 y5 hI => by
        obtain ⟨rfl, rfl, rfl, -⟩ := hI
        refine ⟨(nI (sB (fun j => decide (0 < C j)) 6), y4, y5), ?_, rfl, rfl⟩
        simp (disch := omega) only [f_X5_is_B23, ↓n_neg1, ↓n_neg2, ↓n_neg3, ↓n_neg4, ↓n_neg5, ↓n_neg10, n_lit, n_le, n_lt, n_eq, n_cl, n_add, n_mul, n_sub, ckI_n, n_shl1, n_shr, n_and, n_or, bd1_n, n_ng, ng_n, ng_ng]
        rw [if_pos (by omega)]) (n := FU) (by have := fu; omega) (a0 := nI 0) (a1 := nI 0) (a2 := r_M_refused) (a3 := fillI (fun i => r_M_now (14 + i)) r_M_kinds ni) ⟨rfl, rfl, rfl, fun w hw _ => by rw [fillI_in hw]; exact (f1 w hw).1⟩
    obtain ⟨o1, o2, o3, o4, o5, o6, o7, o8, o9, o10, o11, o12, o13, o14, o15, o16, o17, o18, o19⟩ := r
    obtain ⟨p1, p2, p3⟩ := rm
    obtain ⟨hq, hq'⟩ := hq
    obtain ⟨hqm, hqm'⟩ := hqm
    have hq : o1 = nI (sB (fun j => decide (0 < C j)) 6) := hq
    have hq' : o2 = v_X_refusedBad := hq'
    have hqm : p1 = nI (sB (fun j => decide (0 < C j)) 6) := hqm
    have hqm' : p2 = r_M_refused := hqm'
    subst hq hq' hqm hqm'
    refine ⟨nI (sB (fun j => decide (0 < C j)) 6), o2, o3, o4, o5, o6, o7, o8, o9, o10, o11, o12, o13, o14, o15, o16, o17, o18, o19, p2, p3, ?_, ?_, hR0⟩
    · rw [f_X4_is, xone_t hx hn, if_n1, hcp]
      exact hr
    · rw [f_X5_is, mone_t hf0 hx hn, if_n1, m_layKinds hn hf0, bd1_n]
      exact hrm
  · refine ⟨ngI 2, v_X_refusedBad + 1, v_X_spare_laws, v_X_spare_inspectors, v_X_spare_marks, v_X_spare_undos, r_X_spare_knownEvent, r_X_spare_kind, r_X_spare_trips, r_X_spare_markInspector, r_X_spare_markDay, r_X_spare_markEvents, r_X_spare_markValue, r_X_spare_markTrips, r_X_spare_undoDay, r_X_spare_undoEvent, r_X_ways_weight, r_X_ways_upTo, r_X_ways_behind, upd r_M_refused 0 (r_M_refused 0 + 1), r_M_kinds, ?_, ?_, hR0.bad⟩
    · rw [f_X4_is, xone_f hn hz, if_n0]; rfl
    · rw [f_X5_is, mone_f hf0 hn hz, if_n0]; rfl
