theorem m_year {lw nm s : Nat} {f kk kn mi md me mv mt ref : Nat → Int32} {y5 y6 : Int32} {k44 : _} (hl : lw < 65536) (hf1 : f 1 = nI lw) (hk : ∀ d, d < 6 → f (4 + d) = kn d) (hM : MO nm mi md me) (hR : MR nm f mi md me mv mt) (hf3 : f 3 = nI nm) (hs : s < 2147483648) : lq7 (f_X5_years_B56 f k44) FU (lN s) y5 y6 (nI 0) (nI 0) ref kk = if Fw lw nm kn kk mi md me mv mt (wdN s 6) = true then k44 (lN (sdN s 6)) (y5 + 1) (y6 + 1) ref kk else k44 (lN (sdN s 6)) (y5 + 0) (y6 + 1) ref kk := by
  refine lq7_run (fun i => lN (sdN s i)) (fun _ => y5) (fun _ => y6) (fun i => nI (wdN s i)) (fun i => nI i) (fun _ => ref) (fun _ => kk) 6 (fun k i hi => ?_) (fun k => ?_) (by have := fu; omega)
  · have hsi := sdN_lt hs i
    have eD : lN (sdN s (i + 1)) = f_X4_drawn (lN (sdN s i)) := (x_drawn hsi).symm
    have eW : nI (wdN s (i + 1)) = (4 : Int32) * nI (wdN s i) + nI (evN (sdN s i)) := by
      show _ = nI 4 * nI (wdN s i) + nI (evN (sdN s i))
      rw [n_mul, n_add]; rfl
    rw [eD, eW, ← x_ev hsi]
    unfold f_X5_years_B56
    rw [if_neg (show ¬ (6 : Int32) ≤ nI i from show ¬ nI 6 ≤ nI i by rw [n_le (by omega) (by omega)]; omega), show nI i + 1 = nI (i + 1) from n_add i 1]
    rfl
  · have hw : wdN s 6 < 4096 := wdN_lt s 6
    have hb := sB_lt (wrB kk mi md me mv mt (wdN s 6)) nm
    have hb2 : sB (wrB kk mi md me mv mt (wdN s 6)) nm < 2 ^ 31 := Nat.lt_of_lt_of_le hb (Nat.pow_le_pow_right (by omega) (by have := hM.1; omega))
    have eF : Fw lw nm kn kk mi md me mv mt (wdN s 6) = (isW lw kn (wdN s 6) && (sB (wrB kk mi md me mv mt (wdN s 6)) nm == 0)) := rfl
    generalize wdN s 6 = w at *
    unfold f_X5_years_B56
    rw [if_pos (by decide), m_isWorld hl hf1 hk hw, bd1_n, m_wrongIn hM hR hf3 hw, bd1_n]
    by_cases hi : isW lw kn w = true
    · rw [if_neg (show ¬ nI (if isW lw kn w then 1 else 0) = 0 by rw [hi]; decide)]
      rw [hi, Bool.true_and] at eF
      by_cases z : sB (wrB kk mi md me mv mt w) nm = 0
      · rw [if_pos (show nI (sB (wrB kk mi md me mv mt w) nm) = 0 by rw [z]; rfl), if_pos (by rw [eF, z]; rfl)]
      · rw [if_neg (show ¬ nI (sB (wrB kk mi md me mv mt w) nm) = 0 from show ¬ nI _ = nI 0 by rw [n_eq (by omega) (by omega)]; exact z), if_neg (by rw [eF]; simpa using z)]
    · have hB : isW lw kn w = false := by simpa using hi
      rw [hB, Bool.false_and] at eF
      rw [if_pos (show nI (if isW lw kn w then 1 else 0) = 0 by rw [hB]; rfl), if_neg (by rw [eF]; decide)]
theorem st_years (v_X_firstKept : Int32) (v_X_secondKept : Int32) (v_X_above : Int64) (v_X_below : Int64) (v_X_refusedBad : Int32) (v_X_refusedNo : Int32) (v_X_refusedFull : Int32) (v_X_now_laws : Int32) (v_X_now_inspectors : Int32) (v_X_now_marks : Int32) (v_X_now_undos : Int32) (r_X_now_knownEvent : Nat → Int32) (r_X_now_kind : Nat → Int32) (r_X_now_trips : Nat → Int32) (r_X_now_markInspector : Nat → Int32) (r_X_now_markDay : Nat → Int32) (r_X_now_markEvents : Nat → Int32) (r_X_now_markValue : Nat → Int32) (r_X_now_markTrips : Nat → Int32) (r_X_now_undoDay : Nat → Int32) (r_X_now_undoEvent : Nat → Int32) (v_X_firstImage_laws : Int32) (v_X_firstImage_inspectors : Int32) (v_X_firstImage_marks : Int32) (v_X_firstImage_undos : Int32) (r_X_firstImage_knownEvent : Nat → Int32) (r_X_firstImage_kind : Nat → Int32) (r_X_firstImage_trips : Nat → Int32) (r_X_firstImage_markInspector : Nat → Int32) (r_X_firstImage_markDay : Nat → Int32) (r_X_firstImage_markEvents : Nat → Int32) (r_X_firstImage_markValue : Nat → Int32) (r_X_firstImage_markTrips : Nat → Int32) (r_X_firstImage_undoDay : Nat → Int32) (r_X_firstImage_undoEvent : Nat → Int32) (v_X_secondImage_laws : Int32) (v_X_secondImage_inspectors : Int32) (v_X_secondImage_marks : Int32) (v_X_secondImage_undos : Int32) (r_X_secondImage_knownEvent : Nat → Int32) (r_X_secondImage_kind : Nat → Int32) (r_X_secondImage_trips : Nat → Int32) (r_X_secondImage_markInspector : Nat → Int32) (r_X_secondImage_markDay : Nat → Int32) (r_X_secondImage_markEvents : Nat → Int32) (r_X_secondImage_markValue : Nat → Int32) (r_X_secondImage_markTrips : Nat → Int32) (r_X_secondImage_undoDay : Nat → Int32) (r_X_secondImage_undoEvent : Nat → Int32) (v_X_text_length : Int32) (r_X_text_bytes : Nat → Int32) (r_X_ways_weight : Nat → Int64) (v_M_above : Int64) (v_M_below : Int64) (v_M_bytesLong : Int32) (r_M_now : Nat → Int32) (r_M_kept : Nat → Int32) (r_M_isKept : Nat → Int32) (r_M_refused : Nat → Int32) (r_M_kinds : Nat → Int32) (r_M_bytes : Nat → Int32) (x1 : Int32) (x2 : Int32) (hR : Rel (v_X_now_laws, v_X_now_inspectors, v_X_now_marks, v_X_now_undos, r_X_now_knownEvent, r_X_now_kind, r_X_now_trips, r_X_now_markInspector, r_X_now_markDay, r_X_now_markEvents, r_X_now_markValue, r_X_now_markTrips, r_X_now_undoDay, r_X_now_undoEvent) (v_X_firstImage_laws, v_X_firstImage_inspectors, v_X_firstImage_marks, v_X_firstImage_undos, r_X_firstImage_knownEvent, r_X_firstImage_kind, r_X_firstImage_trips, r_X_firstImage_markInspector, r_X_firstImage_markDay, r_X_firstImage_markEvents, r_X_firstImage_markValue, r_X_firstImage_markTrips, r_X_firstImage_undoDay, r_X_firstImage_undoEvent) (v_X_secondImage_laws, v_X_secondImage_inspectors, v_X_secondImage_marks, v_X_secondImage_undos, r_X_secondImage_knownEvent, r_X_secondImage_kind, r_X_secondImage_trips, r_X_secondImage_markInspector, r_X_secondImage_markDay, r_X_secondImage_markEvents, r_X_secondImage_markValue, r_X_secondImage_markTrips, r_X_secondImage_undoDay, r_X_secondImage_undoEvent) v_X_firstKept v_X_secondKept v_X_text_length r_X_text_bytes v_X_above v_X_below v_X_refusedBad v_X_refusedNo v_X_refusedFull r_M_now r_M_kept r_M_isKept r_M_refused v_M_above v_M_below r_M_bytes v_M_bytesLong) : ∃ (r : Int32) (ov_X_refusedBad : Int32) (or_X_ways_weight : Nat → Int64) (or_M_refused : Nat → Int32) (or_M_kinds : Nat → Int32), f_X4_years x1 x2 v_X_refusedBad v_X_now_laws v_X_now_marks r_X_now_knownEvent r_X_now_kind r_X_now_markInspector r_X_now_markDay r_X_now_markEvents r_X_now_markValue r_X_now_markTrips r_X_ways_weight = some (r, ov_X_refusedBad, or_X_ways_weight) ∧ f_X5_years x1 x2 r_M_now r_M_refused r_M_kinds = some (r, or_M_refused, or_M_kinds) ∧ Rel (v_X_now_laws, v_X_now_inspectors, v_X_now_marks, v_X_now_undos, r_X_now_knownEvent, r_X_now_kind, r_X_now_trips, r_X_now_markInspector, r_X_now_markDay, r_X_now_markEvents, r_X_now_markValue, r_X_now_markTrips, r_X_now_undoDay, r_X_now_undoEvent) (v_X_firstImage_laws, v_X_firstImage_inspectors, v_X_firstImage_marks, v_X_firstImage_undos, r_X_firstImage_knownEvent, r_X_firstImage_kind, r_X_firstImage_trips, r_X_firstImage_markInspector, r_X_firstImage_markDay, r_X_firstImage_markEvents, r_X_firstImage_markValue, r_X_firstImage_markTrips, r_X_firstImage_undoDay, r_X_firstImage_undoEvent) (v_X_secondImage_laws, v_X_secondImage_inspectors, v_X_secondImage_marks, v_X_secondImage_undos, r_X_secondImage_knownEvent, r_X_secondImage_kind, r_X_secondImage_trips, r_X_secondImage_markInspector, r_X_secondImage_markDay, r_X_secondImage_markEvents, r_X_secondImage_markValue, r_X_secondImage_markTrips, r_X_secondImage_undoDay, r_X_secondImage_undoEvent) v_X_firstKept v_X_secondKept v_X_text_length r_X_text_bytes v_X_above v_X_below ov_X_refusedBad v_X_refusedNo v_X_refusedFull r_M_now r_M_kept r_M_isKept or_M_refused v_M_above v_M_below r_M_bytes v_M_bytesLong := by
  have hR0 := hR
  obtain ⟨hO, -⟩ := hR
  obtain ⟨lw, ni, nm, nu, q1, q2, q3, q4, h⟩ := hO
  have q1 : v_X_now_laws = nI lw := q1
  have q3 : v_X_now_marks = nI nm := q3
  subst q1 q3
  have h : OK4 lw ni nm nu r_X_now_knownEvent r_X_now_kind r_X_now_trips r_X_now_markInspector r_X_now_markDay r_X_now_markEvents r_X_now_markValue r_X_now_markTrips r_X_now_undoDay r_X_now_undoEvent r_M_now := h
  obtain ⟨⟨a1, a2⟩, ⟨b1, b2⟩, c1, d1, e1, f1, g1, k1, -⟩ := h
  have hM := g1.mo b2
  have eb : (999999 : Int32).toInt = 999999 := rfl
  have e60 : (60 : Int32).toInt = 60 := rfl
  have B1 : f_X4_years_J20 v_X_refusedBad r_X_ways_weight = some (ngI 2, v_X_refusedBad + 1, r_X_ways_weight) := rfl
  have B2 : f_X5_years_J24 r_M_refused r_M_kinds = some (ngI 2, upd r_M_refused 0 (r_M_refused 0 + 1), r_M_kinds) := rfl
  by_cases r1 : 0 ≤ x1.toInt ∧ x1.toInt ≤ 999999
  · have g1' : ¬ x1 < 0 := by rw [i_lt, t0]; omega
    have g2' : ¬ (999999 : Int32) < x1 := by rw [i_lt, eb]; omega
    obtain ⟨s, hs, es⟩ := vp_in_of (vp_in_iff.mpr ⟨r1.1, by omega⟩ : vp_in x1 1000000) (by omega)
    subst es
    have hin1 : f_X5_in (Int32.toInt64 (nI s)) 0 999999 = nI 1 := in_t (lo := 0) (hi := 999999) rfl rfl r1.1 r1.2
    by_cases r2 : 0 ≤ x2.toInt ∧ x2.toInt ≤ 60
    · have g3 : ¬ x2 < 0 := by rw [i_lt, t0]; omega
      have g4 : x2 ≤ (60 : Int32) := by rw [i_le, e60]; omega
      obtain ⟨y, hy, ey⟩ := vp_in_of (vp_in_iff.mpr ⟨r2.1, by omega⟩ : vp_in x2 61) (by omega)
      subst ey
      have hin2 : f_X5_in (Int32.toInt64 (nI y)) 0 60 = nI 1 := in_t (lo := 0) (hi := 60) rfl rfl r2.1 r2.2
      obtain ⟨w', u', b', t1, -, -, -, tw⟩ := x_fits (lost := 0) (kn := r_X_now_knownEvent) (kd := r_X_now_kind) (mv := r_X_now_markValue) (mt := r_X_now_markTrips) (g := r_X_ways_weight) (u := fun _ => 0) (b := fun _ => 0) a2 hM
      have hkk : ∀ j, j < nm → r_X_now_kind (Int32.toNatClampNeg (r_X_now_markInspector j)) = fillI (fun i => r_M_now (14 + i)) r_M_kinds ni (Int32.toNatClampNeg (r_X_now_markInspector j)) := by
        intro j hj
        obtain ⟨⟨w, hw, ew⟩, -⟩ := g1.2 j hj
        rw [ew, n_cl (by omega), fillI_in hw]
        exact (f1 w hw).1.symm
      obtain ⟨G, hG⟩ : ∃ G : Nat → Bool, ∀ s, Fw lw nm r_X_now_knownEvent r_X_now_kind r_X_now_markInspector r_X_now_markDay r_X_now_markEvents r_X_now_markValue r_X_now_markTrips (wdN s 6) = G s := ⟨_, fun _ => rfl⟩
      have hsn : ∀ n, snN s n < 2147483648 := snN_lt (by omega)
      refine ⟨nI (yrN G s y), v_X_refusedBad, w', r_M_refused, fillI (fun i => r_M_now (14 + i)) r_M_kinds ni, ?_, ?_, hR0⟩
      · rw [f_X4_years, if_neg g1', if_neg g2', if_neg g3, if_pos g4, show (0 : Int32) = nI 0 from rfl, t1, bd1_n, nI_l (by omega)]
        refine lq5_run (fun n => lN (snN s n)) (fun n => nI (yrN G s n)) (fun n => nI n) (fun _ => v_X_refusedBad) (fun _ => w') y (fun k n hn => ?_) (fun k => ?_) (by have := fu; omega)
        · unfold f_X4_years_B46
          rw [if_neg (by rw [n_le (by omega) (by omega)]; omega)]
          refine (x_year (kn := r_X_now_knownEvent) (kd := r_X_now_kind) (mi := r_X_now_markInspector) (md := r_X_now_markDay) (me := r_X_now_markEvents) (mv := r_X_now_markValue) (mt := r_X_now_markTrips) (nm := nm) a2 (hsn n) tw).trans ?_
          rw [← Fw_years hM, hG, show nI n + 1 = nI (n + 1) from n_add n 1]
          show _ = k (lN (sdN (snN s n) 6)) (nI (yrN G s n + (if G (snN s n) then 1 else 0))) (nI (n + 1)) v_X_refusedBad w'
          by_cases z : G (snN s n) = true
          · rw [if_pos z, if_pos z, show nI (yrN G s n) + 1 = nI (yrN G s n + 1) from n_add _ 1]
          · rw [if_neg z, if_neg z]; rfl
        · unfold f_X4_years_B46
          rw [if_pos (by rw [n_le (by omega) (by omega)]; omega)]
      · rw [f_X5_years, hin1, if_n1, hin2, if_n1, m_layKinds b2 b1, bd1_n, nI_l (by omega)]
        refine lq5_run (fun n => lN (snN s n)) (fun n => nI (yrN G s n)) (fun n => nI n) (fun _ => r_M_refused) (fun _ => fillI (fun i => r_M_now (14 + i)) r_M_kinds ni) y (fun k n hn => ?_) (fun k => ?_) (by have := fu; omega)
        · unfold f_X5_years_B44
          rw [if_neg (by rw [n_le (by omega) (by omega)]; omega)]
          refine (m_year a2 a1 (fun d hd => (e1 d hd).1) hM k1 c1 (hsn n)).trans ?_
          rw [← Fw_congr hkk, hG, show nI n + 1 = nI (n + 1) from n_add n 1]
          show _ = k (lN (sdN (snN s n) 6)) (nI (yrN G s n + (if G (snN s n) then 1 else 0))) (nI (n + 1)) r_M_refused _
          by_cases z : G (snN s n) = true
          · rw [if_pos z, if_pos z, show nI (yrN G s n) + 1 = nI (yrN G s n + 1) from n_add _ 1]
          · rw [if_neg z, if_neg z, show nI (yrN G s n) + 0 = nI (yrN G s n + 0) from n_add _ 0]
        · unfold f_X5_years_B44
          rw [if_pos (by rw [n_le (by omega) (by omega)]; omega)]
    · have hin2 : f_X5_in (Int32.toInt64 x2) 0 60 = nI 0 := in_f (lo := 0) (hi := 60) rfl rfl r2
      refine ⟨ngI 2, v_X_refusedBad + 1, r_X_ways_weight, upd r_M_refused 0 (r_M_refused 0 + 1), r_M_kinds, ?_, ?_, hR0.bad⟩
      · rw [f_X4_years, if_neg g1', if_neg g2', B1]
        by_cases c : x2 < 0
        · rw [if_pos c]
        · rw [if_neg c, if_neg (fun q => ?_)]
          rw [i_lt, t0] at c
          rw [i_le, e60] at q
          omega
      · rw [f_X5_years, hin1, if_n1, hin2, if_n0, B2]
  · have hin1 : f_X5_in (Int32.toInt64 x1) 0 999999 = nI 0 := in_f (lo := 0) (hi := 999999) rfl rfl r1
    refine ⟨ngI 2, v_X_refusedBad + 1, r_X_ways_weight, upd r_M_refused 0 (r_M_refused 0 + 1), r_M_kinds, ?_, ?_, hR0.bad⟩
    · rw [f_X4_years, B1]
      by_cases c : x1 < 0
      · rw [if_pos c]
      · rw [if_neg c, if_pos (by rw [i_lt, t0] at c; rw [i_lt, eb]; omega)]
    · rw [f_X5_years, hin1, if_n0, B2]
