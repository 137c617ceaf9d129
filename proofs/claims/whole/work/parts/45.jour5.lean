theorem jW_congr {lw nm c : Nat} {kn kd kd' mi md me mv mt : Nat → Int32} (h : ∀ j, j < nm → kd (Int32.toNatClampNeg (mi j)) = kd' (Int32.toNatClampNeg (mi j))) : jW lw nm c kn kd mi md me mv mt = jW lw nm c kn kd' mi md me mv mt := by
  funext w
  have ct : ∀ n, n ≤ nm → ctN (wrB kd mi md me mv mt w) n = ctN (wrB kd' mi md me mv mt w) n := by
    intro n
    induction n with
    | zero => intro _; rfl
    | succ n ih =>
      intro hn
      simp only [ctN]
      rw [ih (by omega), wrB_congr h n (by omega)]
  unfold jW
  rw [ct nm (Nat.le_refl _)]
theorem st_journeys (v_X_firstKept : Int32) (v_X_secondKept : Int32) (v_X_above : Int64) (v_X_below : Int64) (v_X_refusedBad : Int32) (v_X_refusedNo : Int32) (v_X_refusedFull : Int32) (v_X_now_laws : Int32) (v_X_now_inspectors : Int32) (v_X_now_marks : Int32) (v_X_now_undos : Int32) (r_X_now_knownEvent : Nat → Int32) (r_X_now_kind : Nat → Int32) (r_X_now_trips : Nat → Int32) (r_X_now_markInspector : Nat → Int32) (r_X_now_markDay : Nat → Int32) (r_X_now_markEvents : Nat → Int32) (r_X_now_markValue : Nat → Int32) (r_X_now_markTrips : Nat → Int32) (r_X_now_undoDay : Nat → Int32) (r_X_now_undoEvent : Nat → Int32) (v_X_firstImage_laws : Int32) (v_X_firstImage_inspectors : Int32) (v_X_firstImage_marks : Int32) (v_X_firstImage_undos : Int32) (r_X_firstImage_knownEvent : Nat → Int32) (r_X_firstImage_kind : Nat → Int32) (r_X_firstImage_trips : Nat → Int32) (r_X_firstImage_markInspector : Nat → Int32) (r_X_firstImage_markDay : Nat → Int32) (r_X_firstImage_markEvents : Nat → Int32) (r_X_firstImage_markValue : Nat → Int32) (r_X_firstImage_markTrips : Nat → Int32) (r_X_firstImage_undoDay : Nat → Int32) (r_X_firstImage_undoEvent : Nat → Int32) (v_X_secondImage_laws : Int32) (v_X_secondImage_inspectors : Int32) (v_X_secondImage_marks : Int32) (v_X_secondImage_undos : Int32) (r_X_secondImage_knownEvent : Nat → Int32) (r_X_secondImage_kind : Nat → Int32) (r_X_secondImage_trips : Nat → Int32) (r_X_secondImage_markInspector : Nat → Int32) (r_X_secondImage_markDay : Nat → Int32) (r_X_secondImage_markEvents : Nat → Int32) (r_X_secondImage_markValue : Nat → Int32) (r_X_secondImage_markTrips : Nat → Int32) (r_X_secondImage_undoDay : Nat → Int32) (r_X_secondImage_undoEvent : Nat → Int32) (v_X_text_length : Int32) (r_X_text_bytes : Nat → Int32) (r_X_ways_weight : Nat → Int64) (r_X_ways_upTo : Nat → Int64) (r_X_ways_behind : Nat → Int64) (v_M_above : Int64) (v_M_below : Int64) (v_M_bytesLong : Int32) (r_M_now : Nat → Int32) (r_M_kept : Nat → Int32) (r_M_isKept : Nat → Int32) (r_M_refused : Nat → Int32) (r_M_kinds : Nat → Int32) (r_M_bytes : Nat → Int32) (x1 : Int32) (hR : Rel (v_X_now_laws, v_X_now_inspectors, v_X_now_marks, v_X_now_undos, r_X_now_knownEvent, r_X_now_kind, r_X_now_trips, r_X_now_markInspector, r_X_now_markDay, r_X_now_markEvents, r_X_now_markValue, r_X_now_markTrips, r_X_now_undoDay, r_X_now_undoEvent) (v_X_firstImage_laws, v_X_firstImage_inspectors, v_X_firstImage_marks, v_X_firstImage_undos, r_X_firstImage_knownEvent, r_X_firstImage_kind, r_X_firstImage_trips, r_X_firstImage_markInspector, r_X_firstImage_markDay, r_X_firstImage_markEvents, r_X_firstImage_markValue, r_X_firstImage_markTrips, r_X_firstImage_undoDay, r_X_firstImage_undoEvent) (v_X_secondImage_laws, v_X_secondImage_inspectors, v_X_secondImage_marks, v_X_secondImage_undos, r_X_secondImage_knownEvent, r_X_secondImage_kind, r_X_secondImage_trips, r_X_secondImage_markInspector, r_X_secondImage_markDay, r_X_secondImage_markEvents, r_X_secondImage_markValue, r_X_secondImage_markTrips, r_X_secondImage_undoDay, r_X_secondImage_undoEvent) v_X_firstKept v_X_secondKept v_X_text_length r_X_text_bytes v_X_above v_X_below v_X_refusedBad v_X_refusedNo v_X_refusedFull r_M_now r_M_kept r_M_isKept r_M_refused v_M_above v_M_below r_M_bytes v_M_bytesLong) : ∃ (r : Int32) (ov_X_above : Int64) (ov_X_below : Int64) (ov_X_refusedBad : Int32) (or_X_ways_weight : Nat → Int64) (or_X_ways_upTo : Nat → Int64) (or_X_ways_behind : Nat → Int64) (ov_M_above : Int64) (ov_M_below : Int64) (or_M_refused : Nat → Int32) (or_M_kinds : Nat → Int32), f_X4_journeys x1 v_X_above v_X_below v_X_refusedBad v_X_now_laws v_X_now_marks r_X_now_knownEvent r_X_now_kind r_X_now_markInspector r_X_now_markDay r_X_now_markEvents r_X_now_markValue r_X_now_markTrips r_X_ways_weight r_X_ways_upTo r_X_ways_behind = some (r, ov_X_above, ov_X_below, ov_X_refusedBad, or_X_ways_weight, or_X_ways_upTo, or_X_ways_behind) ∧ f_X5_journeys x1 v_M_above v_M_below r_M_now r_M_refused r_M_kinds = some (r, ov_M_above, ov_M_below, or_M_refused, or_M_kinds) ∧ Rel (v_X_now_laws, v_X_now_inspectors, v_X_now_marks, v_X_now_undos, r_X_now_knownEvent, r_X_now_kind, r_X_now_trips, r_X_now_markInspector, r_X_now_markDay, r_X_now_markEvents, r_X_now_markValue, r_X_now_markTrips, r_X_now_undoDay, r_X_now_undoEvent) (v_X_firstImage_laws, v_X_firstImage_inspectors, v_X_firstImage_marks, v_X_firstImage_undos, r_X_firstImage_knownEvent, r_X_firstImage_kind, r_X_firstImage_trips, r_X_firstImage_markInspector, r_X_firstImage_markDay, r_X_firstImage_markEvents, r_X_firstImage_markValue, r_X_firstImage_markTrips, r_X_firstImage_undoDay, r_X_firstImage_undoEvent) (v_X_secondImage_laws, v_X_secondImage_inspectors, v_X_secondImage_marks, v_X_secondImage_undos, r_X_secondImage_knownEvent, r_X_secondImage_kind, r_X_secondImage_trips, r_X_secondImage_markInspector, r_X_secondImage_markDay, r_X_secondImage_markEvents, r_X_secondImage_markValue, r_X_secondImage_markTrips, r_X_secondImage_undoDay, r_X_secondImage_undoEvent) v_X_firstKept v_X_secondKept v_X_text_length r_X_text_bytes ov_X_above ov_X_below ov_X_refusedBad v_X_refusedNo v_X_refusedFull r_M_now r_M_kept r_M_isKept or_M_refused ov_M_above ov_M_below r_M_bytes v_M_bytesLong := by
  have hR0 := hR
  obtain ⟨hO, p0, p1, p2, p3, p4⟩ := hR
  obtain ⟨lw, ni, nm, nu, q1, q2, q3, q4, h⟩ := hO
  have q1 : v_X_now_laws = nI lw := q1
  have q3 : v_X_now_marks = nI nm := q3
  subst q1 q3
  have h : OK4 lw ni nm nu r_X_now_knownEvent r_X_now_kind r_X_now_trips r_X_now_markInspector r_X_now_markDay r_X_now_markEvents r_X_now_markValue r_X_now_markTrips r_X_now_undoDay r_X_now_undoEvent r_M_now := h
  obtain ⟨⟨a1, a2⟩, ⟨b1, b2⟩, c1, d1, e1, f1, g1, k1, -⟩ := h
  have hM := g1.mo b2
  have h8 := hM.1
  have e10 : (10 : Int32).toInt = 10 := rfl
  have B1 : f_X4_journeys_J10 v_X_above v_X_below v_X_refusedBad r_X_ways_weight r_X_ways_upTo r_X_ways_behind = some (ngI 2, v_X_above, v_X_below, v_X_refusedBad + 1, r_X_ways_weight, r_X_ways_upTo, r_X_ways_behind) := rfl
  rcases rng x1 11 (by omega) with ⟨c, hc, rfl, hz⟩ | hz
  · have hkk : ∀ j, j < nm → r_X_now_kind (Int32.toNatClampNeg (r_X_now_markInspector j)) = fillI (fun i => r_M_now (14 + i)) r_M_kinds ni (Int32.toNatClampNeg (r_X_now_markInspector j)) := by
      intro j hj
      obtain ⟨⟨w, hw, ew⟩, -⟩ := g1.2 j hj
      rw [ew, n_cl (by omega), fillI_in hw]
      exact (f1 w hw).1.symm
    have mJ := m_journeys (c := c) (v1 := v_M_above) (v2 := v_M_below) (ref := r_M_refused) a2 a1 (fun d hd => (e1 d hd).1) b2 b1 hM k1 c1 (by omega) (fillI (fun i => r_M_now (14 + i)) r_M_kinds ni) rfl
    rw [← jW_congr hkk] at mJ
    have xW := x_weighOdds (kn := r_X_now_knownEvent) (kd := r_X_now_kind) (mv := r_X_now_markValue) (mt := r_X_now_markTrips) (g := r_X_ways_weight) hM (show c ≤ 10 by omega)
    have hw : ∀ d e, d < 6 → e < 4 → fillL (rowL (woN c r_X_now_kind r_X_now_markInspector r_X_now_markDay r_X_now_markEvents r_X_now_markValue r_X_now_markTrips r_X_now_knownEvent nm)) r_X_ways_weight 24 (4 * d + e) = lN (woN c r_X_now_kind r_X_now_markInspector r_X_now_markDay r_X_now_markEvents r_X_now_markValue r_X_now_markTrips r_X_now_knownEvent nm d e) := fun d e hd he => by
      rw [fillL_in (by omega)]; exact rowL_at he
    obtain ⟨u', b', t1, t2, -⟩ := x_sum (u := r_X_ways_upTo) (b := r_X_ways_behind) a2 hw
    have xA := x_all (F := fun a => Uw (woN c r_X_now_kind r_X_now_markInspector r_X_now_markDay r_X_now_markEvents r_X_now_markValue r_X_now_markTrips r_X_now_knownEvent nm) (trN lw) 5 a) (fun a ha => t2 5 a (by omega) ha)
    have eA := ways_all (wt := woN c r_X_now_kind r_X_now_markInspector r_X_now_markDay r_X_now_markEvents r_X_now_markValue r_X_now_markTrips r_X_now_knownEvent nm) (tr := trN lw)
    have eB : sN (pre (woN c r_X_now_kind r_X_now_markInspector r_X_now_markDay r_X_now_markEvents r_X_now_markValue r_X_now_markTrips r_X_now_knownEvent nm) (trN lw) 5) 4096 = sN (jW lw nm c r_X_now_knownEvent r_X_now_kind r_X_now_markInspector r_X_now_markDay r_X_now_markEvents r_X_now_markValue r_X_now_markTrips) 4096 := sN_congr (fun w _ => pre_J hM w)
    have h10 : 10 ^ nm ≤ 10 ^ 8 := Nat.pow_le_pow_right (by omega) h8
    have h10' : 0 < 10 ^ nm := Nat.pow_pos (by omega)
    have hle : sN (jW lw nm c r_X_now_knownEvent r_X_now_kind r_X_now_markInspector r_X_now_markDay r_X_now_markEvents r_X_now_markValue r_X_now_markTrips) 4096 ≤ 4096 * 10 ^ 8 := sN_le (fun w _ => by
      unfold jW
      split
      · exact Nat.le_trans (jv_le (by omega) (ctN_le nm)) h10
      · omega)
    rw [← eA, eB] at xA
    generalize sN (jW lw nm c r_X_now_knownEvent r_X_now_kind r_X_now_markInspector r_X_now_markDay r_X_now_markEvents r_X_now_markValue r_X_now_markTrips) 4096 = T at *
    obtain ⟨z1, z2, r1, r2⟩ := frac (a := T) (b := 10 ^ nm) (v1 := v_X_above) (v2 := v_X_below) (v3 := v_M_above) (v4 := v_M_below) (by omega) (by omega) h10'
    rw [r2, bd2_n] at mJ
    refine ⟨nI 1, z1, z2, v_X_refusedBad, fillL (rowL (woN c r_X_now_kind r_X_now_markInspector r_X_now_markDay r_X_now_markEvents r_X_now_markValue r_X_now_markTrips r_X_now_knownEvent nm)) r_X_ways_weight 24, u', b', z1, z2, r_M_refused, fillI (fun i => r_M_now (14 + i)) r_M_kinds ni, ?_, mJ, hR0.1, p0, p1, p2, ⟨rfl, rfl⟩, p4⟩
    rw [f_X4_journeys, if_neg (not_lt0 (by omega)), if_pos (by rw [i_le, e10, tN c (by omega)]; omega), xW, bd1_n, t1, bd2_n]
    have main : lq8 (f_X4_journeys_B43 (nI nm)) FU (lN (10 ^ 0)) (nI 0) v_X_above v_X_below v_X_refusedBad (fillL (rowL (woN c r_X_now_kind r_X_now_markInspector r_X_now_markDay r_X_now_markEvents r_X_now_markValue r_X_now_markTrips r_X_now_knownEvent nm)) r_X_ways_weight 24) u' b' = some (nI 1, z1, z2, v_X_refusedBad, fillL (rowL (woN c r_X_now_kind r_X_now_markInspector r_X_now_markDay r_X_now_markEvents r_X_now_markValue r_X_now_markTrips r_X_now_knownEvent nm)) r_X_ways_weight 24, u', b') := by
      refine lq8_run (fun n => lN (10 ^ n)) (fun n => nI n) (fun _ => v_X_above) (fun _ => v_X_below) (fun _ => v_X_refusedBad) (fun _ => fillL (rowL (woN c r_X_now_kind r_X_now_markInspector r_X_now_markDay r_X_now_markEvents r_X_now_markValue r_X_now_markTrips r_X_now_knownEvent nm)) r_X_ways_weight 24) (fun _ => u') (fun _ => b') nm (fun k n hn => ?_) (fun k => ?_) (by have := fu; omega)
      · unfold f_X4_journeys_B43
        rw [if_neg (by rw [n_le (by omega) (by omega)]; omega), show nI n + 1 = nI (n + 1) from n_add n 1, show lN (10 ^ n) * (10 : Int64) = lN (10 ^ (n + 1)) from by rw [Nat.pow_succ]; exact lN_mul _ 10]
      · unfold f_X4_journeys_B43
        rw [if_pos (by rw [n_le (by omega) (by omega)]; omega), xA, bd1_n, r1, bd2_n]; rfl
    exact main
  · have hin : f_X5_in (Int32.toInt64 x1) 0 10 = nI 0 := in_f (lo := 0) (hi := 10) rfl rfl (by omega)
    refine ⟨ngI 2, v_X_above, v_X_below, v_X_refusedBad + 1, r_X_ways_weight, r_X_ways_upTo, r_X_ways_behind, v_M_above, v_M_below, upd r_M_refused 0 (r_M_refused 0 + 1), r_M_kinds, ?_, ?_, hR0.bad⟩
    · rw [f_X4_journeys, B1]
      by_cases q : x1 < 0
      · rw [if_pos q]
      · rw [if_neg q, if_neg (fun z => by rw [i_lt, t0] at q; rw [i_le, e10] at z; omega)]
    · rw [f_X5_journeys, hin, if_n0]; rfl
