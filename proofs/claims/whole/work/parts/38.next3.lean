theorem are_t {n : Nat} (hn : n < 16) : f_X5_areEvents (nI n) = nI (if 1 ≤ n ∧ n ≤ 14 then 1 else 0) := by
  rw [m_areEvents, tN n (by omega)]
  congr 1
  by_cases c : 1 ≤ n ∧ n ≤ 14
  · rw [if_pos c, if_pos (by omega)]
  · rw [if_neg c, if_neg (by omega)]
theorem mx_big {S : Nat → Nat} (h : ∀ v, S v ≤ 4096) : mxN S 1000000 3 = 1000000 := by
  have h0 := h 0
  have h1 := h 1
  have h2 := h 2
  simp only [mxN]; omega
theorem x_next_in {F : Nat → Bool} {u b w : Nat → Int64} {kd tr : Nat → Int32} {i d : Nat} {rb : Int32} {k44 : _} {B : Nat → Nat × Int32} (s3 : ∀ d e, d < 6 → e < 4 → f_X3_having (nI d) (nI e) u b = some (lN (hF F 4096 d e))) (hi : i < 4) (hd : d < 6) (hB : ∀ n, B (n + 1) = if okc n = true ∧ zC F (kd i) (tr i) n < (B n).1 then (zC F (kd i) (tr i) n, nI n) else B n) (hl : ∀ n, (B n).1 ≤ 5000) : lq9 (f_X4_next_B54 (nI i) kd tr k44) FU (lN (cF F 4096)) (B (16 * d)).2 (lN (B (16 * d)).1) (nI d) (nI 1) rb w u b = k44 (lN (cF F 4096)) (B (16 * (d + 1))).2 (lN (B (16 * (d + 1))).1) (nI (d + 1)) rb w u b := by
  have hz : ∀ n, zC F (kd i) (tr i) n ≤ 4096 := fun n => Nat.le_trans zN_le (cF_le F 4096)
  have o0 : okc (16 * d) = false := by unfold okc; rw [show 16 * d % 16 = 0 by omega]; rfl
  have o15 : okc (16 * d + 15) = false := by unfold okc; rw [show (16 * d + 15) % 16 = 15 by omega]; rfl
  have b0 : B (16 * d + 1 + 0) = B (16 * d) := by rw [Nat.add_zero, hB, if_neg (by rw [o0]; exact fun t => absurd t.1 (by decide))]
  have b15 : B (16 * (d + 1)) = B (16 * d + 1 + 14) := by
    rw [show 16 * (d + 1) = 16 * d + 15 + 1 by omega, hB, if_neg (by rw [o15]; exact fun t => absurd t.1 (by decide))]
  rw [← b0, b15]
  refine lq9_run (fun _ => lN (cF F 4096)) (fun j => (B (16 * d + 1 + j)).2) (fun j => lN (B (16 * d + 1 + j)).1) (fun _ => nI d) (fun j => nI (j + 1)) (fun _ => rb) (fun _ => w) (fun _ => u) (fun _ => b) 14 (fun k j hj => ?_) (fun k => ?_) (by have := fu; omega)
  · have hc : okc (16 * d + 1 + j) = true := by
      unfold okc
      rw [show (16 * d + 1 + j) % 16 = 1 + j by omega, decide_eq_true (by omega), decide_eq_true (by omega)]; rfl
    have hZ : zC F (kd i) (tr i) (16 * d + 1 + j) = zN F (kd i) (tr i) d (j + 1) := by
      unfold zC
      rw [show (16 * d + 1 + j) / 16 = d by omega, show (16 * d + 1 + j) % 16 = j + 1 by omega]
    have h1 := hz (16 * d + 1 + j)
    have h2 := hl (16 * d + 1 + j)
    unfold f_X4_next_B54
    rw [if_neg (show ¬ (15 : Int32) ≤ nI (j + 1) from show ¬ nI 15 ≤ nI (j + 1) by rw [n_le (by omega) (by omega)]; omega), x_alike s3 hi hd (by omega), bd1_n, ← hZ, show nI (j + 1) + 1 = nI (j + 1 + 1) from n_add _ 1, show (16 : Int32) * nI d + nI (j + 1) = nI (16 * d + 1 + j) from by
      show nI 16 * nI d + nI (j + 1) = _
      rw [n_mul, n_add]; congr 1; omega]
    have e := hB (16 * d + 1 + j)
    rw [show 16 * d + 1 + (j + 1) = 16 * d + 1 + j + 1 by omega, e]
    by_cases q : zC F (kd i) (tr i) (16 * d + 1 + j) < (B (16 * d + 1 + j)).1
    · rw [if_neg (fun t => by rw [lg_ge, l_le (by omega) (by omega)] at t; omega), if_pos ⟨hc, q⟩]
    · rw [if_pos (by rw [lg_ge, l_le (by omega) (by omega)]; omega), if_neg (fun t => q t.2)]
  · unfold f_X4_next_B54
    rw [if_pos (by decide), show nI d + 1 = nI (d + 1) from n_add d 1]
theorem st_next (v_X_firstKept : Int32) (v_X_secondKept : Int32) (v_X_above : Int64) (v_X_below : Int64) (v_X_refusedBad : Int32) (v_X_refusedNo : Int32) (v_X_refusedFull : Int32) (v_X_now_laws : Int32) (v_X_now_inspectors : Int32) (v_X_now_marks : Int32) (v_X_now_undos : Int32) (r_X_now_knownEvent : Nat → Int32) (r_X_now_kind : Nat → Int32) (r_X_now_trips : Nat → Int32) (r_X_now_markInspector : Nat → Int32) (r_X_now_markDay : Nat → Int32) (r_X_now_markEvents : Nat → Int32) (r_X_now_markValue : Nat → Int32) (r_X_now_markTrips : Nat → Int32) (r_X_now_undoDay : Nat → Int32) (r_X_now_undoEvent : Nat → Int32) (v_X_firstImage_laws : Int32) (v_X_firstImage_inspectors : Int32) (v_X_firstImage_marks : Int32) (v_X_firstImage_undos : Int32) (r_X_firstImage_knownEvent : Nat → Int32) (r_X_firstImage_kind : Nat → Int32) (r_X_firstImage_trips : Nat → Int32) (r_X_firstImage_markInspector : Nat → Int32) (r_X_firstImage_markDay : Nat → Int32) (r_X_firstImage_markEvents : Nat → Int32) (r_X_firstImage_markValue : Nat → Int32) (r_X_firstImage_markTrips : Nat → Int32) (r_X_firstImage_undoDay : Nat → Int32) (r_X_firstImage_undoEvent : Nat → Int32) (v_X_secondImage_laws : Int32) (v_X_secondImage_inspectors : Int32) (v_X_secondImage_marks : Int32) (v_X_secondImage_undos : Int32) (r_X_secondImage_knownEvent : Nat → Int32) (r_X_secondImage_kind : Nat → Int32) (r_X_secondImage_trips : Nat → Int32) (r_X_secondImage_markInspector : Nat → Int32) (r_X_secondImage_markDay : Nat → Int32) (r_X_secondImage_markEvents : Nat → Int32) (r_X_secondImage_markValue : Nat → Int32) (r_X_secondImage_markTrips : Nat → Int32) (r_X_secondImage_undoDay : Nat → Int32) (r_X_secondImage_undoEvent : Nat → Int32) (v_X_text_length : Int32) (r_X_text_bytes : Nat → Int32) (r_X_ways_weight : Nat → Int64) (r_X_ways_upTo : Nat → Int64) (r_X_ways_behind : Nat → Int64) (v_M_above : Int64) (v_M_below : Int64) (v_M_manyFit : Int32) (v_M_bytesLong : Int32) (r_M_now : Nat → Int32) (r_M_kept : Nat → Int32) (r_M_isKept : Nat → Int32) (r_M_refused : Nat → Int32) (r_M_kinds : Nat → Int32) (r_M_have : Nat → Int32) (r_M_bytes : Nat → Int32) (x1 : Int32) (hR : Rel (v_X_now_laws, v_X_now_inspectors, v_X_now_marks, v_X_now_undos, r_X_now_knownEvent, r_X_now_kind, r_X_now_trips, r_X_now_markInspector, r_X_now_markDay, r_X_now_markEvents, r_X_now_markValue, r_X_now_markTrips, r_X_now_undoDay, r_X_now_undoEvent) (v_X_firstImage_laws, v_X_firstImage_inspectors, v_X_firstImage_marks, v_X_firstImage_undos, r_X_firstImage_knownEvent, r_X_firstImage_kind, r_X_firstImage_trips, r_X_firstImage_markInspector, r_X_firstImage_markDay, r_X_firstImage_markEvents, r_X_firstImage_markValue, r_X_firstImage_markTrips, r_X_firstImage_undoDay, r_X_firstImage_undoEvent) (v_X_secondImage_laws, v_X_secondImage_inspectors, v_X_secondImage_marks, v_X_secondImage_undos, r_X_secondImage_knownEvent, r_X_secondImage_kind, r_X_secondImage_trips, r_X_secondImage_markInspector, r_X_secondImage_markDay, r_X_secondImage_markEvents, r_X_secondImage_markValue, r_X_secondImage_markTrips, r_X_secondImage_undoDay, r_X_secondImage_undoEvent) v_X_firstKept v_X_secondKept v_X_text_length r_X_text_bytes v_X_above v_X_below v_X_refusedBad v_X_refusedNo v_X_refusedFull r_M_now r_M_kept r_M_isKept r_M_refused v_M_above v_M_below r_M_bytes v_M_bytesLong) : ∃ (r : Int32) (ov_X_refusedBad : Int32) (or_X_ways_weight : Nat → Int64) (or_X_ways_upTo : Nat → Int64) (or_X_ways_behind : Nat → Int64) (ov_M_manyFit : Int32) (or_M_refused : Nat → Int32) (or_M_kinds : Nat → Int32) (or_M_have : Nat → Int32), f_X4_next x1 v_X_refusedBad v_X_now_laws v_X_now_inspectors v_X_now_marks r_X_now_knownEvent r_X_now_kind r_X_now_trips r_X_now_markInspector r_X_now_markDay r_X_now_markEvents r_X_now_markValue r_X_now_markTrips r_X_ways_weight r_X_ways_upTo r_X_ways_behind = some (r, ov_X_refusedBad, or_X_ways_weight, or_X_ways_upTo, or_X_ways_behind) ∧ f_X5_next x1 v_M_manyFit r_M_now r_M_refused r_M_kinds r_M_have = some (r, ov_M_manyFit, or_M_refused, or_M_kinds, or_M_have) ∧ Rel (v_X_now_laws, v_X_now_inspectors, v_X_now_marks, v_X_now_undos, r_X_now_knownEvent, r_X_now_kind, r_X_now_trips, r_X_now_markInspector, r_X_now_markDay, r_X_now_markEvents, r_X_now_markValue, r_X_now_markTrips, r_X_now_undoDay, r_X_now_undoEvent) (v_X_firstImage_laws, v_X_firstImage_inspectors, v_X_firstImage_marks, v_X_firstImage_undos, r_X_firstImage_knownEvent, r_X_firstImage_kind, r_X_firstImage_trips, r_X_firstImage_markInspector, r_X_firstImage_markDay, r_X_firstImage_markEvents, r_X_firstImage_markValue, r_X_firstImage_markTrips, r_X_firstImage_undoDay, r_X_firstImage_undoEvent) (v_X_secondImage_laws, v_X_secondImage_inspectors, v_X_secondImage_marks, v_X_secondImage_undos, r_X_secondImage_knownEvent, r_X_secondImage_kind, r_X_secondImage_trips, r_X_secondImage_markInspector, r_X_secondImage_markDay, r_X_secondImage_markEvents, r_X_secondImage_markValue, r_X_secondImage_markTrips, r_X_secondImage_undoDay, r_X_secondImage_undoEvent) v_X_firstKept v_X_secondKept v_X_text_length r_X_text_bytes v_X_above v_X_below ov_X_refusedBad v_X_refusedNo v_X_refusedFull r_M_now r_M_kept r_M_isKept or_M_refused v_M_above v_M_below r_M_bytes v_M_bytesLong := by
  have hR0 := hR
  obtain ⟨F, w', u', b', kd', s1, s2, s3, s4, s5⟩ := both (v := v_M_manyFit) (k0 := r_M_kinds) (h0 := r_M_have) (g := r_X_ways_weight) (u := r_X_ways_upTo) (b := r_X_ways_behind) hR.1
  have s1 : f_X4_sumFits v_X_now_laws v_X_now_marks r_X_now_knownEvent r_X_now_kind r_X_now_markInspector r_X_now_markDay r_X_now_markEvents r_X_now_markValue r_X_now_markTrips r_X_ways_weight r_X_ways_upTo r_X_ways_behind = some (w', u', b') := s1
  obtain ⟨lw, ni, nm, nu, q1, q2, q3, q4, h⟩ := hR.1
  have q2 : v_X_now_inspectors = nI ni := q2
  subst q2
  have hf0 := h.2.1.1
  have hn := h.2.1.2
  have hk : ∀ i, i < ni → r_M_now (14 + i) = r_X_now_kind i ∧ r_M_now (10 + i) = r_X_now_trips i := h.2.2.2.2.2.1
  have hcl := cF_le F 4096
  obtain ⟨C, hCC⟩ : ∃ C, cF F 4096 = C := ⟨_, rfl⟩
  rw [hCC] at s2 s5 hcl
  rcases rng x1 ni (by omega) with ⟨i, hi, rfl, hz⟩ | hz
  · obtain ⟨k1, k2⟩ := hk i hi
    by_cases c : C = 0
    · refine ⟨ngI 1, v_X_refusedBad, w', u', b', nI (C), r_M_refused, kd', hRow F r_M_have 4096, ?_, ?_, hR0⟩
      · rw [f_X4_next, xone_t hi hn, if_n1, s1, bd3_n, s2, bd1_n, if_pos ((z_eq (by omega)).mpr c)]; rfl
      · rw [f_X5_next, mone_t hf0 hi hn, if_n1, s5, bd3_n]
        refine lq7_run (fun _ => ngI 1) (fun _ => nI 1000000) (fun _ => nI 1) (fun _ => nI C) (fun _ => r_M_refused) (fun _ => kd') (fun _ => hRow F r_M_have 4096) 0 (fun k j hj => absurd hj (by omega)) (fun k => ?_) (by have := fu; omega)
        unfold f_X5_next_B27
        have c96 : ¬ (96 : Int32) ≤ nI 1 := by decide
        have c0 : nI C ≤ 0 := by rw [c]; decide
        rw [if_neg c96, if_pos c0]
    · obtain ⟨Z, hZ⟩ : ∃ Z : Nat → Nat, zC F (r_X_now_kind i) (r_X_now_trips i) = Z := ⟨_, rfl⟩
      have hzl : ∀ n, Z n ≤ C := fun n => by rw [← hZ, ← hCC]; exact zN_le
      obtain ⟨b0, hb0⟩ : ∃ b0 : Nat, b0 = 1000000 := ⟨_, rfl⟩
      have h96 : bS Z (C + 1) 96 = bS Z b0 96 := bS_two (by have := hzl 1; omega) (by have := hzl 1; omega) 96 (by omega)
      refine ⟨(bS Z b0 96).2, v_X_refusedBad, w', u', b', nI (C), r_M_refused, kd', hRow F r_M_have 4096, ?_, ?_, hR0⟩
      · rw [f_X4_next, xone_t hi hn, if_n1, s1, bd3_n, s2, bd1_n, if_neg (fun q => c ((z_eq (by omega)).mp q)), lN_1, ← h96]
        refine lq8_run (fun _ => lN (C)) (fun d => (bS Z (C + 1) (16 * d)).2) (fun d => lN (bS Z (C + 1) (16 * d)).1) (fun d => nI d) (fun _ => v_X_refusedBad) (fun _ => w') (fun _ => u') (fun _ => b') 6 (fun k d hd => ?_) (fun k => ?_) (by have := fu; omega)
        · unfold f_X4_next_B44
          rw [if_neg (show ¬ (6 : Int32) ≤ nI d from show ¬ nI 6 ≤ nI d by rw [n_le (by omega) (by omega)]; omega)]
          have xin := x_next_in (F := F) (kd := r_X_now_kind) (tr := r_X_now_trips) (i := i) (w := w') (rb := v_X_refusedBad) (k44 := k) (B := bS Z (C + 1)) s3 (by omega) hd (fun n => by rw [hZ]; rfl) (fun n => by have := bS_le Z (C + 1) n; omega)
          rw [hCC] at xin
          exact xin
        · unfold f_X4_next_B44
          rw [if_pos (by decide)]
      · rw [f_X5_next, mone_t hf0 hi hn, if_n1, s5, bd3_n]
        have hb1 : bS Z b0 1 = (b0, ngI 1) := by rw [bS_s, if_neg (by rintro ⟨h, -⟩; exact absurd h (by decide))]; rfl
        have main : lq7 (f_X5_next_B27 (nI i) r_M_now) FU (bS Z b0 1).2 (nI (bS Z b0 1).1) (nI 1) (nI (C)) r_M_refused kd' (hRow F r_M_have 4096) = some ((bS Z b0 96).2, nI (C), r_M_refused, kd', hRow F r_M_have 4096) := by
          refine lq7_run (fun j => (bS Z b0 (j + 1)).2) (fun j => nI (bS Z b0 (j + 1)).1) (fun j => nI (j + 1)) (fun _ => nI (C)) (fun _ => r_M_refused) (fun _ => kd') (fun _ => hRow F r_M_have 4096) 95 (fun k j hj => ?_) (fun k => ?_) (by have := fu; omega)
          · have hbl := bS_le Z b0 (j + 1)
            have hzj := hzl (j + 1)
            have hS : ∀ v, sV F (r_X_now_kind i) (r_X_now_trips i) ((j + 1) / 16) ((j + 1) % 16) v ≤ 4096 := fun v => Nat.le_trans sV_le (by rw [hCC]; exact hcl)
            have hZj : mxN (sV F (r_X_now_kind i) (r_X_now_trips i) ((j + 1) / 16) ((j + 1) % 16)) 0 3 = Z (j + 1) := by rw [← hZ]; rfl
            unfold f_X5_next_B27
            rw [if_neg (show ¬ (96 : Int32) ≤ nI (j + 1) from show ¬ nI 96 ≤ nI (j + 1) by rw [n_le (by omega) (by omega)]; omega), if_neg (show ¬ nI (C) ≤ 0 from show ¬ nI (C) ≤ nI 0 by rw [n_le (by omega) (by omega)]; omega)]
            rw [show f_X5_areEvents (nI (j + 1) - nI (j + 1) / 16 * 16) = nI (if 1 ≤ (j + 1) % 16 ∧ (j + 1) % 16 ≤ 14 then 1 else 0) from by
              show f_X5_areEvents (nI (j + 1) - nI (j + 1) / nI 16 * nI 16) = _
              rw [n_div (by omega) (by omega) (by omega), n_mul, n_sub (by omega), show j + 1 - (j + 1) / 16 * 16 = (j + 1) % 16 by omega, are_t (by omega)]]
            rw [bS_s Z b0 (j + 1)]
            by_cases o : 1 ≤ (j + 1) % 16 ∧ (j + 1) % 16 ≤ 14
            · have ho : okc (j + 1) = true := by unfold okc; rw [decide_eq_true o.1, decide_eq_true o.2]; rfl
              rw [if_pos o, if_n1]
              refine (m_next_in (F := F) (kd := r_X_now_kind) (t := r_X_now_trips i) (by omega) (by omega) k1 k2 (Nat.zero_le _)).trans ?_
              rw [hZj]
              by_cases t : Z (j + 1) < (bS Z b0 (j + 1)).1
              · rw [if_neg (by rw [n_le (by omega) (by omega)]; omega), if_pos ⟨ho, t⟩]
              · rw [if_pos (by rw [n_le (by omega) (by omega)]; omega), if_neg (fun z => t z.2)]
            · have ho : ¬ (okc (j + 1) = true ∧ Z (j + 1) < (bS Z b0 (j + 1)).1) := by
                rintro ⟨z, -⟩
                unfold okc at z
                simp only [Bool.and_eq_true, decide_eq_true_eq] at z
                exact o z
              rw [if_neg o, if_n0, if_neg ho]
              refine (m_next_in (F := F) (kd := r_X_now_kind) (t := r_X_now_trips i) (a := 1000000) (by omega) (by omega) k1 k2 (Nat.le_refl _)).trans ?_
              rw [mx_big hS, if_pos (by rw [n_le (by omega) (by omega)]; omega)]
          · unfold f_X5_next_B27
            rw [if_pos (by decide)]
        rw [hb1] at main
        have e6 : (1000000 : Int32) = nI b0 := by rw [hb0]; rfl
        rw [e6]
        exact main
  · refine ⟨ngI 2, v_X_refusedBad + 1, r_X_ways_weight, r_X_ways_upTo, r_X_ways_behind, v_M_manyFit, upd r_M_refused 0 (r_M_refused 0 + 1), r_M_kinds, r_M_have, ?_, ?_, hR0.bad⟩
    · rw [f_X4_next, xone_f hn hz, if_n0]; rfl
    · rw [f_X5_next, mone_f hf0 hn hz, if_n0]; rfl
