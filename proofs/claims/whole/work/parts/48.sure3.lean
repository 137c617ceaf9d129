theorem lq3_find {A B R : Type} {body : (A → B → Int32 → Option R) → A → B → Int32 → Option R} {p : Nat → Bool} (x : A) (y : B) (V : Nat → R) (r0 : R) : ∀ (m a n : Nat), (∀ k i, a ≤ i → i < a + m → p i = false → body k x y (nI i) = k x y (nI (i + 1))) → (∀ k i, a ≤ i → i < a + m → p i = true → body k x y (nI i) = some (V i)) → (∀ k, body k x y (nI (a + m)) = some r0) → m < n → lq3 body n x y (nI a) = some (if fF p m a < a + m then V (fF p m a) else r0)
  | 0, a, n, h1, h2, h3, hn => by
    obtain ⟨n, rfl⟩ : ∃ z, n = z + 1 := ⟨n - 1, by omega⟩
    rw [if_neg (show ¬ fF p 0 a < a + 0 from Nat.lt_irrefl a)]
    exact h3 _
  | m + 1, a, n, h1, h2, h3, hn => by
    obtain ⟨n, rfl⟩ : ∃ z, n = z + 1 := ⟨n - 1, by omega⟩
    rw [fF_s]
    cases hp : p a with
    | true =>
      rw [if_pos rfl, if_pos (by omega)]
      exact h2 _ a (Nat.le_refl _) (by omega) hp
    | false =>
      rw [if_neg Bool.false_ne_true]
      refine (h1 _ a (Nat.le_refl _) (by omega) hp).trans ?_
      have e : a + (m + 1) = a + 1 + m := by omega
      rw [e]
      exact lq3_find x y V r0 m (a + 1) n (fun k i q1 q2 => h1 k i (by omega) (by omega)) (fun k i q1 q2 => h2 k i (by omega) (by omega)) (fun k => by rw [← e]; exact h3 k) (by omega)
def tp (k t : Int32) (d a n : Nat) : Bool := told k d n t a
theorem x_fewest {kd tr : Nat → Int32} {i d a : Nat} (hi : i < 4) (ha : a < 16) : f_X4_fewestSayings (nI i) (nI d) (nI a) kd tr = some (if fF (tp (kd i) (tr i) d a) 10 0 < 10 then nI (fF (tp (kd i) (tr i) d a) 10 0) else ngI 1) := by
  have stp1 : ∀ (k : Int32 → Option Int32) (n : Nat), n < 10 → f_X4_fewestSayings_B3 (nI i) (nI d) (nI a) kd tr k (nI n) = if nI (if tp (kd i) (tr i) d a n then 1 else 0) = (1 : Int32) then some (nI n) else k (nI (n + 1)) := by
    intro k n hn
    unfold f_X4_fewestSayings_B3
    rw [if_neg (show ¬ (9 : Int32) < nI n from show ¬ nI 9 < nI n by rw [n_lt (by omega) (by omega)]; omega), ckI_n (by omega) (by omega), n_cl (by omega), x_toldApart (by omega), bd1_n, bitS (by omega) ha, show nI n + 1 = nI (n + 1) from n_add n 1]
    rfl
  refine (lq1_find (p := tp (kd i) (tr i) d a) (fun n => nI n) (ngI 1) 10 0 FU (fun k n h1 h2 hp => ?_) (fun k n h1 h2 hp => ?_) (fun k => ?_) (by have := fu; omega)).trans (by rw [Nat.zero_add])
  · rw [stp1 k n (by omega), hp, if_neg (show ¬ nI (if false = true then 1 else 0) = (1 : Int32) by decide)]
  · rw [stp1 k n (by omega), hp, if_pos (show nI (if true = true then 1 else 0) = (1 : Int32) by decide)]
  · unfold f_X4_fewestSayings_B3
    rw [if_pos (by decide)]; rfl
theorem x_first {kd tr : Nat → Int32} {i d a n : Nat} (hi : i < 4) (ha : a < 16) (hn : n < 99) (hs : tp (kd i) (tr i) d a (n + 1) = true) : f_X4_firstSaying (nI i) (nI d) (nI a) (nI (n + 1)) kd tr = some (nI (fF (LA (told (kd i) d n (tr i + 1)) (TT (kd i) (tr i) d) a) 14 1)) := by
  have hs : stp (told (kd i) d n (tr i + 1)) (TT (kd i) (tr i) d) a = true := hs
  unfold stp at hs
  rw [decide_eq_true_eq] at hs
  unfold f_X4_firstSaying
  rw [ckI_n (by omega) (by omega), n_cl (by omega), nI_pred, x_toldApart (by omega), bd1_n, x_telling, bd1_n]
  refine (lq3_find (p := LA (told (kd i) d n (tr i + 1)) (TT (kd i) (tr i) d) a) _ _ (fun n => nI n) (ngI 1) 14 1 FU (fun k s h1 h2 hp => ?_) (fun k s h1 h2 hp => ?_) (fun k => ?_) (by have := fu; omega)).trans (by rw [show 1 + 14 = 15 from rfl, if_pos hs])
  · unfold f_X4_firstSaying_B54
    rw [if_neg (show ¬ (15 : Int32) ≤ nI s from show ¬ nI 15 ≤ nI s by rw [n_le (by omega) (by omega)]; omega), x_leaves ha (by omega), hp, if_neg Bool.false_ne_true, if_n0, show nI s + 1 = nI (s + 1) from n_add s 1]
  · unfold f_X4_firstSaying_B54
    rw [if_neg (show ¬ (15 : Int32) ≤ nI s from show ¬ nI 15 ≤ nI s by rw [n_le (by omega) (by omega)]; omega), x_leaves ha (by omega), hp, if_pos rfl, if_n1]
  · unfold f_X4_firstSaying_B54
    rw [if_pos (by decide)]; rfl
def sR (k t : Int32) (d a w n : Nat) : Int32 := if w = 0 then nI n else nI (fF (LA (told k d (n - 1) (t + 1)) (TT k t d) a) 14 1)
def sW (k t : Int32) (d a w n : Nat) : Int32 := if n < 10 then sR k t d a w n else ngI 1
theorem m_sureLoop {f kd ref kd' hv : Nat → Int32} {i d a w : Nat} {t mf : Int32} (hi : i < 4) (ha : a < 16) (hw : w < 2) (hk : f (14 + i) = kd i) (ht : f (10 + i) = t) : ∀ (m L q : Nat) (sv : Int32), 1 ≤ L → L + m = 10 → m < q → ∃ sv', lq7 (f_X5_sure_B68 (nI i) (nI d) (nI w) f) q (nI a) (nI L) mf sv ref kd' hv = some (sW (kd i) t d a w (fF (tp (kd i) t d a) m L), mf, sv', ref, kd', hv)
  | 0, L, q, sv, h1, h2, hq => by
    obtain ⟨q, rfl⟩ : ∃ z, q = z + 1 := ⟨q - 1, by omega⟩
    have e : L = 10 := by omega
    subst e
    exact ⟨sv, rfl⟩
  | m + 1, L, q, sv, h1, h2, hq => by
    obtain ⟨q, rfl⟩ : ∃ z, q = z + 1 := ⟨q - 1, by omega⟩
    obtain ⟨l, rfl⟩ : ∃ z, L = z + 1 := ⟨L - 1, by omega⟩
    have hle := fF_le (LA (told (kd i) d l (t + 1)) (TT (kd i) t d) a) 14 1
    have hu : ∀ kk, f_X5_sure_B68 (nI i) (nI d) (nI w) f kk (nI a) (nI (l + 1)) mf sv ref kd' hv = if (if stp (told (kd i) d l (t + 1)) (TT (kd i) t d) a then nI (fF (LA (told (kd i) d l (t + 1)) (TT (kd i) t d) a) 14 1) else ngI 1) = (-1 : Int32) then kk (nI a) (nI (l + 1 + 1)) mf (nI (sB (told (kd i) d l (t + 1)) 16)) ref kd' hv else if nI w = 0 then some (nI (l + 1), mf, nI (sB (told (kd i) d l (t + 1)) 16), ref, kd', hv) else some ((if stp (told (kd i) d l (t + 1)) (TT (kd i) t d) a then nI (fF (LA (told (kd i) d l (t + 1)) (TT (kd i) t d) a) 14 1) else ngI 1), mf, nI (sB (told (kd i) d l (t + 1)) 16), ref, kd', hv) := by
      intro kk
      unfold f_X5_sure_B68
      rw [if_neg (show ¬ (9 : Int32) < nI (l + 1) from show ¬ nI 9 < nI (l + 1) by rw [n_lt (by omega) (by omega)]; omega), m_solved hi (by omega) hk ht, bd1_n, show (10 : Int32) + nI i = nI (10 + i) from n_add 10 i, ckI_n (by omega) (by omega), n_cl (by omega), ht, m_least (told_0 (kd i) d l (t + 1)) ha hi hk, bd1_n, show nI (l + 1) + 1 = nI (l + 1 + 1) from n_add (l + 1) 1]
    have hb : ∀ z, lq7 (f_X5_sure_B68 (nI i) (nI d) (nI w) f) (q + 1) (nI a) (nI (l + 1)) mf sv ref kd' hv = z ↔ f_X5_sure_B68 (nI i) (nI d) (nI w) f (lq7 (f_X5_sure_B68 (nI i) (nI d) (nI w) f) q) (nI a) (nI (l + 1)) mf sv ref kd' hv = z := fun z => Iff.rfl
    rw [fF_s]
    cases hs : stp (told (kd i) d l (t + 1)) (TT (kd i) t d) a with
    | true =>
      have hp : tp (kd i) t d a (l + 1) = true := hs
      refine ⟨nI (sB (told (kd i) d l (t + 1)) 16), (hb _).mpr ?_⟩
      rw [hu, hs, hp, if_pos rfl, if_pos rfl, if_neg (ne_neg (by omega))]
      have hsw : sW (kd i) t d a w (l + 1) = if w = 0 then nI (l + 1) else nI (fF (LA (told (kd i) d l (t + 1)) (TT (kd i) t d) a) 14 1) := by
        unfold sW sR
        rw [if_pos (by omega)]; rfl
      rw [hsw]
      rcases (show w = 0 ∨ w = 1 by omega) with rfl | rfl
      · rw [if_n0, if_pos rfl]
      · rw [if_n1, if_neg (by omega)]
    | false =>
      have hp : tp (kd i) t d a (l + 1) = false := hs
      obtain ⟨sv', e⟩ := m_sureLoop (kd := kd) (ref := ref) (kd' := kd') (hv := hv) (mf := mf) (d := d) hi ha hw hk ht m (l + 1 + 1) q (nI (sB (told (kd i) d l (t + 1)) 16)) (by omega) (by omega) (by omega)
      refine ⟨sv', (hb _).mpr ?_⟩
      rw [hu, hs, hp, if_neg Bool.false_ne_true, if_neg Bool.false_ne_true, if_pos (show ngI 1 = (-1 : Int32) from rfl)]
      exact e
theorem pc4_le : ∀ a, a < 16 → pc 31 a ≤ 4 := by decide +kernel
theorem st_sure (v_X_firstKept : Int32) (v_X_secondKept : Int32) (v_X_above : Int64) (v_X_below : Int64) (v_X_refusedBad : Int32) (v_X_refusedNo : Int32) (v_X_refusedFull : Int32) (v_X_now_laws : Int32) (v_X_now_inspectors : Int32) (v_X_now_marks : Int32) (v_X_now_undos : Int32) (r_X_now_knownEvent : Nat → Int32) (r_X_now_kind : Nat → Int32) (r_X_now_trips : Nat → Int32) (r_X_now_markInspector : Nat → Int32) (r_X_now_markDay : Nat → Int32) (r_X_now_markEvents : Nat → Int32) (r_X_now_markValue : Nat → Int32) (r_X_now_markTrips : Nat → Int32) (r_X_now_undoDay : Nat → Int32) (r_X_now_undoEvent : Nat → Int32) (v_X_firstImage_laws : Int32) (v_X_firstImage_inspectors : Int32) (v_X_firstImage_marks : Int32) (v_X_firstImage_undos : Int32) (r_X_firstImage_knownEvent : Nat → Int32) (r_X_firstImage_kind : Nat → Int32) (r_X_firstImage_trips : Nat → Int32) (r_X_firstImage_markInspector : Nat → Int32) (r_X_firstImage_markDay : Nat → Int32) (r_X_firstImage_markEvents : Nat → Int32) (r_X_firstImage_markValue : Nat → Int32) (r_X_firstImage_markTrips : Nat → Int32) (r_X_firstImage_undoDay : Nat → Int32) (r_X_firstImage_undoEvent : Nat → Int32) (v_X_secondImage_laws : Int32) (v_X_secondImage_inspectors : Int32) (v_X_secondImage_marks : Int32) (v_X_secondImage_undos : Int32) (r_X_secondImage_knownEvent : Nat → Int32) (r_X_secondImage_kind : Nat → Int32) (r_X_secondImage_trips : Nat → Int32) (r_X_secondImage_markInspector : Nat → Int32) (r_X_secondImage_markDay : Nat → Int32) (r_X_secondImage_markEvents : Nat → Int32) (r_X_secondImage_markValue : Nat → Int32) (r_X_secondImage_markTrips : Nat → Int32) (r_X_secondImage_undoDay : Nat → Int32) (r_X_secondImage_undoEvent : Nat → Int32) (v_X_text_length : Int32) (r_X_text_bytes : Nat → Int32) (r_X_ways_weight : Nat → Int64) (r_X_ways_upTo : Nat → Int64) (r_X_ways_behind : Nat → Int64) (v_M_above : Int64) (v_M_below : Int64) (v_M_manyFit : Int32) (v_M_solved : Int32) (v_M_bytesLong : Int32) (r_M_now : Nat → Int32) (r_M_kept : Nat → Int32) (r_M_isKept : Nat → Int32) (r_M_refused : Nat → Int32) (r_M_kinds : Nat → Int32) (r_M_have : Nat → Int32) (r_M_bytes : Nat → Int32) (x1 : Int32) (x2 : Int32) (x3 : Int32) (hR : Rel (v_X_now_laws, v_X_now_inspectors, v_X_now_marks, v_X_now_undos, r_X_now_knownEvent, r_X_now_kind, r_X_now_trips, r_X_now_markInspector, r_X_now_markDay, r_X_now_markEvents, r_X_now_markValue, r_X_now_markTrips, r_X_now_undoDay, r_X_now_undoEvent) (v_X_firstImage_laws, v_X_firstImage_inspectors, v_X_firstImage_marks, v_X_firstImage_undos, r_X_firstImage_knownEvent, r_X_firstImage_kind, r_X_firstImage_trips, r_X_firstImage_markInspector, r_X_firstImage_markDay, r_X_firstImage_markEvents, r_X_firstImage_markValue, r_X_firstImage_markTrips, r_X_firstImage_undoDay, r_X_firstImage_undoEvent) (v_X_secondImage_laws, v_X_secondImage_inspectors, v_X_secondImage_marks, v_X_secondImage_undos, r_X_secondImage_knownEvent, r_X_secondImage_kind, r_X_secondImage_trips, r_X_secondImage_markInspector, r_X_secondImage_markDay, r_X_secondImage_markEvents, r_X_secondImage_markValue, r_X_secondImage_markTrips, r_X_secondImage_undoDay, r_X_secondImage_undoEvent) v_X_firstKept v_X_secondKept v_X_text_length r_X_text_bytes v_X_above v_X_below v_X_refusedBad v_X_refusedNo v_X_refusedFull r_M_now r_M_kept r_M_isKept r_M_refused v_M_above v_M_below r_M_bytes v_M_bytesLong) : ∃ (r : Int32) (ov_X_refusedBad : Int32) (or_X_ways_weight : Nat → Int64) (or_X_ways_upTo : Nat → Int64) (or_X_ways_behind : Nat → Int64) (ov_M_manyFit : Int32) (ov_M_solved : Int32) (or_M_refused : Nat → Int32) (or_M_kinds : Nat → Int32) (or_M_have : Nat → Int32), f_X4_sure x1 x2 x3 v_X_refusedBad v_X_now_laws v_X_now_inspectors v_X_now_marks r_X_now_knownEvent r_X_now_kind r_X_now_trips r_X_now_markInspector r_X_now_markDay r_X_now_markEvents r_X_now_markValue r_X_now_markTrips r_X_ways_weight r_X_ways_upTo r_X_ways_behind = some (r, ov_X_refusedBad, or_X_ways_weight, or_X_ways_upTo, or_X_ways_behind) ∧ f_X5_sure x1 x2 x3 v_M_manyFit v_M_solved r_M_now r_M_refused r_M_kinds r_M_have = some (r, ov_M_manyFit, ov_M_solved, or_M_refused, or_M_kinds, or_M_have) ∧ Rel (v_X_now_laws, v_X_now_inspectors, v_X_now_marks, v_X_now_undos, r_X_now_knownEvent, r_X_now_kind, r_X_now_trips, r_X_now_markInspector, r_X_now_markDay, r_X_now_markEvents, r_X_now_markValue, r_X_now_markTrips, r_X_now_undoDay, r_X_now_undoEvent) (v_X_firstImage_laws, v_X_firstImage_inspectors, v_X_firstImage_marks, v_X_firstImage_undos, r_X_firstImage_knownEvent, r_X_firstImage_kind, r_X_firstImage_trips, r_X_firstImage_markInspector, r_X_firstImage_markDay, r_X_firstImage_markEvents, r_X_firstImage_markValue, r_X_firstImage_markTrips, r_X_firstImage_undoDay, r_X_firstImage_undoEvent) (v_X_secondImage_laws, v_X_secondImage_inspectors, v_X_secondImage_marks, v_X_secondImage_undos, r_X_secondImage_knownEvent, r_X_secondImage_kind, r_X_secondImage_trips, r_X_secondImage_markInspector, r_X_secondImage_markDay, r_X_secondImage_markEvents, r_X_secondImage_markValue, r_X_secondImage_markTrips, r_X_secondImage_undoDay, r_X_secondImage_undoEvent) v_X_firstKept v_X_secondKept v_X_text_length r_X_text_bytes v_X_above v_X_below ov_X_refusedBad v_X_refusedNo v_X_refusedFull r_M_now r_M_kept r_M_isKept or_M_refused v_M_above v_M_below r_M_bytes v_M_bytesLong := by
  have hR0 := hR
  obtain ⟨F, w', u', b', kd', s1, s2, s3, s4, s5⟩ := both (v := v_M_manyFit) (k0 := r_M_kinds) (h0 := r_M_have) (g := r_X_ways_weight) (u := r_X_ways_upTo) (b := r_X_ways_behind) hR.1
  have s1 : f_X4_sumFits v_X_now_laws v_X_now_marks r_X_now_knownEvent r_X_now_kind r_X_now_markInspector r_X_now_markDay r_X_now_markEvents r_X_now_markValue r_X_now_markTrips r_X_ways_weight r_X_ways_upTo r_X_ways_behind = some (w', u', b') := s1
  obtain ⟨lw, ni, nm, nu, q1, q2, q3, q4, h⟩ := hR.1
  have q2 : v_X_now_inspectors = nI ni := q2
  subst q2
  have hf0 := h.2.1.1
  have hn := h.2.1.2
  have hk : ∀ i, i < ni → r_M_now (14 + i) = r_X_now_kind i ∧ r_M_now (10 + i) = r_X_now_trips i := h.2.2.2.2.2.1
  have B1 : f_X4_sure_J24 v_X_refusedBad r_X_ways_weight r_X_ways_upTo r_X_ways_behind = some (ngI 2, v_X_refusedBad + 1, r_X_ways_weight, r_X_ways_upTo, r_X_ways_behind) := rfl
  have B2 : f_X5_sure_J25 v_M_manyFit v_M_solved r_M_refused r_M_kinds r_M_have = some (ngI 2, v_M_manyFit, v_M_solved, upd r_M_refused 0 (r_M_refused 0 + 1), r_M_kinds, r_M_have) := rfl
  rcases rng x1 ni (by omega) with ⟨i, hi, rfl, hz⟩ | hz
  · obtain ⟨k1, k2⟩ := hk i hi
    rcases rng x2 6 (by omega) with ⟨d, hd, rfl, hy⟩ | hy
    · rcases rng x3 2 (by omega) with ⟨w, hw, rfl, hx⟩ | hx
      · have hin : f_X5_in (Int32.toInt64 (nI w)) 0 1 = nI 1 := in_t (lo := 0) (hi := 1) rfl rfl (by omega) (by omega)
        have t4 := s4 d hd
        have m4 := m_eventsOf (F := F) (g := r_M_have) hd
        have hsum := sum_hF F d 4096
        have hcl := cF_le F 4096
        have ha : sB (fun e => decide (0 < hF F 4096 d e)) 4 < 16 := sB_lt _ 4
        have hz0 : cF F 4096 = 0 → sB (fun e => decide (0 < hF F 4096 d e)) 4 = 0 := by
          intro hc
          rw [sB_zero]
          intro e he
          have : hF F 4096 d e = 0 := by
            rcases (show e = 0 ∨ e = 1 ∨ e = 2 ∨ e = 3 by omega) with rfl | rfl | rfl | rfl <;> omega
          show decide (0 < hF F 4096 d e) = false
          rw [this]; rfl
        generalize hRow F r_M_have 4096 = hv at *
        generalize sB (fun e => decide (0 < hF F 4096 d e)) 4 = a at *
        clear hsum s4
        generalize cF F 4096 = C at *
        have hp4 := pc4_le a ha
        have hlg : lg_cmp (lN C) 0 = 0 ↔ C = 0 := by rw [lg_eq, show (0 : Int64) = lN 0 from rfl, l_eq (by omega) (by omega)]
        have X0 : f_X4_sure (nI i) (nI d) (nI w) v_X_refusedBad v_X_now_laws (nI ni) v_X_now_marks r_X_now_knownEvent r_X_now_kind r_X_now_trips r_X_now_markInspector r_X_now_markDay r_X_now_markEvents r_X_now_markValue r_X_now_markTrips r_X_ways_weight r_X_ways_upTo r_X_ways_behind = if C = 0 then some (ngI 1, v_X_refusedBad, w', u', b') else bd1 (f_X4_fewestSayings (nI i) (nI d) (nI a) r_X_now_kind r_X_now_trips) fun z17 => if nI w = 0 then some (z17, v_X_refusedBad, w', u', b') else if z17 = (-1 : Int32) then some (z17, v_X_refusedBad, w', u', b') else if z17 = 0 then some ((0 : Int32), v_X_refusedBad, w', u', b') else bd1 (f_X4_firstSaying (nI i) (nI d) (nI a) z17 r_X_now_kind r_X_now_trips) fun z22 => some (z22, v_X_refusedBad, w', u', b') := by
          rw [f_X4_sure, xone_t hi hn, if_n1, xday_t hd, if_n1, if_neg (not_lt0 (by omega)), if_pos (show nI w ≤ (1 : Int32) from show nI w ≤ nI 1 by rw [n_le (by omega) (by omega)]; omega), s1, bd3_n, s2, bd1_n]
          by_cases c : C = 0
          · rw [if_pos (hlg.mpr c), if_pos c]; rfl
          · rw [if_neg (fun q => c (hlg.mp q)), if_neg c, t4, bd1_n]
        have M0 : f_X5_sure (nI i) (nI d) (nI w) v_M_manyFit v_M_solved r_M_now r_M_refused r_M_kinds r_M_have = if 2 ≤ pc 31 a then lq7 (f_X5_sure_B68 (nI i) (nI d) (nI w) r_M_now) FU (nI a) (1 : Int32) (nI C) v_M_solved r_M_refused kd' hv else if C = 0 then some (ngI 1, nI C, v_M_solved, r_M_refused, kd', hv) else some (nI 0, nI C, v_M_solved, r_M_refused, kd', hv) := by
          rw [f_X5_sure, mone_t hf0 hi hn, if_n1, mday_t hd, if_n1, hin, if_n1, s5, bd3_n, m4, bd1_n, m_bits (by omega), bd1_n]
          have h2 : (2 : Int32) ≤ nI (pc 31 a) ↔ 2 ≤ pc 31 a := by rw [show (2 : Int32) = nI 2 from rfl, n_le (by omega) (by omega)]
          have h3 : nI C = (0 : Int32) ↔ C = 0 := by rw [show (0 : Int32) = nI 0 from rfl, n_eq (by omega) (by omega)]
          by_cases c : 2 ≤ pc 31 a
          · rw [if_pos (h2.mpr c), if_pos c]
          · rw [if_neg (fun q => c (h2.mp q)), if_neg c]
            by_cases c3 : C = 0
            · rw [if_pos (h3.mpr c3), if_pos c3]; rfl
            · rw [if_neg (fun q => c3 (h3.mp q)), if_neg c3]; rfl
        rw [X0, M0]
        by_cases c : C = 0
        · have a0 := hz0 c
          subst a0
          rw [if_pos c, if_neg (by rw [pc_0]; omega), if_pos c]
          exact ⟨ngI 1, v_X_refusedBad, w', u', b', nI C, v_M_solved, r_M_refused, kd', hv, rfl, rfl, hR0⟩
        · rw [if_neg c, if_neg c, x_fewest (by omega) ha, bd1_n]
          by_cases c2 : 2 ≤ pc 31 a
          · rw [if_pos c2]
            obtain ⟨sv', e⟩ := m_sureLoop (f := r_M_now) (kd := r_X_now_kind) (ref := r_M_refused) (kd' := kd') (hv := hv) (d := d) (mf := nI C) (show i < 4 by omega) ha hw k1 k2 9 1 FU v_M_solved (by omega) (by omega) (by have := fu; omega)
            have e : lq7 (f_X5_sure_B68 (nI i) (nI d) (nI w) r_M_now) FU (nI a) (1 : Int32) (nI C) v_M_solved r_M_refused kd' hv = some (sW (r_X_now_kind i) (r_X_now_trips i) d a w (fF (tp (r_X_now_kind i) (r_X_now_trips i) d a) 9 1), nI C, sv', r_M_refused, kd', hv) := e
            have hp0 : tp (r_X_now_kind i) (r_X_now_trips i) d a 0 = false := by show sng a = false; unfold sng; exact decide_eq_false (by omega)
            have hF0 : fF (tp (r_X_now_kind i) (r_X_now_trips i) d a) 10 0 = fF (tp (r_X_now_kind i) (r_X_now_trips i) d a) 9 1 := by
              rw [fF_s, hp0, if_neg Bool.false_ne_true]
            have hh := fF_hit (p := tp (r_X_now_kind i) (r_X_now_trips i) d a) (n := 9) (i := 1)
            have hge := fF_ge (tp (r_X_now_kind i) (r_X_now_trips i) d a) 9 1
            rw [hF0, e]
            generalize fF (tp (r_X_now_kind i) (r_X_now_trips i) d a) 9 1 = N at *
            refine ⟨sW (r_X_now_kind i) (r_X_now_trips i) d a w N, v_X_refusedBad, w', u', b', nI C, sv', r_M_refused, kd', hv, ?_, rfl, hR0⟩
            unfold sW
            by_cases cN : N < 10
            · rw [if_pos cN, if_pos cN]
              obtain ⟨n, rfl⟩ : ∃ z, N = z + 1 := ⟨N - 1, by omega⟩
              have hpn := hh (by omega)
              unfold sR
              rcases (show w = 0 ∨ w = 1 by omega) with rfl | rfl
              · rw [if_n0, if_pos rfl]
              · rw [if_n1, if_neg (ne_neg (by omega)), if_neg (ne_zero (by omega) (by omega)), x_first (by omega) ha (by omega) hpn, bd1_n, if_neg (by omega)]
                rfl
            · rw [if_neg cN, if_neg cN]
              rcases (show w = 0 ∨ w = 1 by omega) with rfl | rfl
              · rw [if_n0]
              · rw [if_n1, if_pos (show ngI 1 = (-1 : Int32) from rfl)]
          · rw [if_neg c2]
            have hp0 : tp (r_X_now_kind i) (r_X_now_trips i) d a 0 = true := by show sng a = true; unfold sng; exact decide_eq_true (by omega)
            have hF0 : fF (tp (r_X_now_kind i) (r_X_now_trips i) d a) 10 0 = 0 := by
              rw [fF_s, hp0, if_pos rfl]
            rw [hF0, show (if 0 < 10 then nI 0 else ngI 1) = nI 0 from rfl]
            refine ⟨nI 0, v_X_refusedBad, w', u', b', nI C, v_M_solved, r_M_refused, kd', hv, ?_, rfl, hR0⟩
            rcases (show w = 0 ∨ w = 1 by omega) with rfl | rfl
            · rw [if_n0]
            · rw [if_n1, if_neg (by decide), if_n0]; rfl
      · have hin : f_X5_in (Int32.toInt64 x3) 0 1 = nI 0 := in_f (lo := 0) (hi := 1) rfl rfl (by omega)
        refine ⟨ngI 2, v_X_refusedBad + 1, r_X_ways_weight, r_X_ways_upTo, r_X_ways_behind, v_M_manyFit, v_M_solved, upd r_M_refused 0 (r_M_refused 0 + 1), r_M_kinds, r_M_have, ?_, ?_, hR0.bad⟩
        · rw [f_X4_sure, xone_t hi hn, if_n1, xday_t hd, if_n1, B1]
          by_cases c : x3 < 0
          · rw [if_pos c]
          · rw [if_neg c, if_neg (fun q => ?_)]
            rw [i_lt, t0] at c
            rw [i_le] at q
            have e1' : (1 : Int32).toInt = 1 := rfl
            rw [e1'] at q
            omega
        · rw [f_X5_sure, mone_t hf0 hi hn, if_n1, mday_t hd, if_n1, hin, if_n0, B2]
    · refine ⟨ngI 2, v_X_refusedBad + 1, r_X_ways_weight, r_X_ways_upTo, r_X_ways_behind, v_M_manyFit, v_M_solved, upd r_M_refused 0 (r_M_refused 0 + 1), r_M_kinds, r_M_have, ?_, ?_, hR0.bad⟩
      · rw [f_X4_sure, xone_t hi hn, if_n1, xday_f hy, if_n0, B1]
      · rw [f_X5_sure, mone_t hf0 hi hn, if_n1, mday_f hy, if_n0, B2]
  · refine ⟨ngI 2, v_X_refusedBad + 1, r_X_ways_weight, r_X_ways_upTo, r_X_ways_behind, v_M_manyFit, v_M_solved, upd r_M_refused 0 (r_M_refused 0 + 1), r_M_kinds, r_M_have, ?_, ?_, hR0.bad⟩
    · rw [f_X4_sure, xone_f hn hz, if_n0, B1]
    · rw [f_X5_sure, mone_f hf0 hn hz, if_n0, B2]
