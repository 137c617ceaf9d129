theorem gcd_half {a b : Nat} (hb : 0 < b) (h : 0 < a % b) : 2 * (b % (a % b)) < b := by
  have h1 := Nat.mod_lt a hb
  have h2 := Nat.mod_lt b h
  have h3 := Nat.div_add_mod b (a % b)
  have h4 : 1 ≤ b / (a % b) := (Nat.one_le_div_iff h).mpr (by omega)
  have h5 : a % b * 1 ≤ a % b * (b / (a % b)) := Nat.mul_le_mul_left _ h4
  omega
theorem z_eq {a : Nat} (h : a < 2 ^ 63) : lg_cmp (lN a) (0 : Int64) = 0 ↔ a = 0 := by
  rw [lg_eq, show (0 : Int64) = lN 0 from rfl, l_eq h (by omega)]
theorem z_ck {α : Type} {a : Nat} {x : Option α} (h : a < 2 ^ 63) (h0 : 0 < a) : ckZ (lN a) x = x := ckZ_t (by rw [show (0 : Int64) = lN 0 from rfl, l_eq h (by omega)]; omega)
theorem x_gcd : ∀ (k m i a b : Nat), b < 2 ^ k → a < 2 ^ 62 → b < 2 ^ 62 → i + 2 * k < 100 → 2 * k < m → lq3 f_X4_commonDivisor_B9 m (lN a) (lN b) (nI i) = some (lN (Nat.gcd a b)) := by
  have stp : ∀ (m i a b : Nat), i < 100 → b < 2 ^ 62 → a < 2 ^ 62 → lq3 f_X4_commonDivisor_B9 (m + 1) (lN a) (lN b) (nI i) = if b = 0 then some (lN a) else lq3 f_X4_commonDivisor_B9 m (lN b) (lN (a % b)) (nI (i + 1)) := by
    intro m i a b hi hb ha
    show f_X4_commonDivisor_B9 (lq3 f_X4_commonDivisor_B9 m) (lN a) (lN b) (nI i) = _
    unfold f_X4_commonDivisor_B9
    rw [if_neg (show ¬ (100 : Int32) ≤ nI i from show ¬ nI 100 ≤ nI i by rw [n_le (by omega) (by omega)]; omega)]
    by_cases c : b = 0
    · rw [if_pos ((z_eq (by omega)).mpr c), if_pos c]
    · rw [if_neg (fun q => c ((z_eq (by omega)).mp q)), if_neg c, z_ck (by omega) (by omega), pk_lRem (by omega) (by omega) (by omega), show nI i + 1 = nI (i + 1) from n_add i 1]
  intro k
  induction k with
  | zero =>
    intro m i a b h1 h2 h3 h4 h5
    obtain ⟨m, rfl⟩ : ∃ m', m = m' + 1 := ⟨m - 1, by omega⟩
    have : b = 0 := by omega
    rw [stp m i a b (by omega) h3 h2, if_pos this, this, Nat.gcd_zero_right]
  | succ k ih =>
    intro m i a b h1 h2 h3 h4 h5
    obtain ⟨m, rfl⟩ : ∃ m', m = m' + 2 := ⟨m - 2, by omega⟩
    rw [stp (m + 1) i a b (by omega) h3 h2]
    by_cases c : b = 0
    · rw [if_pos c, c, Nat.gcd_zero_right]
    · rw [if_neg c]
      have hm := Nat.mod_lt a (show 0 < b by omega)
      rw [stp m (i + 1) b (a % b) (by omega) (by omega) h3]
      by_cases c2 : a % b = 0
      · rw [if_pos c2, Nat.gcd_comm, Nat.gcd_rec, c2, Nat.gcd_zero_left]
      · rw [if_neg c2]
        have hh := gcd_half (a := a) (show 0 < b by omega) (by omega)
        have hp : 2 ^ (k + 1) = 2 * 2 ^ k := by rw [Nat.pow_succ]; omega
        rw [ih m (i + 1 + 1) (a % b) (b % (a % b)) (by omega) (by omega) (by omega) (by omega) (by omega)]
        have eg : Nat.gcd a b = Nat.gcd (a % b) (b % (a % b)) := by rw [Nat.gcd_comm a b, Nat.gcd_rec b a, Nat.gcd_rec (a % b) b, Nat.gcd_comm]
        rw [eg]
theorem m_gcd {x1 x3 v1 v2 : Int64} : ∀ (k m a b g : Nat), b < 2 ^ k → a < 2 ^ 62 → b < 2 ^ 62 → 2 * k < m → Nat.gcd a b = g → 0 < g → g < 2 ^ 62 → lq4 (f_X5_fraction_B6 x1 x3) m (lN a) (lN b) v1 v2 = some (x1 / lN g, x3 / lN g) := by
  have stp : ∀ (m a b : Nat), b < 2 ^ 62 → a < 2 ^ 62 → 0 < b → lq4 (f_X5_fraction_B6 x1 x3) (m + 1) (lN a) (lN b) v1 v2 = lq4 (f_X5_fraction_B6 x1 x3) m (lN b) (lN (a % b)) v1 v2 := by
    intro m a b hb ha h0
    show f_X5_fraction_B6 x1 x3 (lq4 (f_X5_fraction_B6 x1 x3) m) (lN a) (lN b) v1 v2 = _
    unfold f_X5_fraction_B6
    rw [if_neg (fun q => by have := (z_eq (a := b) (by omega)).mp q; omega), z_ck (by omega) h0, pk_lRem (by omega) (by omega) (by omega)]
  have fin : ∀ (m g : Nat), 0 < g → g < 2 ^ 62 → lq4 (f_X5_fraction_B6 x1 x3) (m + 1) (lN g) (lN 0) v1 v2 = some (x1 / lN g, x3 / lN g) := by
    intro m g h1 h2
    show f_X5_fraction_B6 x1 x3 (lq4 (f_X5_fraction_B6 x1 x3) m) (lN g) (lN 0) v1 v2 = _
    unfold f_X5_fraction_B6
    rw [if_pos ((z_eq (by omega)).mpr rfl), z_ck (by omega) h1, z_ck (by omega) h1]
  intro k
  induction k with
  | zero =>
    intro m a b g h1 h2 h3 h5 hg g0 g1
    obtain ⟨m, rfl⟩ : ∃ m', m = m' + 1 := ⟨m - 1, by omega⟩
    have : b = 0 := by omega
    subst this
    rw [Nat.gcd_zero_right] at hg
    subst hg
    exact fin m a g0 g1
  | succ k ih =>
    intro m a b g h1 h2 h3 h5 hg g0 g1
    obtain ⟨m, rfl⟩ : ∃ m', m = m' + 2 := ⟨m - 2, by omega⟩
    by_cases c : b = 0
    · subst c
      rw [Nat.gcd_zero_right] at hg
      subst hg
      exact fin _ a g0 g1
    · have hm := Nat.mod_lt a (show 0 < b by omega)
      rw [stp (m + 1) a b h3 h2 (by omega)]
      have hg2 : Nat.gcd b (a % b) = g := by rw [← hg, Nat.gcd_comm a b, Nat.gcd_rec b a, Nat.gcd_comm]
      by_cases c2 : a % b = 0
      · rw [c2] at hg2 ⊢
        rw [Nat.gcd_zero_right] at hg2
        subst hg2
        exact fin _ b g0 g1
      · have hh := gcd_half (a := a) (show 0 < b by omega) (by omega)
        have hp : 2 ^ (k + 1) = 2 * 2 ^ k := by rw [Nat.pow_succ]; omega
        rw [stp m b (a % b) (by omega) h3 (by omega)]
        exact ih m (a % b) (b % (a % b)) g (by omega) (by omega) (by omega) (by omega) (by rw [← hg2, Nat.gcd_comm b, Nat.gcd_rec (a % b) b, Nat.gcd_comm]) g0 g1
/-- both fractions -/
theorem frac {a b : Nat} {v1 v2 v3 v4 : Int64} (ha : a < 2 ^ 48) (hb : b < 2 ^ 48) (h0 : 0 < b) : ∃ z1 z2 : Int64, f_X4_setFraction (lN a) (lN b) v1 v2 = some (z1, z2) ∧ f_X5_fraction (lN a) (lN b) v3 v4 = some (z1, z2) := by
  have hg0 : 0 < Nat.gcd a b := Nat.gcd_pos_of_pos_right a h0
  have hg1 : Nat.gcd a b ≤ b := Nat.le_of_dvd h0 (Nat.gcd_dvd_right a b)
  have hf := fu
  refine ⟨lN a / lN (Nat.gcd a b), lN b / lN (Nat.gcd a b), ?_, m_gcd 48 FU a b (Nat.gcd a b) hb (by omega) (by omega) (by omega) rfl hg0 (by omega)⟩
  unfold f_X4_setFraction f_X4_commonDivisor
  rw [show (0 : Int32) = nI 0 from rfl, x_gcd 48 FU 0 a b hb (by omega) (by omega) (by omega) (by omega), bd1_n, if_neg (fun q => ?_), z_ck (by omega) hg0, z_ck (by omega) hg0]
  have : lg_cmp (lN (Nat.gcd a b)) (0 : Int64) ≤ 0 := q
  rw [lg_le, show (0 : Int64) = lN 0 from rfl, l_le (by omega) (by omega)] at this
  omega
theorem st_chance (v_X_firstKept : Int32) (v_X_secondKept : Int32) (v_X_above : Int64) (v_X_below : Int64) (v_X_refusedBad : Int32) (v_X_refusedNo : Int32) (v_X_refusedFull : Int32) (v_X_now_laws : Int32) (v_X_now_inspectors : Int32) (v_X_now_marks : Int32) (v_X_now_undos : Int32) (r_X_now_knownEvent : Nat → Int32) (r_X_now_kind : Nat → Int32) (r_X_now_trips : Nat → Int32) (r_X_now_markInspector : Nat → Int32) (r_X_now_markDay : Nat → Int32) (r_X_now_markEvents : Nat → Int32) (r_X_now_markValue : Nat → Int32) (r_X_now_markTrips : Nat → Int32) (r_X_now_undoDay : Nat → Int32) (r_X_now_undoEvent : Nat → Int32) (v_X_firstImage_laws : Int32) (v_X_firstImage_inspectors : Int32) (v_X_firstImage_marks : Int32) (v_X_firstImage_undos : Int32) (r_X_firstImage_knownEvent : Nat → Int32) (r_X_firstImage_kind : Nat → Int32) (r_X_firstImage_trips : Nat → Int32) (r_X_firstImage_markInspector : Nat → Int32) (r_X_firstImage_markDay : Nat → Int32) (r_X_firstImage_markEvents : Nat → Int32) (r_X_firstImage_markValue : Nat → Int32) (r_X_firstImage_markTrips : Nat → Int32) (r_X_firstImage_undoDay : Nat → Int32) (r_X_firstImage_undoEvent : Nat → Int32) (v_X_secondImage_laws : Int32) (v_X_secondImage_inspectors : Int32) (v_X_secondImage_marks : Int32) (v_X_secondImage_undos : Int32) (r_X_secondImage_knownEvent : Nat → Int32) (r_X_secondImage_kind : Nat → Int32) (r_X_secondImage_trips : Nat → Int32) (r_X_secondImage_markInspector : Nat → Int32) (r_X_secondImage_markDay : Nat → Int32) (r_X_secondImage_markEvents : Nat → Int32) (r_X_secondImage_markValue : Nat → Int32) (r_X_secondImage_markTrips : Nat → Int32) (r_X_secondImage_undoDay : Nat → Int32) (r_X_secondImage_undoEvent : Nat → Int32) (v_X_text_length : Int32) (r_X_text_bytes : Nat → Int32) (r_X_ways_weight : Nat → Int64) (r_X_ways_upTo : Nat → Int64) (r_X_ways_behind : Nat → Int64) (v_M_above : Int64) (v_M_below : Int64) (v_M_manyFit : Int32) (v_M_bytesLong : Int32) (r_M_now : Nat → Int32) (r_M_kept : Nat → Int32) (r_M_isKept : Nat → Int32) (r_M_refused : Nat → Int32) (r_M_kinds : Nat → Int32) (r_M_have : Nat → Int32) (r_M_bytes : Nat → Int32) (x1 : Int32) (x2 : Int32) (hR : Rel (v_X_now_laws, v_X_now_inspectors, v_X_now_marks, v_X_now_undos, r_X_now_knownEvent, r_X_now_kind, r_X_now_trips, r_X_now_markInspector, r_X_now_markDay, r_X_now_markEvents, r_X_now_markValue, r_X_now_markTrips, r_X_now_undoDay, r_X_now_undoEvent) (v_X_firstImage_laws, v_X_firstImage_inspectors, v_X_firstImage_marks, v_X_firstImage_undos, r_X_firstImage_knownEvent, r_X_firstImage_kind, r_X_firstImage_trips, r_X_firstImage_markInspector, r_X_firstImage_markDay, r_X_firstImage_markEvents, r_X_firstImage_markValue, r_X_firstImage_markTrips, r_X_firstImage_undoDay, r_X_firstImage_undoEvent) (v_X_secondImage_laws, v_X_secondImage_inspectors, v_X_secondImage_marks, v_X_secondImage_undos, r_X_secondImage_knownEvent, r_X_secondImage_kind, r_X_secondImage_trips, r_X_secondImage_markInspector, r_X_secondImage_markDay, r_X_secondImage_markEvents, r_X_secondImage_markValue, r_X_secondImage_markTrips, r_X_secondImage_undoDay, r_X_secondImage_undoEvent) v_X_firstKept v_X_secondKept v_X_text_length r_X_text_bytes v_X_above v_X_below v_X_refusedBad v_X_refusedNo v_X_refusedFull r_M_now r_M_kept r_M_isKept r_M_refused v_M_above v_M_below r_M_bytes v_M_bytesLong) : ∃ (r : Int32) (ov_X_above : Int64) (ov_X_below : Int64) (ov_X_refusedBad : Int32) (ov_X_refusedNo : Int32) (or_X_ways_weight : Nat → Int64) (or_X_ways_upTo : Nat → Int64) (or_X_ways_behind : Nat → Int64) (ov_M_above : Int64) (ov_M_below : Int64) (ov_M_manyFit : Int32) (or_M_refused : Nat → Int32) (or_M_kinds : Nat → Int32) (or_M_have : Nat → Int32), f_X4_chance x1 x2 v_X_above v_X_below v_X_refusedBad v_X_refusedNo v_X_now_laws v_X_now_marks r_X_now_knownEvent r_X_now_kind r_X_now_markInspector r_X_now_markDay r_X_now_markEvents r_X_now_markValue r_X_now_markTrips r_X_ways_weight r_X_ways_upTo r_X_ways_behind = some (r, ov_X_above, ov_X_below, ov_X_refusedBad, ov_X_refusedNo, or_X_ways_weight, or_X_ways_upTo, or_X_ways_behind) ∧ f_X5_chance x1 x2 v_M_above v_M_below v_M_manyFit r_M_now r_M_refused r_M_kinds r_M_have = some (r, ov_M_above, ov_M_below, ov_M_manyFit, or_M_refused, or_M_kinds, or_M_have) ∧ Rel (v_X_now_laws, v_X_now_inspectors, v_X_now_marks, v_X_now_undos, r_X_now_knownEvent, r_X_now_kind, r_X_now_trips, r_X_now_markInspector, r_X_now_markDay, r_X_now_markEvents, r_X_now_markValue, r_X_now_markTrips, r_X_now_undoDay, r_X_now_undoEvent) (v_X_firstImage_laws, v_X_firstImage_inspectors, v_X_firstImage_marks, v_X_firstImage_undos, r_X_firstImage_knownEvent, r_X_firstImage_kind, r_X_firstImage_trips, r_X_firstImage_markInspector, r_X_firstImage_markDay, r_X_firstImage_markEvents, r_X_firstImage_markValue, r_X_firstImage_markTrips, r_X_firstImage_undoDay, r_X_firstImage_undoEvent) (v_X_secondImage_laws, v_X_secondImage_inspectors, v_X_secondImage_marks, v_X_secondImage_undos, r_X_secondImage_knownEvent, r_X_secondImage_kind, r_X_secondImage_trips, r_X_secondImage_markInspector, r_X_secondImage_markDay, r_X_secondImage_markEvents, r_X_secondImage_markValue, r_X_secondImage_markTrips, r_X_secondImage_undoDay, r_X_secondImage_undoEvent) v_X_firstKept v_X_secondKept v_X_text_length r_X_text_bytes ov_X_above ov_X_below ov_X_refusedBad ov_X_refusedNo v_X_refusedFull r_M_now r_M_kept r_M_isKept or_M_refused ov_M_above ov_M_below r_M_bytes v_M_bytesLong := by
  have hR0 := hR
  have B1 : f_X4_chance_J14 v_X_above v_X_below v_X_refusedBad v_X_refusedNo r_X_ways_weight r_X_ways_upTo r_X_ways_behind = some (ngI 2, v_X_above, v_X_below, v_X_refusedBad + 1, v_X_refusedNo, r_X_ways_weight, r_X_ways_upTo, r_X_ways_behind) := rfl
  have B2 : f_X5_chance_J14 v_M_above v_M_below v_M_manyFit r_M_refused r_M_kinds r_M_have = some (ngI 2, v_M_above, v_M_below, v_M_manyFit, upd r_M_refused 0 (r_M_refused 0 + 1), r_M_kinds, r_M_have) := rfl
  rcases rng x1 6 (by omega) with ⟨d, hd, rfl, hz⟩ | hz
  · rcases rng x2 4 (by omega) with ⟨e, he, rfl, hy⟩ | hy
    · obtain ⟨F, w', u', b', kd', s1, s2, s3, s4, s5⟩ := both (v := v_M_manyFit) (k0 := r_M_kinds) (h0 := r_M_have) (g := r_X_ways_weight) (u := r_X_ways_upTo) (b := r_X_ways_behind) hR.1
      have s1 : f_X4_sumFits v_X_now_laws v_X_now_marks r_X_now_knownEvent r_X_now_kind r_X_now_markInspector r_X_now_markDay r_X_now_markEvents r_X_now_markValue r_X_now_markTrips r_X_ways_weight r_X_ways_upTo r_X_ways_behind = some (w', u', b') := s1
      have l1 := cF_le F 4096
      have l2 := hF_le F 4096 d e
      by_cases c : cF F 4096 = 0
      · refine ⟨ngI 3, v_X_above, v_X_below, v_X_refusedBad, v_X_refusedNo + 1, w', u', b', v_M_above, v_M_below, nI (cF F 4096), upd r_M_refused 1 (r_M_refused 1 + 1), kd', hRow F r_M_have 4096, ?_, ?_, hR0.no⟩
        · rw [f_X4_chance, xday_t hd, if_n1, xev_t he, if_n1, s1, bd3_n, s2, bd1_n, if_pos ((z_eq (by omega)).mpr c)]; rfl
        · rw [f_X5_chance, mday_t hd, if_n1, mev_t he, if_n1, s5, bd3_n, if_pos (by rw [c]; rfl)]; rfl
      · obtain ⟨z1, z2, t1, t2⟩ := frac (a := hF F 4096 d e) (b := cF F 4096) (v1 := v_X_above) (v2 := v_X_below) (v3 := v_M_above) (v4 := v_M_below) (by omega) (by omega) (by omega)
        refine ⟨nI 1, z1, z2, v_X_refusedBad, v_X_refusedNo, w', u', b', z1, z2, nI (cF F 4096), r_M_refused, kd', hRow F r_M_have 4096, ?_, ?_, ?_⟩
        · rw [f_X4_chance, xday_t hd, if_n1, xev_t he, if_n1, s1, bd3_n, s2, bd1_n, if_neg (fun q => c ((z_eq (by omega)).mp q)), s3 d e hd he, bd1_n, t1, bd2_n]; rfl
        · rw [f_X5_chance, mday_t hd, if_n1, mev_t he, if_n1, s5, bd3_n, if_neg (show ¬ nI (cF F 4096) = 0 from show ¬ nI (cF F 4096) = nI 0 by rw [n_eq (by omega) (by omega)]; omega)]
          simp (disch := omega) only [↓n_neg1, ↓n_neg2, ↓n_neg3, ↓n_neg4, ↓n_neg5, ↓n_neg10, n_lit, n_le, n_lt, n_eq, n_cl, n_add, n_mul, n_sub, ckI_n, n_shl1, n_shr, n_and, n_or, bd1_n, n_ng, ng_n, ng_ng, hRow_at hd he, nI_l]
          rw [t2, bd2_n]
        · obtain ⟨a, b, c, d, e, f1, f2, f3⟩ := hR0
          exact ⟨a, b, c, d, ⟨rfl, rfl⟩, f1, f2, f3⟩
    · refine ⟨ngI 2, v_X_above, v_X_below, v_X_refusedBad + 1, v_X_refusedNo, r_X_ways_weight, r_X_ways_upTo, r_X_ways_behind, v_M_above, v_M_below, v_M_manyFit, upd r_M_refused 0 (r_M_refused 0 + 1), r_M_kinds, r_M_have, ?_, ?_, hR0.bad⟩
      · rw [f_X4_chance, xday_t hd, if_n1, xev_f hy, if_n0, B1]
      · rw [f_X5_chance, mday_t hd, if_n1, mev_f hy, if_n0, B2]
  · refine ⟨ngI 2, v_X_above, v_X_below, v_X_refusedBad + 1, v_X_refusedNo, r_X_ways_weight, r_X_ways_upTo, r_X_ways_behind, v_M_above, v_M_below, v_M_manyFit, upd r_M_refused 0 (r_M_refused 0 + 1), r_M_kinds, r_M_have, ?_, ?_, hR0.bad⟩
    · rw [f_X4_chance, xday_f hz, if_n0, B1]
    · rw [f_X5_chance, mday_f hz, if_n0, B2]
