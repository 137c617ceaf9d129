theorem m_tells {lw ni nm : Nat} {f kn mi md me mv mt k0 : Nat → Int32} (hl : lw < 65536) (hf1 : f 1 = nI lw) (hk : ∀ d, d < 6 → f (4 + d) = kn d) (hn : ni ≤ 4) (hf0 : f 0 = nI ni) (hM : MO nm mi md me) (hR : MR nm f mi md me mv mt) (hf3 : f 3 = nI nm) (kd : Nat → Int32) (hkd : kd = fillI (fun i => f (14 + i)) k0 ni) :
    f_X5_tells f k0 = some (nI (sB (fun j => decide (0 < cF (pJ lw nm kn kd mi md me mv mt j) 4096)) nm), kd) := by
  unfold f_X5_tells
  rw [m_layKinds hn hf0, ← hkd, bd1_n]
  have h8 := hM.1
  have main : lq3 (f_X5_tells_B8 f) FU (nI (sB (fun j => decide (0 < cF (pJ lw nm kn kd mi md me mv mt j) 0)) nm)) (nI 0) kd = some (nI (sB (fun j => decide (0 < cF (pJ lw nm kn kd mi md me mv mt j) 4096)) nm), kd) := by
    refine lq3_run (fun n => nI (sB (fun j => decide (0 < cF (pJ lw nm kn kd mi md me mv mt j) n)) nm)) (fun n => nI n) (fun _ => kd) 4096 (fun k w hw => ?_) (fun k => ?_) (by have := fu; omega)
    · have hb : sB (wrB kd mi md me mv mt w) nm < 256 := Nat.lt_of_lt_of_le (sB_lt _ nm) (Nat.pow_le_pow_right (by omega) h8)
      have p0 : pc 31 0 = 0 := pc_0 31
      have same : (∀ j, j < nm → pJ lw nm kn kd mi md me mv mt j w = false) → sB (fun j => decide (0 < cF (pJ lw nm kn kd mi md me mv mt j) (w + 1))) nm = sB (fun j => decide (0 < cF (pJ lw nm kn kd mi md me mv mt j) w)) nm := fun z => sB_congr (fun j hj => by rw [cF_s, z j hj, if_neg Bool.false_ne_true, Nat.add_zero])
      simp (disch := omega) only [f_X5_tells_B8, f_X5_tells_J32, ↓n_neg1, ↓n_neg2, ↓n_neg3, ↓n_neg4, ↓n_neg5, ↓n_neg10, n_lit, n_le, n_lt, n_eq, n_cl, n_add, n_mul, n_sub, ckI_n, n_shl1, n_shr, n_and, n_or, bd1_n, n_ng, ng_n, ng_ng, m_isWorld hl hf1 hk hw, m_wrongIn hM hR hf3 hw, m_bits]
      rw [if_neg (by omega)]
      cases hi : isW lw kn w with
      | false =>
        rw [if_neg Bool.false_ne_true, if_pos rfl, p0, if_neg (by omega), Nat.or_zero, same (fun j hj => by unfold pJ; rw [hi, Bool.false_and])]
      | true =>
        rw [if_pos rfl, if_neg (by decide)]
        generalize hs : sB (wrB kd mi md me mv mt w) nm = s at hb ⊢
        have hp9 := pc_le9 s hb
        have hpj : ∀ j, pJ lw nm kn kd mi md me mv mt j w = (s == 2 ^ j) := fun j => by unfold pJ; rw [hi, hs, Bool.true_and]
        simp (disch := omega) only [↓n_neg1, ↓n_neg2, ↓n_neg3, ↓n_neg4, ↓n_neg5, ↓n_neg10, n_lit, n_le, n_lt, n_eq, n_cl, n_add, n_mul, n_sub, ckI_n, n_shl1, n_shr, n_and, n_or, bd1_n, n_ng, ng_n, ng_ng]
        by_cases c : pc 31 s = 1
        · rw [if_pos c]
          obtain ⟨j, hj, rfl⟩ := pc_one s hb c
          have hjn : j < nm := by
            rcases Nat.lt_or_ge j nm with q | q
            · exact q
            · have h1 := sB_lt (wrB kd mi md me mv mt w) nm
              have h2 : 2 ^ nm ≤ 2 ^ j := Nat.pow_le_pow_right (by omega) q
              omega
          rw [sB_setb hjn]
          have ee : sB (fun i => decide (0 < cF (pJ lw nm kn kd mi md me mv mt i) (w + 1))) nm = sB (fun i => decide (0 < cF (pJ lw nm kn kd mi md me mv mt i) w) || (j == i)) nm := by
            apply sB_congr
            intro i hi'
            rw [cF_s, hpj i]
            by_cases e : j = i
            · subst e
              rw [beq_self_eq_true, beq_self_eq_true, Bool.or_true, if_pos rfl]; exact decide_eq_true (by omega)
            · have : (2 ^ j == 2 ^ i) = false := by
                simp only [beq_eq_false_iff_ne]
                intro q
                have := congrArg (fun z => z.testBit j) q
                simp only [tb_pow, decide_true] at this
                rw [decide_eq_false (fun z => e z.symm)] at this
                exact absurd this (by decide)
              rw [this, show (j == i) = false by simpa using e, Bool.or_false, if_neg Bool.false_ne_true, Nat.add_zero]
          rw [ee]
        · rw [if_neg c, Nat.or_zero, same (fun j hj => by
            rw [hpj j]
            simp only [beq_eq_false_iff_ne]
            intro q
            exact c (by rw [q]; exact pc_pow j (by omega)))]
    · simp (disch := omega) only [f_X5_tells_B8, ↓n_neg1, ↓n_neg2, ↓n_neg3, ↓n_neg4, ↓n_neg5, ↓n_neg10, n_lit, n_le, n_lt, n_eq, n_cl, n_add, n_mul, n_sub, ckI_n, n_shl1, n_shr, n_and, n_or, bd1_n, n_ng, ng_n, ng_ng]
      rw [if_pos (by omega)]
  have e0 : sB (fun j => decide (0 < cF (pJ lw nm kn kd mi md me mv mt j) 0)) nm = 0 := sB_zero.mpr (fun j hj => rfl)
  rw [e0] at main
  exact main
theorem pJ_congr {lw nm j : Nat} {kn kd kd' mi md me mv mt : Nat → Int32} (h : ∀ j, j < nm → kd (Int32.toNatClampNeg (mi j)) = kd' (Int32.toNatClampNeg (mi j))) : pJ lw nm kn kd mi md me mv mt j = pJ lw nm kn kd' mi md me mv mt j := by
  funext w
  unfold pJ
  rw [sB_congr (wrB_congr h)]
theorem st_tells (v_X_firstKept : Int32) (v_X_secondKept : Int32) (v_X_above : Int64) (v_X_below : Int64) (v_X_refusedBad : Int32) (v_X_refusedNo : Int32) (v_X_refusedFull : Int32) (v_X_now_laws : Int32) (v_X_now_inspectors : Int32) (v_X_now_marks : Int32) (v_X_now_undos : Int32) (r_X_now_knownEvent : Nat → Int32) (r_X_now_kind : Nat → Int32) (r_X_now_trips : Nat → Int32) (r_X_now_markInspector : Nat → Int32) (r_X_now_markDay : Nat → Int32) (r_X_now_markEvents : Nat → Int32) (r_X_now_markValue : Nat → Int32) (r_X_now_markTrips : Nat → Int32) (r_X_now_undoDay : Nat → Int32) (r_X_now_undoEvent : Nat → Int32) (v_X_firstImage_laws : Int32) (v_X_firstImage_inspectors : Int32) (v_X_firstImage_marks : Int32) (v_X_firstImage_undos : Int32) (r_X_firstImage_knownEvent : Nat → Int32) (r_X_firstImage_kind : Nat → Int32) (r_X_firstImage_trips : Nat → Int32) (r_X_firstImage_markInspector : Nat → Int32) (r_X_firstImage_markDay : Nat → Int32) (r_X_firstImage_markEvents : Nat → Int32) (r_X_firstImage_markValue : Nat → Int32) (r_X_firstImage_markTrips : Nat → Int32) (r_X_firstImage_undoDay : Nat → Int32) (r_X_firstImage_undoEvent : Nat → Int32) (v_X_secondImage_laws : Int32) (v_X_secondImage_inspectors : Int32) (v_X_secondImage_marks : Int32) (v_X_secondImage_undos : Int32) (r_X_secondImage_knownEvent : Nat → Int32) (r_X_secondImage_kind : Nat → Int32) (r_X_secondImage_trips : Nat → Int32) (r_X_secondImage_markInspector : Nat → Int32) (r_X_secondImage_markDay : Nat → Int32) (r_X_secondImage_markEvents : Nat → Int32) (r_X_secondImage_markValue : Nat → Int32) (r_X_secondImage_markTrips : Nat → Int32) (r_X_secondImage_undoDay : Nat → Int32) (r_X_secondImage_undoEvent : Nat → Int32) (v_X_text_length : Int32) (r_X_text_bytes : Nat → Int32) (r_X_ways_weight : Nat → Int64) (r_X_ways_upTo : Nat → Int64) (r_X_ways_behind : Nat → Int64) (v_M_above : Int64) (v_M_below : Int64) (v_M_bytesLong : Int32) (r_M_now : Nat → Int32) (r_M_kept : Nat → Int32) (r_M_isKept : Nat → Int32) (r_M_refused : Nat → Int32) (r_M_kinds : Nat → Int32) (r_M_bytes : Nat → Int32)  (hR : Rel (v_X_now_laws, v_X_now_inspectors, v_X_now_marks, v_X_now_undos, r_X_now_knownEvent, r_X_now_kind, r_X_now_trips, r_X_now_markInspector, r_X_now_markDay, r_X_now_markEvents, r_X_now_markValue, r_X_now_markTrips, r_X_now_undoDay, r_X_now_undoEvent) (v_X_firstImage_laws, v_X_firstImage_inspectors, v_X_firstImage_marks, v_X_firstImage_undos, r_X_firstImage_knownEvent, r_X_firstImage_kind, r_X_firstImage_trips, r_X_firstImage_markInspector, r_X_firstImage_markDay, r_X_firstImage_markEvents, r_X_firstImage_markValue, r_X_firstImage_markTrips, r_X_firstImage_undoDay, r_X_firstImage_undoEvent) (v_X_secondImage_laws, v_X_secondImage_inspectors, v_X_secondImage_marks, v_X_secondImage_undos, r_X_secondImage_knownEvent, r_X_secondImage_kind, r_X_secondImage_trips, r_X_secondImage_markInspector, r_X_secondImage_markDay, r_X_secondImage_markEvents, r_X_secondImage_markValue, r_X_secondImage_markTrips, r_X_secondImage_undoDay, r_X_secondImage_undoEvent) v_X_firstKept v_X_secondKept v_X_text_length r_X_text_bytes v_X_above v_X_below v_X_refusedBad v_X_refusedNo v_X_refusedFull r_M_now r_M_kept r_M_isKept r_M_refused v_M_above v_M_below r_M_bytes v_M_bytesLong) : ∃ (r : Int32) (or_X_ways_weight : Nat → Int64) (or_X_ways_upTo : Nat → Int64) (or_X_ways_behind : Nat → Int64) (or_M_kinds : Nat → Int32), f_X4_tells v_X_now_laws v_X_now_marks r_X_now_knownEvent r_X_now_kind r_X_now_markInspector r_X_now_markDay r_X_now_markEvents r_X_now_markValue r_X_now_markTrips r_X_ways_weight r_X_ways_upTo r_X_ways_behind = some (r, or_X_ways_weight, or_X_ways_upTo, or_X_ways_behind) ∧ f_X5_tells r_M_now r_M_kinds = some (r, or_M_kinds) ∧ Rel (v_X_now_laws, v_X_now_inspectors, v_X_now_marks, v_X_now_undos, r_X_now_knownEvent, r_X_now_kind, r_X_now_trips, r_X_now_markInspector, r_X_now_markDay, r_X_now_markEvents, r_X_now_markValue, r_X_now_markTrips, r_X_now_undoDay, r_X_now_undoEvent) (v_X_firstImage_laws, v_X_firstImage_inspectors, v_X_firstImage_marks, v_X_firstImage_undos, r_X_firstImage_knownEvent, r_X_firstImage_kind, r_X_firstImage_trips, r_X_firstImage_markInspector, r_X_firstImage_markDay, r_X_firstImage_markEvents, r_X_firstImage_markValue, r_X_firstImage_markTrips, r_X_firstImage_undoDay, r_X_firstImage_undoEvent) (v_X_secondImage_laws, v_X_secondImage_inspectors, v_X_secondImage_marks, v_X_secondImage_undos, r_X_secondImage_knownEvent, r_X_secondImage_kind, r_X_secondImage_trips, r_X_secondImage_markInspector, r_X_secondImage_markDay, r_X_secondImage_markEvents, r_X_secondImage_markValue, r_X_secondImage_markTrips, r_X_secondImage_undoDay, r_X_secondImage_undoEvent) v_X_firstKept v_X_secondKept v_X_text_length r_X_text_bytes v_X_above v_X_below v_X_refusedBad v_X_refusedNo v_X_refusedFull r_M_now r_M_kept r_M_isKept r_M_refused v_M_above v_M_below r_M_bytes v_M_bytesLong := by
  have hR0 := hR
  obtain ⟨hO, -⟩ := hR
  obtain ⟨lw, ni, nm, nu, q1, q2, q3, q4, h⟩ := hO
  have q1 : v_X_now_laws = nI lw := q1
  have q3 : v_X_now_marks = nI nm := q3
  subst q1 q3
  have h : OK4 lw ni nm nu r_X_now_knownEvent r_X_now_kind r_X_now_trips r_X_now_markInspector r_X_now_markDay r_X_now_markEvents r_X_now_markValue r_X_now_markTrips r_X_now_undoDay r_X_now_undoEvent r_M_now := h
  obtain ⟨⟨a1, a2⟩, ⟨b1, b2⟩, c1, d1, e1, f1, g1, k1, -⟩ := h
  have hM := g1.mo b2
  have h8 := hM.1
  have hkk : ∀ j, j < nm → r_X_now_kind (Int32.toNatClampNeg (r_X_now_markInspector j)) = fillI (fun i => r_M_now (14 + i)) r_M_kinds ni (Int32.toNatClampNeg (r_X_now_markInspector j)) := by
    intro j hj
    obtain ⟨⟨w, hw, ew⟩, -⟩ := g1.2 j hj
    rw [ew, n_cl (by omega), fillI_in hw]
    exact (f1 w hw).1.symm
  have mT := m_tells a2 a1 (fun d hd => (e1 d hd).1) b2 b1 hM k1 c1 (fillI (fun i => r_M_now (14 + i)) r_M_kinds ni) rfl
  obtain ⟨w', u', b', s1, s2, s3, s4⟩ := x_sumFits (kn := r_X_now_knownEvent) (kd := r_X_now_kind) (mv := r_X_now_markValue) (mt := r_X_now_markTrips) (g := r_X_ways_weight) (u := r_X_ways_upTo) (b := r_X_ways_behind) a2 hM
  have eS : sB (fun j => decide (0 < cF (pJ lw nm r_X_now_knownEvent (fillI (fun i => r_M_now (14 + i)) r_M_kinds ni) r_X_now_markInspector r_X_now_markDay r_X_now_markEvents r_X_now_markValue r_X_now_markTrips j) 4096)) nm = sB (fun j => decide (0 < cF (pJ lw nm r_X_now_knownEvent r_X_now_kind r_X_now_markInspector r_X_now_markDay r_X_now_markEvents r_X_now_markValue r_X_now_markTrips j) 4096)) nm := sB_congr (fun j hj => by rw [pJ_congr hkk])
  rw [eS] at mT
  clear eS
  have hlF := cF_le (Fw lw nm r_X_now_knownEvent r_X_now_kind r_X_now_markInspector r_X_now_markDay r_X_now_markEvents r_X_now_markValue r_X_now_markTrips) 4096
  have hlP : ∀ j, cF (pJ lw nm r_X_now_knownEvent r_X_now_kind r_X_now_markInspector r_X_now_markDay r_X_now_markEvents r_X_now_markValue r_X_now_markTrips j) 4096 ≤ 4096 := fun j => cF_le _ _
  have hG : ∀ j, j < nm → cF (Gw lw nm (2 ^ j) r_X_now_knownEvent r_X_now_kind r_X_now_markInspector r_X_now_markDay r_X_now_markEvents r_X_now_markValue r_X_now_markTrips) 4096 = _ := fun j hj => G_split hj 4096
  have hX := fun (g u b : Nat → Int64) (j : Nat) => x_fits (lost := 2 ^ j) (kn := r_X_now_knownEvent) (kd := r_X_now_kind) (mv := r_X_now_markValue) (mt := r_X_now_markTrips) (g := g) (u := u) (b := b) a2 hM
  generalize cF (Fw lw nm r_X_now_knownEvent r_X_now_kind r_X_now_markInspector r_X_now_markDay r_X_now_markEvents r_X_now_markValue r_X_now_markTrips) 4096 = cf at *
  obtain ⟨C, hC⟩ : ∃ C : Nat → Nat, ∀ j, cF (pJ lw nm r_X_now_knownEvent r_X_now_kind r_X_now_markInspector r_X_now_markDay r_X_now_markEvents r_X_now_markValue r_X_now_markTrips j) 4096 = C j := ⟨_, fun _ => rfl⟩
  simp only [hC] at mT hlP hG
  obtain ⟨r, hr, hq⟩ := lq6_inv (body := f_X4_tells_B17 (nI lw) (nI nm) r_X_now_knownEvent r_X_now_kind r_X_now_markInspector r_X_now_markDay r_X_now_markEvents r_X_now_markValue r_X_now_markTrips) (fun i y1 y3 y4 _ _ _ => y1 = lN cf ∧ y3 = nI (sB (fun j => decide (0 < C j)) i) ∧ y4 = nI i) (fun r => r.1 = nI (sB (fun j => decide (0 < C j)) nm)) nm (fun k i y1 y3 y4 g u b hi hI => by
      obtain ⟨rfl, rfl, rfl⟩ := hI
      obtain ⟨w2, u2, b2', t1, t2, t3, -⟩ := hX g u b i
      rw [hG i hi] at t3
      have hc : lg_cmp (lN (cf + C i)) (lN cf) ≤ nI 0 ↔ ¬ 0 < C i := by
        show lg_cmp (lN (cf + C i)) (lN cf) ≤ 0 ↔ ¬ 0 < C i
        rw [lg_le, l_le (by have := hlP i; omega) (by omega)]; omega
      refine ⟨lN cf, nI (sB (fun j => decide (0 < C j)) (i + 1)), nI (i + 1), w2, u2, b2', ⟨rfl, rfl, rfl⟩, ?_⟩
      simp (disch := omega) only [f_X4_tells_B17, ↓n_neg1, ↓n_neg2, ↓n_neg3, ↓n_neg4, ↓n_neg5, ↓n_neg10, n_lit, n_le, n_lt, n_eq, n_cl, n_add, n_mul, n_sub, ckI_n, n_shl1, n_shr, n_and, n_or, bd1_n, n_ng, ng_n, ng_ng, t1]
      rw [if_neg (by omega), t2, bd2_n, t3, bd1_n]
      by_cases c : 0 < C i
      · rw [if_neg (fun q => hc.mp q c), sB_or _ _ (decide_eq_true c)]
      · rw [if_pos (hc.mpr c), sB_no _ _ (decide_eq_false c)]) (fun k y1 y3 y4 g u b hI => by
      obtain ⟨rfl, rfl, rfl⟩ := hI
      refine ⟨(nI (sB (fun j => decide (0 < C j)) nm), g, u, b), ?_, rfl⟩
      simp (disch := omega) only [f_X4_tells_B17, ↓n_neg1, ↓n_neg2, ↓n_neg3, ↓n_neg4, ↓n_neg5, ↓n_neg10, n_lit, n_le, n_lt, n_eq, n_cl, n_add, n_mul, n_sub, ckI_n, n_shl1, n_shr, n_and, n_or, bd1_n, n_ng, ng_n, ng_ng]
      rw [if_pos (by omega)]) (n := FU) (by have := fu; omega) (a0 := lN cf) (a1 := nI 0) (a2 := nI 0) (a3 := w') (a4 := u') (a5 := b') ⟨rfl, rfl, rfl⟩
  obtain ⟨r0, r1, r2, r3⟩ := r
  have hq : r0 = nI (sB (fun j => decide (0 < C j)) nm) := hq
  subst hq
  refine ⟨nI (sB (fun j => decide (0 < C j)) nm), r1, r2, r3, fillI (fun i => r_M_now (14 + i)) r_M_kinds ni, ?_, mT, hR0⟩
  rw [f_X4_tells, s1, bd3_n, s2, bd1_n]
  exact hr
