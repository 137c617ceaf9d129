theorem an_bit : ∀ a, a < 16 → ∀ e, e < 4 → (nI a &&& (nI (2 ^ e) ^^^ ngI 1)) = nI (sB (fun j => a.testBit j && !(j == e)) 4) := by decide +kernel
theorem an_15 : ∀ a, a < 16 → (nI 15 &&& (nI a ^^^ ngI 1)) = nI (sB (fun j => !(a.testBit j)) 4) := by decide +kernel
theorem and15 : ∀ a, a < 16 → a &&& 15 = a := by decide +kernel
theorem hF_s (F : Nat → Bool) (n d x : Nat) : hF F (n + 1) d x = hF F n d x + (if F n && (dg n d == x) then 1 else 0) := rfl
theorem cF_s (F : Nat → Bool) (n : Nat) : cF F (n + 1) = cF F n + (if F n then 1 else 0) := rfl
theorem t255 : ∀ j, j < 8 → (255 : Nat).testBit j = true := by decide +kernel
theorem G_255 {lw nm : Nat} {kn kd mi md me mv mt : Nat → Int32} (h : nm ≤ 8) : Gw lw nm 255 kn kd mi md me mv mt = isW lw kn := by
  funext w
  unfold Gw
  rw [show allB (fun j => !(wrB kd mi md me mv mt w j) || (255 : Nat).testBit j) nm = true from allB_iff.mpr (fun j hj => by rw [t255 j (by omega), Bool.or_true]), Bool.and_true]
theorem st_ruled (v_X_firstKept : Int32) (v_X_secondKept : Int32) (v_X_above : Int64) (v_X_below : Int64) (v_X_refusedBad : Int32) (v_X_refusedNo : Int32) (v_X_refusedFull : Int32) (v_X_now_laws : Int32) (v_X_now_inspectors : Int32) (v_X_now_marks : Int32) (v_X_now_undos : Int32) (r_X_now_knownEvent : Nat → Int32) (r_X_now_kind : Nat → Int32) (r_X_now_trips : Nat → Int32) (r_X_now_markInspector : Nat → Int32) (r_X_now_markDay : Nat → Int32) (r_X_now_markEvents : Nat → Int32) (r_X_now_markValue : Nat → Int32) (r_X_now_markTrips : Nat → Int32) (r_X_now_undoDay : Nat → Int32) (r_X_now_undoEvent : Nat → Int32) (v_X_firstImage_laws : Int32) (v_X_firstImage_inspectors : Int32) (v_X_firstImage_marks : Int32) (v_X_firstImage_undos : Int32) (r_X_firstImage_knownEvent : Nat → Int32) (r_X_firstImage_kind : Nat → Int32) (r_X_firstImage_trips : Nat → Int32) (r_X_firstImage_markInspector : Nat → Int32) (r_X_firstImage_markDay : Nat → Int32) (r_X_firstImage_markEvents : Nat → Int32) (r_X_firstImage_markValue : Nat → Int32) (r_X_firstImage_markTrips : Nat → Int32) (r_X_firstImage_undoDay : Nat → Int32) (r_X_firstImage_undoEvent : Nat → Int32) (v_X_secondImage_laws : Int32) (v_X_secondImage_inspectors : Int32) (v_X_secondImage_marks : Int32) (v_X_secondImage_undos : Int32) (r_X_secondImage_knownEvent : Nat → Int32) (r_X_secondImage_kind : Nat → Int32) (r_X_secondImage_trips : Nat → Int32) (r_X_secondImage_markInspector : Nat → Int32) (r_X_secondImage_markDay : Nat → Int32) (r_X_secondImage_markEvents : Nat → Int32) (r_X_secondImage_markValue : Nat → Int32) (r_X_secondImage_markTrips : Nat → Int32) (r_X_secondImage_undoDay : Nat → Int32) (r_X_secondImage_undoEvent : Nat → Int32) (v_X_text_length : Int32) (r_X_text_bytes : Nat → Int32) (r_X_ways_weight : Nat → Int64) (r_X_ways_upTo : Nat → Int64) (r_X_ways_behind : Nat → Int64) (v_M_above : Int64) (v_M_below : Int64) (v_M_bytesLong : Int32) (r_M_now : Nat → Int32) (r_M_kept : Nat → Int32) (r_M_isKept : Nat → Int32) (r_M_refused : Nat → Int32) (r_M_bytes : Nat → Int32) (x1 : Int32) (hR : Rel (v_X_now_laws, v_X_now_inspectors, v_X_now_marks, v_X_now_undos, r_X_now_knownEvent, r_X_now_kind, r_X_now_trips, r_X_now_markInspector, r_X_now_markDay, r_X_now_markEvents, r_X_now_markValue, r_X_now_markTrips, r_X_now_undoDay, r_X_now_undoEvent) (v_X_firstImage_laws, v_X_firstImage_inspectors, v_X_firstImage_marks, v_X_firstImage_undos, r_X_firstImage_knownEvent, r_X_firstImage_kind, r_X_firstImage_trips, r_X_firstImage_markInspector, r_X_firstImage_markDay, r_X_firstImage_markEvents, r_X_firstImage_markValue, r_X_firstImage_markTrips, r_X_firstImage_undoDay, r_X_firstImage_undoEvent) (v_X_secondImage_laws, v_X_secondImage_inspectors, v_X_secondImage_marks, v_X_secondImage_undos, r_X_secondImage_knownEvent, r_X_secondImage_kind, r_X_secondImage_trips, r_X_secondImage_markInspector, r_X_secondImage_markDay, r_X_secondImage_markEvents, r_X_secondImage_markValue, r_X_secondImage_markTrips, r_X_secondImage_undoDay, r_X_secondImage_undoEvent) v_X_firstKept v_X_secondKept v_X_text_length r_X_text_bytes v_X_above v_X_below v_X_refusedBad v_X_refusedNo v_X_refusedFull r_M_now r_M_kept r_M_isKept r_M_refused v_M_above v_M_below r_M_bytes v_M_bytesLong) : ∃ (r : Int32) (ov_X_refusedBad : Int32) (or_X_ways_weight : Nat → Int64) (or_X_ways_upTo : Nat → Int64) (or_X_ways_behind : Nat → Int64) (or_M_refused : Nat → Int32), f_X4_ruled x1 v_X_refusedBad v_X_now_laws v_X_now_marks r_X_now_knownEvent r_X_now_kind r_X_now_markInspector r_X_now_markDay r_X_now_markEvents r_X_now_markValue r_X_now_markTrips r_X_ways_weight r_X_ways_upTo r_X_ways_behind = some (r, ov_X_refusedBad, or_X_ways_weight, or_X_ways_upTo, or_X_ways_behind) ∧ f_X5_ruled x1 r_M_now r_M_refused = some (r, or_M_refused) ∧ Rel (v_X_now_laws, v_X_now_inspectors, v_X_now_marks, v_X_now_undos, r_X_now_knownEvent, r_X_now_kind, r_X_now_trips, r_X_now_markInspector, r_X_now_markDay, r_X_now_markEvents, r_X_now_markValue, r_X_now_markTrips, r_X_now_undoDay, r_X_now_undoEvent) (v_X_firstImage_laws, v_X_firstImage_inspectors, v_X_firstImage_marks, v_X_firstImage_undos, r_X_firstImage_knownEvent, r_X_firstImage_kind, r_X_firstImage_trips, r_X_firstImage_markInspector, r_X_firstImage_markDay, r_X_firstImage_markEvents, r_X_firstImage_markValue, r_X_firstImage_markTrips, r_X_firstImage_undoDay, r_X_firstImage_undoEvent) (v_X_secondImage_laws, v_X_secondImage_inspectors, v_X_secondImage_marks, v_X_secondImage_undos, r_X_secondImage_knownEvent, r_X_secondImage_kind, r_X_secondImage_trips, r_X_secondImage_markInspector, r_X_secondImage_markDay, r_X_secondImage_markEvents, r_X_secondImage_markValue, r_X_secondImage_markTrips, r_X_secondImage_undoDay, r_X_secondImage_undoEvent) v_X_firstKept v_X_secondKept v_X_text_length r_X_text_bytes v_X_above v_X_below ov_X_refusedBad v_X_refusedNo v_X_refusedFull r_M_now r_M_kept r_M_isKept or_M_refused v_M_above v_M_below r_M_bytes v_M_bytesLong := by
  have hR0 := hR
  obtain ⟨hO, -⟩ := hR
  obtain ⟨lw, ni, nm, nu, q1, q2, q3, q4, h⟩ := hO
  have q1 : v_X_now_laws = nI lw := q1
  have q3 : v_X_now_marks = nI nm := q3
  subst q1 q3
  have h : OK4 lw ni nm nu r_X_now_knownEvent r_X_now_kind r_X_now_trips r_X_now_markInspector r_X_now_markDay r_X_now_markEvents r_X_now_markValue r_X_now_markTrips r_X_now_undoDay r_X_now_undoEvent r_M_now := h
  obtain ⟨⟨a1, a2⟩, ⟨b1, b2⟩, c1, d1, e1, f1, g1, k1, -⟩ := h
  have hM := g1.mo b2
  rcases rng x1 6 (by omega) with ⟨d, hd, rfl, hz⟩ | hz
  · obtain ⟨w', u', b', s1, s2, s3, s4, -⟩ := x_fits (lost := 255) (kn := r_X_now_knownEvent) (kd := r_X_now_kind) (mv := r_X_now_markValue) (mt := r_X_now_markTrips) (g := r_X_ways_weight) (u := r_X_ways_upTo) (b := r_X_ways_behind) a2 hM
    rw [G_255 hM.1] at s4
    generalize hW : isW lw r_X_now_knownEvent = W at s4
    have sE := x_eventsOn hd (fun e he => by have := hF_le W 4096 d e; omega) (fun e he => s4 d e hd he)
    have hb : ∀ n, sB (fun e => decide (hF W n d e = 0)) 4 < 16 := fun n => sB_lt _ 4
    refine ⟨nI (sB (fun e => decide (hF W 4096 d e = 0)) 4), v_X_refusedBad, w', u', b', r_M_refused, ?_, ?_, hR0⟩
    · rw [f_X4_ruled, xday_t hd, if_n1, show (255 : Int32) = nI 255 from rfl, s1, bd1_n, s2, bd2_n, sE, bd1_n, show (15 : Int32) = nI 15 from rfl, n_neg1, an_15 _ (sB_lt _ 4)]
      congr 3
      apply sB_congr
      intro j hj
      rw [sB_bit, decide_eq_true hj, Bool.true_and]
      by_cases c : hF W 4096 d j = 0
      · rw [decide_eq_true c, decide_eq_false (by omega)]; rfl
      · rw [decide_eq_false c, decide_eq_true (by omega)]; rfl
    · rw [f_X5_ruled, mday_t hd, if_n1]
      have main : lq3 (f_X5_ruled_B19 (nI d) r_M_now) FU (nI (sB (fun e => decide (hF W 0 d e = 0)) 4)) (nI 0) r_M_refused = some (nI (sB (fun e => decide (hF W 4096 d e = 0)) 4), r_M_refused) := by
        refine lq3_run (fun n => nI (sB (fun e => decide (hF W n d e = 0)) 4)) (fun n => nI n) (fun _ => r_M_refused) 4096 (fun k n hn => ?_) (fun k => ?_) (by have := fu; omega)
        · have hbn := hb n
          have h4 := dg_lt n d
          have hWn : W n = isW lw r_X_now_knownEvent n := by rw [← hW]
          simp (disch := omega) only [f_X5_ruled_B19, ↓n_neg1, ↓n_neg2, ↓n_neg3, ↓n_neg4, ↓n_neg5, ↓n_neg10, n_lit, n_le, n_lt, n_eq, n_cl, n_add, n_mul, n_sub, ckI_n, n_shl1, n_shr, n_and, n_or, bd1_n, n_ng, ng_n, ng_ng, m_isWorld a2 a1 (fun d hd => (e1 d hd).1) hn, m_eventOf hn hd]
          rw [if_neg (by omega)]
          cases hi : isW lw r_X_now_knownEvent n with
          | false =>
            rw [hi] at hWn
            rw [if_neg Bool.false_ne_true, if_pos rfl, and15 _ hbn]
            have : sB (fun e => decide (hF W (n + 1) d e = 0)) 4 = sB (fun e => decide (hF W n d e = 0)) 4 := sB_congr (fun j hj => by rw [hF_s, hWn, Bool.false_and, if_neg Bool.false_ne_true, Nat.add_zero])
            rw [this]
          | true =>
            rw [hi] at hWn
            rw [if_pos rfl, if_neg (by decide), an_bit _ hbn _ h4]
            have : sB (fun e => decide (hF W (n + 1) d e = 0)) 4 = sB (fun j => (sB (fun e => decide (hF W n d e = 0)) 4).testBit j && !(j == dg n d)) 4 := sB_congr (fun j hj => by
              rw [hF_s, hWn, Bool.true_and, sB_bit, decide_eq_true hj, Bool.true_and]
              by_cases c : dg n d = j
              · rw [c, beq_self_eq_true, if_pos rfl, decide_eq_false (by omega)]; simp
              · rw [show (dg n d == j) = false by simpa using c, show (j == dg n d) = false by simpa using fun q => c q.symm, if_neg Bool.false_ne_true, Nat.add_zero]; simp)
            rw [this]
        · simp (disch := omega) only [f_X5_ruled_B19, ↓n_neg1, ↓n_neg2, ↓n_neg3, ↓n_neg4, ↓n_neg5, ↓n_neg10, n_lit, n_le, n_lt, n_eq, n_cl, n_add, n_mul, n_sub, ckI_n, n_shl1, n_shr, n_and, n_or, bd1_n, n_ng, ng_n, ng_ng]
          rw [if_pos (by omega)]
      exact main
  · refine ⟨ngI 2, v_X_refusedBad + 1, r_X_ways_weight, r_X_ways_upTo, r_X_ways_behind, upd r_M_refused 0 (r_M_refused 0 + 1), ?_, ?_, hR0.bad⟩
    · rw [f_X4_ruled, xday_f hz, if_n0]; rfl
    · rw [f_X5_ruled, mday_f hz, if_n0]; rfl
/-- worlds that are wrong at mark j alone -/
def pJ (lw nm : Nat) (kn kd mi md me mv mt : Nat → Int32) (j w : Nat) : Bool := isW lw kn w && (sB (wrB kd mi md me mv mt w) nm == 2 ^ j)
theorem tb_pow (j i : Nat) : (2 ^ j).testBit i = decide (j = i) := Nat.testBit_two_pow
theorem sB_sub {p : Nat → Bool} {nm j : Nat} (hj : j < nm) : allB (fun i => !(p i) || (2 ^ j).testBit i) nm = true ↔ (sB p nm = 0 ∨ sB p nm = 2 ^ j) := by
  rw [allB_iff]
  constructor
  · intro h
    by_cases q : p j = true
    · refine Or.inr (Nat.eq_of_testBit_eq (fun i => ?_))
      rw [sB_bit, tb_pow]
      by_cases c : i < nm
      · rw [decide_eq_true c, Bool.true_and]
        have := h i c
        rw [tb_pow] at this
        by_cases e : j = i
        · subst e; rw [q, decide_eq_true rfl]
        · rw [decide_eq_false e, Bool.or_false] at this
          rw [decide_eq_false e]; simpa using this
      · rw [decide_eq_false c, Bool.false_and, decide_eq_false (by omega)]
    · refine Or.inl (sB_zero.mpr (fun i hi => ?_))
      have := h i hi
      rw [tb_pow] at this
      by_cases e : j = i
      · subst e; simpa using q
      · rw [decide_eq_false e, Bool.or_false] at this; simpa using this
  · intro h i hi
    rcases h with h | h
    · rw [sB_zero.mp h i hi]; rfl
    · have : (sB p nm).testBit i = (2 ^ j).testBit i := by rw [h]
      rw [sB_bit, decide_eq_true hi, Bool.true_and] at this
      rw [← this]; cases p i <;> rfl
theorem G_split {lw nm j : Nat} {kn kd mi md me mv mt : Nat → Int32} (hj : j < nm) (n : Nat) : cF (Gw lw nm (2 ^ j) kn kd mi md me mv mt) n = cF (Fw lw nm kn kd mi md me mv mt) n + cF (pJ lw nm kn kd mi md me mv mt j) n := by
  unfold cF
  rw [← sN_add]
  apply sN_congr
  intro w _
  unfold Gw Fw pJ
  cases isW lw kn w with
  | false => rfl
  | true =>
    simp only [Bool.true_and]
    have hp : 0 < 2 ^ j := Nat.two_pow_pos j
    generalize hs : sB (wrB kd mi md me mv mt w) nm = s
    have := sB_sub (p := wrB kd mi md me mv mt w) hj
    rw [hs] at this
    by_cases c : allB (fun i => !(wrB kd mi md me mv mt w i) || (2 ^ j).testBit i) nm = true
    · rw [if_pos c]
      rcases this.mp c with z | z
      · rw [z, if_pos (by rfl), if_neg (by simp; omega)]
      · rw [z, if_neg (by simp), if_pos (by simp)]
    · rw [if_neg c, if_neg (fun z => c (this.mpr (Or.inl (by simpa using z)))), if_neg (fun z => c (this.mpr (Or.inr (by simpa using z))))]
theorem pc_one : ∀ a, a < 256 → pc 31 a = 1 → ∃ j, j < 8 ∧ a = 2 ^ j := by decide +kernel
theorem pc_le9 : ∀ a, a < 256 → pc 31 a < 9 := by decide +kernel
theorem pc_pow : ∀ j, j < 8 → pc 31 (2 ^ j) = 1 := by decide +kernel
theorem sB_setb {p : Nat → Bool} {n j : Nat} (hj : j < n) : sB p n ||| 2 ^ j = sB (fun i => p i || (j == i)) n := by
  refine Nat.eq_of_testBit_eq (fun i => ?_)
  rw [Nat.testBit_or, sB_bit, sB_bit, tb_pow]
  by_cases c : i < n
  · rw [decide_eq_true c, Bool.true_and, Bool.true_and]
    congr 1
  · rw [decide_eq_false c, Bool.false_and, Bool.false_and, decide_eq_false (by omega)]; rfl
