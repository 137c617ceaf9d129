/-! the reference: how many fit -/
def Fw (lw nm : Nat) (kn kd mi md me mv mt : Nat → Int32) (w : Nat) : Bool := isW lw kn w && (sB (wrB kd mi md me mv mt w) nm == 0)
def cF (F : Nat → Bool) (n : Nat) : Nat := sN (fun w => if F w then 1 else 0) n
def hF (F : Nat → Bool) (n d e : Nat) : Nat := sN (fun w => if F w && (dg w d == e) then 1 else 0) n
def hRow (F : Nat → Bool) (g : Nat → Int32) (n j : Nat) : Int32 := if j < 24 then nI (hF F n (j / 4) (j % 4)) else g j
/-- within a world that fits: the days up to d are counted -/
def hRow2 (F : Nat → Bool) (g : Nat → Int32) (w d j : Nat) : Int32 := if j < 24 then nI (hF F w (j / 4) (j % 4) + (if j / 4 < d ∧ dg w (j / 4) = j % 4 then 1 else 0)) else g j
theorem hRow2_s (F : Nat → Bool) (g : Nat → Int32) (w d : Nat) (hd : d < 6) : upd (hRow2 F g w d) (4 * d + dg w d) (hRow2 F g w d (4 * d + dg w d) + nI 1) = hRow2 F g w (d + 1) := by
  have h4 := dg_lt w d
  funext j
  unfold upd
  by_cases h : j = 4 * d + dg w d
  · subst h
    rw [if_pos rfl]
    have h24 : 4 * d + dg w d < 24 := by omega
    simp only [hRow2, show (4 * d + dg w d) / 4 = d by omega, show (4 * d + dg w d) % 4 = dg w d by omega, if_pos h24]
    rw [if_neg (by omega : ¬ (d < d ∧ True)), if_pos (⟨by omega, trivial⟩ : d < d + 1 ∧ True), n_add]
  · rw [if_neg h]
    unfold hRow2
    by_cases q : j < 24
    · rw [if_pos q, if_pos q]
      by_cases c : j / 4 < d ∧ dg w (j / 4) = j % 4
      · rw [if_pos c, if_pos ⟨by omega, c.2⟩]
      · rw [if_neg c]
        have c2 : ¬ (j / 4 < d + 1 ∧ dg w (j / 4) = j % 4) := by
          intro ⟨c1, c3⟩
          rcases Nat.lt_or_ge (j / 4) d with z | z
          · exact c ⟨z, c3⟩
          · have e : j / 4 = d := by omega
            rw [e] at c3
            omega
        rw [if_neg c2]
    · rw [if_neg q, if_neg q]
theorem m_layFit {lw ni nm : Nat} {f kn mi md me mv mt k0 h0 : Nat → Int32} {v : Int32} (hl : lw < 65536) (hf1 : f 1 = nI lw) (hk : ∀ d, d < 6 → f (4 + d) = kn d) (hn : ni ≤ 4) (hf0 : f 0 = nI ni) (hM : MO nm mi md me) (hR : MR nm f mi md me mv mt) (hf3 : f 3 = nI nm) (kd : Nat → Int32) (hkd : kd = fillI (fun i => f (14 + i)) k0 ni) :
    f_X5_layFit v f k0 h0 = some (nI (cF (Fw lw nm kn kd mi md me mv mt) 4096), kd, hRow (Fw lw nm kn kd mi md me mv mt) h0 4096) := by
  generalize hF0 : Fw lw nm kn kd mi md me mv mt = F
  have s2 : lq4 (f_X5_layFit_B32 f) FU (nI 0) (nI (cF F 0)) kd (hRow F h0 0) = some (nI (cF F 4096), kd, hRow F h0 4096) := by
    refine lq4_run (fun w => nI w) (fun w => nI (cF F w)) (fun _ => kd) (fun w => hRow F h0 w) 4096 (fun k w hw => ?_) (fun k => ?_) (by have := fu; omega)
    · have hb := sB_lt (wrB kd mi md me mv mt w) nm
      have hb2 : sB (wrB kd mi md me mv mt w) nm < 2 ^ 31 := Nat.lt_of_lt_of_le hb (Nat.pow_le_pow_right (by omega) (by have := hM.1; omega))
      have hFw : F w = (isW lw kn w && (sB (wrB kd mi md me mv mt w) nm == 0)) := by rw [← hF0]; rfl
      have hno : F w = false → cF F (w + 1) = cF F w ∧ hRow F h0 (w + 1) = hRow F h0 w := by
        intro h
        constructor
        · rw [cF, sN, h]; rfl
        · funext j
          unfold hRow hF
          rw [sN, h]; rfl
      simp (disch := omega) only [f_X5_layFit_B32, ↓n_neg1, ↓n_neg2, ↓n_neg3, ↓n_neg4, ↓n_neg5, ↓n_neg10, n_lit, n_le, n_lt, n_eq, n_cl, n_add, n_mul, n_sub, ckI_n, n_shl1, n_shr, n_and, n_or, bd1_n, n_ng, ng_n, ng_ng, m_isWorld hl hf1 hk hw, m_wrongIn hM hR hf3 hw]
      rw [if_neg (by omega)]
      cases hi : isW lw kn w with
      | false =>
        rw [hi] at hFw
        obtain ⟨e1, e2⟩ := hno hFw
        rw [if_neg Bool.false_ne_true, if_pos rfl, e1, e2]
      | true =>
        rw [hi] at hFw
        rw [if_pos rfl, if_neg (by decide)]
        by_cases hz : sB (wrB kd mi md me mv mt w) nm = 0
        · have hT : F w = true := by rw [hFw, hz]; rfl
          rw [if_pos hz]
          have hr0 : hRow F h0 w = hRow2 F h0 w 0 := by
            funext j
            unfold hRow hRow2
            rw [if_neg (by omega : ¬ (j / 4 < 0 ∧ dg w (j / 4) = j % 4)), Nat.add_zero]
          have hr6 : hRow2 F h0 w 6 = hRow F h0 (w + 1) := by
            funext j
            unfold hRow hRow2 hF
            by_cases q : j < 24
            · rw [if_pos q, if_pos q, sN, hT, Bool.true_and]
              by_cases c : dg w (j / 4) = j % 4
              · rw [if_pos ⟨by omega, c⟩, if_pos (by rw [c]; exact beq_self_eq_true _)]
              · rw [if_neg (fun z => c z.2), if_neg (by simpa using c)]
            · rw [if_neg q, if_neg q]
          have hc : cF F (w + 1) = cF F w + 1 := by rw [cF, sN, hT]; rfl
          rw [hr0, hc, ← hr6]
          refine lq5_run (fun _ => nI w) (fun d => nI d) (fun _ => nI (cF F w + 1)) (fun _ => kd) (fun d => hRow2 F h0 w d) 6 (fun k d hd => ?_) (fun k => ?_) (by have := fu; omega)
          · have h4 := dg_lt w d
            simp (disch := omega) only [f_X5_layFit_B67, ↓n_neg1, ↓n_neg2, ↓n_neg3, ↓n_neg4, ↓n_neg5, ↓n_neg10, n_lit, n_le, n_lt, n_eq, n_cl, n_add, n_mul, n_sub, ckI_n, n_shl1, n_shr, n_and, n_or, bd1_n, n_ng, ng_n, ng_ng, m_eventOf hw hd]
            rw [if_neg (by omega), hRow2_s F h0 w d hd]
          · simp (disch := omega) only [f_X5_layFit_B67, ↓n_neg1, ↓n_neg2, ↓n_neg3, ↓n_neg4, ↓n_neg5, ↓n_neg10, n_lit, n_le, n_lt, n_eq, n_cl, n_add, n_mul, n_sub, ckI_n, n_shl1, n_shr, n_and, n_or, bd1_n, n_ng, ng_n, ng_ng]
            rw [if_pos (by omega)]
        · have hN : F w = false := by
            rw [hFw, Bool.true_and]
            simpa using hz
          obtain ⟨e1, e2⟩ := hno hN
          rw [if_neg hz, e1, e2]
    · simp (disch := omega) only [f_X5_layFit_B32, ↓n_neg1, ↓n_neg2, ↓n_neg3, ↓n_neg4, ↓n_neg5, ↓n_neg10, n_lit, n_le, n_lt, n_eq, n_cl, n_add, n_mul, n_sub, ckI_n, n_shl1, n_shr, n_and, n_or, bd1_n, n_ng, ng_n, ng_ng]
      rw [if_pos (by omega)]
  have s1 : lq4 (f_X5_layFit_B11 f) FU (nI 0) (nI 0) kd (fillI (fun _ => nI 0) h0 0) = some (nI (cF F 4096), kd, hRow F h0 4096) := by
    refine lq4_run (fun i => nI i) (fun _ => nI 0) (fun _ => kd) (fun i => fillI (fun _ => nI 0) h0 i) 24 (fun k i hi => ?_) (fun k => ?_) (by have := fu; omega)
    · simp (disch := omega) only [f_X5_layFit_B11, ↓n_neg1, ↓n_neg2, ↓n_neg3, ↓n_neg4, ↓n_neg5, ↓n_neg10, n_lit, n_le, n_lt, n_eq, n_cl, n_add, n_mul, n_sub, ckI_n, n_shl1, n_shr, n_and, n_or, bd1_n, n_ng, ng_n, ng_ng]
      rw [if_neg (by omega)]
      exact congrArg _ (fillI_s (fun _ => nI 0) h0 i)
    · simp (disch := omega) only [f_X5_layFit_B11, ↓n_neg1, ↓n_neg2, ↓n_neg3, ↓n_neg4, ↓n_neg5, ↓n_neg10, n_lit, n_le, n_lt, n_eq, n_cl, n_add, n_mul, n_sub, ckI_n, n_shl1, n_shr, n_and, n_or, bd1_n, n_ng, ng_n, ng_ng]
      rw [if_pos (by omega)]
      exact s2
  rw [fillI_0] at s1
  unfold f_X5_layFit
  rw [m_layKinds hn hf0, ← hkd, bd1_n]
  exact s1
theorem hRow_at {F : Nat → Bool} {g : Nat → Int32} {n d e : Nat} (hd : d < 6) (he : e < 4) : hRow F g n (4 * d + e) = nI (hF F n d e) := by
  unfold hRow
  rw [if_pos (by omega), show (4 * d + e) / 4 = d by omega, show (4 * d + e) % 4 = e by omega]
theorem cF_le (F : Nat → Bool) (n : Nat) : cF F n ≤ n := by
  have := sN_le (f := fun w => if F w then 1 else 0) (c := 1) (n := n) (fun i _ => by split <;> omega)
  unfold cF; omega
theorem hF_le (F : Nat → Bool) (n d e : Nat) : hF F n d e ≤ n := by
  have := sN_le (f := fun w => if F w && (dg w d == e) then 1 else 0) (c := 1) (n := n) (fun i _ => by split <;> omega)
  unfold hF; omega
theorem m_eventsOf {F : Nat → Bool} {g : Nat → Int32} {d : Nat} (hd : d < 6) : f_X5_eventsOf (nI d) (hRow F g 4096) = some (nI (sB (fun e => decide (0 < hF F 4096 d e)) 4)) := by
  refine lq2_run (fun i => nI (sB (fun e => decide (0 < hF F 4096 d e)) i)) (fun i => nI i) 4 (fun k i hi => ?_) (fun k => ?_) (by have := fu; omega)
  · have h1 := hF_le F 4096 d i
    simp (disch := omega) only [f_X5_eventsOf_B4, ↓n_neg1, ↓n_neg2, ↓n_neg3, ↓n_neg4, ↓n_neg5, ↓n_neg10, n_lit, n_le, n_lt, n_eq, n_cl, n_add, n_mul, n_sub, ckI_n, n_shl1, n_shr, n_and, n_or, bd1_n, n_ng, ng_n, ng_ng, hRow_at hd hi]
    rw [if_neg (by omega)]
    by_cases q : 0 < hF F 4096 d i
    · rw [if_neg (by omega), sB_or _ _ (decide_eq_true q)]
    · rw [if_pos (by omega), Nat.or_zero, sB_no _ _ (decide_eq_false q)]
  · simp (disch := omega) only [f_X5_eventsOf_B4, ↓n_neg1, ↓n_neg2, ↓n_neg3, ↓n_neg4, ↓n_neg5, ↓n_neg10, n_lit, n_le, n_lt, n_eq, n_cl, n_add, n_mul, n_sub, ckI_n, n_shl1, n_shr, n_and, n_or, bd1_n, n_ng, ng_n, ng_ng]
    rw [if_pos (by omega)]
