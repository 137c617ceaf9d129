/-! the class: marks that are missed, what is allowed, weights -/
def MO (nm : Nat) (mi md me : Nat → Int32) : Prop := nm ≤ 8 ∧ ∀ j, j < nm → (∃ w, w < 4 ∧ mi j = nI w) ∧ (∃ d, d < 6 ∧ md j = nI d) ∧ ∃ e, 1 ≤ e ∧ e < 15 ∧ me j = nI e
def bdj (kd mi md me mv mt : Nat → Int32) (j e : Nat) : Bool := !decide (f_X4_given (kd (Int32.toNatClampNeg (mi j))) (f_X4_truth (me j) (nI e)) (md j) (me j) (mt j) = mv j)
def mis (kd mi md me mv mt : Nat → Int32) (d e j : Nat) : Bool := decide (md j = nI d) && bdj kd mi md me mv mt j e
def okd (kn : Nat → Int32) (d e : Nat) : Bool := decide (kn d = ngI 1) || decide (kn d = nI e)
theorem x_missed {nm : Nat} {kd mi md me mv mt : Nat → Int32} (h : MO nm mi md me) (d e : Nat) : f_X0_missed (nI d) (nI e) (nI nm) kd mi md me mv mt = some (nI (sB (mis kd mi md me mv mt d e) nm)) := by
  obtain ⟨h8, hj⟩ := h
  refine lq2_run (fun i => nI (sB (mis kd mi md me mv mt d e) i)) (fun i => nI i) nm (fun k i hi => ?_) (fun k => ?_) (by have := fu; omega)
  · obtain ⟨⟨w, hw, ew⟩, -, -⟩ := hj i hi
    simp (disch := omega) only [f_X0_missed_B5, f_X0_markBy, ↓n_neg1, ↓n_neg2, ↓n_neg3, ↓n_neg4, ↓n_neg5, ↓n_neg10, n_lit, n_le, n_lt, n_eq, n_cl, n_add, n_mul, n_sub, ckI_n, n_shl1, n_shr, n_and, n_or, bd1_n, n_ng, ng_n, ng_ng, ew]
    rw [if_neg (by omega)]
    by_cases h1 : md i = nI d
    · rw [if_pos h1]
      by_cases h2 : f_X4_given (kd w) (f_X4_truth (me i) (nI e)) (md i) (me i) (mt i) = mv i
      · rw [if_pos h2]
        have : mis kd mi md me mv mt d e i = false := by
          unfold mis bdj
          rw [ew, n_cl (by omega), decide_eq_true h2, Bool.not_true, Bool.and_false]
        rw [sB_no _ _ this]
      · rw [if_neg h2]
        have : mis kd mi md me mv mt d e i = true := by
          unfold mis bdj
          rw [ew, n_cl (by omega), decide_eq_false h2, decide_eq_true h1]; rfl
        rw [sB_or _ _ this]
    · rw [if_neg h1]
      have : mis kd mi md me mv mt d e i = false := by
        unfold mis
        rw [decide_eq_false h1]; rfl
      rw [sB_no _ _ this]
  · simp (disch := omega) only [f_X0_missed_B5, ↓n_neg1, ↓n_neg2, ↓n_neg3, ↓n_neg4, ↓n_neg5, ↓n_neg10, n_lit, n_le, n_lt, n_eq, n_cl, n_add, n_mul, n_sub, ckI_n, n_shl1, n_shr, n_and, n_or, bd1_n, n_ng, ng_n, ng_ng]
    rw [if_pos (by omega)]
theorem x_allows {kn : Nat → Int32} {d : Nat} (hd : d < 6) (e : Nat) : f_X0_allows (nI d) (nI e) kn = some (nI (if okd kn d e then 1 else 0)) := by
  simp (disch := omega) only [f_X0_allows, ↓n_neg1, ↓n_neg2, ↓n_neg3, ↓n_neg4, ↓n_neg5, ↓n_neg10, n_lit, n_le, n_lt, n_eq, n_cl, n_add, n_mul, n_sub, ckI_n, n_shl1, n_shr, n_and, n_or, bd1_n, n_ng, ng_n, ng_ng]
  unfold okd
  by_cases h1 : kn d = ngI 1
  · simp [h1]
  · rw [if_neg h1]
    by_cases h2 : kn d = nI e
    · simp [h2]
    · rw [if_neg h2, decide_eq_false h1, decide_eq_false h2]; rfl
theorem ng1_bv : (ngI 1).toBitVec = BitVec.allOnes 32 := by decide
theorem and_not {a b : Nat} (ha : a < 2 ^ 31) : (nI a &&& (nI b ^^^ ngI 1)) = nI 0 ↔ ∀ j, a.testBit j = true → b.testBit j = true := by
  rw [← Int32.toBitVec_inj]
  have e : (nI a &&& (nI b ^^^ ngI 1)).toBitVec = BitVec.ofNat 32 a &&& (BitVec.ofNat 32 b ^^^ BitVec.allOnes 32) := by
    rw [← ng1_bv]; rfl
  have z : (nI 0).toBitVec = 0#32 := rfl
  have key : ∀ j, j < 32 → (BitVec.ofNat 32 a &&& (BitVec.ofNat 32 b ^^^ BitVec.allOnes 32)).getLsbD j = (a.testBit j && !(b.testBit j)) := by
    intro j hj
    rw [BitVec.getLsbD_and, BitVec.getLsbD_xor, BitVec.getLsbD_ofNat, BitVec.getLsbD_ofNat, BitVec.getLsbD_allOnes, decide_eq_true hj, Bool.true_and, Bool.true_and, Bool.xor_true]
  rw [e, z]
  constructor
  · intro h j hj
    have hj32 : j < 32 := by
      rcases Nat.lt_or_ge j 32 with q | q
      · exact q
      · have : a < 2 ^ j := Nat.lt_of_lt_of_le ha (Nat.pow_le_pow_right (by omega) (by omega))
        rw [Nat.testBit_lt_two_pow this] at hj; cases hj
    have h1 := key j hj32
    rw [h, BitVec.getLsbD_zero, hj, Bool.true_and] at h1
    cases hb : b.testBit j with
    | true => rfl
    | false => rw [hb] at h1; cases h1
  · intro h
    apply BitVec.eq_of_getLsbD_eq
    intro j hj
    rw [key j hj, BitVec.getLsbD_zero]
    cases ha2 : a.testBit j with
    | false => rfl
    | true => rw [h j ha2]; rfl
def fillL (V g : Nat → Int64) (n j : Nat) : Int64 := if j < n then V j else g j
theorem fillL_0 (V g : Nat → Int64) : fillL V g 0 = g := by
  funext j; unfold fillL; rw [if_neg (by omega)]
theorem fillL_s (V g : Nat → Int64) (n : Nat) : vp_updL (fillL V g n) n (V n) = fillL V g (n + 1) := by
  funext j
  unfold vp_updL fillL
  by_cases h : j = n
  · rw [if_pos h, if_pos (by omega), h]
  · rw [if_neg h]
    by_cases q : j < n
    · rw [if_pos q, if_pos (by omega)]
    · rw [if_neg q, if_neg (by omega)]
theorem fillL_in {V g : Nat → Int64} {n j : Nat} (h : j < n) : fillL V g n j = V j := if_pos h
def wfB (kd mi md me mv mt kn : Nat → Int32) (nm lost d e : Nat) : Bool := okd kn d e && allB (fun j => !(mis kd mi md me mv mt d e j) || lost.testBit j) nm
theorem sub_all {p : Nat → Bool} {nm lost : Nat} : (∀ j, (sB p nm).testBit j = true → lost.testBit j = true) ↔ allB (fun j => !(p j) || lost.testBit j) nm = true := by
  rw [allB_iff]
  constructor
  · intro h i hi
    cases hp : p i with
    | false => rfl
    | true =>
      have := h i (by rw [sB_bit, hp, decide_eq_true hi]; rfl)
      rw [this]; rfl
  · intro h j hj
    rw [sB_bit, Bool.and_eq_true, decide_eq_true_eq] at hj
    have := h j hj.1
    rw [hj.2] at this
    simpa using this
/-- weights of a row, by a function of day and event -/
def rowL (F : Nat → Nat → Nat) (j : Nat) : Int64 := lN (F (j / 4) (j % 4))
theorem rowL_at {F : Nat → Nat → Nat} {d e : Nat} (he : e < 4) : rowL F (4 * d + e) = lN (F d e) := by
  unfold rowL
  rw [show (4 * d + e) / 4 = d by omega, show (4 * d + e) % 4 = e by omega]
def wfN (kd mi md me mv mt kn : Nat → Int32) (nm lost d e : Nat) : Nat := if wfB kd mi md me mv mt kn nm lost d e then 1 else 0
theorem x_weighFits {nm : Nat} {kd mi md me mv mt kn : Nat → Int32} {g : Nat → Int64} {lost : Nat} (h : MO nm mi md me) : f_X3_weighFits (nI lost) g (nI nm) kn kd mi md me mv mt = some (fillL (rowL (wfN kd mi md me mv mt kn nm lost)) g 24) := by
  have e0 : g = fillL (rowL (wfN kd mi md me mv mt kn nm lost)) g (4 * 0) := (fillL_0 _ _).symm
  have main : lq2 (f_X3_weighFits_B2 (nI lost) (nI nm) kn kd mi md me mv mt) FU (nI 0) (fillL (rowL (wfN kd mi md me mv mt kn nm lost)) g (4 * 0)) = some (fillL (rowL (wfN kd mi md me mv mt kn nm lost)) g 24) := by
    refine lq2_run (fun d => nI d) (fun d => fillL (rowL (wfN kd mi md me mv mt kn nm lost)) g (4 * d)) 6 (fun k d hd => ?_) (fun k => ?_) (by have := fu; omega)
    · simp (disch := omega) only [f_X3_weighFits_B2, ↓n_neg1, ↓n_neg2, ↓n_neg3, ↓n_neg4, ↓n_neg5, ↓n_neg10, n_lit, n_le, n_lt, n_eq, n_cl, n_add, n_mul, n_sub, ckI_n, n_shl1, n_shr, n_and, n_or, bd1_n, n_ng, ng_n, ng_ng]
      rw [if_neg (by omega)]
      refine lq3_run (fun _ => nI d) (fun e => nI e) (fun e => fillL (rowL (wfN kd mi md me mv mt kn nm lost)) g (4 * d + e)) 4 (fun k e he => ?_) (fun k => ?_) (by have := fu; omega)
      · have hs := fillL_s (rowL (wfN kd mi md me mv mt kn nm lost)) g (4 * d + e)
        rw [rowL_at he] at hs
        simp (disch := omega) only [f_X3_weighFits_B11, f_X3_weighFits_J46, f_X3_place, ↓n_neg1, ↓n_neg2, ↓n_neg3, ↓n_neg4, ↓n_neg5, ↓n_neg10, n_lit, n_le, n_lt, n_eq, n_cl, n_add, n_mul, n_sub, ckI_n, n_shl1, n_shr, n_and, n_or, bd1_n, n_ng, ng_n, ng_ng, x_allows hd, x_missed h]
        rw [if_neg (by omega), ← Nat.add_assoc, ← hs]
        unfold wfN wfB
        cases ho : okd kn d e with
        | false => simp (disch := omega) [↓n_neg1, ↓n_neg2, ↓n_neg3, ↓n_neg4, ↓n_neg5, ↓n_neg10, n_lit, n_le, n_lt, n_eq, n_cl, n_add, n_mul, n_sub, ckI_n, n_shl1, n_shr, n_and, n_or, bd1_n, n_ng, ng_n, ng_ng, l_lit]
        | true =>
          have hb := sB_lt (mis kd mi md me mv mt d e) nm
          have hb2 : sB (mis kd mi md me mv mt d e) nm < 2 ^ 31 := Nat.lt_of_lt_of_le hb (Nat.pow_le_pow_right (by omega) (by have := h.1; omega))
          have ha := (and_not (b := lost) hb2).trans (sub_all (p := mis kd mi md me mv mt d e) (nm := nm) (lost := lost))
          by_cases hc : allB (fun j => !(mis kd mi md me mv mt d e j) || lost.testBit j) nm = true
          · simp (disch := omega) [↓n_neg1, ↓n_neg2, ↓n_neg3, ↓n_neg4, ↓n_neg5, ↓n_neg10, n_lit, n_le, n_lt, n_eq, n_cl, n_add, n_mul, n_sub, ckI_n, n_shl1, n_shr, n_and, n_or, bd1_n, n_ng, ng_n, ng_ng, l_lit, ha.mpr hc, hc]
          · have hc2 : ¬ (nI (sB (mis kd mi md me mv mt d e) nm) &&& (nI lost ^^^ ngI 1)) = nI 0 := fun q => hc (ha.mp q)
            simp (disch := omega) [↓n_neg1, ↓n_neg2, ↓n_neg3, ↓n_neg4, ↓n_neg5, ↓n_neg10, n_lit, n_le, n_lt, n_eq, n_cl, n_add, n_mul, n_sub, ckI_n, n_shl1, n_shr, n_and, n_or, bd1_n, n_ng, ng_n, ng_ng, l_lit, hc2, hc]
      · simp (disch := omega) only [f_X3_weighFits_B11, ↓n_neg1, ↓n_neg2, ↓n_neg3, ↓n_neg4, ↓n_neg5, ↓n_neg10, n_lit, n_le, n_lt, n_eq, n_cl, n_add, n_mul, n_sub, ckI_n, n_shl1, n_shr, n_and, n_or, bd1_n, n_ng, ng_n, ng_ng]
        rw [if_pos (by omega)]
        rfl
    · simp (disch := omega) only [f_X3_weighFits_B2, ↓n_neg1, ↓n_neg2, ↓n_neg3, ↓n_neg4, ↓n_neg5, ↓n_neg10, n_lit, n_le, n_lt, n_eq, n_cl, n_add, n_mul, n_sub, ckI_n, n_shl1, n_shr, n_and, n_or, bd1_n, n_ng, ng_n, ng_ng]
      rw [if_pos (by omega)]
  rw [← e0] at main
  exact main
