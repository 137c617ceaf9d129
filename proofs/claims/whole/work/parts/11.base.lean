/-- how many ones among the lowest k -/
def pc : Nat → Nat → Nat
  | 0, _ => 0
  | k + 1, n => n % 2 + pc k (n / 2)
theorem pc_0 (k : Nat) : pc k 0 = 0 := by
  induction k with
  | zero => rfl
  | succ k ih => simp [pc, ih]
theorem m_bits {n : Nat} (h : n < 2 ^ 31) : f_X5_bits (nI n) = some (nI (pc 31 n)) := by
  have key : ∀ (m : Nat) (a x : Nat), x < 2 ^ m → m ≤ 31 → ∀ q, m < q → lq2 f_X5_bits_B4 q (nI a) (nI x) = some (nI (a + pc m x)) := by
    intro m
    induction m with
    | zero =>
      intro a x hx hm q hq
      obtain ⟨q, rfl⟩ : ∃ z, q = z + 1 := ⟨q - 1, by omega⟩
      have e : x = 0 := by omega
      subst e
      show f_X5_bits_B4 _ (nI a) (nI 0) = _
      rw [f_X5_bits_B4, if_pos (by decide)]; rfl
    | succ m ih =>
      intro a x hx hm q hq
      obtain ⟨q, rfl⟩ : ∃ z, q = z + 1 := ⟨q - 1, by omega⟩
      show f_X5_bits_B4 (lq2 f_X5_bits_B4 q) (nI a) (nI x) = _
      by_cases hz : x = 0
      · subst hz
        rw [f_X5_bits_B4, if_pos (by decide), pc_0]; rfl
      · have hx31 : x < 2 ^ 31 := Nat.lt_of_lt_of_le hx (Nat.pow_le_pow_right (by omega) hm)
        rw [Nat.pow_succ] at hx
        have e := ih (a + x % 2) (x / 2) (by omega) (by omega) q (by omega)
        simp (disch := omega) only [f_X5_bits_B4, ↓n_neg1, ↓n_neg2, ↓n_neg3, ↓n_neg4, ↓n_neg5, ↓n_neg10, n_lit, n_le, n_lt, n_eq, n_cl, n_add, n_mul, n_sub, ckI_n, n_shl1, n_shr, n_and, n_or, bd1_n, n_ng, ng_n, ng_ng]
        rw [if_neg (by omega), m_and1, Nat.pow_one, e, pc, Nat.add_assoc]
  have := key 31 0 n h (by omega) FU (by have := fu; omega)
  rw [Nat.zero_add] at this
  exact this
theorem m_bitCount8 : ∀ n, n < 256 → f_J6_bitCount_0f7a4 (nI n) = nI (pc 31 n) := by decide +kernel
def ctN (p : Nat → Bool) : Nat → Nat
  | 0 => 0
  | n + 1 => ctN p n + (if p n then 1 else 0)
theorem ctN_le {p : Nat → Bool} (n : Nat) : ctN p n ≤ n := by
  induction n with
  | zero => exact Nat.le_refl _
  | succ n ih =>
    rw [ctN]
    by_cases h : p n = true
    · rw [if_pos h]; omega
    · rw [if_neg h]; omega
theorem x_knownDays (kn : Nat → Int32) : f_X0_knownDays kn = some (nI (ctN (fun d => !decide (kn d = ngI 1)) 6)) := by
  refine lq2_run (fun i => nI (ctN (fun d => !decide (kn d = ngI 1)) i)) (fun i => nI i) 6 (fun k i hi => ?_) (fun k => ?_) (by have := fu; omega)
  · simp (disch := omega) only [f_X0_knownDays_B4, ↓n_neg1, ↓n_neg2, ↓n_neg3, ↓n_neg4, ↓n_neg5, ↓n_neg10, n_lit, n_le, n_lt, n_eq, n_cl, n_add, n_mul, n_sub, ckI_n, n_shl1, n_shr, n_and, n_or, bd1_n, n_ng, ng_n, ng_ng, ctN]
    rw [if_neg (by omega)]
    by_cases h : kn i = ngI 1
    · simp [h]
    · simp [h]
  · simp (disch := omega) only [f_X0_knownDays_B4, ↓n_neg1, ↓n_neg2, ↓n_neg3, ↓n_neg4, ↓n_neg5, ↓n_neg10, n_lit, n_le, n_lt, n_eq, n_cl, n_add, n_mul, n_sub, ckI_n, n_shl1, n_shr, n_and, n_or, bd1_n, n_ng, ng_n, ng_ng]
    rw [if_pos (by omega)]
theorem m_manyKnown (f : Nat → Int32) : f_X5_manyKnown f = some (nI (ctN (fun d => !decide (f (4 + d) = ngI 1)) 6)) := by
  refine lq2_run (fun i => nI (ctN (fun d => !decide (f (4 + d) = ngI 1)) i)) (fun i => nI i) 6 (fun k i hi => ?_) (fun k => ?_) (by have := fu; omega)
  · simp (disch := omega) only [f_X5_manyKnown_B4, ↓n_neg1, ↓n_neg2, ↓n_neg3, ↓n_neg4, ↓n_neg5, ↓n_neg10, n_lit, n_le, n_lt, n_eq, n_cl, n_add, n_mul, n_sub, ckI_n, n_shl1, n_shr, n_and, n_or, bd1_n, n_ng, ng_n, ng_ng, ctN]
    rw [if_neg (by omega)]
    by_cases h : f (4 + i) = ngI 1
    · simp [h]
    · simp [h]
  · simp (disch := omega) only [f_X5_manyKnown_B4, ↓n_neg1, ↓n_neg2, ↓n_neg3, ↓n_neg4, ↓n_neg5, ↓n_neg10, n_lit, n_le, n_lt, n_eq, n_cl, n_add, n_mul, n_sub, ckI_n, n_shl1, n_shr, n_and, n_or, bd1_n, n_ng, ng_n, ng_ng]
    rw [if_pos (by omega)]
