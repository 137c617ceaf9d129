/-! sure: sets of events that sayings tell apart -/
def TT (k t : Int32) (d s : Nat) : Bool := decide (1 ≤ s) && !decide (f_X4_given k 1 (nI d) (nI s) t = f_X4_given k 0 (nI d) (nI s) t)
def LA (A T : Nat → Bool) (a s : Nat) : Bool := if T s then A (a &&& s) && A (a &&& (15 ^^^ s)) else A a
def fF (p : Nat → Bool) : Nat → Nat → Nat
  | 0, i => i
  | n + 1, i => if p i then i else fF p n (i + 1)
def stp (A T : Nat → Bool) (a : Nat) : Bool := decide (fF (LA A T a) 14 1 < 15)
def sng (a : Nat) : Bool := decide (pc 31 a < 2)
def told (k : Int32) (d : Nat) : Nat → Int32 → Nat → Bool
  | 0, _ => sng
  | n + 1, t => stp (told k d n (t + 1)) (TT k t d)
theorem told_s (k : Int32) (d n : Nat) (t : Int32) : told k d (n + 1) t = stp (told k d n (t + 1)) (TT k t d) := rfl
theorem fF_s (p : Nat → Bool) (n i : Nat) : fF p (n + 1) i = if p i then i else fF p n (i + 1) := rfl
theorem fF_le (p : Nat → Bool) : ∀ n i, fF p n i ≤ i + n
  | 0, i => Nat.le_refl _
  | n + 1, i => by
    have := fF_le p n (i + 1)
    rw [fF_s]
    split <;> omega
theorem fF_ge (p : Nat → Bool) : ∀ n i, i ≤ fF p n i
  | 0, i => Nat.le_refl _
  | n + 1, i => by
    have := fF_ge p n (i + 1)
    rw [fF_s]
    split <;> omega
theorem fF_hit {p : Nat → Bool} : ∀ {n i}, fF p n i < i + n → p (fF p n i) = true
  | 0, i, h => by have := fF_ge p 0 i; omega
  | n + 1, i, h => by
    rw [fF_s] at h ⊢
    by_cases c : p i = true
    · rw [if_pos c]; exact c
    · rw [if_neg c] at h ⊢
      exact fF_hit (by omega)
theorem fF_lt {p : Nat → Bool} : ∀ {n i j}, i ≤ j → j < i + n → p j = true → fF p n i < i + n
  | 0, i, j, h1, h2, _ => by omega
  | n + 1, i, j, h1, h2, h3 => by
    rw [fF_s]
    by_cases c : p i = true
    · rw [if_pos c]; omega
    · rw [if_neg c]
      have hne : ¬ j = i := fun e => c (e ▸ h3)
      have := fF_lt (p := p) (n := n) (i := i + 1) (j := j) (by omega) (by omega) h3
      omega
theorem lq1_find {R : Type} {body : (Int32 → Option R) → Int32 → Option R} {p : Nat → Bool} (V : Nat → R) (r0 : R) : ∀ (m a n : Nat), (∀ k i, a ≤ i → i < a + m → p i = false → body k (nI i) = k (nI (i + 1))) → (∀ k i, a ≤ i → i < a + m → p i = true → body k (nI i) = some (V i)) → (∀ k, body k (nI (a + m)) = some r0) → m < n → lq1 body n (nI a) = some (if fF p m a < a + m then V (fF p m a) else r0)
  | 0, a, n, h1, h2, h3, hn => by
    obtain ⟨n, rfl⟩ : ∃ z, n = z + 1 := ⟨n - 1, by omega⟩
    rw [if_neg (show ¬ fF p 0 a < a + 0 from Nat.lt_irrefl a)]
    exact h3 _
  | m + 1, a, n, h1, h2, h3, hn => by
    obtain ⟨n, rfl⟩ : ∃ z, n = z + 1 := ⟨n - 1, by omega⟩
    rw [fF_s]
    cases hp : p a with
    | true =>
      rw [if_pos rfl, if_pos (by omega)]
      exact h2 _ a (Nat.le_refl _) (by omega) hp
    | false =>
      rw [if_neg Bool.false_ne_true]
      refine (h1 _ a (Nat.le_refl _) (by omega) hp).trans ?_
      have e : a + (m + 1) = a + 1 + m := by omega
      rw [e]
      exact lq1_find V r0 m (a + 1) n (fun k i q1 q2 => h1 k i (by omega) (by omega)) (fun k i q1 q2 => h2 k i (by omega) (by omega)) (fun k => by rw [← e]; exact h3 k) (by omega)
theorem bitE {x k : Nat} (hx : x < 2 ^ 31) (hk : k < 32) : ((nI x >>> (nI k &&& 31)) &&& (1 : Int32)) = nI (x / 2 ^ k % 2) := by
  simp (disch := omega) only [↓n_neg1, ↓n_neg2, ↓n_neg3, ↓n_neg4, ↓n_neg5, ↓n_neg10, n_lit, n_le, n_lt, n_eq, n_cl, n_add, n_mul, n_sub, ckI_n, n_shl1, n_shr, n_and, n_or, bd1_n, n_ng, ng_n, ng_ng, m_and1]
theorem bitS {A : Nat → Bool} {n k : Nat} (hn : n ≤ 16) (hk : k < n) : ((nI (sB A n) >>> (nI k &&& 31)) &&& (1 : Int32)) = nI (if A k then 1 else 0) := by
  have h1 := sB_lt A n
  have h2 : 2 ^ n ≤ 2 ^ 16 := Nat.pow_le_pow_right (by omega) hn
  have h3 := sB_bit A n k
  rw [Nat.testBit_eq_decide_div_mod_eq, decide_eq_true hk, Bool.true_and] at h3
  rw [bitE (by omega) (by omega)]
  congr 1
  generalize sB A n / 2 ^ k = z at *
  cases h : A k with
  | true => rw [h, decide_eq_true_eq] at h3; rw [h3]; rfl
  | false =>
    rw [h, decide_eq_false_iff_not] at h3
    rw [if_neg Bool.false_ne_true]; omega
theorem hasS {A : Nat → Bool} {n k : Nat} (hn : n ≤ 16) (hk : k < n) : f_X5_has (nI (sB A n)) (nI k) = nI (if A k then 1 else 0) := by
  unfold f_X5_has
  rw [bitS hn hk]
  cases A k <;> rfl
theorem an16 : ∀ a, a < 16 → ∀ s, s < 16 → (nI a &&& (nI s ^^^ (-1 : Int32))) = nI (a &&& (15 ^^^ s)) := by decide +kernel
theorem x_leaves {A T : Nat → Bool} {a s : Nat} (ha : a < 16) (hs : s < 15) : f_X4_leavesApart (nI a) (nI s) (nI (sB T 15)) (nI (sB A 16)) = nI (if LA A T a s then 1 else 0) := by
  have h1 : a &&& s < 16 := Nat.lt_of_le_of_lt Nat.and_le_left ha
  have h2 : a &&& (15 ^^^ s) < 16 := Nat.lt_of_le_of_lt Nat.and_le_left ha
  unfold f_X4_leavesApart LA
  rw [n_and, an16 a ha s (by omega), bitS (by omega) hs, bitS (by omega) ha, bitS (by omega) h1, bitS (by omega) h2]
  cases T s <;> cases A a <;> cases A (a &&& s) <;> cases A (a &&& (15 ^^^ s)) <;> rfl
theorem x_telling {k t : Int32} {d : Nat} : f_X4_tellingSayings k (nI d) t = some (nI (sB (TT k t d) 15)) := by
  have e0 : sB (TT k t d) (0 + 1) = 0 := by
    have : TT k t d 0 = false := rfl
    rw [sB_no _ _ this]; rfl
  have main : lq2 (f_X4_tellingSayings_B5 k (nI d) t) FU (nI (sB (TT k t d) (0 + 1))) (nI (0 + 1)) = some (nI (sB (TT k t d) 15)) := by
    refine lq2_run (fun i => nI (sB (TT k t d) (i + 1))) (fun i => nI (i + 1)) 14 (fun q i hi => ?_) (fun q => ?_) (by have := fu; omega)
    · unfold f_X4_tellingSayings_B5 f_X4_tellsTruth
      rw [if_neg (show ¬ (15 : Int32) ≤ nI (i + 1) from show ¬ nI 15 ≤ nI (i + 1) by rw [n_le (by omega) (by omega)]; omega), show nI (i + 1) + 1 = nI (i + 1 + 1) from n_add (i + 1) 1]
      by_cases c : f_X4_given k 1 (nI d) (nI (i + 1)) t = f_X4_given k 0 (nI d) (nI (i + 1)) t
      · rw [if_pos c, if_pos rfl, sB_no _ (i + 1) (show TT k t d (i + 1) = false by unfold TT; rw [decide_eq_true c]; simp)]
      · rw [if_neg c, if_neg (by decide), n_shl (by omega), n_or, sB_or _ (i + 1) (show TT k t d (i + 1) = true by unfold TT; rw [decide_eq_false c, decide_eq_true (show 1 ≤ i + 1 by omega)]; rfl)]
    · unfold f_X4_tellingSayings_B5
      rw [if_pos (by decide)]
  rw [e0] at main
  exact main
theorem x_apart {A T : Nat → Bool} {a : Nat} (ha : a < 16) : f_X4_isApartBySome (nI a) (nI (sB T 15)) (nI (sB A 16)) = some (nI (if stp A T a then 1 else 0)) := by
  refine (lq1_find (p := LA A T a) (fun _ => nI 1) (nI 0) 14 1 FU (fun k i h1 h2 hp => ?_) (fun k i h1 h2 hp => ?_) (fun k => ?_) (by have := fu; omega)).trans ?_
  · unfold f_X4_isApartBySome_B2
    rw [if_neg (show ¬ (15 : Int32) ≤ nI i from show ¬ nI 15 ≤ nI i by rw [n_le (by omega) (by omega)]; omega), x_leaves ha (by omega), hp, if_neg Bool.false_ne_true, if_n0, show nI i + 1 = nI (i + 1) from n_add i 1]
  · unfold f_X4_isApartBySome_B2
    rw [if_neg (show ¬ (15 : Int32) ≤ nI i from show ¬ nI 15 ≤ nI i by rw [n_le (by omega) (by omega)]; omega), x_leaves ha (by omega), hp, if_pos rfl, if_n1]; rfl
  · unfold f_X4_isApartBySome_B2
    rw [if_pos (by decide)]; rfl
  · unfold stp
    rw [show 1 + 14 = 15 from rfl]
    by_cases c : fF (LA A T a) 14 1 < 15
    · rw [if_pos c, decide_eq_true c]; rfl
    · rw [if_neg c, decide_eq_false c]; rfl
theorem x_toldIn {A T : Nat → Bool} {k10 : Int32 → Int32 → Option Int32} {y5 : Int32} : lq5 (f_X4_toldApart_B32 k10) FU (nI (sB A 16)) y5 (nI (sB T 15)) (nI 0) (nI 0) = k10 (nI (sB (stp A T) 16)) (y5 + (-1 : Int32)) := by
  have main : lq5 (f_X4_toldApart_B32 k10) FU (nI (sB A 16)) y5 (nI (sB T 15)) (nI (sB (stp A T) 0)) (nI 0) = k10 (nI (sB (stp A T) 16)) (y5 + (-1 : Int32)) := by
    refine lq5_run (fun _ => nI (sB A 16)) (fun _ => y5) (fun _ => nI (sB T 15)) (fun i => nI (sB (stp A T) i)) (fun i => nI i) 16 (fun k i hi => ?_) (fun k => ?_) (by have := fu; omega)
    · unfold f_X4_toldApart_B32
      rw [if_neg (show ¬ (15 : Int32) < nI i from show ¬ nI 15 < nI i by rw [n_lt (by omega) (by omega)]; omega), x_apart hi, bd1_n, show nI i + 1 = nI (i + 1) from n_add i 1]
      cases hs : stp A T i with
      | false => rw [if_neg Bool.false_ne_true, if_n0, sB_no _ _ hs]
      | true => rw [if_pos rfl, if_n1, n_shl (by omega), n_or, sB_or _ _ hs]
    · unfold f_X4_toldApart_B32
      rw [if_pos (by decide)]
  exact main
theorem t_s (t : Int32) (m : Nat) : t + nI m + 1 = t + nI (m + 1) := by rw [Int32.add_assoc]; congr 1; exact n_add m 1
theorem x_toldApart {k t : Int32} {d n : Nat} (hn : n < 100) : f_X4_toldApart k (nI d) t (nI n) = some (nI (sB (told k d n t) 16)) := by
  have key : ∀ (m j q : Nat), m < 100 → m < q → lq2 (f_X4_toldApart_B10 k (nI d) t) q (nI (sB (told k d j (t + nI m)) 16)) (nI m - 1) = some (nI (sB (told k d (j + m) t) 16)) := by
    intro m
    induction m with
    | zero =>
      intro j q h1 h2
      obtain ⟨q, rfl⟩ : ∃ z, q = z + 1 := ⟨q - 1, by omega⟩
      show f_X4_toldApart_B10 _ _ _ _ _ _ = _
      unfold f_X4_toldApart_B10
      rw [if_pos (by decide), show t + nI 0 = t from Int32.add_zero t]; rfl
    | succ m ih =>
      intro j q h1 h2
      obtain ⟨q, rfl⟩ : ∃ z, q = z + 1 := ⟨q - 1, by omega⟩
      show f_X4_toldApart_B10 k (nI d) t (lq2 (f_X4_toldApart_B10 k (nI d) t) q) (nI (sB (told k d j (t + nI (m + 1))) 16)) (nI (m + 1) - 1) = _
      rw [nI_pred]
      unfold f_X4_toldApart_B10
      rw [if_neg (nI_pos (by omega)), x_telling, bd1_n, ← t_s]
      refine x_toldIn.trans ?_
      rw [← told_s, show nI m + (-1 : Int32) = nI m - 1 from (Int32.sub_eq_add_neg _ _).symm, show j + (m + 1) = j + 1 + m by omega]
      exact ih (j + 1) q (by omega) (by omega)
  have := key n 0 FU hn (by have := fu; omega)
  rw [Nat.zero_add] at this
  exact this
