theorem ne_one {x : Nat} (h : x < 2 ^ 31) (c : ¬ x = 1) : ¬ nI x = (1 : Int32) := fun q => c ((n_eq (b := 1) h (by omega)).mp q)
theorem ne_zero {x : Nat} (h : x < 2 ^ 31) (c : ¬ x = 0) : ¬ nI x = (0 : Int32) := fun q => c ((n_eq (b := 0) h (by omega)).mp q)
theorem ne_neg {x : Nat} (h : x < 2 ^ 31) : ¬ nI x = (-1 : Int32) := fun q => (n_ng (b := 1) h (by omega) (by omega)).mp q
theorem and_rc (a b s : Nat) : a &&& b &&& s = a &&& s &&& b := by rw [Nat.and_assoc, Nat.and_comm b s, ← Nat.and_assoc]
theorem tr_bit {s e : Nat} (hs : s < 2 ^ 31) (he : e < 32) : f_X4_truth (nI s) (nI e) = if s.testBit e then 1 else 0 := by
  unfold f_X4_truth
  rw [bitE hs he, Nat.testBit_eq_decide_div_mod_eq]
  have hm : s / 2 ^ e % 2 < 2 := Nat.mod_lt _ (by omega)
  by_cases c : s / 2 ^ e % 2 = 1
  · rw [if_pos (show nI (s / 2 ^ e % 2) = 1 by rw [c]; rfl), if_pos (decide_eq_true c)]
  · rw [if_neg (ne_one (by omega) c), if_neg (by rw [decide_eq_false c]; decide)]
theorem or0 (x : Nat) : nI x ||| (0 : Int32) = nI x := by rw [show (0 : Int32) = nI 0 from rfl, n_or, Nat.or_zero]
theorem part16 : ∀ a, a < 16 → ∀ s, s < 16 → ∀ b1 b0 : Bool, sB (fun e => (if s.testBit e then b1 else b0) && a.testBit e) 4 = (if b1 then a &&& s else 0) ||| (if b0 then a &&& (15 ^^^ s) else 0) := by decide +kernel
theorem join16 : ∀ a, a < 16 → ∀ s, s < 16 → (a &&& s) ||| (a &&& (15 ^^^ s)) = a := by decide +kernel
def prt (g1 g0 a s v : Nat) : Nat := (if decide (g1 = v) then a &&& s else 0) ||| (if decide (g0 = v) then a &&& (15 ^^^ s) else 0)
theorem prt_lt {g1 g0 a s v : Nat} (ha : a < 16) : prt g1 g0 a s v < 16 := by
  have h1 : a &&& s < 16 := Nat.lt_of_le_of_lt Nat.and_le_left ha
  have h2 : a &&& (15 ^^^ s) < 16 := Nat.lt_of_le_of_lt Nat.and_le_left ha
  unfold prt
  exact Nat.or_lt_two_pow (n := 4) (by split <;> omega) (by split <;> omega)
theorem m_partOf {f kd : Nat → Int32} {a i d s g1 g0 v : Nat} {t : Int32} (ha : a < 16) (hi : i < 4) (hs : s < 15) (hk : f (14 + i) = kd i) (h1 : g1 < 3) (h0 : g0 < 3) (hv : v < 3) (e1 : f_X4_given (kd i) 1 (nI d) (nI s) t = nI g1) (e0 : f_X4_given (kd i) 0 (nI d) (nI s) t = nI g0) : f_X5_partOf (nI a) (nI i) (nI d) (nI s) t (nI v) f = some (nI (prt g1 g0 a s v)) := by
  unfold prt
  rw [← part16 a ha s (by omega)]
  refine lq2_run (fun j => nI (sB (fun e => (if s.testBit e then decide (g1 = v) else decide (g0 = v)) && a.testBit e) j)) (fun j => nI j) 4 (fun k e he => ?_) (fun k => ?_) (by have := fu; omega)
  · have hg : f_X4_given (kd i) (f_X4_truth (nI s) (nI e)) (nI d) (nI s) t = nI (if s.testBit e then g1 else g0) := by
      rw [tr_bit (by omega) (by omega)]
      cases s.testBit e with
      | true => exact e1
      | false => exact e0
    have hg3 : (if s.testBit e then g1 else g0) < 3 := by split <;> omega
    have hh : f_X5_has (nI a) (nI e) = nI (if a.testBit e then 1 else 0) := by
      rw [show f_X5_has (nI a) (nI e) = f_X4_truth (nI a) (nI e) from rfl, tr_bit (by omega) (by omega)]
      cases a.testBit e <;> rfl
    have hp : (if s.testBit e then decide (g1 = v) else decide (g0 = v)) = decide ((if s.testBit e then g1 else g0) = v) := by
      cases s.testBit e <;> rfl
    unfold f_X5_partOf_B6 f_X5_partOf_J49
    rw [if_neg (show ¬ (4 : Int32) ≤ nI e from show ¬ nI 4 ≤ nI e by rw [n_le (by omega) (by omega)]; omega), show (14 : Int32) + nI i = nI (14 + i) from n_add 14 i, ckI_n (by omega) (by omega), n_cl (by omega), hk, m_bits (by omega), bd1_n, markAs_eq (ev := nI s) (tv := f_X5_has (nI s) (nI e)) (tr_01 (nI s) (nI e)) (m_bitCount8 s (by omega)), show f_X5_has (nI s) (nI e) = f_X4_truth (nI s) (nI e) from rfl, hg, hh, show nI e + 1 = nI (e + 1) from n_add e 1, or0]
    by_cases hc : (if s.testBit e then g1 else g0) = v
    · rw [if_pos (show nI (if s.testBit e then g1 else g0) = nI v by rw [hc]), if_neg (by decide)]
      cases ha2 : a.testBit e with
      | true => rw [if_pos rfl, if_n1, n_shl (by omega), n_or, sB_or _ e (by show (_ && a.testBit e) = true; rw [hp, decide_eq_true hc, ha2]; rfl)]
      | false => rw [if_neg Bool.false_ne_true, if_n0, sB_no _ e (by show (_ && a.testBit e) = false; rw [ha2, Bool.and_false])]
    · rw [if_neg (fun q => hc ((n_eq (by omega) (by omega)).mp q)), if_pos rfl, sB_no _ e (by show (_ && a.testBit e) = false; rw [hp, decide_eq_false hc, Bool.false_and])]
  · unfold f_X5_partOf_B6
    rw [if_pos (by decide)]
def cP (A : Nat → Bool) (g1 g0 a s v : Nat) : Bool := A (prt g1 g0 a s v)
theorem cP_all {A T : Nat → Bool} {g1 g0 a s : Nat} (hA0 : A 0 = true) (ha : a < 16) (hs : s < 15) (h1 : g1 < 3) (h0 : g0 < 3) (hT : T s = !decide (g1 = g0)) : allB (cP A g1 g0 a s) 3 = LA A T a s := by
  have hj := join16 a ha s (by omega)
  rcases (show g1 = 0 ∨ g1 = 1 ∨ g1 = 2 by omega) with rfl | rfl | rfl <;> rcases (show g0 = 0 ∨ g0 = 1 ∨ g0 = 2 by omega) with rfl | rfl | rfl <;> simp [allB, cP, prt, LA, hT, hA0, hj] <;> (try exact Bool.and_comm _ _)
theorem m_parts {A : Nat → Bool} {f kd : Nat → Int32} {a i d s : Nat} {t : Int32} (hA0 : A 0 = true) (ha : a < 16) (hi : i < 4) (hs1 : 1 ≤ s) (hs : s < 15) (hk : f (14 + i) = kd i) : f_X5_parts (nI a) (nI i) (nI d) (nI s) t (nI (sB A 16)) f = some (nI (if LA A (TT (kd i) t d) a s then 1 else 0)) := by
  obtain ⟨g1, h1, e1⟩ := given3 (k := kd i) (d := nI d) (ev := nI s) (t := t) (Or.inr rfl : (1 : Int32) = 0 ∨ (1 : Int32) = 1)
  obtain ⟨g0, h0, e0⟩ := given3 (k := kd i) (d := nI d) (ev := nI s) (t := t) (Or.inl rfl : (0 : Int32) = 0 ∨ (0 : Int32) = 1)
  have hT : TT (kd i) t d s = !decide (g1 = g0) := by
    unfold TT
    rw [e1, e0, decide_eq_true hs1, Bool.true_and]
    by_cases c : g1 = g0
    · rw [decide_eq_true c, decide_eq_true (by rw [c])]
    · rw [decide_eq_false c, decide_eq_false (fun q => c ((n_eq (by omega) (by omega)).mp q))]
  rw [← cP_all hA0 ha hs h1 h0 hT]
  refine lq2_run (fun j => nI (if allB (cP A g1 g0 a s) j then 1 else 0)) (fun j => nI j) 3 (fun k v hv => ?_) (fun k => ?_) (by have := fu; omega)
  · have hb : allB (cP A g1 g0 a s) (v + 1) = (allB (cP A g1 g0 a s) v && cP A g1 g0 a s v) := rfl
    unfold f_X5_parts_B6
    rw [if_neg (show ¬ (3 : Int32) ≤ nI v from show ¬ nI 3 ≤ nI v by rw [n_le (by omega) (by omega)]; omega), show nI v + 1 = nI (v + 1) from n_add v 1, m_partOf ha hi hs hk h1 h0 hv e1 e0, bd1_n, hasS (by omega) (prt_lt ha), hb]
    show _ = k (nI (if (allB (cP A g1 g0 a s) v && A (prt g1 g0 a s v)) = true then 1 else 0)) (nI (v + 1))
    cases allB (cP A g1 g0 a s) v <;> cases A (prt g1 g0 a s v) <;> rfl
  · unfold f_X5_parts_B6
    rw [if_pos (by decide)]
    cases allB (cP A g1 g0 a s) 3
    · exact ckB_0 _
    · exact ckB_1 _
theorem m_least {A : Nat → Bool} {f kd : Nat → Int32} {a i d : Nat} {t : Int32} (hA0 : A 0 = true) (ha : a < 16) (hi : i < 4) (hk : f (14 + i) = kd i) : f_X5_leastSaying (nI a) (nI i) (nI d) t (nI (sB A 16)) f = some (if stp A (TT (kd i) t d) a then nI (fF (LA A (TT (kd i) t d) a) 14 1) else ngI 1) := by
  refine (lq1_find (p := LA A (TT (kd i) t d) a) (fun s => nI s) (ngI 1) 14 1 FU (fun k s h1 h2 hp => ?_) (fun k s h1 h2 hp => ?_) (fun k => ?_) (by have := fu; omega)).trans ?_
  · unfold f_X5_leastSaying_B3
    rw [if_neg (show ¬ (15 : Int32) ≤ nI s from show ¬ nI 15 ≤ nI s by rw [n_le (by omega) (by omega)]; omega), m_parts hA0 ha hi h1 (by omega) hk, bd1_n, hp, if_neg Bool.false_ne_true, if_n0, show nI s + 1 = nI (s + 1) from n_add s 1]
  · unfold f_X5_leastSaying_B3
    rw [if_neg (show ¬ (15 : Int32) ≤ nI s from show ¬ nI 15 ≤ nI s by rw [n_le (by omega) (by omega)]; omega), m_parts hA0 ha hi h1 (by omega) hk, bd1_n, hp, if_pos rfl, if_n1]
  · unfold f_X5_leastSaying_B3
    rw [if_pos (by decide)]; rfl
  · unfold stp
    rw [show 1 + 14 = 15 from rfl]
    by_cases c : fF (LA A (TT (kd i) t d) a) 14 1 < 15
    · rw [if_pos c, if_pos (decide_eq_true c)]
    · rw [if_neg c, if_neg (by rw [decide_eq_false c]; decide)]
/-- what is told apart stays so -/
def DC (A : Nat → Bool) : Prop := ∀ a b, a < 16 → A a = true → A (a &&& b) = true
theorem sng_D16 : ∀ a, a < 16 → ∀ b, b < 16 → sng a = true → sng (a &&& b) = true := by decide +kernel
theorem sng_D : DC sng := by
  intro a b ha h
  have e : a &&& b = a &&& (b % 16) := by
    have : b % 16 = b &&& 15 := (Nat.and_two_pow_sub_one_eq_mod b 4).symm
    rw [this, Nat.and_comm b 15, ← Nat.and_assoc]
    have : a &&& 15 = a := by rw [show a &&& 15 = a % 16 from Nat.and_two_pow_sub_one_eq_mod a 4]; omega
    rw [this]
  rw [e]
  exact sng_D16 a ha _ (Nat.mod_lt _ (by omega)) h
theorem stp_iff {A T : Nat → Bool} {a : Nat} : stp A T a = true ↔ ∃ s, 1 ≤ s ∧ s < 15 ∧ LA A T a s = true := by
  unfold stp
  rw [decide_eq_true_eq]
  constructor
  · intro h
    exact ⟨fF (LA A T a) 14 1, fF_ge _ _ _, h, fF_hit (n := 14) (i := 1) h⟩
  · intro ⟨s, h1, h2, h3⟩
    exact fF_lt (n := 14) (i := 1) h1 h2 h3
theorem stp_D {A T : Nat → Bool} (h : DC A) : DC (stp A T) := by
  intro a b ha hs
  rw [stp_iff] at hs ⊢
  obtain ⟨s, h1, h2, h3⟩ := hs
  refine ⟨s, h1, h2, ?_⟩
  unfold LA at h3 ⊢
  have h1' : ∀ c, a &&& c < 16 := fun c => Nat.lt_of_le_of_lt Nat.and_le_left ha
  cases hT : T s with
  | true =>
    rw [hT, if_pos rfl, Bool.and_eq_true] at h3
    rw [if_pos rfl, Bool.and_eq_true, and_rc a b s, and_rc a b (15 ^^^ s)]
    exact ⟨h _ b (h1' _) h3.1, h _ b (h1' _) h3.2⟩
  | false =>
    rw [hT, if_neg Bool.false_ne_true] at h3
    rw [if_neg Bool.false_ne_true]
    exact h a b ha h3
theorem stp_mono {A T : Nat → Bool} (h : DC A) {a : Nat} (ha : a < 16) (hA : A a = true) : stp A T a = true := by
  rw [stp_iff]
  refine ⟨1, by omega, by omega, ?_⟩
  unfold LA
  rw [hA, h a _ ha hA, h a _ ha hA]
  cases T 1 <;> rfl
theorem told_D (k : Int32) (d : Nat) : ∀ n t, DC (told k d n t)
  | 0, _ => sng_D
  | n + 1, t => stp_D (told_D k d n (t + 1))
theorem told_0 (k : Int32) (d : Nat) : ∀ n t, told k d n t 0 = true
  | 0, _ => by show sng 0 = true; decide
  | n + 1, t => stp_mono (told_D k d n (t + 1)) (by omega) (told_0 k d n (t + 1))
theorem or_mono {A B : Nat → Bool} (h : ∀ a, a < 16 → A a = true → B a = true) : sB A 16 ||| sB B 16 = sB B 16 := by
  apply Nat.eq_of_testBit_eq
  intro j
  rw [Nat.testBit_or, sB_bit, sB_bit]
  by_cases c : j < 16
  · rw [decide_eq_true c, Bool.true_and, Bool.true_and]
    cases hA : A j with
    | true => rw [h j c hA]; rfl
    | false => rfl
  · rw [decide_eq_false c]; rfl
theorem m_solvedIn {A : Nat → Bool} {f kd : Nat → Int32} {i d : Nat} {t y4 : Int32} {k52 : Int32 → Int32 → Option Int32} (hA : DC A) (hA0 : A 0 = true) (hi : i < 4) (hk : f (14 + i) = kd i) (ht : f (10 + i) = t) : lq4 (f_X5_laySolved_B66 (nI i) (nI d) f k52) FU y4 (nI (sB A 16)) (nI 0) (nI (sB A 16)) = k52 (y4 + (-1 : Int32)) (nI (sB (stp A (TT (kd i) (t + y4) d)) 16)) := by
  have main : lq4 (f_X5_laySolved_B66 (nI i) (nI d) f k52) FU y4 (nI (sB A 16 ||| sB (stp A (TT (kd i) (t + y4) d)) 0)) (nI 0) (nI (sB A 16)) = k52 (y4 + (-1 : Int32)) (nI (sB A 16 ||| sB (stp A (TT (kd i) (t + y4) d)) 16)) := by
    refine lq4_run (fun _ => y4) (fun j => nI (sB A 16 ||| sB (stp A (TT (kd i) (t + y4) d)) j)) (fun j => nI j) (fun _ => nI (sB A 16)) 16 (fun k a ha => ?_) (fun k => ?_) (by have := fu; omega)
    · unfold f_X5_laySolved_B66
      rw [if_neg (show ¬ (16 : Int32) ≤ nI a from show ¬ nI 16 ≤ nI a by rw [n_le (by omega) (by omega)]; omega), show (10 : Int32) + nI i = nI (10 + i) from n_add 10 i, ckI_n (by omega) (by omega), n_cl (by omega), ht, m_least hA0 ha hi hk, bd1_n, show nI a + 1 = nI (a + 1) from n_add a 1, or0]
      have hle := fF_le (LA A (TT (kd i) (t + y4) d) a) 14 1
      cases hs : stp A (TT (kd i) (t + y4) d) a with
      | true =>
        rw [if_pos rfl, if_neg (ne_neg (by omega)), n_shl (by omega), n_or, Nat.or_assoc, sB_or _ _ hs]
      | false =>
        rw [if_neg Bool.false_ne_true, if_pos (show ngI 1 = (-1 : Int32) from rfl), sB_no _ _ hs]
    · unfold f_X5_laySolved_B66
      rw [if_pos (by decide)]
  rw [show sB A 16 ||| sB (stp A (TT (kd i) (t + y4) d)) 0 = sB A 16 from Nat.or_zero _, or_mono (fun a ha h => stp_mono hA ha h)] at main
  exact main
theorem m_solved {f kd : Nat → Int32} {i d n : Nat} {t v : Int32} (hi : i < 4) (hn : n < 100) (hk : f (14 + i) = kd i) (ht : f (10 + i) = t) : f_X5_laySolved (nI i) (nI d) (nI (n + 1)) v f = some (nI (sB (told (kd i) d n (t + 1)) 16)) := by
  have key : ∀ (m j q : Nat), m < 100 → m < q → lq2 (f_X5_laySolved_B52 (nI i) (nI d) f) q (nI m) (nI (sB (told (kd i) d j (t + nI (m + 1))) 16)) = some (nI (sB (told (kd i) d (j + m) (t + 1)) 16)) := by
    intro m
    induction m with
    | zero =>
      intro j q h1 h2
      obtain ⟨q, rfl⟩ : ∃ z, q = z + 1 := ⟨q - 1, by omega⟩
      show f_X5_laySolved_B52 _ _ _ _ _ _ = _
      unfold f_X5_laySolved_B52
      rw [if_pos (by decide)]; rfl
    | succ m ih =>
      intro j q h1 h2
      obtain ⟨q, rfl⟩ : ∃ z, q = z + 1 := ⟨q - 1, by omega⟩
      show f_X5_laySolved_B52 (nI i) (nI d) f (lq2 (f_X5_laySolved_B52 (nI i) (nI d) f) q) (nI (m + 1)) (nI (sB (told (kd i) d j (t + nI (m + 1 + 1))) 16)) = _
      unfold f_X5_laySolved_B52
      rw [if_neg (show ¬ nI (m + 1) ≤ 0 from show ¬ nI (m + 1) ≤ nI 0 by rw [n_le (by omega) (by omega)]; omega)]
      refine (m_solvedIn (kd := kd) (t := t) (told_D (kd i) d j (t + nI (m + 1 + 1))) (told_0 (kd i) d j (t + nI (m + 1 + 1))) hi hk ht).trans ?_
      rw [← t_s t (m + 1), ← told_s, show nI (m + 1) + (-1 : Int32) = nI m from ((Int32.sub_eq_add_neg _ _).symm.trans (nI_pred m)), show j + (m + 1) = j + 1 + m by omega]
      exact ih (j + 1) q (by omega) (by omega)
  have main : lq2 (f_X5_laySolved_B8 (nI i) (nI d) (nI (n + 1)) f) FU (nI 0) (nI (sB sng 0)) = some (nI (sB (told (kd i) d n (t + 1)) 16)) := by
    refine lq2_run (fun j => nI j) (fun j => nI (sB sng j)) 16 (fun k a ha => ?_) (fun k => ?_) (by have := fu; omega)
    · have h31 : pc 31 a ≤ 31 := by
        have : ∀ a, a < 16 → pc 31 a ≤ 31 := by decide +kernel
        exact this a ha
      unfold f_X5_laySolved_B8
      rw [if_neg (show ¬ (16 : Int32) ≤ nI a from show ¬ nI 16 ≤ nI a by rw [n_le (by omega) (by omega)]; omega), m_bits (by omega), bd1_n, show nI a + 1 = nI (a + 1) from n_add a 1, or0]
      by_cases c : pc 31 a < 2
      · rw [if_neg (show ¬ (2 : Int32) ≤ nI (pc 31 a) from show ¬ nI 2 ≤ nI (pc 31 a) by rw [n_le (by omega) (by omega)]; omega), n_shl (by omega), n_or, sB_or sng a (by unfold sng; exact decide_eq_true c)]
      · rw [if_pos (show (2 : Int32) ≤ nI (pc 31 a) from show nI 2 ≤ nI (pc 31 a) by rw [n_le (by omega) (by omega)]; omega), sB_no sng a (by unfold sng; exact decide_eq_false c)]
    · unfold f_X5_laySolved_B8
      rw [if_pos (by decide), nI_pred]
      have := key n 0 FU hn (by have := fu; omega)
      rw [Nat.zero_add] at this
      exact this
  exact main
