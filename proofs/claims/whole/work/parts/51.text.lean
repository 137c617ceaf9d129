/-! read: where tokens begin and end, on both sides -/
theorem bd4_n {A B C D R : Type} (a : A) (b : B) (c : C) (d : D) (k : A → B → C → D → Option R) : bd4 (some (a, b, c, d)) k = k a b c d := rfl
theorem bd5_n {A B C D E R : Type} (a : A) (b : B) (c : C) (d : D) (e : E) (k : A → B → C → D → E → Option R) : bd5 (some (a, b, c, d, e)) k = k a b c d e := rfl
theorem bd6_n {A B C D E F R : Type} (a : A) (b : B) (c : C) (d : D) (e : E) (f : F) (k : A → B → C → D → E → F → Option R) : bd6 (some (a, b, c, d, e, f)) k = k a b c d e f := rfl
theorem bd7_n {A B C D E F G R : Type} (a : A) (b : B) (c : C) (d : D) (e : E) (f : F) (g : G) (k : A → B → C → D → E → F → G → Option R) : bd7 (some (a, b, c, d, e, f, g)) k = k a b c d e f g := rfl
theorem fF_not {p : Nat → Bool} : ∀ {n i j}, i ≤ j → j < fF p n i → p j = false
  | 0, i, j, h1, h2 => by rw [show fF p 0 i = i from rfl] at h2; omega
  | n + 1, i, j, h1, h2 => by
    rw [fF_s] at h2
    cases hp : p i with
    | true => rw [hp, if_pos rfl] at h2; omega
    | false =>
      rw [hp, if_neg Bool.false_ne_true] at h2
      by_cases e : j = i
      · rw [e]; exact hp
      · exact fF_not (i := i + 1) (by omega) h2
theorem lq1_seek {R : Type} {body : (Int32 → Option R) → Int32 → Option R} {p : Nat → Bool} (W : Nat → Option R) : ∀ (m a n : Nat), (∀ k i, a ≤ i → i < a + m → p i = false → body k (nI i) = k (nI (i + 1))) → (∀ k i, a ≤ i → i < a + m → p i = true → body k (nI i) = W i) → (∀ k, body k (nI (a + m)) = W (a + m)) → m < n → lq1 body n (nI a) = W (fF p m a)
  | 0, a, n, h1, h2, h3, hn => by
    obtain ⟨n, rfl⟩ : ∃ z, n = z + 1 := ⟨n - 1, by omega⟩
    exact h3 _
  | m + 1, a, n, h1, h2, h3, hn => by
    obtain ⟨n, rfl⟩ : ∃ z, n = z + 1 := ⟨n - 1, by omega⟩
    rw [fF_s]
    cases hp : p a with
    | true =>
      rw [if_pos rfl]
      exact h2 _ a (Nat.le_refl _) (by omega) hp
    | false =>
      rw [if_neg Bool.false_ne_true]
      refine (h1 _ a (Nat.le_refl _) (by omega) hp).trans ?_
      have e : a + (m + 1) = a + 1 + m := by omega
      exact lq1_seek W m (a + 1) n (fun k i q1 q2 => h1 k i (by omega) (by omega)) (fun k i q1 q2 => h2 k i (by omega) (by omega)) (fun k => by rw [← e]; exact h3 k) (by omega)
theorem lq4_seek {A B C R : Type} {body : (Int32 → A → B → C → Option R) → Int32 → A → B → C → Option R} {p : Nat → Bool} (x : A) (y : B) (z : C) (W : Nat → Option R) : ∀ (m a n : Nat), (∀ k i, a ≤ i → i < a + m → p i = false → body k (nI i) x y z = k (nI (i + 1)) x y z) → (∀ k i, a ≤ i → i < a + m → p i = true → body k (nI i) x y z = W i) → (∀ k, body k (nI (a + m)) x y z = W (a + m)) → m < n → lq4 body n (nI a) x y z = W (fF p m a)
  | 0, a, n, h1, h2, h3, hn => by
    obtain ⟨n, rfl⟩ : ∃ z, n = z + 1 := ⟨n - 1, by omega⟩
    exact h3 _
  | m + 1, a, n, h1, h2, h3, hn => by
    obtain ⟨n, rfl⟩ : ∃ z, n = z + 1 := ⟨n - 1, by omega⟩
    rw [fF_s]
    cases hp : p a with
    | true =>
      rw [if_pos rfl]
      exact h2 _ a (Nat.le_refl _) (by omega) hp
    | false =>
      rw [if_neg Bool.false_ne_true]
      refine (h1 _ a (Nat.le_refl _) (by omega) hp).trans ?_
      have e : a + (m + 1) = a + 1 + m := by omega
      exact lq4_seek x y z W m (a + 1) n (fun k i q1 q2 => h1 k i (by omega) (by omega)) (fun k i q1 q2 => h2 k i (by omega) (by omega)) (fun k => by rw [← e]; exact h3 k) (by omega)
def TXB (n : Nat) (bb mb : Nat → Int32) (b : Nat → Nat) : Prop := n ≤ 150 ∧ ∀ j, j < n → bb j = nI (b j) ∧ mb j = nI (b j) ∧ b j < 128
def inR (b : Nat → Nat) (lo hi j : Nat) : Bool := decide (lo ≤ b j) && decide (b j ≤ hi)
theorem inR_t {b : Nat → Nat} {lo hi j : Nat} : inR b lo hi j = true ↔ lo ≤ b j ∧ b j ≤ hi := by
  unfold inR
  rw [Bool.and_eq_true, decide_eq_true_eq, decide_eq_true_eq]
theorem inR_f {b : Nat → Nat} {lo hi j : Nat} : inR b lo hi j = false ↔ ¬ (lo ≤ b j ∧ b j ≤ hi) := by
  rw [← inR_t]; simp
def rn (b : Nat → Nat) (n lo hi q : Nat) : Nat := fF (fun j => !(inR b lo hi j)) (n - q) q
theorem rn_le {b : Nat → Nat} {n lo hi q : Nat} (h : q ≤ n) : rn b n lo hi q ≤ n := by
  have := fF_le (fun j => !(inR b lo hi j)) (n - q) q
  unfold rn; omega
theorem rn_ge {b : Nat → Nat} {n lo hi q : Nat} : q ≤ rn b n lo hi q := fF_ge _ _ _
theorem rn_s {b : Nat → Nat} {n lo hi q : Nat} (h : q < n) (hr : inR b lo hi q = true) : rn b n lo hi q = rn b n lo hi (q + 1) := by
  unfold rn
  rw [show n - q = (n - (q + 1)) + 1 by omega, fF_s]
  show (if (!(inR b lo hi q)) = true then q else _) = _
  rw [hr]; rfl
theorem rn_in {b : Nat → Nat} {n lo hi q j : Nat} (h1 : q ≤ j) (h2 : j < rn b n lo hi q) : inR b lo hi j = true := by
  have := fF_not (p := fun j => !(inR b lo hi j)) h1 h2
  simpa using this
theorem x_byteAt {n q : Nat} {bb mb : Nat → Int32} {b : Nat → Nat} (h : TXB n bb mb b) (hq : q < n) : f_X2_byteAt (nI q) (nI n) bb = some (nI (b q)) := by
  have h150 := h.1
  unfold f_X2_byteAt
  rw [if_neg (nI_pos (by omega)), if_neg (by rw [n_le (by omega) (by omega)]; omega), if_neg (show ¬ (150 : Int32) ≤ nI q from show ¬ nI 150 ≤ nI q by rw [n_le (by omega) (by omega)]; omega), ckI_n (by omega) (by omega), n_cl (by omega), (h.2 q hq).1]
theorem x_run {n q lo hi : Nat} {bb mb : Nat → Int32} {b : Nat → Nat} (h : TXB n bb mb b) (hq : q ≤ n) (hlo : lo < 200) (hhi : hi < 200) : f_X2_behindRun (nI q) (nI lo) (nI hi) (nI n) bb = some (nI (rn b n lo hi q)) := by
  have h150 := h.1
  refine lq1_seek (p := fun j => !(inR b lo hi j)) (fun i => some (nI i)) (n - q) q FU (fun k i h1 h2 hp => ?_) (fun k i h1 h2 hp => ?_) (fun k => ?_) (by have := fu; omega)
  · have hb := (h.2 i (by omega)).2.2
    have hp : inR b lo hi i = true := by simpa using hp
    rw [inR_t] at hp
    unfold f_X2_behindRun_B3
    rw [if_neg (by rw [n_le (by omega) (by omega)]; omega), x_byteAt h (by omega), bd1_n, if_neg (by rw [n_lt (by omega) (by omega)]; omega), bd1_n, if_neg (by rw [n_lt (by omega) (by omega)]; omega), show nI i + 1 = nI (i + 1) from n_add i 1]
  · have hb := (h.2 i (by omega)).2.2
    have hp : inR b lo hi i = false := by simpa using hp
    rw [inR_f] at hp
    unfold f_X2_behindRun_B3
    rw [if_neg (by rw [n_le (by omega) (by omega)]; omega), x_byteAt h (by omega), bd1_n]
    by_cases c : b i < lo
    · rw [if_pos (by rw [n_lt (by omega) (by omega)]; omega)]
    · rw [if_neg (by rw [n_lt (by omega) (by omega)]; omega), bd1_n, if_pos (by rw [n_lt (by omega) (by omega)]; omega)]
  · unfold f_X2_behindRun_B3
    rw [if_pos (by rw [n_le (by omega) (by omega)]; omega)]
theorem x_letter {q : Nat} {b : Nat → Nat} (hb : b q < 128) : f_X2_isLetter (nI (b q)) = nI (if inR b 97 122 q then 1 else 0) := by
  unfold f_X2_isLetter
  by_cases c : 97 ≤ b q ∧ b q ≤ 122
  · rw [if_neg (show ¬ nI (b q) < (97 : Int32) from show ¬ nI (b q) < nI 97 by rw [n_lt (by omega) (by omega)]; omega), if_neg (show ¬ (122 : Int32) < nI (b q) from show ¬ nI 122 < nI (b q) by rw [n_lt (by omega) (by omega)]; omega), inR_t.mpr c]; rfl
  · rw [inR_f.mpr c]
    by_cases c1 : b q < 97
    · rw [if_pos (show nI (b q) < (97 : Int32) from show nI (b q) < nI 97 by rw [n_lt (by omega) (by omega)]; omega)]; rfl
    · rw [if_neg (show ¬ nI (b q) < (97 : Int32) from show ¬ nI (b q) < nI 97 by rw [n_lt (by omega) (by omega)]; omega), if_pos (show (122 : Int32) < nI (b q) from show nI 122 < nI (b q) by rw [n_lt (by omega) (by omega)]; omega)]; rfl
theorem x_figure {q : Nat} {b : Nat → Nat} (hb : b q < 128) : f_X2_isFigure (nI (b q)) = nI (if inR b 48 57 q then 1 else 0) := by
  unfold f_X2_isFigure
  by_cases c : 48 ≤ b q ∧ b q ≤ 57
  · rw [if_neg (show ¬ nI (b q) < (48 : Int32) from show ¬ nI (b q) < nI 48 by rw [n_lt (by omega) (by omega)]; omega), if_neg (show ¬ (57 : Int32) < nI (b q) from show ¬ nI 57 < nI (b q) by rw [n_lt (by omega) (by omega)]; omega), inR_t.mpr c]; rfl
  · rw [inR_f.mpr c]
    by_cases c1 : b q < 48
    · rw [if_pos (show nI (b q) < (48 : Int32) from show nI (b q) < nI 48 by rw [n_lt (by omega) (by omega)]; omega)]; rfl
    · rw [if_neg (show ¬ nI (b q) < (48 : Int32) from show ¬ nI (b q) < nI 48 by rw [n_lt (by omega) (by omega)]; omega), if_pos (show (57 : Int32) < nI (b q) from show nI 57 < nI (b q) by rw [n_lt (by omega) (by omega)]; omega)]; rfl
theorem m_small {q : Nat} {b : Nat → Nat} (hb : b q < 128) : f_X5_isSmall (nI (b q)) = nI (if inR b 97 122 q then 1 else 0) := by
  by_cases c : 97 ≤ b q ∧ b q ≤ 122
  · rw [inR_t.mpr c]
    exact in_t (lo := 97) (hi := 122) rfl rfl (by rw [tN _ (by omega)]; omega) (by rw [tN _ (by omega)]; omega)
  · rw [inR_f.mpr c]
    exact in_f (lo := 97) (hi := 122) rfl rfl (by rw [tN _ (by omega)]; omega)
theorem m_figure {q : Nat} {b : Nat → Nat} (hb : b q < 128) : f_X5_isFigure (nI (b q)) = nI (if inR b 48 57 q then 1 else 0) := by
  by_cases c : 48 ≤ b q ∧ b q ≤ 57
  · rw [inR_t.mpr c]
    exact in_t (lo := 48) (hi := 57) rfl rfl (by rw [tN _ (by omega)]; omega) (by rw [tN _ (by omega)]; omega)
  · rw [inR_f.mpr c]
    exact in_f (lo := 48) (hi := 57) rfl rfl (by rw [tN _ (by omega)]; omega)
/-- behind the token that begins at q -/
def en (b : Nat → Nat) (n q : Nat) : Nat := if q < n then (if inR b 97 122 q then rn b n 97 122 q else if inR b 48 57 q then rn b n 48 57 q else q + 1) else q
theorem en_n {b : Nat → Nat} {n q : Nat} (h : ¬ q < n) : en b n q = q := if_neg h
theorem en_a {b : Nat → Nat} {n q : Nat} (h : q < n) (h1 : inR b 97 122 q = true) : en b n q = rn b n 97 122 q := by
  unfold en; rw [if_pos h, if_pos h1]
theorem en_f {b : Nat → Nat} {n q : Nat} (h : q < n) (h1 : inR b 97 122 q = false) (h2 : inR b 48 57 q = true) : en b n q = rn b n 48 57 q := by
  unfold en; rw [if_pos h, h1, if_neg Bool.false_ne_true, if_pos h2]
theorem en_o {b : Nat → Nat} {n q : Nat} (h : q < n) (h1 : inR b 97 122 q = false) (h2 : inR b 48 57 q = false) : en b n q = q + 1 := by
  unfold en; rw [if_pos h, h1, if_neg Bool.false_ne_true, h2, if_neg Bool.false_ne_true]
theorem en_b {b : Nat → Nat} {n q : Nat} (h : q < n) : q < en b n q ∧ en b n q ≤ n := by
  cases h1 : inR b 97 122 q with
  | true =>
    rw [en_a h h1, rn_s h h1]
    have := rn_ge (b := b) (n := n) (lo := 97) (hi := 122) (q := q + 1)
    exact ⟨by omega, rn_le (by omega)⟩
  | false =>
    cases h2 : inR b 48 57 q with
    | true =>
      rw [en_f h h1 h2, rn_s h h2]
      have := rn_ge (b := b) (n := n) (lo := 48) (hi := 57) (q := q + 1)
      exact ⟨by omega, rn_le (by omega)⟩
    | false => rw [en_o h h1 h2]; omega
theorem en_le {b : Nat → Nat} {n q : Nat} (h : q ≤ n) : en b n q ≤ n := by
  by_cases c : q < n
  · exact (en_b c).2
  · rw [en_n c]; exact h
def nv (b : Nat → Nat) (q l : Nat) : Nat := if l = 1 then b q - 48 else 10 * (b q - 48) + (b (q + 1) - 48)
def vw (b : Nat → Nat) (q i : Nat) : Nat := if i = 0 then 0 else nv b q i
theorem vw_s {b : Nat → Nat} {q i : Nat} (hi : i < 2) (h0 : 48 ≤ b q) (h1 : i = 1 → 48 ≤ b (q + 1)) : 10 * vw b q i + b (q + i) - 48 = vw b q (i + 1) := by
  rcases (show i = 0 ∨ i = 1 by omega) with rfl | rfl
  · show 10 * 0 + b (q + 0) - 48 = b q - 48
    rw [Nat.add_zero]; omega
  · show 10 * (b q - 48) + b (q + 1) - 48 = 10 * (b q - 48) + (b (q + 1) - 48)
    have := h1 rfl
    omega
theorem step10 {v c : Nat} (hc : 48 ≤ c) : ((10 : Int32) * nI v + nI c) - (48 : Int32) = nI (10 * v + c - 48) := by
  rw [show (10 : Int32) = nI 10 from rfl, show (48 : Int32) = nI 48 from rfl, n_mul, n_add, n_sub (by omega)]
theorem m_look1 {q l tk : Nat} {mb : Nat → Int32} (hl : 1 ≤ l) (hl2 : l < 1000) (ht : tk < 10) (ht2 : ¬ tk = 2) : lq5 (f_X5_lookAt_B218 mb) FU (0 : Int32) (nI q) (nI l) (nI tk) (0 : Int32) = some (nI q, nI l, nI tk, nI 0) := by
  have hne : ¬ nI tk = (2 : Int32) := fun z => ht2 ((n_eq (b := 2) (by omega) (by omega)).mp z)
  refine lq5_run (fun _ => (0 : Int32)) (fun _ => nI q) (fun _ => nI l) (fun _ => nI tk) (fun _ => (0 : Int32)) 0 (fun k i hi => by omega) (fun k => ?_) (by have := fu; omega)
  unfold f_X5_lookAt_B218 f_X5_lookAt_J274
  rw [if_neg (show ¬ nI l ≤ (0 : Int32) from show ¬ nI l ≤ nI 0 by rw [n_le (by omega) (by omega)]; omega), if_neg (by decide), if_neg hne, if_neg hne]
  rfl
theorem m_look2 {n q l : Nat} {bb mb : Nat → Int32} {b : Nat → Nat} (h : TXB n bb mb b) (hl : 1 ≤ l) (hq : q + l ≤ n) (hf : ∀ j, q ≤ j → j < q + l → inR b 48 57 j = true) : lq5 (f_X5_lookAt_B218 mb) FU (0 : Int32) (nI q) (nI l) (2 : Int32) (0 : Int32) = some (nI q, nI l, nI (if l ≤ 2 then 2 else 4), nI (nv b q l)) := by
  have h150 := h.1
  have hN : ∃ N, N ≤ 2 ∧ N ≤ l ∧ 1 ≤ N ∧ (N = l ∨ N = 2) ∧ nv b q l = vw b q N := by
    by_cases c : l = 1
    · subst c; exact ⟨1, by omega, by omega, by omega, Or.inl rfl, rfl⟩
    · refine ⟨2, by omega, by omega, by omega, Or.inr rfl, ?_⟩
      show (if l = 1 then _ else _) = _
      rw [if_neg c]; rfl
  obtain ⟨N, n1, n2, n3, n4, n5⟩ := hN
  rw [n5]
  refine lq5_run (fun i => nI i) (fun _ => nI q) (fun _ => nI l) (fun _ => (2 : Int32)) (fun i => nI (vw b q i)) N (fun k i hi => ?_) (fun k => ?_) (by have := fu; omega)
  · have hb := h.2 (q + i) (by omega)
    have g0 := inR_t.mp (hf q (by omega) (by omega))
    have gi := inR_t.mp (hf (q + i) (by omega) (by omega))
    unfold f_X5_lookAt_B218
    rw [if_neg (by rw [n_le (by omega) (by omega)]; omega), if_neg (show ¬ (2 : Int32) ≤ nI i from show ¬ nI 2 ≤ nI i by rw [n_le (by omega) (by omega)]; omega), if_pos rfl, n_add, ckI_n (by omega) (by omega), n_cl (by omega), hb.2.1, step10 gi.1, vw_s (by omega) g0.1 (fun e => by rw [← e]; exact gi.1), show nI i + 1 = nI (i + 1) from n_add i 1]
  · unfold f_X5_lookAt_B218 f_X5_lookAt_J274
    rw [if_pos (show (2 : Int32) = 2 from rfl)]
    by_cases c : l ≤ 2
    · rw [if_pos (show nI l ≤ nI N by rw [n_le (by omega) (by omega)]; omega), if_pos (show nI l ≤ (2 : Int32) from show nI l ≤ nI 2 by rw [n_le (by omega) (by omega)]; omega), if_pos c]; rfl
    · rw [if_neg (show ¬ nI l ≤ nI N by rw [n_le (by omega) (by omega)]; omega), if_pos (show (2 : Int32) ≤ nI N from show nI 2 ≤ nI N by rw [n_le (by omega) (by omega)]; omega), if_neg (show ¬ nI l ≤ (2 : Int32) from show ¬ nI l ≤ nI 2 by rw [n_le (by omega) (by omega)]; omega), if_neg c]; rfl
theorem m_runL {n q lo hi : Nat} {tk : Int32} {bb mb : Nat → Int32} {b : Nat → Nat} (h : TXB n bb mb b) (hst : ∀ j, j < n → ∀ k a l v, (if tk = (1 : Int32) then f_X5_lookAt_J193 k a l tk v (f_X5_isSmall (nI (b j))) else f_X5_lookAt_J193 k a l tk v (f_X5_isFigure (nI (b j)))) = f_X5_lookAt_J193 k a l tk v (nI (if inR b lo hi j then 1 else 0))) : ∀ (m l fl : Nat), q + l + m = n → m + 1 < fl → lq5 (f_X5_lookAt_B136 (nI n) mb) fl (1 : Int32) (nI q) (nI l) tk (0 : Int32) = lq5 (f_X5_lookAt_B218 mb) FU (0 : Int32) (nI q) (nI (fF (fun j => !(inR b lo hi j)) m (q + l) - q)) tk (0 : Int32)
  | 0, l, fl, h2, h3 => by
    have h150 := h.1
    obtain ⟨fl, rfl⟩ : ∃ z, fl = z + 1 := ⟨fl - 1, by omega⟩
    show f_X5_lookAt_B136 (nI n) mb (lq5 (f_X5_lookAt_B136 (nI n) mb) fl) (1 : Int32) (nI q) (nI l) tk (0 : Int32) = _
    unfold f_X5_lookAt_B136
    rw [if_neg (by decide), n_add, if_pos (by rw [n_le (by omega) (by omega)]; omega), show fF (fun j => !(inR b lo hi j)) 0 (q + l) - q = l by show q + l - q = l; omega]
  | m + 1, l, fl, h2, h3 => by
    have h150 := h.1
    have hb := h.2 (q + l) (by omega)
    obtain ⟨fl, rfl⟩ : ∃ z, fl = z + 1 := ⟨fl - 1, by omega⟩
    show f_X5_lookAt_B136 (nI n) mb (lq5 (f_X5_lookAt_B136 (nI n) mb) fl) (1 : Int32) (nI q) (nI l) tk (0 : Int32) = _
    have e : f_X5_lookAt_B136 (nI n) mb (lq5 (f_X5_lookAt_B136 (nI n) mb) fl) (1 : Int32) (nI q) (nI l) tk (0 : Int32) = f_X5_lookAt_J193 (lq5 (f_X5_lookAt_B136 (nI n) mb) fl) (nI q) (nI l) tk (0 : Int32) (nI (if inR b lo hi (q + l) then 1 else 0)) := by
      rw [f_X5_lookAt_B136, if_neg (by decide), n_add, if_neg (by rw [n_le (by omega) (by omega)]; omega), ckI_n (by omega) (by omega), n_cl (by omega), hb.2.1, hst (q + l) (by omega)]
    rw [e, fF_s]
    unfold f_X5_lookAt_J193
    cases hr : inR b lo hi (q + l) with
    | true =>
      rw [if_pos rfl, if_n1, if_neg (show ¬ (!true) = true by decide), show nI l + 1 = nI (l + 1) from n_add l 1]
      exact m_runL (tk := tk) h hst m (l + 1) fl (by omega) (by omega)
    | false =>
      obtain ⟨fl, rfl⟩ : ∃ z, fl = z + 1 := ⟨fl - 1, by omega⟩
      rw [if_neg Bool.false_ne_true, if_n0, if_pos (show (!false) = true from rfl), show nI l + 0 = nI l from n_add l 0, show q + l - q = l by omega]
      show f_X5_lookAt_B136 (nI n) mb (lq5 (f_X5_lookAt_B136 (nI n) mb) fl) (nI 0) (nI q) (nI l) tk (0 : Int32) = _
      rw [f_X5_lookAt_B136, if_n0]
