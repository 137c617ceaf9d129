theorem lq1_inv {A0 R : Type} {body : (A0 → Option R) → A0 → Option R} (I : Nat → A0 → Prop) (Q : R → Prop) (N : Nat) (hs : ∀ (k : A0 → Option R) (i : Nat) a0, i < N → I i a0 → ∃ b0, I (i + 1) b0 ∧ body k a0 = k b0) (hx : ∀ (k : A0 → Option R) a0, I N a0 → ∃ r, body k a0 = some r ∧ Q r) {n : Nat} (hn : N < n) {a0 : A0} (h0 : I 0 a0) : ∃ r, lq1 body n a0 = some r ∧ Q r := by
  have h : ∀ (m i : Nat) a0, i ≤ N → N - i < m → I i a0 → ∃ r, lq1 body m a0 = some r ∧ Q r := by
    intro m
    induction m with
    | zero => intro i a0 h1 h2; omega
    | succ m ih =>
      intro i a0 h1 h2 hI
      rcases Nat.lt_or_ge i N with q | q
      · obtain ⟨b0, hI', e⟩ := hs (lq1 body m) i a0 q hI
        obtain ⟨r, hr, hq⟩ := ih (i + 1) b0 q (by omega) hI'
        exact ⟨r, e.trans hr, hq⟩
      · have e : i = N := by omega
        subst e
        exact hx _ a0 hI
  exact h n 0 a0 (Nat.zero_le N) (by omega) h0
theorem lq2_inv {A0 A1 R : Type} {body : (A0 → A1 → Option R) → A0 → A1 → Option R} (I : Nat → A0 → A1 → Prop) (Q : R → Prop) (N : Nat) (hs : ∀ (k : A0 → A1 → Option R) (i : Nat) a0 a1, i < N → I i a0 a1 → ∃ b0 b1, I (i + 1) b0 b1 ∧ body k a0 a1 = k b0 b1) (hx : ∀ (k : A0 → A1 → Option R) a0 a1, I N a0 a1 → ∃ r, body k a0 a1 = some r ∧ Q r) {n : Nat} (hn : N < n) {a0 : A0} {a1 : A1} (h0 : I 0 a0 a1) : ∃ r, lq2 body n a0 a1 = some r ∧ Q r := by
  have h : ∀ (m i : Nat) a0 a1, i ≤ N → N - i < m → I i a0 a1 → ∃ r, lq2 body m a0 a1 = some r ∧ Q r := by
    intro m
    induction m with
    | zero => intro i a0 a1 h1 h2; omega
    | succ m ih =>
      intro i a0 a1 h1 h2 hI
      rcases Nat.lt_or_ge i N with q | q
      · obtain ⟨b0, b1, hI', e⟩ := hs (lq2 body m) i a0 a1 q hI
        obtain ⟨r, hr, hq⟩ := ih (i + 1) b0 b1 q (by omega) hI'
        exact ⟨r, e.trans hr, hq⟩
      · have e : i = N := by omega
        subst e
        exact hx _ a0 a1 hI
  exact h n 0 a0 a1 (Nat.zero_le N) (by omega) h0
theorem lq3_inv {A0 A1 A2 R : Type} {body : (A0 → A1 → A2 → Option R) → A0 → A1 → A2 → Option R} (I : Nat → A0 → A1 → A2 → Prop) (Q : R → Prop) (N : Nat) (hs : ∀ (k : A0 → A1 → A2 → Option R) (i : Nat) a0 a1 a2, i < N → I i a0 a1 a2 → ∃ b0 b1 b2, I (i + 1) b0 b1 b2 ∧ body k a0 a1 a2 = k b0 b1 b2) (hx : ∀ (k : A0 → A1 → A2 → Option R) a0 a1 a2, I N a0 a1 a2 → ∃ r, body k a0 a1 a2 = some r ∧ Q r) {n : Nat} (hn : N < n) {a0 : A0} {a1 : A1} {a2 : A2} (h0 : I 0 a0 a1 a2) : ∃ r, lq3 body n a0 a1 a2 = some r ∧ Q r := by
  have h : ∀ (m i : Nat) a0 a1 a2, i ≤ N → N - i < m → I i a0 a1 a2 → ∃ r, lq3 body m a0 a1 a2 = some r ∧ Q r := by
    intro m
    induction m with
    | zero => intro i a0 a1 a2 h1 h2; omega
    | succ m ih =>
      intro i a0 a1 a2 h1 h2 hI
      rcases Nat.lt_or_ge i N with q | q
      · obtain ⟨b0, b1, b2, hI', e⟩ := hs (lq3 body m) i a0 a1 a2 q hI
        obtain ⟨r, hr, hq⟩ := ih (i + 1) b0 b1 b2 q (by omega) hI'
        exact ⟨r, e.trans hr, hq⟩
      · have e : i = N := by omega
        subst e
        exact hx _ a0 a1 a2 hI
  exact h n 0 a0 a1 a2 (Nat.zero_le N) (by omega) h0
theorem lq4_inv {A0 A1 A2 A3 R : Type} {body : (A0 → A1 → A2 → A3 → Option R) → A0 → A1 → A2 → A3 → Option R} (I : Nat → A0 → A1 → A2 → A3 → Prop) (Q : R → Prop) (N : Nat) (hs : ∀ (k : A0 → A1 → A2 → A3 → Option R) (i : Nat) a0 a1 a2 a3, i < N → I i a0 a1 a2 a3 → ∃ b0 b1 b2 b3, I (i + 1) b0 b1 b2 b3 ∧ body k a0 a1 a2 a3 = k b0 b1 b2 b3) (hx : ∀ (k : A0 → A1 → A2 → A3 → Option R) a0 a1 a2 a3, I N a0 a1 a2 a3 → ∃ r, body k a0 a1 a2 a3 = some r ∧ Q r) {n : Nat} (hn : N < n) {a0 : A0} {a1 : A1} {a2 : A2} {a3 : A3} (h0 : I 0 a0 a1 a2 a3) : ∃ r, lq4 body n a0 a1 a2 a3 = some r ∧ Q r := by
  have h : ∀ (m i : Nat) a0 a1 a2 a3, i ≤ N → N - i < m → I i a0 a1 a2 a3 → ∃ r, lq4 body m a0 a1 a2 a3 = some r ∧ Q r := by
    intro m
    induction m with
    | zero => intro i a0 a1 a2 a3 h1 h2; omega
    | succ m ih =>
      intro i a0 a1 a2 a3 h1 h2 hI
      rcases Nat.lt_or_ge i N with q | q
      · obtain ⟨b0, b1, b2, b3, hI', e⟩ := hs (lq4 body m) i a0 a1 a2 a3 q hI
        obtain ⟨r, hr, hq⟩ := ih (i + 1) b0 b1 b2 b3 q (by omega) hI'
        exact ⟨r, e.trans hr, hq⟩
      · have e : i = N := by omega
        subst e
        exact hx _ a0 a1 a2 a3 hI
  exact h n 0 a0 a1 a2 a3 (Nat.zero_le N) (by omega) h0
theorem lq5_inv {A0 A1 A2 A3 A4 R : Type} {body : (A0 → A1 → A2 → A3 → A4 → Option R) → A0 → A1 → A2 → A3 → A4 → Option R} (I : Nat → A0 → A1 → A2 → A3 → A4 → Prop) (Q : R → Prop) (N : Nat) (hs : ∀ (k : A0 → A1 → A2 → A3 → A4 → Option R) (i : Nat) a0 a1 a2 a3 a4, i < N → I i a0 a1 a2 a3 a4 → ∃ b0 b1 b2 b3 b4, I (i + 1) b0 b1 b2 b3 b4 ∧ body k a0 a1 a2 a3 a4 = k b0 b1 b2 b3 b4) (hx : ∀ (k : A0 → A1 → A2 → A3 → A4 → Option R) a0 a1 a2 a3 a4, I N a0 a1 a2 a3 a4 → ∃ r, body k a0 a1 a2 a3 a4 = some r ∧ Q r) {n : Nat} (hn : N < n) {a0 : A0} {a1 : A1} {a2 : A2} {a3 : A3} {a4 : A4} (h0 : I 0 a0 a1 a2 a3 a4) : ∃ r, lq5 body n a0 a1 a2 a3 a4 = some r ∧ Q r := by
  have h : ∀ (m i : Nat) a0 a1 a2 a3 a4, i ≤ N → N - i < m → I i a0 a1 a2 a3 a4 → ∃ r, lq5 body m a0 a1 a2 a3 a4 = some r ∧ Q r := by
    intro m
    induction m with
    | zero => intro i a0 a1 a2 a3 a4 h1 h2; omega
    | succ m ih =>
      intro i a0 a1 a2 a3 a4 h1 h2 hI
      rcases Nat.lt_or_ge i N with q | q
      · obtain ⟨b0, b1, b2, b3, b4, hI', e⟩ := hs (lq5 body m) i a0 a1 a2 a3 a4 q hI
        obtain ⟨r, hr, hq⟩ := ih (i + 1) b0 b1 b2 b3 b4 q (by omega) hI'
        exact ⟨r, e.trans hr, hq⟩
      · have e : i = N := by omega
        subst e
        exact hx _ a0 a1 a2 a3 a4 hI
  exact h n 0 a0 a1 a2 a3 a4 (Nat.zero_le N) (by omega) h0
theorem lq6_inv {A0 A1 A2 A3 A4 A5 R : Type} {body : (A0 → A1 → A2 → A3 → A4 → A5 → Option R) → A0 → A1 → A2 → A3 → A4 → A5 → Option R} (I : Nat → A0 → A1 → A2 → A3 → A4 → A5 → Prop) (Q : R → Prop) (N : Nat) (hs : ∀ (k : A0 → A1 → A2 → A3 → A4 → A5 → Option R) (i : Nat) a0 a1 a2 a3 a4 a5, i < N → I i a0 a1 a2 a3 a4 a5 → ∃ b0 b1 b2 b3 b4 b5, I (i + 1) b0 b1 b2 b3 b4 b5 ∧ body k a0 a1 a2 a3 a4 a5 = k b0 b1 b2 b3 b4 b5) (hx : ∀ (k : A0 → A1 → A2 → A3 → A4 → A5 → Option R) a0 a1 a2 a3 a4 a5, I N a0 a1 a2 a3 a4 a5 → ∃ r, body k a0 a1 a2 a3 a4 a5 = some r ∧ Q r) {n : Nat} (hn : N < n) {a0 : A0} {a1 : A1} {a2 : A2} {a3 : A3} {a4 : A4} {a5 : A5} (h0 : I 0 a0 a1 a2 a3 a4 a5) : ∃ r, lq6 body n a0 a1 a2 a3 a4 a5 = some r ∧ Q r := by
  have h : ∀ (m i : Nat) a0 a1 a2 a3 a4 a5, i ≤ N → N - i < m → I i a0 a1 a2 a3 a4 a5 → ∃ r, lq6 body m a0 a1 a2 a3 a4 a5 = some r ∧ Q r := by
    intro m
    induction m with
    | zero => intro i a0 a1 a2 a3 a4 a5 h1 h2; omega
    | succ m ih =>
      intro i a0 a1 a2 a3 a4 a5 h1 h2 hI
      rcases Nat.lt_or_ge i N with q | q
      · obtain ⟨b0, b1, b2, b3, b4, b5, hI', e⟩ := hs (lq6 body m) i a0 a1 a2 a3 a4 a5 q hI
        obtain ⟨r, hr, hq⟩ := ih (i + 1) b0 b1 b2 b3 b4 b5 q (by omega) hI'
        exact ⟨r, e.trans hr, hq⟩
      · have e : i = N := by omega
        subst e
        exact hx _ a0 a1 a2 a3 a4 a5 hI
  exact h n 0 a0 a1 a2 a3 a4 a5 (Nat.zero_le N) (by omega) h0
theorem lq7_inv {A0 A1 A2 A3 A4 A5 A6 R : Type} {body : (A0 → A1 → A2 → A3 → A4 → A5 → A6 → Option R) → A0 → A1 → A2 → A3 → A4 → A5 → A6 → Option R} (I : Nat → A0 → A1 → A2 → A3 → A4 → A5 → A6 → Prop) (Q : R → Prop) (N : Nat) (hs : ∀ (k : A0 → A1 → A2 → A3 → A4 → A5 → A6 → Option R) (i : Nat) a0 a1 a2 a3 a4 a5 a6, i < N → I i a0 a1 a2 a3 a4 a5 a6 → ∃ b0 b1 b2 b3 b4 b5 b6, I (i + 1) b0 b1 b2 b3 b4 b5 b6 ∧ body k a0 a1 a2 a3 a4 a5 a6 = k b0 b1 b2 b3 b4 b5 b6) (hx : ∀ (k : A0 → A1 → A2 → A3 → A4 → A5 → A6 → Option R) a0 a1 a2 a3 a4 a5 a6, I N a0 a1 a2 a3 a4 a5 a6 → ∃ r, body k a0 a1 a2 a3 a4 a5 a6 = some r ∧ Q r) {n : Nat} (hn : N < n) {a0 : A0} {a1 : A1} {a2 : A2} {a3 : A3} {a4 : A4} {a5 : A5} {a6 : A6} (h0 : I 0 a0 a1 a2 a3 a4 a5 a6) : ∃ r, lq7 body n a0 a1 a2 a3 a4 a5 a6 = some r ∧ Q r := by
  have h : ∀ (m i : Nat) a0 a1 a2 a3 a4 a5 a6, i ≤ N → N - i < m → I i a0 a1 a2 a3 a4 a5 a6 → ∃ r, lq7 body m a0 a1 a2 a3 a4 a5 a6 = some r ∧ Q r := by
    intro m
    induction m with
    | zero => intro i a0 a1 a2 a3 a4 a5 a6 h1 h2; omega
    | succ m ih =>
      intro i a0 a1 a2 a3 a4 a5 a6 h1 h2 hI
      rcases Nat.lt_or_ge i N with q | q
      · obtain ⟨b0, b1, b2, b3, b4, b5, b6, hI', e⟩ := hs (lq7 body m) i a0 a1 a2 a3 a4 a5 a6 q hI
        obtain ⟨r, hr, hq⟩ := ih (i + 1) b0 b1 b2 b3 b4 b5 b6 q (by omega) hI'
        exact ⟨r, e.trans hr, hq⟩
      · have e : i = N := by omega
        subst e
        exact hx _ a0 a1 a2 a3 a4 a5 a6 hI
  exact h n 0 a0 a1 a2 a3 a4 a5 a6 (Nat.zero_le N) (by omega) h0
theorem lq8_inv {A0 A1 A2 A3 A4 A5 A6 A7 R : Type} {body : (A0 → A1 → A2 → A3 → A4 → A5 → A6 → A7 → Option R) → A0 → A1 → A2 → A3 → A4 → A5 → A6 → A7 → Option R} (I : Nat → A0 → A1 → A2 → A3 → A4 → A5 → A6 → A7 → Prop) (Q : R → Prop) (N : Nat) (hs : ∀ (k : A0 → A1 → A2 → A3 → A4 → A5 → A6 → A7 → Option R) (i : Nat) a0 a1 a2 a3 a4 a5 a6 a7, i < N → I i a0 a1 a2 a3 a4 a5 a6 a7 → ∃ b0 b1 b2 b3 b4 b5 b6 b7, I (i + 1) b0 b1 b2 b3 b4 b5 b6 b7 ∧ body k a0 a1 a2 a3 a4 a5 a6 a7 = k b0 b1 b2 b3 b4 b5 b6 b7) (hx : ∀ (k : A0 → A1 → A2 → A3 → A4 → A5 → A6 → A7 → Option R) a0 a1 a2 a3 a4 a5 a6 a7, I N a0 a1 a2 a3 a4 a5 a6 a7 → ∃ r, body k a0 a1 a2 a3 a4 a5 a6 a7 = some r ∧ Q r) {n : Nat} (hn : N < n) {a0 : A0} {a1 : A1} {a2 : A2} {a3 : A3} {a4 : A4} {a5 : A5} {a6 : A6} {a7 : A7} (h0 : I 0 a0 a1 a2 a3 a4 a5 a6 a7) : ∃ r, lq8 body n a0 a1 a2 a3 a4 a5 a6 a7 = some r ∧ Q r := by
  have h : ∀ (m i : Nat) a0 a1 a2 a3 a4 a5 a6 a7, i ≤ N → N - i < m → I i a0 a1 a2 a3 a4 a5 a6 a7 → ∃ r, lq8 body m a0 a1 a2 a3 a4 a5 a6 a7 = some r ∧ Q r := by
    intro m
    induction m with
    | zero => intro i a0 a1 a2 a3 a4 a5 a6 a7 h1 h2; omega
    | succ m ih =>
      intro i a0 a1 a2 a3 a4 a5 a6 a7 h1 h2 hI
      rcases Nat.lt_or_ge i N with q | q
      · obtain ⟨b0, b1, b2, b3, b4, b5, b6, b7, hI', e⟩ := hs (lq8 body m) i a0 a1 a2 a3 a4 a5 a6 a7 q hI
        obtain ⟨r, hr, hq⟩ := ih (i + 1) b0 b1 b2 b3 b4 b5 b6 b7 q (by omega) hI'
        exact ⟨r, e.trans hr, hq⟩
      · have e : i = N := by omega
        subst e
        exact hx _ a0 a1 a2 a3 a4 a5 a6 a7 hI
  exact h n 0 a0 a1 a2 a3 a4 a5 a6 a7 (Nat.zero_le N) (by omega) h0
theorem lq9_inv {A0 A1 A2 A3 A4 A5 A6 A7 A8 R : Type} {body : (A0 → A1 → A2 → A3 → A4 → A5 → A6 → A7 → A8 → Option R) → A0 → A1 → A2 → A3 → A4 → A5 → A6 → A7 → A8 → Option R} (I : Nat → A0 → A1 → A2 → A3 → A4 → A5 → A6 → A7 → A8 → Prop) (Q : R → Prop) (N : Nat) (hs : ∀ (k : A0 → A1 → A2 → A3 → A4 → A5 → A6 → A7 → A8 → Option R) (i : Nat) a0 a1 a2 a3 a4 a5 a6 a7 a8, i < N → I i a0 a1 a2 a3 a4 a5 a6 a7 a8 → ∃ b0 b1 b2 b3 b4 b5 b6 b7 b8, I (i + 1) b0 b1 b2 b3 b4 b5 b6 b7 b8 ∧ body k a0 a1 a2 a3 a4 a5 a6 a7 a8 = k b0 b1 b2 b3 b4 b5 b6 b7 b8) (hx : ∀ (k : A0 → A1 → A2 → A3 → A4 → A5 → A6 → A7 → A8 → Option R) a0 a1 a2 a3 a4 a5 a6 a7 a8, I N a0 a1 a2 a3 a4 a5 a6 a7 a8 → ∃ r, body k a0 a1 a2 a3 a4 a5 a6 a7 a8 = some r ∧ Q r) {n : Nat} (hn : N < n) {a0 : A0} {a1 : A1} {a2 : A2} {a3 : A3} {a4 : A4} {a5 : A5} {a6 : A6} {a7 : A7} {a8 : A8} (h0 : I 0 a0 a1 a2 a3 a4 a5 a6 a7 a8) : ∃ r, lq9 body n a0 a1 a2 a3 a4 a5 a6 a7 a8 = some r ∧ Q r := by
  have h : ∀ (m i : Nat) a0 a1 a2 a3 a4 a5 a6 a7 a8, i ≤ N → N - i < m → I i a0 a1 a2 a3 a4 a5 a6 a7 a8 → ∃ r, lq9 body m a0 a1 a2 a3 a4 a5 a6 a7 a8 = some r ∧ Q r := by
    intro m
    induction m with
    | zero => intro i a0 a1 a2 a3 a4 a5 a6 a7 a8 h1 h2; omega
    | succ m ih =>
      intro i a0 a1 a2 a3 a4 a5 a6 a7 a8 h1 h2 hI
      rcases Nat.lt_or_ge i N with q | q
      · obtain ⟨b0, b1, b2, b3, b4, b5, b6, b7, b8, hI', e⟩ := hs (lq9 body m) i a0 a1 a2 a3 a4 a5 a6 a7 a8 q hI
        obtain ⟨r, hr, hq⟩ := ih (i + 1) b0 b1 b2 b3 b4 b5 b6 b7 b8 q (by omega) hI'
        exact ⟨r, e.trans hr, hq⟩
      · have e : i = N := by omega
        subst e
        exact hx _ a0 a1 a2 a3 a4 a5 a6 a7 a8 hI
  exact h n 0 a0 a1 a2 a3 a4 a5 a6 a7 a8 (Nat.zero_le N) (by omega) h0
theorem lq10_inv {A0 A1 A2 A3 A4 A5 A6 A7 A8 A9 R : Type} {body : (A0 → A1 → A2 → A3 → A4 → A5 → A6 → A7 → A8 → A9 → Option R) → A0 → A1 → A2 → A3 → A4 → A5 → A6 → A7 → A8 → A9 → Option R} (I : Nat → A0 → A1 → A2 → A3 → A4 → A5 → A6 → A7 → A8 → A9 → Prop) (Q : R → Prop) (N : Nat) (hs : ∀ (k : A0 → A1 → A2 → A3 → A4 → A5 → A6 → A7 → A8 → A9 → Option R) (i : Nat) a0 a1 a2 a3 a4 a5 a6 a7 a8 a9, i < N → I i a0 a1 a2 a3 a4 a5 a6 a7 a8 a9 → ∃ b0 b1 b2 b3 b4 b5 b6 b7 b8 b9, I (i + 1) b0 b1 b2 b3 b4 b5 b6 b7 b8 b9 ∧ body k a0 a1 a2 a3 a4 a5 a6 a7 a8 a9 = k b0 b1 b2 b3 b4 b5 b6 b7 b8 b9) (hx : ∀ (k : A0 → A1 → A2 → A3 → A4 → A5 → A6 → A7 → A8 → A9 → Option R) a0 a1 a2 a3 a4 a5 a6 a7 a8 a9, I N a0 a1 a2 a3 a4 a5 a6 a7 a8 a9 → ∃ r, body k a0 a1 a2 a3 a4 a5 a6 a7 a8 a9 = some r ∧ Q r) {n : Nat} (hn : N < n) {a0 : A0} {a1 : A1} {a2 : A2} {a3 : A3} {a4 : A4} {a5 : A5} {a6 : A6} {a7 : A7} {a8 : A8} {a9 : A9} (h0 : I 0 a0 a1 a2 a3 a4 a5 a6 a7 a8 a9) : ∃ r, lq10 body n a0 a1 a2 a3 a4 a5 a6 a7 a8 a9 = some r ∧ Q r := by
  have h : ∀ (m i : Nat) a0 a1 a2 a3 a4 a5 a6 a7 a8 a9, i ≤ N → N - i < m → I i a0 a1 a2 a3 a4 a5 a6 a7 a8 a9 → ∃ r, lq10 body m a0 a1 a2 a3 a4 a5 a6 a7 a8 a9 = some r ∧ Q r := by
    intro m
    induction m with
    | zero => intro i a0 a1 a2 a3 a4 a5 a6 a7 a8 a9 h1 h2; omega
    | succ m ih =>
      intro i a0 a1 a2 a3 a4 a5 a6 a7 a8 a9 h1 h2 hI
      rcases Nat.lt_or_ge i N with q | q
      · obtain ⟨b0, b1, b2, b3, b4, b5, b6, b7, b8, b9, hI', e⟩ := hs (lq10 body m) i a0 a1 a2 a3 a4 a5 a6 a7 a8 a9 q hI
        obtain ⟨r, hr, hq⟩ := ih (i + 1) b0 b1 b2 b3 b4 b5 b6 b7 b8 b9 q (by omega) hI'
        exact ⟨r, e.trans hr, hq⟩
      · have e : i = N := by omega
        subst e
        exact hx _ a0 a1 a2 a3 a4 a5 a6 a7 a8 a9 hI
  exact h n 0 a0 a1 a2 a3 a4 a5 a6 a7 a8 a9 (Nat.zero_le N) (by omega) h0
theorem lq20_inv {A0 A1 A2 A3 A4 A5 A6 A7 A8 A9 A10 A11 A12 A13 A14 A15 A16 A17 A18 A19 R : Type} {body : (A0 → A1 → A2 → A3 → A4 → A5 → A6 → A7 → A8 → A9 → A10 → A11 → A12 → A13 → A14 → A15 → A16 → A17 → A18 → A19 → Option R) → A0 → A1 → A2 → A3 → A4 → A5 → A6 → A7 → A8 → A9 → A10 → A11 → A12 → A13 → A14 → A15 → A16 → A17 → A18 → A19 → Option R} (I : Nat → A0 → A1 → A2 → A3 → A4 → A5 → A6 → A7 → A8 → A9 → A10 → A11 → A12 → A13 → A14 → A15 → A16 → A17 → A18 → A19 → Prop) (Q : R → Prop) (N : Nat) (hs : ∀ (k : A0 → A1 → A2 → A3 → A4 → A5 → A6 → A7 → A8 → A9 → A10 → A11 → A12 → A13 → A14 → A15 → A16 → A17 → A18 → A19 → Option R) (i : Nat) a0 a1 a2 a3 a4 a5 a6 a7 a8 a9 a10 a11 a12 a13 a14 a15 a16 a17 a18 a19, i < N → I i a0 a1 a2 a3 a4 a5 a6 a7 a8 a9 a10 a11 a12 a13 a14 a15 a16 a17 a18 a19 → ∃ b0 b1 b2 b3 b4 b5 b6 b7 b8 b9 b10 b11 b12 b13 b14 b15 b16 b17 b18 b19, I (i + 1) b0 b1 b2 b3 b4 b5 b6 b7 b8 b9 b10 b11 b12 b13 b14 b15 b16 b17 b18 b19 ∧ body k a0 a1 a2 a3 a4 a5 a6 a7 a8 a9 a10 a11 a12 a13 a14 a15 a16 a17 a18 a19 = k b0 b1 b2 b3 b4 b5 b6 b7 b8 b9 b10 b11 b12 b13 b14 b15 b16 b17 b18 b19) (hx : ∀ (k : A0 → A1 → A2 → A3 → A4 → A5 → A6 → A7 → A8 → A9 → A10 → A11 → A12 → A13 → A14 → A15 → A16 → A17 → A18 → A19 → Option R) a0 a1 a2 a3 a4 a5 a6 a7 a8 a9 a10 a11 a12 a13 a14 a15 a16 a17 a18 a19, I N a0 a1 a2 a3 a4 a5 a6 a7 a8 a9 a10 a11 a12 a13 a14 a15 a16 a17 a18 a19 → ∃ r, body k a0 a1 a2 a3 a4 a5 a6 a7 a8 a9 a10 a11 a12 a13 a14 a15 a16 a17 a18 a19 = some r ∧ Q r) {n : Nat} (hn : N < n) {a0 : A0} {a1 : A1} {a2 : A2} {a3 : A3} {a4 : A4} {a5 : A5} {a6 : A6} {a7 : A7} {a8 : A8} {a9 : A9} {a10 : A10} {a11 : A11} {a12 : A12} {a13 : A13} {a14 : A14} {a15 : A15} {a16 : A16} {a17 : A17} {a18 : A18} {a19 : A19} (h0 : I 0 a0 a1 a2 a3 a4 a5 a6 a7 a8 a9 a10 a11 a12 a13 a14 a15 a16 a17 a18 a19) : ∃ r, lq20 body n a0 a1 a2 a3 a4 a5 a6 a7 a8 a9 a10 a11 a12 a13 a14 a15 a16 a17 a18 a19 = some r ∧ Q r := by
  have h : ∀ (m i : Nat) a0 a1 a2 a3 a4 a5 a6 a7 a8 a9 a10 a11 a12 a13 a14 a15 a16 a17 a18 a19, i ≤ N → N - i < m → I i a0 a1 a2 a3 a4 a5 a6 a7 a8 a9 a10 a11 a12 a13 a14 a15 a16 a17 a18 a19 → ∃ r, lq20 body m a0 a1 a2 a3 a4 a5 a6 a7 a8 a9 a10 a11 a12 a13 a14 a15 a16 a17 a18 a19 = some r ∧ Q r := by
    intro m
    induction m with
    | zero => intro i a0 a1 a2 a3 a4 a5 a6 a7 a8 a9 a10 a11 a12 a13 a14 a15 a16 a17 a18 a19 h1 h2; omega
    | succ m ih =>
      intro i a0 a1 a2 a3 a4 a5 a6 a7 a8 a9 a10 a11 a12 a13 a14 a15 a16 a17 a18 a19 h1 h2 hI
      rcases Nat.lt_or_ge i N with q | q
      · obtain ⟨b0, b1, b2, b3, b4, b5, b6, b7, b8, b9, b10, b11, b12, b13, b14, b15, b16, b17, b18, b19, hI', e⟩ := hs (lq20 body m) i a0 a1 a2 a3 a4 a5 a6 a7 a8 a9 a10 a11 a12 a13 a14 a15 a16 a17 a18 a19 q hI
        obtain ⟨r, hr, hq⟩ := ih (i + 1) b0 b1 b2 b3 b4 b5 b6 b7 b8 b9 b10 b11 b12 b13 b14 b15 b16 b17 b18 b19 q (by omega) hI'
        exact ⟨r, e.trans hr, hq⟩
      · have e : i = N := by omega
        subst e
        exact hx _ a0 a1 a2 a3 a4 a5 a6 a7 a8 a9 a10 a11 a12 a13 a14 a15 a16 a17 a18 a19 hI
  exact h n 0 a0 a1 a2 a3 a4 a5 a6 a7 a8 a9 a10 a11 a12 a13 a14 a15 a16 a17 a18 a19 (Nat.zero_le N) (by omega) h0
