theorem fu : 100000 ≤ FU := Nat.le_refl _
theorem n_lit (n : Nat) : (OfNat.ofNat n : Int32) = nI (OfNat.ofNat n) := rfl
theorem l_lit (n : Nat) : (OfNat.ofNat n : Int64) = lN (OfNat.ofNat n) := rfl
def ngI (n : Nat) : Int32 := -(nI n)
theorem n_neg1 : (-1 : Int32) = ngI 1 := rfl
theorem n_neg2 : (-2 : Int32) = ngI 2 := rfl
theorem n_neg3 : (-3 : Int32) = ngI 3 := rfl
theorem n_neg4 : (-4 : Int32) = ngI 4 := rfl
theorem n_neg5 : (-5 : Int32) = ngI 5 := rfl
theorem n_neg10 : (-10 : Int32) = ngI 10 := rfl
theorem ngI_toInt {n : Nat} (h : n < 2 ^ 31) : (ngI n).toInt = -(n : Int) := sb_negT h
theorem n_ng {a b : Nat} (ha : a < 2 ^ 31) (hb : b < 2 ^ 31) (h0 : 0 < b) : (nI a = ngI b) ↔ False := ⟨fun q => by
  have := congrArg Int32.toInt q
  rw [nI_toInt ha, ngI_toInt hb] at this
  omega, False.elim⟩
theorem ng_n {a b : Nat} (ha : a < 2 ^ 31) (hb : b < 2 ^ 31) (h0 : 0 < b) : (ngI b = nI a) ↔ False := ⟨fun q => (n_ng ha hb h0).mp q.symm, False.elim⟩
theorem ng_ng {a b : Nat} (ha : a < 2 ^ 31) (hb : b < 2 ^ 31) : (ngI a = ngI b) ↔ a = b := ⟨fun q => by
  have := congrArg Int32.toInt q
  rw [ngI_toInt ha, ngI_toInt hb] at this
  omega, fun q => by rw [q]⟩
theorem n_m1 {n : Nat} (h : n < 2 ^ 31) : (nI n = -1) ↔ False := ⟨fun q => by
  have := congrArg Int32.toInt q
  rw [nI_toInt h] at this
  have e : (-1 : Int32).toInt = -1 := by decide
  omega, False.elim⟩
theorem ckI_n {α : Type} {j n : Nat} {x : Option α} (h : j < n) (hn : n < 2 ^ 31) : ckI (nI j) n x = x := ckI_t (vp_in_nI h hn)
theorem n_and (a b : Nat) : nI a &&& nI b = nI (a &&& b) := by
  apply Int32.toBitVec_inj.mp
  show BitVec.ofNat 32 a &&& BitVec.ofNat 32 b = BitVec.ofNat 32 (a &&& b)
  simp
theorem n_pow {k : Nat} (h : k < 31) : nI (2 ^ k) = (1 : Int32) <<< (nI k &&& 31) := by
  have : ∀ k, k < 31 → nI (2 ^ k) = (1 : Int32) <<< (nI k &&& 31) := by decide +kernel
  exact this k h
theorem n_shl {k : Nat} (h : k < 31) : (1 : Int32) <<< (nI k &&& 31) = nI (2 ^ k) := (n_pow h).symm
theorem n_shl1 {k : Nat} (h : k < 31) : nI 1 <<< nI (k &&& 31) = nI (2 ^ k) := by
  have e := n_shl h
  rw [show (31 : Int32) = nI 31 from rfl, n_and] at e
  exact e
theorem n_smod : ∀ k, k < 32 → ((nI k &&& 31).toBitVec.smod 32).toNat = k := by decide +kernel
theorem n_shr {a k : Nat} (ha : a < 2 ^ 31) (hk : k < 32) : nI a >>> nI (k &&& 31) = nI (a / 2 ^ k) := by
  have e := pk_shrN ha (nI k &&& 31) k (n_smod k hk)
  rw [show (31 : Int32) = nI 31 from rfl, n_and] at e
  exact e
theorem n_or (a b : Nat) : nI a ||| nI b = nI (a ||| b) := by
  apply Int32.toBitVec_inj.mp
  show BitVec.ofNat 32 a ||| BitVec.ofNat 32 b = BitVec.ofNat 32 (a ||| b)
  simp
theorem n_le {a b : Nat} (ha : a < 2 ^ 31) (hb : b < 2 ^ 31) : nI a ≤ nI b ↔ a ≤ b := nI_leI ha hb
theorem n_lt {a b : Nat} (ha : a < 2 ^ 31) (hb : b < 2 ^ 31) : nI a < nI b ↔ a < b := nI_ltI ha hb
theorem n_eq {a b : Nat} (ha : a < 2 ^ 31) (hb : b < 2 ^ 31) : nI a = nI b ↔ a = b := nI_eq ha hb
theorem n_cl {n : Nat} (h : n < 2 ^ 31) : Int32.toNatClampNeg (nI n) = n := nI_clamp h
theorem n_div {a d : Nat} (ha : a < 2 ^ 31) (h0 : 0 < d) (hd : d < 2 ^ 31) : nI a / nI d = nI (a / d) := pk_div ha h0 hd
theorem n_sub {a b : Nat} (h : b ≤ a) : nI a - nI b = nI (a - b) := pk_sub h
theorem n_mul (a b : Nat) : nI a * nI b = nI (a * b) := pk_mul a b
theorem n_add (a b : Nat) : nI a + nI b = nI (a + b) := nI_add a b
theorem m_and1 (a : Nat) : a &&& 1 = a % 2 := Nat.and_one_is_mod a
theorem m_and3 (a : Nat) : a &&& 3 = a % 4 := Nat.and_two_pow_sub_one_eq_mod a 2
theorem bd1_n {A R : Type} (a : A) (k : A → Option R) : bd1 (some a) k = k a := rfl
theorem lg_lt {x y : Int64} : lg_cmp x y < 0 ↔ x < y := by
  unfold lg_cmp
  by_cases h1 : x > y
  · rw [if_pos h1]
    exact ⟨fun h => absurd h (by decide), fun h => absurd h (Int64.not_lt.mpr (Int64.le_of_lt h1))⟩
  · rw [if_neg h1]
    by_cases h2 : x = y
    · rw [if_pos h2]
      exact ⟨fun h => absurd h (by decide), fun h => absurd h (by rw [h2]; exact Int64.lt_irrefl)⟩
    · rw [if_neg h2]
      exact ⟨fun _ => by
        rcases Int64.lt_or_eq_of_le (Int64.not_lt.mp h1) with q | q
        · exact q
        · exact absurd q h2, fun _ => by decide⟩
theorem lg_gt {x y : Int64} : 0 < lg_cmp x y ↔ y < x := by
  unfold lg_cmp
  by_cases h1 : x > y
  · rw [if_pos h1]; exact ⟨fun _ => h1, fun _ => by decide⟩
  · rw [if_neg h1]
    by_cases h2 : x = y
    · rw [if_pos h2]; exact ⟨fun h => absurd h (by decide), fun h => absurd h h1⟩
    · rw [if_neg h2]; exact ⟨fun h => absurd h (by decide), fun h => absurd h h1⟩
theorem lg_eq {x y : Int64} : lg_cmp x y = 0 ↔ x = y := by
  unfold lg_cmp
  by_cases h1 : x > y
  · rw [if_pos h1]; exact ⟨fun h => absurd h (by decide), fun h => absurd h1 (by rw [h]; exact Int64.lt_irrefl)⟩
  · rw [if_neg h1]
    by_cases h2 : x = y
    · rw [if_pos h2]; exact ⟨fun _ => h2, fun _ => rfl⟩
    · rw [if_neg h2]; exact ⟨fun h => absurd h (by decide), fun h => absurd h h2⟩
theorem i32_nlt {a b : Int32} : ¬ a < b ↔ b ≤ a := Int32.not_lt
theorem i32_nle {a b : Int32} : ¬ a ≤ b ↔ b < a := Int32.not_le
theorem lg_le {x y : Int64} : lg_cmp x y ≤ 0 ↔ x ≤ y := by
  rw [← i32_nlt, lg_gt, Int64.not_lt]
theorem lg_ge {x y : Int64} : 0 ≤ lg_cmp x y ↔ y ≤ x := by
  rw [← i32_nlt, lg_lt, Int64.not_lt]
theorem lq1_run {A0 R : Type} {body : (A0 → Option R) → A0 → Option R} (a0 : Nat → A0) (N : Nat) {out : Option R} (hs : ∀ (k : A0 → Option R) (i : Nat), i < N → body k (a0 i) = k (a0 (i + 1))) (hx : ∀ k : A0 → Option R, body k (a0 N) = out) {n : Nat} (hn : N < n) : lq1 body n (a0 0) = out := by
  have h : ∀ m i : Nat, i ≤ N → N - i < m → lq1 body m (a0 i) = out := by
    intro m
    induction m with
    | zero => intro i h1 h2; omega
    | succ m ih =>
      intro i h1 h2
      rcases Nat.lt_or_ge i N with q | q
      · exact (hs _ i q).trans (ih (i + 1) q (by omega))
      · have e : i = N := by omega
        subst e
        exact hx _
  exact h n 0 (Nat.zero_le N) (by omega)
theorem lq2_run {A0 A1 R : Type} {body : (A0 → A1 → Option R) → A0 → A1 → Option R} (a0 : Nat → A0) (a1 : Nat → A1) (N : Nat) {out : Option R} (hs : ∀ (k : A0 → A1 → Option R) (i : Nat), i < N → body k (a0 i) (a1 i) = k (a0 (i + 1)) (a1 (i + 1))) (hx : ∀ k : A0 → A1 → Option R, body k (a0 N) (a1 N) = out) {n : Nat} (hn : N < n) : lq2 body n (a0 0) (a1 0) = out := by
  have h : ∀ m i : Nat, i ≤ N → N - i < m → lq2 body m (a0 i) (a1 i) = out := by
    intro m
    induction m with
    | zero => intro i h1 h2; omega
    | succ m ih =>
      intro i h1 h2
      rcases Nat.lt_or_ge i N with q | q
      · exact (hs _ i q).trans (ih (i + 1) q (by omega))
      · have e : i = N := by omega
        subst e
        exact hx _
  exact h n 0 (Nat.zero_le N) (by omega)
theorem lq3_run {A0 A1 A2 R : Type} {body : (A0 → A1 → A2 → Option R) → A0 → A1 → A2 → Option R} (a0 : Nat → A0) (a1 : Nat → A1) (a2 : Nat → A2) (N : Nat) {out : Option R} (hs : ∀ (k : A0 → A1 → A2 → Option R) (i : Nat), i < N → body k (a0 i) (a1 i) (a2 i) = k (a0 (i + 1)) (a1 (i + 1)) (a2 (i + 1))) (hx : ∀ k : A0 → A1 → A2 → Option R, body k (a0 N) (a1 N) (a2 N) = out) {n : Nat} (hn : N < n) : lq3 body n (a0 0) (a1 0) (a2 0) = out := by
  have h : ∀ m i : Nat, i ≤ N → N - i < m → lq3 body m (a0 i) (a1 i) (a2 i) = out := by
    intro m
    induction m with
    | zero => intro i h1 h2; omega
    | succ m ih =>
      intro i h1 h2
      rcases Nat.lt_or_ge i N with q | q
      · exact (hs _ i q).trans (ih (i + 1) q (by omega))
      · have e : i = N := by omega
        subst e
        exact hx _
  exact h n 0 (Nat.zero_le N) (by omega)
theorem lq4_run {A0 A1 A2 A3 R : Type} {body : (A0 → A1 → A2 → A3 → Option R) → A0 → A1 → A2 → A3 → Option R} (a0 : Nat → A0) (a1 : Nat → A1) (a2 : Nat → A2) (a3 : Nat → A3) (N : Nat) {out : Option R} (hs : ∀ (k : A0 → A1 → A2 → A3 → Option R) (i : Nat), i < N → body k (a0 i) (a1 i) (a2 i) (a3 i) = k (a0 (i + 1)) (a1 (i + 1)) (a2 (i + 1)) (a3 (i + 1))) (hx : ∀ k : A0 → A1 → A2 → A3 → Option R, body k (a0 N) (a1 N) (a2 N) (a3 N) = out) {n : Nat} (hn : N < n) : lq4 body n (a0 0) (a1 0) (a2 0) (a3 0) = out := by
  have h : ∀ m i : Nat, i ≤ N → N - i < m → lq4 body m (a0 i) (a1 i) (a2 i) (a3 i) = out := by
    intro m
    induction m with
    | zero => intro i h1 h2; omega
    | succ m ih =>
      intro i h1 h2
      rcases Nat.lt_or_ge i N with q | q
      · exact (hs _ i q).trans (ih (i + 1) q (by omega))
      · have e : i = N := by omega
        subst e
        exact hx _
  exact h n 0 (Nat.zero_le N) (by omega)
theorem lq5_run {A0 A1 A2 A3 A4 R : Type} {body : (A0 → A1 → A2 → A3 → A4 → Option R) → A0 → A1 → A2 → A3 → A4 → Option R} (a0 : Nat → A0) (a1 : Nat → A1) (a2 : Nat → A2) (a3 : Nat → A3) (a4 : Nat → A4) (N : Nat) {out : Option R} (hs : ∀ (k : A0 → A1 → A2 → A3 → A4 → Option R) (i : Nat), i < N → body k (a0 i) (a1 i) (a2 i) (a3 i) (a4 i) = k (a0 (i + 1)) (a1 (i + 1)) (a2 (i + 1)) (a3 (i + 1)) (a4 (i + 1))) (hx : ∀ k : A0 → A1 → A2 → A3 → A4 → Option R, body k (a0 N) (a1 N) (a2 N) (a3 N) (a4 N) = out) {n : Nat} (hn : N < n) : lq5 body n (a0 0) (a1 0) (a2 0) (a3 0) (a4 0) = out := by
  have h : ∀ m i : Nat, i ≤ N → N - i < m → lq5 body m (a0 i) (a1 i) (a2 i) (a3 i) (a4 i) = out := by
    intro m
    induction m with
    | zero => intro i h1 h2; omega
    | succ m ih =>
      intro i h1 h2
      rcases Nat.lt_or_ge i N with q | q
      · exact (hs _ i q).trans (ih (i + 1) q (by omega))
      · have e : i = N := by omega
        subst e
        exact hx _
  exact h n 0 (Nat.zero_le N) (by omega)
theorem lq6_run {A0 A1 A2 A3 A4 A5 R : Type} {body : (A0 → A1 → A2 → A3 → A4 → A5 → Option R) → A0 → A1 → A2 → A3 → A4 → A5 → Option R} (a0 : Nat → A0) (a1 : Nat → A1) (a2 : Nat → A2) (a3 : Nat → A3) (a4 : Nat → A4) (a5 : Nat → A5) (N : Nat) {out : Option R} (hs : ∀ (k : A0 → A1 → A2 → A3 → A4 → A5 → Option R) (i : Nat), i < N → body k (a0 i) (a1 i) (a2 i) (a3 i) (a4 i) (a5 i) = k (a0 (i + 1)) (a1 (i + 1)) (a2 (i + 1)) (a3 (i + 1)) (a4 (i + 1)) (a5 (i + 1))) (hx : ∀ k : A0 → A1 → A2 → A3 → A4 → A5 → Option R, body k (a0 N) (a1 N) (a2 N) (a3 N) (a4 N) (a5 N) = out) {n : Nat} (hn : N < n) : lq6 body n (a0 0) (a1 0) (a2 0) (a3 0) (a4 0) (a5 0) = out := by
  have h : ∀ m i : Nat, i ≤ N → N - i < m → lq6 body m (a0 i) (a1 i) (a2 i) (a3 i) (a4 i) (a5 i) = out := by
    intro m
    induction m with
    | zero => intro i h1 h2; omega
    | succ m ih =>
      intro i h1 h2
      rcases Nat.lt_or_ge i N with q | q
      · exact (hs _ i q).trans (ih (i + 1) q (by omega))
      · have e : i = N := by omega
        subst e
        exact hx _
  exact h n 0 (Nat.zero_le N) (by omega)
theorem lq7_run {A0 A1 A2 A3 A4 A5 A6 R : Type} {body : (A0 → A1 → A2 → A3 → A4 → A5 → A6 → Option R) → A0 → A1 → A2 → A3 → A4 → A5 → A6 → Option R} (a0 : Nat → A0) (a1 : Nat → A1) (a2 : Nat → A2) (a3 : Nat → A3) (a4 : Nat → A4) (a5 : Nat → A5) (a6 : Nat → A6) (N : Nat) {out : Option R} (hs : ∀ (k : A0 → A1 → A2 → A3 → A4 → A5 → A6 → Option R) (i : Nat), i < N → body k (a0 i) (a1 i) (a2 i) (a3 i) (a4 i) (a5 i) (a6 i) = k (a0 (i + 1)) (a1 (i + 1)) (a2 (i + 1)) (a3 (i + 1)) (a4 (i + 1)) (a5 (i + 1)) (a6 (i + 1))) (hx : ∀ k : A0 → A1 → A2 → A3 → A4 → A5 → A6 → Option R, body k (a0 N) (a1 N) (a2 N) (a3 N) (a4 N) (a5 N) (a6 N) = out) {n : Nat} (hn : N < n) : lq7 body n (a0 0) (a1 0) (a2 0) (a3 0) (a4 0) (a5 0) (a6 0) = out := by
  have h : ∀ m i : Nat, i ≤ N → N - i < m → lq7 body m (a0 i) (a1 i) (a2 i) (a3 i) (a4 i) (a5 i) (a6 i) = out := by
    intro m
    induction m with
    | zero => intro i h1 h2; omega
    | succ m ih =>
      intro i h1 h2
      rcases Nat.lt_or_ge i N with q | q
      · exact (hs _ i q).trans (ih (i + 1) q (by omega))
      · have e : i = N := by omega
        subst e
        exact hx _
  exact h n 0 (Nat.zero_le N) (by omega)
theorem lq8_run {A0 A1 A2 A3 A4 A5 A6 A7 R : Type} {body : (A0 → A1 → A2 → A3 → A4 → A5 → A6 → A7 → Option R) → A0 → A1 → A2 → A3 → A4 → A5 → A6 → A7 → Option R} (a0 : Nat → A0) (a1 : Nat → A1) (a2 : Nat → A2) (a3 : Nat → A3) (a4 : Nat → A4) (a5 : Nat → A5) (a6 : Nat → A6) (a7 : Nat → A7) (N : Nat) {out : Option R} (hs : ∀ (k : A0 → A1 → A2 → A3 → A4 → A5 → A6 → A7 → Option R) (i : Nat), i < N → body k (a0 i) (a1 i) (a2 i) (a3 i) (a4 i) (a5 i) (a6 i) (a7 i) = k (a0 (i + 1)) (a1 (i + 1)) (a2 (i + 1)) (a3 (i + 1)) (a4 (i + 1)) (a5 (i + 1)) (a6 (i + 1)) (a7 (i + 1))) (hx : ∀ k : A0 → A1 → A2 → A3 → A4 → A5 → A6 → A7 → Option R, body k (a0 N) (a1 N) (a2 N) (a3 N) (a4 N) (a5 N) (a6 N) (a7 N) = out) {n : Nat} (hn : N < n) : lq8 body n (a0 0) (a1 0) (a2 0) (a3 0) (a4 0) (a5 0) (a6 0) (a7 0) = out := by
  have h : ∀ m i : Nat, i ≤ N → N - i < m → lq8 body m (a0 i) (a1 i) (a2 i) (a3 i) (a4 i) (a5 i) (a6 i) (a7 i) = out := by
    intro m
    induction m with
    | zero => intro i h1 h2; omega
    | succ m ih =>
      intro i h1 h2
      rcases Nat.lt_or_ge i N with q | q
      · exact (hs _ i q).trans (ih (i + 1) q (by omega))
      · have e : i = N := by omega
        subst e
        exact hx _
  exact h n 0 (Nat.zero_le N) (by omega)
theorem lq9_run {A0 A1 A2 A3 A4 A5 A6 A7 A8 R : Type} {body : (A0 → A1 → A2 → A3 → A4 → A5 → A6 → A7 → A8 → Option R) → A0 → A1 → A2 → A3 → A4 → A5 → A6 → A7 → A8 → Option R} (a0 : Nat → A0) (a1 : Nat → A1) (a2 : Nat → A2) (a3 : Nat → A3) (a4 : Nat → A4) (a5 : Nat → A5) (a6 : Nat → A6) (a7 : Nat → A7) (a8 : Nat → A8) (N : Nat) {out : Option R} (hs : ∀ (k : A0 → A1 → A2 → A3 → A4 → A5 → A6 → A7 → A8 → Option R) (i : Nat), i < N → body k (a0 i) (a1 i) (a2 i) (a3 i) (a4 i) (a5 i) (a6 i) (a7 i) (a8 i) = k (a0 (i + 1)) (a1 (i + 1)) (a2 (i + 1)) (a3 (i + 1)) (a4 (i + 1)) (a5 (i + 1)) (a6 (i + 1)) (a7 (i + 1)) (a8 (i + 1))) (hx : ∀ k : A0 → A1 → A2 → A3 → A4 → A5 → A6 → A7 → A8 → Option R, body k (a0 N) (a1 N) (a2 N) (a3 N) (a4 N) (a5 N) (a6 N) (a7 N) (a8 N) = out) {n : Nat} (hn : N < n) : lq9 body n (a0 0) (a1 0) (a2 0) (a3 0) (a4 0) (a5 0) (a6 0) (a7 0) (a8 0) = out := by
  have h : ∀ m i : Nat, i ≤ N → N - i < m → lq9 body m (a0 i) (a1 i) (a2 i) (a3 i) (a4 i) (a5 i) (a6 i) (a7 i) (a8 i) = out := by
    intro m
    induction m with
    | zero => intro i h1 h2; omega
    | succ m ih =>
      intro i h1 h2
      rcases Nat.lt_or_ge i N with q | q
      · exact (hs _ i q).trans (ih (i + 1) q (by omega))
      · have e : i = N := by omega
        subst e
        exact hx _
  exact h n 0 (Nat.zero_le N) (by omega)
theorem lq10_run {A0 A1 A2 A3 A4 A5 A6 A7 A8 A9 R : Type} {body : (A0 → A1 → A2 → A3 → A4 → A5 → A6 → A7 → A8 → A9 → Option R) → A0 → A1 → A2 → A3 → A4 → A5 → A6 → A7 → A8 → A9 → Option R} (a0 : Nat → A0) (a1 : Nat → A1) (a2 : Nat → A2) (a3 : Nat → A3) (a4 : Nat → A4) (a5 : Nat → A5) (a6 : Nat → A6) (a7 : Nat → A7) (a8 : Nat → A8) (a9 : Nat → A9) (N : Nat) {out : Option R} (hs : ∀ (k : A0 → A1 → A2 → A3 → A4 → A5 → A6 → A7 → A8 → A9 → Option R) (i : Nat), i < N → body k (a0 i) (a1 i) (a2 i) (a3 i) (a4 i) (a5 i) (a6 i) (a7 i) (a8 i) (a9 i) = k (a0 (i + 1)) (a1 (i + 1)) (a2 (i + 1)) (a3 (i + 1)) (a4 (i + 1)) (a5 (i + 1)) (a6 (i + 1)) (a7 (i + 1)) (a8 (i + 1)) (a9 (i + 1))) (hx : ∀ k : A0 → A1 → A2 → A3 → A4 → A5 → A6 → A7 → A8 → A9 → Option R, body k (a0 N) (a1 N) (a2 N) (a3 N) (a4 N) (a5 N) (a6 N) (a7 N) (a8 N) (a9 N) = out) {n : Nat} (hn : N < n) : lq10 body n (a0 0) (a1 0) (a2 0) (a3 0) (a4 0) (a5 0) (a6 0) (a7 0) (a8 0) (a9 0) = out := by
  have h : ∀ m i : Nat, i ≤ N → N - i < m → lq10 body m (a0 i) (a1 i) (a2 i) (a3 i) (a4 i) (a5 i) (a6 i) (a7 i) (a8 i) (a9 i) = out := by
    intro m
    induction m with
    | zero => intro i h1 h2; omega
    | succ m ih =>
      intro i h1 h2
      rcases Nat.lt_or_ge i N with q | q
      · exact (hs _ i q).trans (ih (i + 1) q (by omega))
      · have e : i = N := by omega
        subst e
        exact hx _
  exact h n 0 (Nat.zero_le N) (by omega)
theorem lq11_run {A0 A1 A2 A3 A4 A5 A6 A7 A8 A9 A10 R : Type} {body : (A0 → A1 → A2 → A3 → A4 → A5 → A6 → A7 → A8 → A9 → A10 → Option R) → A0 → A1 → A2 → A3 → A4 → A5 → A6 → A7 → A8 → A9 → A10 → Option R} (a0 : Nat → A0) (a1 : Nat → A1) (a2 : Nat → A2) (a3 : Nat → A3) (a4 : Nat → A4) (a5 : Nat → A5) (a6 : Nat → A6) (a7 : Nat → A7) (a8 : Nat → A8) (a9 : Nat → A9) (a10 : Nat → A10) (N : Nat) {out : Option R} (hs : ∀ (k : A0 → A1 → A2 → A3 → A4 → A5 → A6 → A7 → A8 → A9 → A10 → Option R) (i : Nat), i < N → body k (a0 i) (a1 i) (a2 i) (a3 i) (a4 i) (a5 i) (a6 i) (a7 i) (a8 i) (a9 i) (a10 i) = k (a0 (i + 1)) (a1 (i + 1)) (a2 (i + 1)) (a3 (i + 1)) (a4 (i + 1)) (a5 (i + 1)) (a6 (i + 1)) (a7 (i + 1)) (a8 (i + 1)) (a9 (i + 1)) (a10 (i + 1))) (hx : ∀ k : A0 → A1 → A2 → A3 → A4 → A5 → A6 → A7 → A8 → A9 → A10 → Option R, body k (a0 N) (a1 N) (a2 N) (a3 N) (a4 N) (a5 N) (a6 N) (a7 N) (a8 N) (a9 N) (a10 N) = out) {n : Nat} (hn : N < n) : lq11 body n (a0 0) (a1 0) (a2 0) (a3 0) (a4 0) (a5 0) (a6 0) (a7 0) (a8 0) (a9 0) (a10 0) = out := by
  have h : ∀ m i : Nat, i ≤ N → N - i < m → lq11 body m (a0 i) (a1 i) (a2 i) (a3 i) (a4 i) (a5 i) (a6 i) (a7 i) (a8 i) (a9 i) (a10 i) = out := by
    intro m
    induction m with
    | zero => intro i h1 h2; omega
    | succ m ih =>
      intro i h1 h2
      rcases Nat.lt_or_ge i N with q | q
      · exact (hs _ i q).trans (ih (i + 1) q (by omega))
      · have e : i = N := by omega
        subst e
        exact hx _
  exact h n 0 (Nat.zero_le N) (by omega)
theorem lq12_run {A0 A1 A2 A3 A4 A5 A6 A7 A8 A9 A10 A11 R : Type} {body : (A0 → A1 → A2 → A3 → A4 → A5 → A6 → A7 → A8 → A9 → A10 → A11 → Option R) → A0 → A1 → A2 → A3 → A4 → A5 → A6 → A7 → A8 → A9 → A10 → A11 → Option R} (a0 : Nat → A0) (a1 : Nat → A1) (a2 : Nat → A2) (a3 : Nat → A3) (a4 : Nat → A4) (a5 : Nat → A5) (a6 : Nat → A6) (a7 : Nat → A7) (a8 : Nat → A8) (a9 : Nat → A9) (a10 : Nat → A10) (a11 : Nat → A11) (N : Nat) {out : Option R} (hs : ∀ (k : A0 → A1 → A2 → A3 → A4 → A5 → A6 → A7 → A8 → A9 → A10 → A11 → Option R) (i : Nat), i < N → body k (a0 i) (a1 i) (a2 i) (a3 i) (a4 i) (a5 i) (a6 i) (a7 i) (a8 i) (a9 i) (a10 i) (a11 i) = k (a0 (i + 1)) (a1 (i + 1)) (a2 (i + 1)) (a3 (i + 1)) (a4 (i + 1)) (a5 (i + 1)) (a6 (i + 1)) (a7 (i + 1)) (a8 (i + 1)) (a9 (i + 1)) (a10 (i + 1)) (a11 (i + 1))) (hx : ∀ k : A0 → A1 → A2 → A3 → A4 → A5 → A6 → A7 → A8 → A9 → A10 → A11 → Option R, body k (a0 N) (a1 N) (a2 N) (a3 N) (a4 N) (a5 N) (a6 N) (a7 N) (a8 N) (a9 N) (a10 N) (a11 N) = out) {n : Nat} (hn : N < n) : lq12 body n (a0 0) (a1 0) (a2 0) (a3 0) (a4 0) (a5 0) (a6 0) (a7 0) (a8 0) (a9 0) (a10 0) (a11 0) = out := by
  have h : ∀ m i : Nat, i ≤ N → N - i < m → lq12 body m (a0 i) (a1 i) (a2 i) (a3 i) (a4 i) (a5 i) (a6 i) (a7 i) (a8 i) (a9 i) (a10 i) (a11 i) = out := by
    intro m
    induction m with
    | zero => intro i h1 h2; omega
    | succ m ih =>
      intro i h1 h2
      rcases Nat.lt_or_ge i N with q | q
      · exact (hs _ i q).trans (ih (i + 1) q (by omega))
      · have e : i = N := by omega
        subst e
        exact hx _
  exact h n 0 (Nat.zero_le N) (by omega)
theorem lq13_run {A0 A1 A2 A3 A4 A5 A6 A7 A8 A9 A10 A11 A12 R : Type} {body : (A0 → A1 → A2 → A3 → A4 → A5 → A6 → A7 → A8 → A9 → A10 → A11 → A12 → Option R) → A0 → A1 → A2 → A3 → A4 → A5 → A6 → A7 → A8 → A9 → A10 → A11 → A12 → Option R} (a0 : Nat → A0) (a1 : Nat → A1) (a2 : Nat → A2) (a3 : Nat → A3) (a4 : Nat → A4) (a5 : Nat → A5) (a6 : Nat → A6) (a7 : Nat → A7) (a8 : Nat → A8) (a9 : Nat → A9) (a10 : Nat → A10) (a11 : Nat → A11) (a12 : Nat → A12) (N : Nat) {out : Option R} (hs : ∀ (k : A0 → A1 → A2 → A3 → A4 → A5 → A6 → A7 → A8 → A9 → A10 → A11 → A12 → Option R) (i : Nat), i < N → body k (a0 i) (a1 i) (a2 i) (a3 i) (a4 i) (a5 i) (a6 i) (a7 i) (a8 i) (a9 i) (a10 i) (a11 i) (a12 i) = k (a0 (i + 1)) (a1 (i + 1)) (a2 (i + 1)) (a3 (i + 1)) (a4 (i + 1)) (a5 (i + 1)) (a6 (i + 1)) (a7 (i + 1)) (a8 (i + 1)) (a9 (i + 1)) (a10 (i + 1)) (a11 (i + 1)) (a12 (i + 1))) (hx : ∀ k : A0 → A1 → A2 → A3 → A4 → A5 → A6 → A7 → A8 → A9 → A10 → A11 → A12 → Option R, body k (a0 N) (a1 N) (a2 N) (a3 N) (a4 N) (a5 N) (a6 N) (a7 N) (a8 N) (a9 N) (a10 N) (a11 N) (a12 N) = out) {n : Nat} (hn : N < n) : lq13 body n (a0 0) (a1 0) (a2 0) (a3 0) (a4 0) (a5 0) (a6 0) (a7 0) (a8 0) (a9 0) (a10 0) (a11 0) (a12 0) = out := by
  have h : ∀ m i : Nat, i ≤ N → N - i < m → lq13 body m (a0 i) (a1 i) (a2 i) (a3 i) (a4 i) (a5 i) (a6 i) (a7 i) (a8 i) (a9 i) (a10 i) (a11 i) (a12 i) = out := by
    intro m
    induction m with
    | zero => intro i h1 h2; omega
    | succ m ih =>
      intro i h1 h2
      rcases Nat.lt_or_ge i N with q | q
      · exact (hs _ i q).trans (ih (i + 1) q (by omega))
      · have e : i = N := by omega
        subst e
        exact hx _
  exact h n 0 (Nat.zero_le N) (by omega)
theorem lq14_run {A0 A1 A2 A3 A4 A5 A6 A7 A8 A9 A10 A11 A12 A13 R : Type} {body : (A0 → A1 → A2 → A3 → A4 → A5 → A6 → A7 → A8 → A9 → A10 → A11 → A12 → A13 → Option R) → A0 → A1 → A2 → A3 → A4 → A5 → A6 → A7 → A8 → A9 → A10 → A11 → A12 → A13 → Option R} (a0 : Nat → A0) (a1 : Nat → A1) (a2 : Nat → A2) (a3 : Nat → A3) (a4 : Nat → A4) (a5 : Nat → A5) (a6 : Nat → A6) (a7 : Nat → A7) (a8 : Nat → A8) (a9 : Nat → A9) (a10 : Nat → A10) (a11 : Nat → A11) (a12 : Nat → A12) (a13 : Nat → A13) (N : Nat) {out : Option R} (hs : ∀ (k : A0 → A1 → A2 → A3 → A4 → A5 → A6 → A7 → A8 → A9 → A10 → A11 → A12 → A13 → Option R) (i : Nat), i < N → body k (a0 i) (a1 i) (a2 i) (a3 i) (a4 i) (a5 i) (a6 i) (a7 i) (a8 i) (a9 i) (a10 i) (a11 i) (a12 i) (a13 i) = k (a0 (i + 1)) (a1 (i + 1)) (a2 (i + 1)) (a3 (i + 1)) (a4 (i + 1)) (a5 (i + 1)) (a6 (i + 1)) (a7 (i + 1)) (a8 (i + 1)) (a9 (i + 1)) (a10 (i + 1)) (a11 (i + 1)) (a12 (i + 1)) (a13 (i + 1))) (hx : ∀ k : A0 → A1 → A2 → A3 → A4 → A5 → A6 → A7 → A8 → A9 → A10 → A11 → A12 → A13 → Option R, body k (a0 N) (a1 N) (a2 N) (a3 N) (a4 N) (a5 N) (a6 N) (a7 N) (a8 N) (a9 N) (a10 N) (a11 N) (a12 N) (a13 N) = out) {n : Nat} (hn : N < n) : lq14 body n (a0 0) (a1 0) (a2 0) (a3 0) (a4 0) (a5 0) (a6 0) (a7 0) (a8 0) (a9 0) (a10 0) (a11 0) (a12 0) (a13 0) = out := by
  have h : ∀ m i : Nat, i ≤ N → N - i < m → lq14 body m (a0 i) (a1 i) (a2 i) (a3 i) (a4 i) (a5 i) (a6 i) (a7 i) (a8 i) (a9 i) (a10 i) (a11 i) (a12 i) (a13 i) = out := by
    intro m
    induction m with
    | zero => intro i h1 h2; omega
    | succ m ih =>
      intro i h1 h2
      rcases Nat.lt_or_ge i N with q | q
      · exact (hs _ i q).trans (ih (i + 1) q (by omega))
      · have e : i = N := by omega
        subst e
        exact hx _
  exact h n 0 (Nat.zero_le N) (by omega)
theorem lq15_run {A0 A1 A2 A3 A4 A5 A6 A7 A8 A9 A10 A11 A12 A13 A14 R : Type} {body : (A0 → A1 → A2 → A3 → A4 → A5 → A6 → A7 → A8 → A9 → A10 → A11 → A12 → A13 → A14 → Option R) → A0 → A1 → A2 → A3 → A4 → A5 → A6 → A7 → A8 → A9 → A10 → A11 → A12 → A13 → A14 → Option R} (a0 : Nat → A0) (a1 : Nat → A1) (a2 : Nat → A2) (a3 : Nat → A3) (a4 : Nat → A4) (a5 : Nat → A5) (a6 : Nat → A6) (a7 : Nat → A7) (a8 : Nat → A8) (a9 : Nat → A9) (a10 : Nat → A10) (a11 : Nat → A11) (a12 : Nat → A12) (a13 : Nat → A13) (a14 : Nat → A14) (N : Nat) {out : Option R} (hs : ∀ (k : A0 → A1 → A2 → A3 → A4 → A5 → A6 → A7 → A8 → A9 → A10 → A11 → A12 → A13 → A14 → Option R) (i : Nat), i < N → body k (a0 i) (a1 i) (a2 i) (a3 i) (a4 i) (a5 i) (a6 i) (a7 i) (a8 i) (a9 i) (a10 i) (a11 i) (a12 i) (a13 i) (a14 i) = k (a0 (i + 1)) (a1 (i + 1)) (a2 (i + 1)) (a3 (i + 1)) (a4 (i + 1)) (a5 (i + 1)) (a6 (i + 1)) (a7 (i + 1)) (a8 (i + 1)) (a9 (i + 1)) (a10 (i + 1)) (a11 (i + 1)) (a12 (i + 1)) (a13 (i + 1)) (a14 (i + 1))) (hx : ∀ k : A0 → A1 → A2 → A3 → A4 → A5 → A6 → A7 → A8 → A9 → A10 → A11 → A12 → A13 → A14 → Option R, body k (a0 N) (a1 N) (a2 N) (a3 N) (a4 N) (a5 N) (a6 N) (a7 N) (a8 N) (a9 N) (a10 N) (a11 N) (a12 N) (a13 N) (a14 N) = out) {n : Nat} (hn : N < n) : lq15 body n (a0 0) (a1 0) (a2 0) (a3 0) (a4 0) (a5 0) (a6 0) (a7 0) (a8 0) (a9 0) (a10 0) (a11 0) (a12 0) (a13 0) (a14 0) = out := by
  have h : ∀ m i : Nat, i ≤ N → N - i < m → lq15 body m (a0 i) (a1 i) (a2 i) (a3 i) (a4 i) (a5 i) (a6 i) (a7 i) (a8 i) (a9 i) (a10 i) (a11 i) (a12 i) (a13 i) (a14 i) = out := by
    intro m
    induction m with
    | zero => intro i h1 h2; omega
    | succ m ih =>
      intro i h1 h2
      rcases Nat.lt_or_ge i N with q | q
      · exact (hs _ i q).trans (ih (i + 1) q (by omega))
      · have e : i = N := by omega
        subst e
        exact hx _
  exact h n 0 (Nat.zero_le N) (by omega)
theorem lq16_run {A0 A1 A2 A3 A4 A5 A6 A7 A8 A9 A10 A11 A12 A13 A14 A15 R : Type} {body : (A0 → A1 → A2 → A3 → A4 → A5 → A6 → A7 → A8 → A9 → A10 → A11 → A12 → A13 → A14 → A15 → Option R) → A0 → A1 → A2 → A3 → A4 → A5 → A6 → A7 → A8 → A9 → A10 → A11 → A12 → A13 → A14 → A15 → Option R} (a0 : Nat → A0) (a1 : Nat → A1) (a2 : Nat → A2) (a3 : Nat → A3) (a4 : Nat → A4) (a5 : Nat → A5) (a6 : Nat → A6) (a7 : Nat → A7) (a8 : Nat → A8) (a9 : Nat → A9) (a10 : Nat → A10) (a11 : Nat → A11) (a12 : Nat → A12) (a13 : Nat → A13) (a14 : Nat → A14) (a15 : Nat → A15) (N : Nat) {out : Option R} (hs : ∀ (k : A0 → A1 → A2 → A3 → A4 → A5 → A6 → A7 → A8 → A9 → A10 → A11 → A12 → A13 → A14 → A15 → Option R) (i : Nat), i < N → body k (a0 i) (a1 i) (a2 i) (a3 i) (a4 i) (a5 i) (a6 i) (a7 i) (a8 i) (a9 i) (a10 i) (a11 i) (a12 i) (a13 i) (a14 i) (a15 i) = k (a0 (i + 1)) (a1 (i + 1)) (a2 (i + 1)) (a3 (i + 1)) (a4 (i + 1)) (a5 (i + 1)) (a6 (i + 1)) (a7 (i + 1)) (a8 (i + 1)) (a9 (i + 1)) (a10 (i + 1)) (a11 (i + 1)) (a12 (i + 1)) (a13 (i + 1)) (a14 (i + 1)) (a15 (i + 1))) (hx : ∀ k : A0 → A1 → A2 → A3 → A4 → A5 → A6 → A7 → A8 → A9 → A10 → A11 → A12 → A13 → A14 → A15 → Option R, body k (a0 N) (a1 N) (a2 N) (a3 N) (a4 N) (a5 N) (a6 N) (a7 N) (a8 N) (a9 N) (a10 N) (a11 N) (a12 N) (a13 N) (a14 N) (a15 N) = out) {n : Nat} (hn : N < n) : lq16 body n (a0 0) (a1 0) (a2 0) (a3 0) (a4 0) (a5 0) (a6 0) (a7 0) (a8 0) (a9 0) (a10 0) (a11 0) (a12 0) (a13 0) (a14 0) (a15 0) = out := by
  have h : ∀ m i : Nat, i ≤ N → N - i < m → lq16 body m (a0 i) (a1 i) (a2 i) (a3 i) (a4 i) (a5 i) (a6 i) (a7 i) (a8 i) (a9 i) (a10 i) (a11 i) (a12 i) (a13 i) (a14 i) (a15 i) = out := by
    intro m
    induction m with
    | zero => intro i h1 h2; omega
    | succ m ih =>
      intro i h1 h2
      rcases Nat.lt_or_ge i N with q | q
      · exact (hs _ i q).trans (ih (i + 1) q (by omega))
      · have e : i = N := by omega
        subst e
        exact hx _
  exact h n 0 (Nat.zero_le N) (by omega)
theorem lq17_run {A0 A1 A2 A3 A4 A5 A6 A7 A8 A9 A10 A11 A12 A13 A14 A15 A16 R : Type} {body : (A0 → A1 → A2 → A3 → A4 → A5 → A6 → A7 → A8 → A9 → A10 → A11 → A12 → A13 → A14 → A15 → A16 → Option R) → A0 → A1 → A2 → A3 → A4 → A5 → A6 → A7 → A8 → A9 → A10 → A11 → A12 → A13 → A14 → A15 → A16 → Option R} (a0 : Nat → A0) (a1 : Nat → A1) (a2 : Nat → A2) (a3 : Nat → A3) (a4 : Nat → A4) (a5 : Nat → A5) (a6 : Nat → A6) (a7 : Nat → A7) (a8 : Nat → A8) (a9 : Nat → A9) (a10 : Nat → A10) (a11 : Nat → A11) (a12 : Nat → A12) (a13 : Nat → A13) (a14 : Nat → A14) (a15 : Nat → A15) (a16 : Nat → A16) (N : Nat) {out : Option R} (hs : ∀ (k : A0 → A1 → A2 → A3 → A4 → A5 → A6 → A7 → A8 → A9 → A10 → A11 → A12 → A13 → A14 → A15 → A16 → Option R) (i : Nat), i < N → body k (a0 i) (a1 i) (a2 i) (a3 i) (a4 i) (a5 i) (a6 i) (a7 i) (a8 i) (a9 i) (a10 i) (a11 i) (a12 i) (a13 i) (a14 i) (a15 i) (a16 i) = k (a0 (i + 1)) (a1 (i + 1)) (a2 (i + 1)) (a3 (i + 1)) (a4 (i + 1)) (a5 (i + 1)) (a6 (i + 1)) (a7 (i + 1)) (a8 (i + 1)) (a9 (i + 1)) (a10 (i + 1)) (a11 (i + 1)) (a12 (i + 1)) (a13 (i + 1)) (a14 (i + 1)) (a15 (i + 1)) (a16 (i + 1))) (hx : ∀ k : A0 → A1 → A2 → A3 → A4 → A5 → A6 → A7 → A8 → A9 → A10 → A11 → A12 → A13 → A14 → A15 → A16 → Option R, body k (a0 N) (a1 N) (a2 N) (a3 N) (a4 N) (a5 N) (a6 N) (a7 N) (a8 N) (a9 N) (a10 N) (a11 N) (a12 N) (a13 N) (a14 N) (a15 N) (a16 N) = out) {n : Nat} (hn : N < n) : lq17 body n (a0 0) (a1 0) (a2 0) (a3 0) (a4 0) (a5 0) (a6 0) (a7 0) (a8 0) (a9 0) (a10 0) (a11 0) (a12 0) (a13 0) (a14 0) (a15 0) (a16 0) = out := by
  have h : ∀ m i : Nat, i ≤ N → N - i < m → lq17 body m (a0 i) (a1 i) (a2 i) (a3 i) (a4 i) (a5 i) (a6 i) (a7 i) (a8 i) (a9 i) (a10 i) (a11 i) (a12 i) (a13 i) (a14 i) (a15 i) (a16 i) = out := by
    intro m
    induction m with
    | zero => intro i h1 h2; omega
    | succ m ih =>
      intro i h1 h2
      rcases Nat.lt_or_ge i N with q | q
      · exact (hs _ i q).trans (ih (i + 1) q (by omega))
      · have e : i = N := by omega
        subst e
        exact hx _
  exact h n 0 (Nat.zero_le N) (by omega)
theorem lq18_run {A0 A1 A2 A3 A4 A5 A6 A7 A8 A9 A10 A11 A12 A13 A14 A15 A16 A17 R : Type} {body : (A0 → A1 → A2 → A3 → A4 → A5 → A6 → A7 → A8 → A9 → A10 → A11 → A12 → A13 → A14 → A15 → A16 → A17 → Option R) → A0 → A1 → A2 → A3 → A4 → A5 → A6 → A7 → A8 → A9 → A10 → A11 → A12 → A13 → A14 → A15 → A16 → A17 → Option R} (a0 : Nat → A0) (a1 : Nat → A1) (a2 : Nat → A2) (a3 : Nat → A3) (a4 : Nat → A4) (a5 : Nat → A5) (a6 : Nat → A6) (a7 : Nat → A7) (a8 : Nat → A8) (a9 : Nat → A9) (a10 : Nat → A10) (a11 : Nat → A11) (a12 : Nat → A12) (a13 : Nat → A13) (a14 : Nat → A14) (a15 : Nat → A15) (a16 : Nat → A16) (a17 : Nat → A17) (N : Nat) {out : Option R} (hs : ∀ (k : A0 → A1 → A2 → A3 → A4 → A5 → A6 → A7 → A8 → A9 → A10 → A11 → A12 → A13 → A14 → A15 → A16 → A17 → Option R) (i : Nat), i < N → body k (a0 i) (a1 i) (a2 i) (a3 i) (a4 i) (a5 i) (a6 i) (a7 i) (a8 i) (a9 i) (a10 i) (a11 i) (a12 i) (a13 i) (a14 i) (a15 i) (a16 i) (a17 i) = k (a0 (i + 1)) (a1 (i + 1)) (a2 (i + 1)) (a3 (i + 1)) (a4 (i + 1)) (a5 (i + 1)) (a6 (i + 1)) (a7 (i + 1)) (a8 (i + 1)) (a9 (i + 1)) (a10 (i + 1)) (a11 (i + 1)) (a12 (i + 1)) (a13 (i + 1)) (a14 (i + 1)) (a15 (i + 1)) (a16 (i + 1)) (a17 (i + 1))) (hx : ∀ k : A0 → A1 → A2 → A3 → A4 → A5 → A6 → A7 → A8 → A9 → A10 → A11 → A12 → A13 → A14 → A15 → A16 → A17 → Option R, body k (a0 N) (a1 N) (a2 N) (a3 N) (a4 N) (a5 N) (a6 N) (a7 N) (a8 N) (a9 N) (a10 N) (a11 N) (a12 N) (a13 N) (a14 N) (a15 N) (a16 N) (a17 N) = out) {n : Nat} (hn : N < n) : lq18 body n (a0 0) (a1 0) (a2 0) (a3 0) (a4 0) (a5 0) (a6 0) (a7 0) (a8 0) (a9 0) (a10 0) (a11 0) (a12 0) (a13 0) (a14 0) (a15 0) (a16 0) (a17 0) = out := by
  have h : ∀ m i : Nat, i ≤ N → N - i < m → lq18 body m (a0 i) (a1 i) (a2 i) (a3 i) (a4 i) (a5 i) (a6 i) (a7 i) (a8 i) (a9 i) (a10 i) (a11 i) (a12 i) (a13 i) (a14 i) (a15 i) (a16 i) (a17 i) = out := by
    intro m
    induction m with
    | zero => intro i h1 h2; omega
    | succ m ih =>
      intro i h1 h2
      rcases Nat.lt_or_ge i N with q | q
      · exact (hs _ i q).trans (ih (i + 1) q (by omega))
      · have e : i = N := by omega
        subst e
        exact hx _
  exact h n 0 (Nat.zero_le N) (by omega)
theorem lq19_run {A0 A1 A2 A3 A4 A5 A6 A7 A8 A9 A10 A11 A12 A13 A14 A15 A16 A17 A18 R : Type} {body : (A0 → A1 → A2 → A3 → A4 → A5 → A6 → A7 → A8 → A9 → A10 → A11 → A12 → A13 → A14 → A15 → A16 → A17 → A18 → Option R) → A0 → A1 → A2 → A3 → A4 → A5 → A6 → A7 → A8 → A9 → A10 → A11 → A12 → A13 → A14 → A15 → A16 → A17 → A18 → Option R} (a0 : Nat → A0) (a1 : Nat → A1) (a2 : Nat → A2) (a3 : Nat → A3) (a4 : Nat → A4) (a5 : Nat → A5) (a6 : Nat → A6) (a7 : Nat → A7) (a8 : Nat → A8) (a9 : Nat → A9) (a10 : Nat → A10) (a11 : Nat → A11) (a12 : Nat → A12) (a13 : Nat → A13) (a14 : Nat → A14) (a15 : Nat → A15) (a16 : Nat → A16) (a17 : Nat → A17) (a18 : Nat → A18) (N : Nat) {out : Option R} (hs : ∀ (k : A0 → A1 → A2 → A3 → A4 → A5 → A6 → A7 → A8 → A9 → A10 → A11 → A12 → A13 → A14 → A15 → A16 → A17 → A18 → Option R) (i : Nat), i < N → body k (a0 i) (a1 i) (a2 i) (a3 i) (a4 i) (a5 i) (a6 i) (a7 i) (a8 i) (a9 i) (a10 i) (a11 i) (a12 i) (a13 i) (a14 i) (a15 i) (a16 i) (a17 i) (a18 i) = k (a0 (i + 1)) (a1 (i + 1)) (a2 (i + 1)) (a3 (i + 1)) (a4 (i + 1)) (a5 (i + 1)) (a6 (i + 1)) (a7 (i + 1)) (a8 (i + 1)) (a9 (i + 1)) (a10 (i + 1)) (a11 (i + 1)) (a12 (i + 1)) (a13 (i + 1)) (a14 (i + 1)) (a15 (i + 1)) (a16 (i + 1)) (a17 (i + 1)) (a18 (i + 1))) (hx : ∀ k : A0 → A1 → A2 → A3 → A4 → A5 → A6 → A7 → A8 → A9 → A10 → A11 → A12 → A13 → A14 → A15 → A16 → A17 → A18 → Option R, body k (a0 N) (a1 N) (a2 N) (a3 N) (a4 N) (a5 N) (a6 N) (a7 N) (a8 N) (a9 N) (a10 N) (a11 N) (a12 N) (a13 N) (a14 N) (a15 N) (a16 N) (a17 N) (a18 N) = out) {n : Nat} (hn : N < n) : lq19 body n (a0 0) (a1 0) (a2 0) (a3 0) (a4 0) (a5 0) (a6 0) (a7 0) (a8 0) (a9 0) (a10 0) (a11 0) (a12 0) (a13 0) (a14 0) (a15 0) (a16 0) (a17 0) (a18 0) = out := by
  have h : ∀ m i : Nat, i ≤ N → N - i < m → lq19 body m (a0 i) (a1 i) (a2 i) (a3 i) (a4 i) (a5 i) (a6 i) (a7 i) (a8 i) (a9 i) (a10 i) (a11 i) (a12 i) (a13 i) (a14 i) (a15 i) (a16 i) (a17 i) (a18 i) = out := by
    intro m
    induction m with
    | zero => intro i h1 h2; omega
    | succ m ih =>
      intro i h1 h2
      rcases Nat.lt_or_ge i N with q | q
      · exact (hs _ i q).trans (ih (i + 1) q (by omega))
      · have e : i = N := by omega
        subst e
        exact hx _
  exact h n 0 (Nat.zero_le N) (by omega)
theorem lq20_run {A0 A1 A2 A3 A4 A5 A6 A7 A8 A9 A10 A11 A12 A13 A14 A15 A16 A17 A18 A19 R : Type} {body : (A0 → A1 → A2 → A3 → A4 → A5 → A6 → A7 → A8 → A9 → A10 → A11 → A12 → A13 → A14 → A15 → A16 → A17 → A18 → A19 → Option R) → A0 → A1 → A2 → A3 → A4 → A5 → A6 → A7 → A8 → A9 → A10 → A11 → A12 → A13 → A14 → A15 → A16 → A17 → A18 → A19 → Option R} (a0 : Nat → A0) (a1 : Nat → A1) (a2 : Nat → A2) (a3 : Nat → A3) (a4 : Nat → A4) (a5 : Nat → A5) (a6 : Nat → A6) (a7 : Nat → A7) (a8 : Nat → A8) (a9 : Nat → A9) (a10 : Nat → A10) (a11 : Nat → A11) (a12 : Nat → A12) (a13 : Nat → A13) (a14 : Nat → A14) (a15 : Nat → A15) (a16 : Nat → A16) (a17 : Nat → A17) (a18 : Nat → A18) (a19 : Nat → A19) (N : Nat) {out : Option R} (hs : ∀ (k : A0 → A1 → A2 → A3 → A4 → A5 → A6 → A7 → A8 → A9 → A10 → A11 → A12 → A13 → A14 → A15 → A16 → A17 → A18 → A19 → Option R) (i : Nat), i < N → body k (a0 i) (a1 i) (a2 i) (a3 i) (a4 i) (a5 i) (a6 i) (a7 i) (a8 i) (a9 i) (a10 i) (a11 i) (a12 i) (a13 i) (a14 i) (a15 i) (a16 i) (a17 i) (a18 i) (a19 i) = k (a0 (i + 1)) (a1 (i + 1)) (a2 (i + 1)) (a3 (i + 1)) (a4 (i + 1)) (a5 (i + 1)) (a6 (i + 1)) (a7 (i + 1)) (a8 (i + 1)) (a9 (i + 1)) (a10 (i + 1)) (a11 (i + 1)) (a12 (i + 1)) (a13 (i + 1)) (a14 (i + 1)) (a15 (i + 1)) (a16 (i + 1)) (a17 (i + 1)) (a18 (i + 1)) (a19 (i + 1))) (hx : ∀ k : A0 → A1 → A2 → A3 → A4 → A5 → A6 → A7 → A8 → A9 → A10 → A11 → A12 → A13 → A14 → A15 → A16 → A17 → A18 → A19 → Option R, body k (a0 N) (a1 N) (a2 N) (a3 N) (a4 N) (a5 N) (a6 N) (a7 N) (a8 N) (a9 N) (a10 N) (a11 N) (a12 N) (a13 N) (a14 N) (a15 N) (a16 N) (a17 N) (a18 N) (a19 N) = out) {n : Nat} (hn : N < n) : lq20 body n (a0 0) (a1 0) (a2 0) (a3 0) (a4 0) (a5 0) (a6 0) (a7 0) (a8 0) (a9 0) (a10 0) (a11 0) (a12 0) (a13 0) (a14 0) (a15 0) (a16 0) (a17 0) (a18 0) (a19 0) = out := by
  have h : ∀ m i : Nat, i ≤ N → N - i < m → lq20 body m (a0 i) (a1 i) (a2 i) (a3 i) (a4 i) (a5 i) (a6 i) (a7 i) (a8 i) (a9 i) (a10 i) (a11 i) (a12 i) (a13 i) (a14 i) (a15 i) (a16 i) (a17 i) (a18 i) (a19 i) = out := by
    intro m
    induction m with
    | zero => intro i h1 h2; omega
    | succ m ih =>
      intro i h1 h2
      rcases Nat.lt_or_ge i N with q | q
      · exact (hs _ i q).trans (ih (i + 1) q (by omega))
      · have e : i = N := by omega
        subst e
        exact hx _
  exact h n 0 (Nat.zero_le N) (by omega)
