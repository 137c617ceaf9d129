/-! Integer.bitCount of numbers of 16 bits -/
def bg1 (x : Int32) : Int32 := x - ((Int32.toUInt32 x >>> (Int32.toUInt32 (1 : Int32) &&& Int32.toUInt32 31)).toInt32 &&& (1431655765 : Int32))
def bg2 (x : Int32) : Int32 := (x &&& (858993459 : Int32)) + ((Int32.toUInt32 x >>> (Int32.toUInt32 (2 : Int32) &&& Int32.toUInt32 31)).toInt32 &&& (858993459 : Int32))
def bg3 (x : Int32) : Int32 := (x + (Int32.toUInt32 x >>> (Int32.toUInt32 (4 : Int32) &&& Int32.toUInt32 31)).toInt32) &&& (252645135 : Int32)
def bg4 (x : Int32) : Int32 := x + (Int32.toUInt32 x >>> (Int32.toUInt32 (8 : Int32) &&& Int32.toUInt32 31)).toInt32
def bg5 (x : Int32) : Int32 := x + (Int32.toUInt32 x >>> (Int32.toUInt32 (16 : Int32) &&& Int32.toUInt32 31)).toInt32
theorem bc_stages (x : Int32) : f_J6_bitCount_0f7a4 x = bg5 (bg4 (bg3 (bg2 (bg1 x)))) &&& (63 : Int32) := rfl
theorem ush {n k : Nat} {s : Int32} (hn : n < 2 ^ 31) (hs : ((s.toUInt32 &&& Int32.toUInt32 31).toBitVec % 32).toNat = k) : (Int32.toUInt32 (nI n) >>> (Int32.toUInt32 s &&& Int32.toUInt32 31)).toInt32 = nI (n / 2 ^ k) := pk_ushrN (by omega) s k hs
theorem bg1_n {n : Nat} (h : n < 2 ^ 31) : bg1 (nI n) = nI (n - (n / 2 &&& 1431655765)) := by
  have f1 : (n / 2 &&& 1431655765) ≤ n / 2 := Nat.and_le_left
  unfold bg1
  rw [ush (k := 1) h (by decide), Nat.pow_one, n_lit, n_and, n_sub (by omega)]
theorem bg2_n {n : Nat} (h : n < 2 ^ 31) : bg2 (nI n) = nI ((n &&& 858993459) + (n / 4 &&& 858993459)) := by
  unfold bg2
  rw [ush (k := 2) h (by decide), show 2 ^ 2 = 4 from rfl, n_lit, n_and, n_and, n_add]
theorem bg3_n {n : Nat} (h : n < 2 ^ 31) : bg3 (nI n) = nI ((n + n / 16) &&& 252645135) := by
  unfold bg3
  rw [ush (k := 4) h (by decide), show 2 ^ 4 = 16 from rfl, n_lit, n_add, n_and]
theorem bg4_n {n : Nat} (h : n < 2 ^ 31) : bg4 (nI n) = nI (n + n / 256) := by
  unfold bg4
  rw [ush (k := 8) h (by decide), show 2 ^ 8 = 256 from rfl, n_add]
theorem bg5_n {n : Nat} (h : n < 2 ^ 31) : bg5 (nI n) = nI (n + n / 65536) := by
  unfold bg5
  rw [ush (k := 16) h (by decide), show 2 ^ 16 = 65536 from rfl, n_add]
theorem land_split (p q r t : Nat) (hq : q < 256) (ht : t < 256) : (256 * p + q) &&& (256 * r + t) = 256 * (p &&& r) + (q &&& t) := by
  apply Nat.eq_of_testBit_eq
  intro i
  have hqt : q &&& t < 256 := Nat.lt_of_le_of_lt Nat.and_le_left hq
  have e : ∀ a b, b < 256 → (256 * a + b).testBit i = if i < 8 then b.testBit i else a.testBit (i - 8) := fun a b hb => Nat.testBit_two_pow_mul_add (i := 8) a hb i
  rw [Nat.testBit_and, e p q hq, e r t ht, e _ _ hqt]
  by_cases c : i < 8
  · rw [if_pos c, if_pos c, if_pos c, Nat.testBit_and]
  · rw [if_neg c, if_neg c, if_neg c, Nat.testBit_and]
def bs1 (p : Nat) : Nat := p - (p / 2 &&& 85)
def bs2 (p : Nat) : Nat := (p &&& 51) + (p / 4 &&& 51)
def bs3 (p : Nat) : Nat := (p + p / 16) &&& 15
theorem bs_all : ∀ p, p < 256 → (p / 2 &&& 5592405) = (p / 2 &&& 85) ∧ (bs1 p &&& 3355443) = (bs1 p &&& 51) ∧ (bs1 p / 4 &&& 3355443) = (bs1 p / 4 &&& 51) ∧ bs1 p < 256 ∧ bs2 (bs1 p) ≤ 68 ∧ bs2 (bs1 p) % 16 ≤ 4 ∧ ((bs2 (bs1 p) + bs2 (bs1 p) / 16) &&& 986895) = bs3 (bs2 (bs1 p)) ∧ bs3 (bs2 (bs1 p)) = pc 8 p ∧ pc 8 p ≤ 8 ∧ (p / 2 &&& 85) ≤ p := by decide +kernel
theorem bs_m1 : ∀ a, a < 2 → ∀ c, c < 128 → ((128 * a + c) &&& 85) = (c &&& 85) := by decide +kernel
theorem bs_m2 : ∀ a, a < 4 → ∀ c, c < 64 → ((64 * a + c) &&& 51) = (c &&& 51) := by decide +kernel
theorem m15 (x : Nat) : x &&& 15 = x % 16 := Nat.and_two_pow_sub_one_eq_mod x 4
theorem m63 (x : Nat) : x &&& 63 = x % 64 := Nat.and_two_pow_sub_one_eq_mod x 6
theorem pc_split : ∀ (k n : Nat), pc (8 + k) n = pc 8 (n % 256) + pc k (n / 256) := by
  intro k n
  rw [show 8 + k = k + 1 + 1 + 1 + 1 + 1 + 1 + 1 + 1 by omega]
  simp only [pc, Nat.div_div_eq_div_mul, Nat.reduceMul]
  rw [show n % 256 % 2 = n % 2 by omega, show n % 256 / 2 % 2 = n / 2 % 2 by omega, show n % 256 / 4 % 2 = n / 4 % 2 by omega, show n % 256 / 8 % 2 = n / 8 % 2 by omega, show n % 256 / 16 % 2 = n / 16 % 2 by omega, show n % 256 / 32 % 2 = n / 32 % 2 by omega, show n % 256 / 64 % 2 = n / 64 % 2 by omega, show n % 256 / 128 % 2 = n / 128 % 2 by omega]
  omega
theorem bc_e1 {a b : Nat} (ha : a < 256) (hb : b < 256) : (256 * a + b) - ((256 * a + b) / 2 &&& 1431655765) = 256 * bs1 a + bs1 b := by
  obtain ⟨a1, -, -, -, -, -, -, -, -, a10⟩ := bs_all a ha
  obtain ⟨-, -, -, -, -, -, -, -, -, b10⟩ := bs_all b hb
  have e : (256 * a + b) / 2 = 256 * (a / 2) + (128 * (a % 2) + b / 2) := by omega
  have m : 1431655765 = 256 * 5592405 + 85 := by decide
  rw [e, m, land_split _ _ _ _ (by omega) (by omega), a1, bs_m1 _ (by omega) _ (by omega)]
  unfold bs1
  generalize (a / 2 &&& 85) = x at *
  generalize (b / 2 &&& 85) = y at *
  omega
theorem bc_e2 {p q : Nat} (hp : p < 256) (hq : q < 256) (a2 : (p &&& 3355443) = (p &&& 51)) (a3 : (p / 4 &&& 3355443) = (p / 4 &&& 51)) : (256 * p + q &&& 858993459) + ((256 * p + q) / 4 &&& 858993459) = 256 * bs2 p + bs2 q := by
  have e : (256 * p + q) / 4 = 256 * (p / 4) + (64 * (p % 4) + q / 4) := by omega
  have m : 858993459 = 256 * 3355443 + 51 := by decide
  rw [e, m, land_split _ _ _ _ hq (by omega), land_split _ _ _ _ (by omega) (by omega), a2, a3, bs_m2 _ (by omega) _ (by omega)]
  unfold bs2
  generalize (p &&& 51) = x at *
  generalize (p / 4 &&& 51) = y at *
  generalize (q &&& 51) = z at *
  generalize (q / 4 &&& 51) = w at *
  omega
theorem bc_e3 {p q : Nat} (hp : p ≤ 68) (hq : q ≤ 68) (hp6 : p % 16 ≤ 4) (a7 : ((p + p / 16) &&& 986895) = bs3 p) : ((256 * p + q) + (256 * p + q) / 16) &&& 252645135 = 256 * bs3 p + bs3 q := by
  have e : (256 * p + q) + (256 * p + q) / 16 = 256 * (p + p / 16) + (q + 16 * (p % 16) + q / 16) := by omega
  have m : 252645135 = 256 * 986895 + 15 := by decide
  have k : (q + 16 * (p % 16) + q / 16) % 16 = (q + q / 16) % 16 := by omega
  rw [e, m, land_split _ _ _ _ (by omega) (by omega), a7, m15, k, ← m15]
  rfl
theorem bc_e4 {a b : Nat} (ha : a < 256) (hb : b < 256) : pc 31 (256 * a + b) = pc 8 b + pc 8 a := by
  have p1 := pc_split 23 (256 * a + b)
  have p2 := pc_split 15 a
  have k1 : (256 * a + b) % 256 = b := by omega
  have k2 : (256 * a + b) / 256 = a := by omega
  have k3 : a % 256 = a := by omega
  have k4 : a / 256 = 0 := by omega
  rw [k1, k2] at p1
  rw [k3, k4, pc_0, Nat.add_zero] at p2
  exact p1.trans (congrArg (fun z => pc 8 b + z) p2)
theorem bc_fin {P Q : Nat} (hP : P ≤ 8) (hQ : Q ≤ 8) : ((256 * P + Q) + (256 * P + Q) / 256 + ((256 * P + Q) + (256 * P + Q) / 256) / 65536) % 64 = Q + P := by
  have k1 : (256 * P + Q) / 256 = P := by omega
  have k2 : (256 * P + Q + P) / 65536 = 0 := by omega
  rw [k1, k2]
  omega
theorem m_bitCount16 {n : Nat} (h : n < 65536) : f_J6_bitCount_0f7a4 (nI n) = nI (pc 31 n) := by
  obtain ⟨a, b, ha, hb, rfl⟩ : ∃ a b, a < 256 ∧ b < 256 ∧ n = 256 * a + b := ⟨n / 256, n % 256, by omega, by omega, by omega⟩
  obtain ⟨a1, a2, a3, a4, a5, a6, a7, a8, a9, a10⟩ := bs_all a ha
  obtain ⟨b1, b2, b3, b4, b5, b6, b7, b8, b9, b10⟩ := bs_all b hb
  have s1 : bg1 (nI (256 * a + b)) = nI (256 * bs1 a + bs1 b) := by rw [bg1_n (by omega), bc_e1 ha hb]
  have s2 : bg2 (nI (256 * bs1 a + bs1 b)) = nI (256 * bs2 (bs1 a) + bs2 (bs1 b)) := by rw [bg2_n (by omega), bc_e2 a4 b4 a2 a3]
  have s3 : bg3 (nI (256 * bs2 (bs1 a) + bs2 (bs1 b))) = nI (256 * pc 8 a + pc 8 b) := by rw [bg3_n (by omega), bc_e3 a5 b5 a6 a7, a8, b8]
  rw [bc_stages, s1, s2, s3, bg4_n (by omega), bg5_n (by omega), n_lit, n_and, m63, bc_fin a9 b9, bc_e4 ha hb]
