theorem Qw_true {wt tr : Nat → Nat → Nat} : ∀ {n b : Nat}, b < 4 → Qw wt tr (fun _ _ => true) n b = Uw wt tr n b
  | 0, b, hb => by
    simp only [Qw, Nat.pow_zero, sN, pre, Uw, if_true]
    rw [show (4 * 0 + b) % 4 = b by omega, Nat.zero_add]
  | n + 1, b, hb => by
    rw [Qw_succ hb (fun _ => rfl), Qw_true (n := n) (by omega : 0 < 4), Qw_true (n := n) (by omega : 1 < 4), Qw_true (n := n) (by omega : 2 < 4), Qw_true (n := n) (by omega : 3 < 4), Uw]
theorem ring44 (q0 q1 q2 q3 w0 w1 w2 w3 B0 B1 B2 B3 a00 a01 a02 a03 a10 a11 a12 a13 a20 a21 a22 a23 a30 a31 a32 a33 : Nat) :
    (w0 * (a00 * q0 + a10 * q1 + a20 * q2 + a30 * q3)) * B0 + (w1 * (a01 * q0 + a11 * q1 + a21 * q2 + a31 * q3)) * B1 + (w2 * (a02 * q0 + a12 * q1 + a22 * q2 + a32 * q3)) * B2 + (w3 * (a03 * q0 + a13 * q1 + a23 * q2 + a33 * q3)) * B3 =
    q0 * (a00 * (w0 * B0) + a01 * (w1 * B1) + a02 * (w2 * B2) + a03 * (w3 * B3)) + q1 * (a10 * (w0 * B0) + a11 * (w1 * B1) + a12 * (w2 * B2) + a13 * (w3 * B3)) + q2 * (a20 * (w0 * B0) + a21 * (w1 * B1) + a22 * (w2 * B2) + a23 * (w3 * B3)) + q3 * (a30 * (w0 * B0) + a31 * (w1 * B1) + a32 * (w2 * B2) + a33 * (w3 * B3)) := by
  grind
def tdg (d e : Nat) (n w : Nat) : Bool := decide (w / 4 ^ (n - d) % 4 = e)
theorem Qw_inv {wt tr : Nat → Nat → Nat} {d e n : Nat} (hd : d ≤ n) (hn : n < 5) :
    Qw wt tr (tdg d e) (n + 1) 0 * Bw wt tr (5 - (n + 1)) 0 + Qw wt tr (tdg d e) (n + 1) 1 * Bw wt tr (5 - (n + 1)) 1 + Qw wt tr (tdg d e) (n + 1) 2 * Bw wt tr (5 - (n + 1)) 2 + Qw wt tr (tdg d e) (n + 1) 3 * Bw wt tr (5 - (n + 1)) 3 =
    Qw wt tr (tdg d e) n 0 * Bw wt tr (5 - n) 0 + Qw wt tr (tdg d e) n 1 * Bw wt tr (5 - n) 1 + Qw wt tr (tdg d e) n 2 * Bw wt tr (5 - n) 2 + Qw wt tr (tdg d e) n 3 * Bw wt tr (5 - n) 3 := by
  have ht : ∀ b, b < 4 → ∀ v, tdg d e (n + 1) (4 * v + b) = tdg d e n v := by
    intro b hb v
    unfold tdg
    rw [show n + 1 - d = (n - d) + 1 by omega, Nat.pow_succ, Nat.mul_comm (4 ^ (n - d)) 4, ← Nat.div_div_eq_div_mul, show (4 * v + b) / 4 = v by omega]
  rw [Qw_succ (by omega) (ht 0 (by omega)), Qw_succ (by omega) (ht 1 (by omega)), Qw_succ (by omega) (ht 2 (by omega)), Qw_succ (by omega) (ht 3 (by omega)), show 5 - n = (5 - (n + 1)) + 1 by omega]
  simp only [Bw]
  rw [show 5 - (5 - (n + 1)) = n + 1 by omega]
  exact ring44 _ _ _ _ _ _ _ _ _ _ _ _ _ _ _ _ _ _ _ _ _ _ _ _ _ _ _ _
theorem Qw_base {wt tr : Nat → Nat → Nat} {d e b : Nat} (hb : b < 4) : Qw wt tr (tdg d e) d b = if b = e then Uw wt tr d b else 0 := by
  have ht : ∀ v, tdg d e d (4 * v + b) = decide (b = e) := by
    intro v
    unfold tdg
    rw [Nat.sub_self, Nat.pow_zero, Nat.div_one, show (4 * v + b) % 4 = b by omega]
  rw [← Qw_true hb]
  unfold Qw
  by_cases h : b = e
  · rw [if_pos h]
    exact sN_congr (fun i _ => by rw [ht, decide_eq_true h])
  · rw [if_neg h]
    exact sN_zero (fun i _ => by rw [ht, decide_eq_false h]; rfl)
theorem Qw_chain {wt tr : Nat → Nat → Nat} {d e : Nat} (he : e < 4) : ∀ k : Nat, d + k ≤ 5 →
    Qw wt tr (tdg d e) (d + k) 0 * Bw wt tr (5 - (d + k)) 0 + Qw wt tr (tdg d e) (d + k) 1 * Bw wt tr (5 - (d + k)) 1 + Qw wt tr (tdg d e) (d + k) 2 * Bw wt tr (5 - (d + k)) 2 + Qw wt tr (tdg d e) (d + k) 3 * Bw wt tr (5 - (d + k)) 3 = Uw wt tr d e * Bw wt tr (5 - d) e
  | 0, h => by
    rw [Nat.add_zero, Qw_base (by omega), Qw_base (by omega), Qw_base (by omega), Qw_base (by omega)]
    rcases (show e = 0 ∨ e = 1 ∨ e = 2 ∨ e = 3 by omega) with rfl | rfl | rfl | rfl <;> simp
  | k + 1, h => by
    have := Qw_inv (wt := wt) (tr := tr) (d := d) (e := e) (n := d + k) (by omega) (by omega)
    rw [← Nat.add_assoc, this]
    exact Qw_chain he k (by omega)
/-- how much the worlds weigh that have e on day d -/
theorem ways_have {wt tr : Nat → Nat → Nat} {d e : Nat} (hd : d < 6) (he : e < 4) : sN (fun w => if w / 4 ^ (5 - d) % 4 = e then pre wt tr 5 w else 0) 4096 = Uw wt tr d e * Bw wt tr (5 - d) e := by
  have h := Qw_chain (wt := wt) (tr := tr) (d := d) he (5 - d) (by omega)
  rw [show d + (5 - d) = 5 by omega] at h
  rw [← h, show 4096 = 4 * 4 ^ 5 by decide, sN_4]
  simp only [Nat.sub_self, Bw, Nat.mul_one, Qw, ← sN_add]
  apply sN_congr
  intro v _
  simp only [tdg, decide_eq_true_eq, Nat.add_zero]
theorem ways_all {wt tr : Nat → Nat → Nat} : sN (pre wt tr 5) 4096 = Uw wt tr 5 0 + Uw wt tr 5 1 + Uw wt tr 5 2 + Uw wt tr 5 3 := by
  rw [← Qw_true (by omega : 0 < 4), ← Qw_true (by omega : 1 < 4), ← Qw_true (by omega : 2 < 4), ← Qw_true (by omega : 3 < 4), show 4096 = 4 * 4 ^ 5 by decide, sN_4]
  simp only [Qw, ← sN_add, if_true, Nat.add_zero]
