/-- how many marks a world misses -/
theorem pc_ct : ∀ a b c d e f g h : Bool, pc 31 ((if a then 1 else 0) + (if b then 2 else 0) + (if c then 4 else 0) + (if d then 8 else 0) + (if e then 16 else 0) + (if f then 32 else 0) + (if g then 64 else 0) + (if h then 128 else 0)) = (if a then 1 else 0) + (if b then 1 else 0) + (if c then 1 else 0) + (if d then 1 else 0) + (if e then 1 else 0) + (if f then 1 else 0) + (if g then 1 else 0) + (if h then 1 else 0) := by decide +kernel
def jvN (c nm k : Nat) : Nat := c ^ k * 10 ^ (nm - k)
theorem jv_step {c nm k : Nat} (h : k < nm) : jvN c nm k / 10 * c = jvN c nm (k + 1) := by
  unfold jvN
  rw [show nm - k = (nm - (k + 1)) + 1 by omega, Nat.pow_succ, ← Nat.mul_assoc, Nat.mul_div_cancel _ (by omega), Nat.pow_succ, Nat.mul_assoc, Nat.mul_comm _ c, ← Nat.mul_assoc]
theorem jv_le {c nm k : Nat} (hc : c ≤ 10) (hk : k ≤ nm) : jvN c nm k ≤ 10 ^ nm := by
  unfold jvN
  have h1 : c ^ k ≤ 10 ^ k := Nat.pow_le_pow_left hc k
  calc c ^ k * 10 ^ (nm - k) ≤ 10 ^ k * 10 ^ (nm - k) := Nat.mul_le_mul_right _ h1
    _ = 10 ^ nm := by rw [← Nat.pow_add]; congr 1; omega
theorem m_jour_in {c nm p : Nat} {y2 : Int64} {y6 : Int32} {a b : Int64} {ref kk : Nat → Int32} {k57 : _} (hc : c ≤ 10) (hm : nm ≤ 8) (hp : p ≤ nm) : lq9 (f_X5_journeys_B89 (nI c) k57) FU y2 (lN (10 ^ nm)) y6 (lN (10 ^ nm)) (nI p) a b ref kk = k57 (y2 + lN (jvN c nm p)) (lN (10 ^ nm)) (y6 + 1) a b ref kk := by
  have h10 : 10 ^ nm ≤ 10 ^ 8 := Nat.pow_le_pow_right (by omega) hm
  have e0 : jvN c nm 0 = 10 ^ nm := by unfold jvN; rw [Nat.pow_zero, Nat.one_mul, Nat.sub_zero]
  have main : lq9 (f_X5_journeys_B89 (nI c) k57) FU y2 (lN (10 ^ nm)) y6 (lN (jvN c nm 0)) (nI (p - 0)) a b ref kk = k57 (y2 + lN (jvN c nm p)) (lN (10 ^ nm)) (y6 + 1) a b ref kk := by
    refine lq9_run (fun _ => y2) (fun _ => lN (10 ^ nm)) (fun _ => y6) (fun j => lN (jvN c nm j)) (fun j => nI (p - j)) (fun _ => a) (fun _ => b) (fun _ => ref) (fun _ => kk) p (fun k j hj => ?_) (fun k => ?_) (by have := fu; omega)
    · have hl := jv_le (c := c) (nm := nm) (k := j) hc (by omega)
      have e1 : nI (p - j) + (-1 : Int32) = nI (p - (j + 1)) := by
        show nI (p - j) + (-1 : Int32) = _
        rw [show nI (p - j) + (-1 : Int32) = nI (p - j) - nI 1 from by rw [Int32.sub_eq_add_neg]; rfl, n_sub (by omega)]; congr 1
      have e2 : lN (jvN c nm j) / (10 : Int64) * Int32.toInt64 (nI c) = lN (jvN c nm (j + 1)) := by
        show lN (jvN c nm j) / lN 10 * Int32.toInt64 (nI c) = _
        rw [nI_l (by omega), pk_lDiv (by omega) (by omega) (by omega), lN_mul, jv_step (by omega)]
      unfold f_X5_journeys_B89
      rw [if_neg (show ¬ nI (p - j) ≤ 0 from show ¬ nI (p - j) ≤ nI 0 by rw [n_le (by omega) (by omega)]; omega), e1, e2]
    · unfold f_X5_journeys_B89
      rw [if_pos (show nI (p - p) ≤ 0 by rw [Nat.sub_self]; decide)]
  rw [e0, Nat.sub_zero] at main
  exact main
