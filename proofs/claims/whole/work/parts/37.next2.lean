def okc (n : Nat) : Bool := decide (1 ≤ n % 16) && decide (n % 16 ≤ 14)
def zC (F : Nat → Bool) (k t : Int32) (n : Nat) : Nat := zN F k t (n / 16) (n % 16)
def bS (Z : Nat → Nat) (b0 : Nat) : Nat → Nat × Int32
  | 0 => (b0, ngI 1)
  | n + 1 => if okc n = true ∧ Z n < (bS Z b0 n).1 then (Z n, nI n) else bS Z b0 n
theorem bS_s (Z : Nat → Nat) (b0 n : Nat) : bS Z b0 (n + 1) = if okc n = true ∧ Z n < (bS Z b0 n).1 then (Z n, nI n) else bS Z b0 n := rfl
theorem bS_le (Z : Nat → Nat) (b0 : Nat) : ∀ n, (bS Z b0 n).1 ≤ b0
  | 0 => Nat.le_refl _
  | n + 1 => by
    have := bS_le Z b0 n
    rw [bS_s]
    split
    · rename_i h; show Z n ≤ b0; omega
    · exact this
theorem bS_two {Z : Nat → Nat} {b0 b1 : Nat} (h0 : Z 1 < b0) (h1 : Z 1 < b1) : ∀ n, 2 ≤ n → bS Z b0 n = bS Z b1 n
  | 0, h => by omega
  | 1, h => by omega
  | 2, _ => by
    have e : ∀ b, Z 1 < b → bS Z b 2 = (Z 1, nI 1) := fun b hb => by
      have b1' : bS Z b 1 = (b, ngI 1) := by rw [bS_s, if_neg (by rintro ⟨h, -⟩; exact absurd h (by decide))]; rfl
      rw [bS_s Z b 1, b1', if_pos ⟨by decide, hb⟩]
    rw [e _ h0, e _ h1]
  | n + 3, _ => by
    rw [bS_s Z b0 (n + 2), bS_s Z b1 (n + 2), bS_two h0 h1 (n + 2) (by omega)]
theorem sV_le {F : Nat → Bool} {k t : Int32} {d ev v : Nat} : sV F k t d ev v ≤ cF F 4096 := by
  have hs := sum_hF F d 4096
  unfold sV
  simp only [sN]
  have h : ∀ (c : Prop) [Decidable c] (x : Nat), (if c then x else 0) ≤ x := fun c _ x => by split <;> omega
  have h0 := h (f_X4_given k (f_X4_truth (nI ev) (nI 0)) (nI d) (nI ev) t = nI v) (hF F 4096 d 0)
  have h1 := h (f_X4_given k (f_X4_truth (nI ev) (nI 1)) (nI d) (nI ev) t = nI v) (hF F 4096 d 1)
  have h2 := h (f_X4_given k (f_X4_truth (nI ev) (nI 2)) (nI d) (nI ev) t = nI v) (hF F 4096 d 2)
  have h3 := h (f_X4_given k (f_X4_truth (nI ev) (nI 3)) (nI d) (nI ev) t = nI v) (hF F 4096 d 3)
  omega
theorem zN_le {F : Nat → Bool} {k t : Int32} {d ev : Nat} : zN F k t d ev ≤ cF F 4096 := by
  have h0 := sV_le (F := F) (k := k) (t := t) (d := d) (ev := ev) (v := 0)
  have h1 := sV_le (F := F) (k := k) (t := t) (d := d) (ev := ev) (v := 1)
  have h2 := sV_le (F := F) (k := k) (t := t) (d := d) (ev := ev) (v := 2)
  unfold zN mx3; omega
def mxN (S : Nat → Nat) (a : Nat) : Nat → Nat
  | 0 => a
  | j + 1 => max (mxN S a j) (S j)
theorem m_next_in {F : Nat → Bool} {f g kd' ref kd : Nat → Int32} {i c a : Nat} {t y2 y3 mf : Int32} {k27 : _} (hi : i < 4) (hc : c < 96) (hk : f (14 + i) = kd i) (ht : f (10 + i) = t) (ha : a ≤ 1000000) : lq9 (f_X5_next_B63 (nI i) f k27) FU y2 y3 (nI c) (nI a) (nI 0) mf ref kd' (hRow F g 4096) = if y3 ≤ nI (mxN (sV F (kd i) t (c / 16) (c % 16)) a 3) then k27 y2 y3 (nI (c + 1)) mf ref kd' (hRow F g 4096) else k27 (nI c) (nI (mxN (sV F (kd i) t (c / 16) (c % 16)) a 3)) (nI (c + 1)) mf ref kd' (hRow F g 4096) := by
  have hS : ∀ v, sV F (kd i) t (c / 16) (c % 16) v ≤ 4096 := fun v => Nat.le_trans sV_le (cF_le F 4096)
  have hm : ∀ j, j ≤ 3 → mxN (sV F (kd i) t (c / 16) (c % 16)) a j ≤ 1000000 := by
    intro j
    induction j with
    | zero => intro _; exact ha
    | succ j ih =>
      intro h
      have h1 := ih (by omega)
      have h2 := hS j
      show max _ _ ≤ _
      omega
  refine lq9_run (fun _ => y2) (fun _ => y3) (fun _ => nI c) (fun j => nI (mxN (sV F (kd i) t (c / 16) (c % 16)) a j)) (fun j => nI j) (fun _ => mf) (fun _ => ref) (fun _ => kd') (fun _ => hRow F g 4096) 3 (fun k j hj => ?_) (fun k => ?_) (by have := fu; omega)
  · have h1 := hm j (by omega)
    have h2 := hS j
    have hG := m_givesIn2 (F := F) (f := f) (h0 := g) (kd := kd) (i := i) (d := c / 16) (ev := c % 16) (t := t) (v := nI j) hi (by omega) (by omega) hk
    simp (disch := omega) only [f_X5_next_B63, ↓n_neg1, ↓n_neg2, ↓n_neg3, ↓n_neg4, ↓n_neg5, ↓n_neg10, n_lit, n_le, n_lt, n_eq, n_cl, n_add, n_mul, n_sub, ckI_n, n_shl1, n_shr, n_and, n_or, bd1_n, n_ng, ng_n, ng_ng, n_div, ht, show c - c / 16 * 16 = c % 16 by omega, hG]
    rw [if_neg (by omega)]
    show (if nI (sV F (kd i) t (c / 16) (c % 16) j) ≤ nI (mxN (sV F (kd i) t (c / 16) (c % 16)) a j) then _ else _) = _
    have e : mxN (sV F (kd i) t (c / 16) (c % 16)) a (j + 1) = max (mxN (sV F (kd i) t (c / 16) (c % 16)) a j) (sV F (kd i) t (c / 16) (c % 16) j) := rfl
    by_cases q : sV F (kd i) t (c / 16) (c % 16) j ≤ mxN (sV F (kd i) t (c / 16) (c % 16)) a j
    · rw [if_pos (by rw [n_le (by omega) (by omega)]; exact q), e, Nat.max_eq_left q]
    · rw [if_neg (by rw [n_le (by omega) (by omega)]; exact q), e, Nat.max_eq_right (by omega)]
      rfl
  · unfold f_X5_next_B63 f_X5_next_J131
    rw [if_pos (by decide), show nI c + 1 = nI (c + 1) from n_add c 1]
    by_cases q : y3 ≤ nI (mxN (sV F (kd i) t (c / 16) (c % 16)) a 3)
    · rw [if_pos q, if_pos q, if_pos q]
    · rw [if_neg q, if_neg q, if_neg q]
