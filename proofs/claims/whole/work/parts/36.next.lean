theorem given3 {k tv d ev t : Int32} (htv : tv = 0 ∨ tv = 1) : ∃ g, g < 3 ∧ f_X4_given k tv d ev t = nI g := by
  have c0 : ∃ g, g < 3 ∧ tv = nI g := by
    rcases htv with rfl | rfl
    · exact ⟨0, by omega, rfl⟩
    · exact ⟨1, by omega, rfl⟩
  have c1 : ∃ g, g < 3 ∧ f_X4_coyGiven tv = nI g := by
    rcases htv with rfl | rfl
    · exact ⟨1, by omega, rfl⟩
    · exact ⟨0, by omega, rfl⟩
  have c2 : ∃ g, g < 3 ∧ f_X4_oldGiven tv d = nI g := by
    unfold f_X4_oldGiven
    split
    · exact ⟨2, by omega, rfl⟩
    · exact c0
  have k1 : ∃ g, g < 3 ∧ (1 : Int32) = nI g := ⟨1, by omega, rfl⟩
  have k2 : ∃ g, g < 3 ∧ (2 : Int32) = nI g := ⟨2, by omega, rfl⟩
  unfold f_X4_given
  repeat' split
  all_goals assumption
theorem m_givesIn2 {F : Nat → Bool} {f h0 kd : Nat → Int32} {i d ev : Nat} {t : Int32} {v : Int32} (hi : i < 4) (hd : d < 6) (he : ev < 16) (hk : f (14 + i) = kd i) : f_X5_givesIn (nI i) (nI d) (nI ev) t v f (hRow F h0 4096) = some (nI (sN (fun e => if f_X4_given (kd i) (f_X4_truth (nI ev) (nI e)) (nI d) (nI ev) t = v then hF F 4096 d e else 0) 4)) := by
  refine lq2_run (fun k => nI (sN (fun e => if f_X4_given (kd i) (f_X4_truth (nI ev) (nI e)) (nI d) (nI ev) t = v then hF F 4096 d e else 0) k)) (fun k => nI k) 4 (fun k e hh => ?_) (fun k => ?_) (by have := fu; omega)
  · simp (disch := omega) only [f_X5_givesIn_B6, ↓n_neg1, ↓n_neg2, ↓n_neg3, ↓n_neg4, ↓n_neg5, ↓n_neg10, n_lit, n_le, n_lt, n_eq, n_cl, n_add, n_mul, n_sub, ckI_n, n_shl1, n_shr, n_and, n_or, bd1_n, n_ng, ng_n, ng_ng, m_bits, hk]
    rw [if_neg (by omega), markAs_eq (ev := nI ev) (tv := f_X5_has (nI ev) (nI e)) (tr_01 (nI ev) (nI e)) (m_bitCount8 ev (by omega))]
    rw [show f_X5_has (nI ev) (nI e) = f_X4_truth (nI ev) (nI e) from rfl]
    by_cases c : f_X4_given (kd i) (f_X4_truth (nI ev) (nI e)) (nI d) (nI ev) t = v
    · rw [if_pos c, hRow_at hd hh, n_add, sN, if_pos c]
    · rw [if_neg c, sN, if_neg c]
  · simp (disch := omega) only [f_X5_givesIn_B6, ↓n_neg1, ↓n_neg2, ↓n_neg3, ↓n_neg4, ↓n_neg5, ↓n_neg10, n_lit, n_le, n_lt, n_eq, n_cl, n_add, n_mul, n_sub, ckI_n, n_shl1, n_shr, n_and, n_or, bd1_n, n_ng, ng_n, ng_ng]
    rw [if_pos (by omega)]
def sV (F : Nat → Bool) (k t : Int32) (d ev v : Nat) : Nat := sN (fun e => if f_X4_given k (f_X4_truth (nI ev) (nI e)) (nI d) (nI ev) t = nI v then hF F 4096 d e else 0) 4
def yesN (F : Nat → Bool) (d ev : Nat) : Nat := sN (fun e => if f_X4_truth (nI ev) (nI e) = 1 then hF F 4096 d e else 0) 4
theorem yes_le (F : Nat → Bool) (d ev : Nat) : yesN F d ev ≤ cF F 4096 := by
  have := sum_hF F d 4096
  unfold yesN
  simp only [sN]
  have h : ∀ (c : Prop) [Decidable c] (x : Nat), (if c then x else 0) ≤ x := fun c _ x => by split <;> omega
  have h0 := h (f_X4_truth (nI ev) (nI 0) = 1) (hF F 4096 d 0)
  have h1 := h (f_X4_truth (nI ev) (nI 1) = 1) (hF F 4096 d 1)
  have h2 := h (f_X4_truth (nI ev) (nI 2) = 1) (hF F 4096 d 2)
  have h3 := h (f_X4_truth (nI ev) (nI 3) = 1) (hF F 4096 d 3)
  omega
theorem sV_eq {F : Nat → Bool} {k t : Int32} {d ev v g1 g0 : Nat} (hv : v < 3) (h1 : g1 < 3) (h0 : g0 < 3) (e1 : f_X4_given k 1 (nI d) (nI ev) t = nI g1) (e0 : f_X4_given k 0 (nI d) (nI ev) t = nI g0) : sV F k t d ev v = (if g1 = v then yesN F d ev else 0) + (if g0 = v then cF F 4096 - yesN F d ev else 0) := by
  have hs := sum_hF F d 4096
  have hy := yes_le F d ev
  have tm : ∀ e : Nat, (if f_X4_given k (f_X4_truth (nI ev) (nI e)) (nI d) (nI ev) t = nI v then hF F 4096 d e else 0) = (if g1 = v then (if f_X4_truth (nI ev) (nI e) = 1 then hF F 4096 d e else 0) else 0) + (if g0 = v then hF F 4096 d e - (if f_X4_truth (nI ev) (nI e) = 1 then hF F 4096 d e else 0) else 0) := by
    intro e
    rcases tr_01 (nI ev) (nI e) with q | q
    · rw [q, e0, if_neg (show ¬ (0 : Int32) = 1 by decide)]
      by_cases c : g0 = v
      · rw [if_pos (by rw [c]), if_pos c]; split <;> omega
      · rw [if_neg (by rw [n_eq (by omega) (by omega)]; exact c), if_neg c]; split <;> rfl
    · rw [q, e1, if_pos rfl]
      by_cases c : g1 = v
      · rw [if_pos (by rw [c]), if_pos c]; split <;> omega
      · rw [if_neg (by rw [n_eq (by omega) (by omega)]; exact c), if_neg c]; split <;> omega
  unfold sV
  rw [sN_congr (fun e _ => tm e)]
  have hl : ∀ e, (if f_X4_truth (nI ev) (nI e) = 1 then hF F 4096 d e else 0) ≤ hF F 4096 d e := fun e => by split <;> omega
  unfold yesN at hy ⊢
  have l0 := hl 0
  have l1 := hl 1
  have l2 := hl 2
  have l3 := hl 3
  simp only [sN] at hy ⊢
  generalize (if f_X4_truth (nI ev) (nI 0) = 1 then hF F 4096 d 0 else 0) = y0 at *
  generalize (if f_X4_truth (nI ev) (nI 1) = 1 then hF F 4096 d 1 else 0) = y1 at *
  generalize (if f_X4_truth (nI ev) (nI 2) = 1 then hF F 4096 d 2 else 0) = y2 at *
  generalize (if f_X4_truth (nI ev) (nI 3) = 1 then hF F 4096 d 3 else 0) = y3 at *
  by_cases c : g1 = v
  · simp only [if_pos c]
    by_cases c2 : g0 = v
    · simp only [if_pos c2]; omega
    · simp only [if_neg c2]; omega
  · simp only [if_neg c]
    by_cases c2 : g0 = v
    · simp only [if_pos c2]; omega
    · simp only [if_neg c2]
def mx3 (a s0 s1 s2 : Nat) : Nat := max (max (max a s0) s1) s2
def zN (F : Nat → Bool) (k t : Int32) (d ev : Nat) : Nat := mx3 0 (sV F k t d ev 0) (sV F k t d ev 1) (sV F k t d ev 2)
theorem x_alike {F : Nat → Bool} {u b : Nat → Int64} {kd tr : Nat → Int32} {i d ev : Nat} (s3 : ∀ d e, d < 6 → e < 4 → f_X3_having (nI d) (nI e) u b = some (lN (hF F 4096 d e))) (hi : i < 4) (hd : d < 6) (he : ev < 16) : f_X4_mostAlike (nI i) (nI d) (nI ev) (lN (cF F 4096)) kd tr u b = some (lN (zN F (kd i) (tr i) d ev)) := by
  obtain ⟨g1, h1, e1⟩ := given3 (k := kd i) (d := nI d) (ev := nI ev) (t := tr i) (Or.inr rfl : (1 : Int32) = 0 ∨ (1 : Int32) = 1)
  obtain ⟨g0, h0, e0⟩ := given3 (k := kd i) (d := nI d) (ev := nI ev) (t := tr i) (Or.inl rfl : (0 : Int32) = 0 ∨ (0 : Int32) = 1)
  have hy := yes_le F d ev
  have hc := cF_le F 4096
  unfold f_X4_mostAlike
  rw [ckI_n (by omega) (by omega), n_cl (by omega), f_X4_tellsTruth, e1, e0]
  unfold zN mx3
  rw [sV_eq (by omega) h1 h0 e1 e0, sV_eq (by omega) h1 h0 e1 e0, sV_eq (by omega) h1 h0 e1 e0]
  by_cases c : g1 = g0
  · rw [if_pos (show nI g1 = nI g0 by rw [c]), if_pos rfl]
    congr 2
    subst c
    rcases (show g1 = 0 ∨ g1 = 1 ∨ g1 = 2 by omega) with rfl | rfl | rfl <;> simp <;> omega
  · rw [if_neg (show ¬ nI g1 = nI g0 by rw [n_eq (by omega) (by omega)]; exact c), if_neg (show ¬ (1 : Int32) = 0 by decide)]
    have e : max (max (max 0 ((if g1 = 0 then yesN F d ev else 0) + if g0 = 0 then cF F 4096 - yesN F d ev else 0)) ((if g1 = 1 then yesN F d ev else 0) + if g0 = 1 then cF F 4096 - yesN F d ev else 0)) ((if g1 = 2 then yesN F d ev else 0) + if g0 = 2 then cF F 4096 - yesN F d ev else 0) = if cF F 4096 - yesN F d ev < yesN F d ev then yesN F d ev else cF F 4096 - yesN F d ev := by
      rcases (show g1 = 0 ∨ g1 = 1 ∨ g1 = 2 by omega) with rfl | rfl | rfl <;> rcases (show g0 = 0 ∨ g0 = 1 ∨ g0 = 2 by omega) with rfl | rfl | rfl <;> first | exact absurd rfl c | (simp <;> split <;> omega)
    rw [e]
    refine lq2_run (fun j => lN (sN (fun e => if f_X4_truth (nI ev) (nI e) = 1 then hF F 4096 d e else 0) j)) (fun j => nI j) 4 (fun k j hj => ?_) (fun k => ?_) (by have := fu; omega)
    · unfold f_X4_mostAlike_B35
      rw [if_neg (show ¬ (4 : Int32) ≤ nI j from show ¬ nI 4 ≤ nI j by rw [n_le (by omega) (by omega)]; omega), show nI j + 1 = nI (j + 1) from n_add j 1]
      by_cases q : f_X4_truth (nI ev) (nI j) = 1
      · rw [if_pos q, s3 d j hd hj, bd1_n, lN_add, sN, if_pos q]
      · rw [if_neg q, sN, if_neg q]; rfl
    · unfold f_X4_mostAlike_B35
      rw [if_pos (by decide)]
      show some (if lN (cF F 4096) - lN (yesN F d ev) < lN (yesN F d ev) then lN (yesN F d ev) else lN (cF F 4096) - lN (yesN F d ev)) = _
      rw [lN_sub hy]
      by_cases q : cF F 4096 - yesN F d ev < yesN F d ev
      · rw [if_pos (by rw [l_lt (by omega) (by omega)]; exact q), if_pos q]
      · rw [if_neg (by rw [l_lt (by omega) (by omega)]; exact q), if_neg q]
