def PP (b : Nat → Nat) (n : Nat) : Nat → Nat
  | 0 => rn b n 32 32 0
  | i + 1 => nx b n (PP b n i)
theorem nx_le {b : Nat → Nat} {n q : Nat} (h : q ≤ n) : nx b n q ≤ n := rn_le (en_le h)
theorem PP_le (b : Nat → Nat) (n : Nat) : ∀ i, PP b n i ≤ n
  | 0 => rn_le (by omega)
  | i + 1 => nx_le (PP_le b n i)
theorem PP_ge (b : Nat → Nat) (n : Nat) : ∀ i, PP b n i = n ∨ (PP b n i < n ∧ i ≤ PP b n i)
  | 0 => by
    have := PP_le b n 0
    omega
  | i + 1 => by
    have h1 := PP_le b n (i + 1)
    have e : PP b n (i + 1) = rn b n 32 32 (en b n (PP b n i)) := rfl
    have h2 := rn_ge (b := b) (n := n) (lo := 32) (hi := 32) (q := en b n (PP b n i))
    rcases PP_ge b n i with q | ⟨q1, q2⟩
    · rw [q, en_n (by omega)] at e h2
      omega
    · have h3 := en_b (b := b) q1
      omega
theorem PP_m (b : Nat → Nat) (n : Nat) : ∃ m, m ≤ n ∧ PP b n m = n ∧ ∀ i, i < m → PP b n i < n := by
  have hle := fF_le (fun i => decide (PP b n i = n)) n 0
  refine ⟨fF (fun i => decide (PP b n i = n)) n 0, by omega, ?_, fun i hi => ?_⟩
  · by_cases c : fF (fun i => decide (PP b n i = n)) n 0 < 0 + n
    · have := fF_hit c
      simpa using this
    · have e : fF (fun i => decide (PP b n i = n)) n 0 = n := by omega
      rw [e]
      have := PP_ge b n n
      omega
  · have h1 := fF_not (p := fun i => decide (PP b n i = n)) (Nat.zero_le i) hi
    have h2 : ¬ PP b n i = n := by simpa using h1
    have := PP_le b n i
    omega
theorem Cn_n {b : Nat → Nat} {n q : Nat} (h : ¬ q < n) : Cn b n q = 0 := if_neg h
theorem Vc_n {b : Nat → Nat} {n q : Nat} (h : ¬ q < n) : Vc b n q = 0 := if_neg h
theorem x_split {n m : Nat} {T0 : Int32} {bb mb tok st va : Nat → Int32} {b : Nat → Nat} (h : TXB n bb mb b) (hm : m ≤ n) (hP : PP b n m = n) (hl : ∀ i, i < m → PP b n i < n) : f_X2_split (nI n) T0 bb tok st va = some (nI (m + 1), fillI (fun i => nI (Cn b n (PP b n i))) tok (m + 1), fillI (fun i => nI (PP b n i)) st (m + 1), fillI (fun i => nI (Vc b n (PP b n i))) va (m + 1)) := by
  have h150 := h.1
  have main : lq6 (f_X2_split_B17 (nI n) bb) FU (nI (PP b n 0)) (nI 0) (nI 0) (fillI (fun i => nI (Cn b n (PP b n i))) tok 0) (fillI (fun i => nI (PP b n i)) st 0) (fillI (fun i => nI (Vc b n (PP b n i))) va 0) = some (nI (m + 1), fillI (fun i => nI (Cn b n (PP b n i))) tok (m + 1), fillI (fun i => nI (PP b n i)) st (m + 1), fillI (fun i => nI (Vc b n (PP b n i))) va (m + 1)) := by
    refine lq6_run (fun i => nI (PP b n i)) (fun i => nI i) (fun i => nI i) (fun i => fillI (fun i => nI (Cn b n (PP b n i))) tok i) (fun i => fillI (fun i => nI (PP b n i)) st i) (fun i => fillI (fun i => nI (Vc b n (PP b n i))) va i) m (fun k i hi => ?_) (fun k => ?_) (by have := fu; omega)
    · have hq := hl i hi
      have s1 := fillI_s (fun i => nI (Cn b n (PP b n i))) tok i
      have s2 := fillI_s (fun i => nI (PP b n i)) st i
      have s3 := fillI_s (fun i => nI (Vc b n (PP b n i))) va i
      unfold f_X2_split_B17
      rw [if_neg (show ¬ (150 : Int32) ≤ nI i from show ¬ nI 150 ≤ nI i by rw [n_le (by omega) (by omega)]; omega), if_neg (by rw [n_le (by omega) (by omega)]; omega), x_add h hq (by omega), bd5_n, s1, s2, s3, show f_X2_behindRun (nI (en b n (PP b n i))) (32 : Int32) (32 : Int32) (nI n) bb = some (nI (PP b n (i + 1))) from x_run (lo := 32) (hi := 32) h (en_b hq).2 (by omega) (by omega), bd1_n, show nI i + 1 = nI (i + 1) from n_add i 1]
    · have s1 := fillI_s (fun i => nI (Cn b n (PP b n i))) tok m
      have s2 := fillI_s (fun i => nI (PP b n i)) st m
      have s3 := fillI_s (fun i => nI (Vc b n (PP b n i))) va m
      have hJ : f_X2_split_J52 (nI n) (nI m) (fillI (fun i => nI (Cn b n (PP b n i))) tok m) (fillI (fun i => nI (PP b n i)) st m) (fillI (fun i => nI (Vc b n (PP b n i))) va m) = some (nI (m + 1), fillI (fun i => nI (Cn b n (PP b n i))) tok (m + 1), fillI (fun i => nI (PP b n i)) st (m + 1), fillI (fun i => nI (Vc b n (PP b n i))) va (m + 1)) := by
        unfold f_X2_split_J52
        rw [x_put (by omega), bd4_n, ← s1, ← s2, ← s3]
        show _ = some (nI (m + 1), upd _ m (nI (Cn b n (PP b n m))), upd _ m (nI (PP b n m)), upd _ m (nI (Vc b n (PP b n m))))
        rw [hP, Cn_n (by omega), Vc_n (by omega)]
        rfl
      unfold f_X2_split_B17
      rw [hJ, hP]
      by_cases c : 150 ≤ m
      · rw [if_pos (show (150 : Int32) ≤ nI m from show nI 150 ≤ nI m by rw [n_le (by omega) (by omega)]; omega)]
      · rw [if_neg (show ¬ (150 : Int32) ≤ nI m from show ¬ nI 150 ≤ nI m by rw [n_le (by omega) (by omega)]; omega), if_pos (by rw [n_le (by omega) (by omega)]; omega)]
  rw [fillI_0, fillI_0, fillI_0] at main
  unfold f_X2_split
  rw [show f_X2_behindRun (0 : Int32) (32 : Int32) (32 : Int32) (nI n) bb = some (nI (PP b n 0)) from x_run (q := 0) (lo := 32) (hi := 32) h (by omega) (by omega) (by omega), bd1_n]
  exact main
theorem tok_rel {b : Nat → Nat} {n q : Nat} : (Cn b n q = 3 ↔ Kn b n q = 2) ∧ (Cn b n q = 2 ↔ Kn b n q = 3) ∧ (Cn b n q = 0 ↔ Kn b n q = 0) ∧ (Cn b n q = 3 → Vn b n q = Vc b n q) ∧ Cn b n q < 9 ∧ Kn b n q < 5 := by
  unfold Cn Kn Vn Vc
  by_cases c : q < n
  · simp only [if_pos c]
    cases h1 : inR b 97 122 q with
    | true =>
      simp only [if_true]
      have := wcB_v (wd b q (en b n q) 0) (wd b q (en b n q) 1) (wd b q (en b n q) 2) (wd b q (en b n q) 3) (wd b q (en b n q) 4)
      have e : wc b q (en b n q) = wcB (wd b q (en b n q) 0) (wd b q (en b n q) 1) (wd b q (en b n q) 2) (wd b q (en b n q) 3) (wd b q (en b n q) 4) := rfl
      rw [← e] at this
      omega
    | false =>
      simp only [reduceIte, Bool.false_eq_true]
      cases h2 : inR b 48 57 q with
      | true =>
        simp only [if_true]
        by_cases c2 : en b n q - q ≤ 2
        · simp only [if_pos c2]; simp
        · simp only [if_neg c2]; simp
      | false =>
        simp only [reduceIte, Bool.false_eq_true]
        by_cases c3 : b q = 59
        · simp only [if_pos c3]; simp
        · simp only [if_neg c3]; simp
  · simp only [if_neg c]; simp
theorem Vc_lt {b : Nat → Nat} {n q : Nat} : Vc b n q < 100 := by
  unfold Vc
  by_cases c : q < n
  · rw [if_pos c]
    cases h1 : inR b 97 122 q with
    | true => rw [if_pos rfl]; omega
    | false =>
      rw [if_neg Bool.false_ne_true]
      cases h2 : inR b 48 57 q with
      | false => rw [if_neg Bool.false_ne_true]; omega
      | true =>
        rw [if_pos rfl]
        by_cases c2 : en b n q - q ≤ 2
        · rw [if_pos c2]
          have g := inR_t.mp h2
          have hen := en_b (b := b) c
          unfold nv
          by_cases c3 : en b n q - q = 1
          · rw [if_pos c3]; omega
          · rw [if_neg c3]
            have g2 := inR_t.mp (rn_in (b := b) (n := n) (lo := 48) (hi := 57) (q := q) (j := q + 1) (by omega) (by rw [← en_f c h1 h2]; omega))
            omega
        · rw [if_neg c2]; omega
  · rw [if_neg c]; omega
/-- tokens, as both sides see them -/
def TKS (n : Nat) (mb tok st va : Nat → Int32) (m : Nat) (P C v : Nat → Nat) (L K V : Nat → Int32) : Prop :=
  (m ≤ 150 ∧ C m = 0) ∧ (∀ i, i ≤ m → tok i = nI (C i) ∧ st i = nI (P i) ∧ va i = nI (v i) ∧ P i ≤ 150 ∧ C i < 9 ∧ v i < 100) ∧ (∀ i, i < m → f_X5_goBehind (nI n) (nI (P i)) (L i) (K i) (V i) mb = some (nI (P (i + 1)), L (i + 1), K (i + 1), V (i + 1))) ∧
  (∀ i, i ≤ m → (C i = 3 ↔ K i = (2 : Int32)) ∧ (C i = 2 ↔ K i = (3 : Int32)) ∧ (C i = 0 ↔ K i = (0 : Int32)) ∧ (C i = 3 → V i = nI (v i))) ∧
  (∀ i, i ≤ m → f_X5_spells (6 : Int32) (111 : Int32) (102 : Int32) (102 : Int32) (105 : Int32) (99 : Int32) (101 : Int32) (nI (P i)) (L i) (K i) mb = some (nI (if C i = 4 then 1 else 0)) ∧
    f_X5_spells (5 : Int32) (110 : Int32) (101 : Int32) (118 : Int32) (101 : Int32) (114 : Int32) (0 : Int32) (nI (P i)) (L i) (K i) mb = some (nI (if C i = 5 then 1 else 0)) ∧
    f_X5_spells (5 : Int32) (107 : Int32) (110 : Int32) (111 : Int32) (119 : Int32) (110 : Int32) (0 : Int32) (nI (P i)) (L i) (K i) mb = some (nI (if C i = 6 then 1 else 0)) ∧
    f_X5_spells (3 : Int32) (111 : Int32) (110 : Int32) (101 : Int32) (0 : Int32) (0 : Int32) (0 : Int32) (nI (P i)) (L i) (K i) mb = some (nI (if C i = 7 then 1 else 0)) ∧
    f_X5_spells (4 : Int32) (109 : Int32) (97 : Int32) (114 : Int32) (107 : Int32) (0 : Int32) (0 : Int32) (nI (P i)) (L i) (K i) mb = some (nI (if C i = 8 then 1 else 0)))
theorem text_ok {n : Nat} {T0 t0 t1 t2 t3 : Int32} {bb mb tok st va : Nat → Int32} {b : Nat → Nat} (h : TXB n bb mb b) : ∃ (m : Nat) (tok' st' va' : Nat → Int32) (P C v : Nat → Nat) (L K V : Nat → Int32), f_X2_split (nI n) T0 bb tok st va = some (nI (m + 1), tok', st', va') ∧ f_X5_lookAt (0 : Int32) (nI n) t0 t1 t2 t3 mb = some (nI (P 0), L 0, K 0, V 0) ∧ TKS n mb tok' st' va' m P C v L K V := by
  have h150 := h.1
  obtain ⟨m, h1, h2, h3⟩ := PP_m b n
  refine ⟨m, _, _, _, PP b n, fun i => Cn b n (PP b n i), fun i => Vc b n (PP b n i), fun i => nI (en b n (PP b n i) - PP b n i), fun i => nI (Kn b n (PP b n i)), fun i => nI (Vn b n (PP b n i)), x_split h h1 h2 h3, m_look (p := 0) h (by omega), ⟨by omega, ?_⟩, fun i hi => ?_, fun i hi => ?_, fun i hi => ?_, fun i hi => ?_⟩
  · show Cn b n (PP b n m) = 0
    rw [h2]; exact Cn_n (by omega)
  · have := PP_le b n i
    exact ⟨fillI_in (by omega), fillI_in (by omega), fillI_in (by omega), by omega, (tok_rel (b := b) (n := n) (q := PP b n i)).2.2.2.2.1, Vc_lt⟩
  · exact m_behind h (PP_le b n i)
  · obtain ⟨r1, r2, r3, r4, r5, r6⟩ := tok_rel (b := b) (n := n) (q := PP b n i)
    refine ⟨r1.trans (n_eq (b := 2) (by omega) (by omega)).symm, r2.trans (n_eq (b := 3) (by omega) (by omega)).symm, r3.trans (n_eq (b := 0) (by omega) (by omega)).symm, fun z => ?_⟩
    show nI (Vn b n (PP b n i)) = nI (Vc b n (PP b n i))
    rw [r4 z]
  · have hp := PP_le b n i
    exact ⟨m_spells (w := 0) (c0 := 111) (c1 := 102) (c2 := 102) (c3 := 105) (c4 := 99) (c5 := 101) h hp (by omega) (by decide +kernel), m_spells (w := 1) (c0 := 110) (c1 := 101) (c2 := 118) (c3 := 101) (c4 := 114) (c5 := 0) h hp (by omega) (by decide +kernel), m_spells (w := 2) (c0 := 107) (c1 := 110) (c2 := 111) (c3 := 119) (c4 := 110) (c5 := 0) h hp (by omega) (by decide +kernel), m_spells (w := 3) (c0 := 111) (c1 := 110) (c2 := 101) (c3 := 0) (c4 := 0) (c5 := 0) h hp (by omega) (by decide +kernel), m_spells (w := 4) (c0 := 109) (c1 := 97) (c2 := 114) (c3 := 107) (c4 := 0) (c5 := 0) h hp (by omega) (by decide +kernel)⟩
