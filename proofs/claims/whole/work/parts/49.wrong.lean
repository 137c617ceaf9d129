/-! wrong: the least sum along the days -/
def UU : Nat := 1048576
def wmN (kd mi md me mv mt kn : Nat → Int32) (nm d e : Nat) : Nat := if okd kn d e then 256 * ctN (mis kd mi md me mv mt d e) nm + sB (mis kd mi md me mv mt d e) nm else UU
theorem x_place (d e : Nat) : f_X3_place (nI d) (nI e) = nI (4 * d + e) := by
  simp (disch := omega) only [f_X3_place, ↓n_neg1, ↓n_neg2, ↓n_neg3, ↓n_neg4, ↓n_neg5, ↓n_neg10, n_lit, n_le, n_lt, n_eq, n_cl, n_add, n_mul, n_sub, ckI_n, n_shl1, n_shr, n_and, n_or, bd1_n, n_ng, ng_n, ng_ng]
theorem x_weighMissed {nm : Nat} {kd mi md me mv mt kn : Nat → Int32} {g : Nat → Int64} (h : MO nm mi md me) : f_X3_weighMissed g (nI nm) kn kd mi md me mv mt = some (fillL (rowL (wmN kd mi md me mv mt kn nm)) g 24) := by
  have h8 := h.1
  have e0 : g = fillL (rowL (wmN kd mi md me mv mt kn nm)) g (4 * 0) := (fillL_0 _ _).symm
  have main : lq2 (f_X3_weighMissed_B2 (nI nm) kn kd mi md me mv mt) FU (nI 0) (fillL (rowL (wmN kd mi md me mv mt kn nm)) g (4 * 0)) = some (fillL (rowL (wmN kd mi md me mv mt kn nm)) g 24) := by
    refine lq2_run (fun d => nI d) (fun d => fillL (rowL (wmN kd mi md me mv mt kn nm)) g (4 * d)) 6 (fun k d hd => ?_) (fun k => ?_) (by have := fu; omega)
    · unfold f_X3_weighMissed_B2
      rw [if_neg (show ¬ (6 : Int32) ≤ nI d from show ¬ nI 6 ≤ nI d by rw [n_le (by omega) (by omega)]; omega)]
      refine lq3_run (fun _ => nI d) (fun e => nI e) (fun e => fillL (rowL (wmN kd mi md me mv mt kn nm)) g (4 * d + e)) 4 (fun k e he => ?_) (fun k => ?_) (by have := fu; omega)
      · have hs := fillL_s (rowL (wmN kd mi md me mv mt kn nm)) g (4 * d + e)
        rw [rowL_at he] at hs
        have hb : sB (mis kd mi md me mv mt d e) nm < 256 := Nat.lt_of_lt_of_le (sB_lt _ nm) (Nat.pow_le_pow_right (by omega) h8)
        have hl1 := ctN_le (p := mis kd mi md me mv mt d e) nm
        unfold f_X3_weighMissed_B10
        rw [if_neg (show ¬ (4 : Int32) ≤ nI e from show ¬ nI 4 ≤ nI e by rw [n_le (by omega) (by omega)]; omega), x_missed h, bd1_n, x_allows hd, bd1_n, m_bitCount8 _ hb, pc_sB h8, x_place, ckI_n (by omega) (by omega), ckI_n (by omega) (by omega), n_cl (by omega), nI_l (by omega), nI_l (by omega), show (256 : Int64) = lN 256 from rfl, lN_mul, lN_add, show nI e + 1 = nI (e + 1) from n_add e 1, ← Nat.add_assoc, ← hs]
        unfold wmN
        by_cases ho : okd kn d e = true
        · rw [if_neg (show ¬ nI (if okd kn d e then 1 else 0) = 0 by rw [ho]; decide), if_pos ho]
        · rw [if_pos (show nI (if okd kn d e then 1 else 0) = 0 by rw [if_neg ho]; rfl), if_neg ho]
          rfl
      · unfold f_X3_weighMissed_B10
        rw [if_pos (by decide)]
        rw [show nI d + 1 = nI (d + 1) from n_add d 1]
        rfl
    · unfold f_X3_weighMissed_B2
      rw [if_pos (by decide)]
  rw [← e0] at main
  exact main
def lbN (lw : Nat) (F : Nat → Nat) (e : Nat) : Nat → Nat
  | 0 => UU
  | n + 1 => if lwB lw n e then lbN lw F e n else if F n < lbN lw F e n then F n else lbN lw F e n
theorem lbN_s (lw : Nat) (F : Nat → Nat) (e n : Nat) : lbN lw F e (n + 1) = if lwB lw n e then lbN lw F e n else if F n < lbN lw F e n then F n else lbN lw F e n := rfl
theorem lb_U (lw : Nat) (F : Nat → Nat) (e : Nat) : ∀ n, lbN lw F e n ≤ UU
  | 0 => Nat.le_refl _
  | n + 1 => by
    have := lb_U lw F e n
    rw [lbN_s]
    split
    · exact this
    · split <;> omega
theorem lb_le {lw : Nat} {F : Nat → Nat} {e a : Nat} (hl : lwB lw a e = false) : ∀ {n}, a < n → lbN lw F e n ≤ F a
  | 0, h => by omega
  | n + 1, h => by
    rw [lbN_s]
    rcases Nat.lt_or_ge a n with q | q
    · have := lb_le (F := F) hl q
      split
      · exact this
      · split <;> omega
    · have e' : a = n := by omega
      subst e'
      rw [hl, if_neg Bool.false_ne_true]
      split <;> omega
theorem lb_at {lw : Nat} {F : Nat → Nat} {e : Nat} : ∀ {n}, lbN lw F e n < UU → ∃ a, a < n ∧ lwB lw a e = false ∧ lbN lw F e n = F a
  | 0, h => by exact absurd h (Nat.lt_irrefl _)
  | n + 1, h => by
    have key : lbN lw F e (n + 1) = lbN lw F e n ∨ (lwB lw n e = false ∧ lbN lw F e (n + 1) = F n) := by
      rw [lbN_s]
      cases hl : lwB lw n e with
      | true => exact Or.inl (if_pos rfl)
      | false =>
        rw [if_neg Bool.false_ne_true]
        by_cases c : F n < lbN lw F e n
        · rw [if_pos c]; exact Or.inr ⟨rfl, rfl⟩
        · rw [if_neg c]; exact Or.inl rfl
    rcases key with q | ⟨q1, q2⟩
    · rw [q] at h ⊢
      obtain ⟨a, h1, h2, h3⟩ := lb_at h
      exact ⟨a, by omega, h2, h3⟩
    · exact ⟨n, by omega, q1, q2⟩
def mnF (F : Nat → Nat) : Nat → Nat
  | 0 => UU
  | n + 1 => if F n < mnF F n then F n else mnF F n
theorem mnF_s (F : Nat → Nat) (n : Nat) : mnF F (n + 1) = if F n < mnF F n then F n else mnF F n := rfl
theorem mn_U (F : Nat → Nat) : ∀ n, mnF F n ≤ UU
  | 0 => Nat.le_refl _
  | n + 1 => by
    have := mn_U F n
    rw [mnF_s]
    split <;> omega
theorem mn_le {F : Nat → Nat} {a : Nat} : ∀ {n}, a < n → mnF F n ≤ F a
  | 0, h => by omega
  | n + 1, h => by
    rw [mnF_s]
    rcases Nat.lt_or_ge a n with q | q
    · have := mn_le (F := F) q
      split <;> omega
    · have e' : a = n := by omega
      subst e'
      split <;> omega
theorem mn_at {F : Nat → Nat} : ∀ {n}, mnF F n < UU → ∃ a, a < n ∧ mnF F n = F a
  | 0, h => by exact absurd h (Nat.lt_irrefl _)
  | n + 1, h => by
    rw [mnF_s] at h ⊢
    by_cases c : F n < mnF F n
    · rw [if_pos c]; exact ⟨n, by omega, rfl⟩
    · rw [if_neg c] at h ⊢
      obtain ⟨a, h1, h2⟩ := mn_at h
      exact ⟨a, by omega, h2⟩
def Lw (wt : Nat → Nat → Nat) (lw : Nat) : Nat → Nat → Nat
  | 0, e => wt 0 e
  | n + 1, e => wt (n + 1) e + lbN lw (Lw wt lw n) e 4
theorem Lw_s (wt : Nat → Nat → Nat) (lw n e : Nat) : Lw wt lw (n + 1) e = wt (n + 1) e + lbN lw (Lw wt lw n) e 4 := rfl
theorem Lw_b {wt : Nat → Nat → Nat} {lw : Nat} (h : ∀ d e, wt d e ≤ UU) : ∀ n e, Lw wt lw n e ≤ 2 * UU
  | 0, e => by
    have : wt 0 e ≤ UU := h 0 e
    show wt 0 e ≤ _
    omega
  | n + 1, e => by
    have := h (n + 1) e
    have := lb_U lw (Lw wt lw n) e 4
    rw [Lw_s]
    omega
theorem UU_n : UU = 1048576 := rfl
theorem lU : (1048576 : Int64) = lN UU := rfl
theorem x_leastBefore {lw d e : Nat} {u : Nat → Int64} {F : Nat → Nat} (hl : lw < 65536) (hd : d < 5) (he : e < 4) (hF : ∀ a, F a ≤ 2 * UU) (hu : ∀ a, a < 4 → u (4 * d + a) = lN (F a)) : f_X3_leastBefore (nI (d + 1)) (nI e) u (nI lw) = some (lN (lbN lw F e 4)) := by
  have hU := UU_n
  refine lq2_run (fun i => lN (lbN lw F e i)) (fun i => nI i) 4 (fun k i hi => ?_) (fun k => ?_) (by have := fu; omega)
  · have h1 := hF i
    have h2 := lb_U lw F e i
    unfold f_X3_leastBefore_B8
    rw [if_neg (show ¬ (4 : Int32) ≤ nI i from show ¬ nI 4 ≤ nI i by rw [n_le (by omega) (by omega)]; omega), x_isLaw hl hi he, nI_pred, x_place, ckI_n (by omega) (by omega), n_cl (by omega), hu i hi, show nI i + 1 = nI (i + 1) from n_add i 1, lbN_s]
    cases lwB lw i e with
    | true => rw [if_pos rfl, if_pos rfl, if_n1]
    | false =>
      rw [if_neg Bool.false_ne_true, if_neg Bool.false_ne_true, if_n0]
      by_cases c : F i < lbN lw F e i
      · rw [if_pos (by rw [l_lt (by omega) (by omega)]; exact c), if_pos c]
      · rw [if_neg (by rw [l_lt (by omega) (by omega)]; exact c), if_neg c]
  · unfold f_X3_leastBefore_B8
    rw [if_pos (by decide)]
theorem x_leastSum {lw : Nat} {w u : Nat → Int64} {wt : Nat → Nat → Nat} (hl : lw < 65536) (hb : ∀ d e, wt d e ≤ UU) (hw : ∀ d e, d < 6 → e < 4 → w (4 * d + e) = lN (wt d e)) : ∃ u', f_X3_leastSum w u (nI lw) = some (lN (mnF (Lw wt lw 5) 4), u') := by
  have hU := UU_n
  have hLb : ∀ n e, Lw wt lw n e ≤ 2 * UU := Lw_b hb
  let V : Nat → Int64 := rowL (Lw wt lw)
  have hV : ∀ d e, e < 4 → V (4 * d + e) = lN (Lw wt lw d e) := fun d e he => rowL_at he
  refine ⟨fillL V u 24, ?_⟩
  have s3 : lq3 f_X3_leastSum_B95 FU (lN (mnF (Lw wt lw 5) 0)) (nI 0) (fillL V u 24) = some (lN (mnF (Lw wt lw 5) 4), fillL V u 24) := by
    refine lq3_run (fun e => lN (mnF (Lw wt lw 5) e)) (fun e => nI e) (fun _ => fillL V u 24) 4 (fun k e he => ?_) (fun k => ?_) (by have := fu; omega)
    · have h1 := hLb 5 e
      have h2 := mn_U (Lw wt lw 5) e
      have hv : fillL V u 24 (4 * 5 + e) = lN (Lw wt lw 5 e) := by rw [fillL_in (by omega)]; exact hV 5 e he
      unfold f_X3_leastSum_B95
      rw [if_neg (show ¬ (4 : Int32) ≤ nI e from show ¬ nI 4 ≤ nI e by rw [n_le (by omega) (by omega)]; omega), show f_X3_place (5 : Int32) (nI e) = nI (4 * 5 + e) from x_place 5 e, ckI_n (by omega) (by omega), n_cl (by omega), hv, show nI e + 1 = nI (e + 1) from n_add e 1, mnF_s]
      by_cases c : Lw wt lw 5 e < mnF (Lw wt lw 5) e
      · rw [if_pos (by rw [l_lt (by omega) (by omega)]; exact c), if_pos c]
      · rw [if_neg (by rw [l_lt (by omega) (by omega)]; exact c), if_neg c]
    · unfold f_X3_leastSum_B95
      rw [if_pos (by decide)]
  have s2 : lq2 (f_X3_leastSum_B35 w (nI lw)) FU (nI (0 + 1)) (fillL V u (4 * (0 + 1))) = some (lN (mnF (Lw wt lw 5) 4), fillL V u 24) := by
    refine lq2_run (fun i => nI (i + 1)) (fun i => fillL V u (4 * (i + 1))) 5 (fun k i hi => ?_) (fun k => ?_) (by have := fu; omega)
    · unfold f_X3_leastSum_B35
      rw [if_neg (show ¬ (6 : Int32) ≤ nI (i + 1) from show ¬ nI 6 ≤ nI (i + 1) by rw [n_le (by omega) (by omega)]; omega)]
      refine lq3_run (fun _ => nI (i + 1)) (fun e => nI e) (fun e => fillL V u (4 * (i + 1) + e)) 4 (fun k e he => ?_) (fun k => ?_) (by have := fu; omega)
      · have hsb : f_X3_leastBefore (nI (i + 1)) (nI e) (fillL V u (4 * (i + 1) + e)) (nI lw) = some (lN (lbN lw (Lw wt lw i) e 4)) :=
          x_leastBefore hl (by omega) he (hLb i) (fun a ha => by rw [fillL_in (by omega)]; exact hV i a ha)
        have hup := fillL_s V u (4 * (i + 1) + e)
        rw [hV (i + 1) e he, Lw_s, ← lN_add, ← hw (i + 1) e (by omega) he] at hup
        unfold f_X3_leastSum_B43
        rw [if_neg (show ¬ (4 : Int32) ≤ nI e from show ¬ nI 4 ≤ nI e by rw [n_le (by omega) (by omega)]; omega), x_place, ckI_n (by omega) (by omega), n_cl (by omega), hsb, bd1_n, hup, show nI e + 1 = nI (e + 1) from n_add e 1]
        rfl
      · unfold f_X3_leastSum_B43
        rw [if_pos (by decide)]
        rw [show nI (i + 1) + 1 = nI (i + 1 + 1) from n_add (i + 1) 1]
        rfl
    · unfold f_X3_leastSum_B35
      rw [if_pos (by decide)]
      exact s3
  have s1 : lq2 (f_X3_leastSum_B2 w (nI lw)) FU (nI 0) (fillL V u 0) = some (lN (mnF (Lw wt lw 5) 4), fillL V u 24) := by
    refine lq2_run (fun e => nI e) (fun e => fillL V u e) 4 (fun k e he => ?_) (fun k => ?_) (by have := fu; omega)
    · have hup := fillL_s V u e
      have hVe : V e = lN (wt 0 e) := by
        have := hV 0 e he
        rw [Nat.mul_zero, Nat.zero_add] at this
        exact this
      have hwe : w e = lN (wt 0 e) := by
        have := hw 0 e (by omega) he
        rw [Nat.mul_zero, Nat.zero_add] at this
        exact this
      rw [hVe, ← hwe] at hup
      unfold f_X3_leastSum_B2
      rw [if_neg (show ¬ (4 : Int32) ≤ nI e from show ¬ nI 4 ≤ nI e by rw [n_le (by omega) (by omega)]; omega), show f_X3_place (0 : Int32) (nI e) = nI e from (x_place 0 e).trans (by rw [Nat.mul_zero, Nat.zero_add]), ckI_n (by omega) (by omega), n_cl (by omega), hup, show nI e + 1 = nI (e + 1) from n_add e 1]
    · unfold f_X3_leastSum_B2
      rw [if_pos (by decide)]
      exact s2
  rw [fillL_0] at s1
  exact s1
