theorem pc_sB {p : Nat → Bool} {nm : Nat} (h : nm ≤ 8) : pc 31 (sB p nm) = ctN p nm := by
  have key := pc_ct (decide (0 < nm) && p 0) (decide (1 < nm) && p 1) (decide (2 < nm) && p 2) (decide (3 < nm) && p 3) (decide (4 < nm) && p 4) (decide (5 < nm) && p 5) (decide (6 < nm) && p 6) (decide (7 < nm) && p 7)
  rcases (show nm = 0 ∨ nm = 1 ∨ nm = 2 ∨ nm = 3 ∨ nm = 4 ∨ nm = 5 ∨ nm = 6 ∨ nm = 7 ∨ nm = 8 by omega) with rfl | rfl | rfl | rfl | rfl | rfl | rfl | rfl | rfl <;> simpa [sB, ctN] using key
def jW (lw nm c : Nat) (kn kd mi md me mv mt : Nat → Int32) (w : Nat) : Nat := if isW lw kn w then jvN c nm (ctN (wrB kd mi md me mv mt w) nm) else 0
theorem m_journeys {lw ni nm c : Nat} {f kn mi md me mv mt k0 ref : Nat → Int32} {v1 v2 : Int64} (hl : lw < 65536) (hf1 : f 1 = nI lw) (hk : ∀ d, d < 6 → f (4 + d) = kn d) (hn : ni ≤ 4) (hf0 : f 0 = nI ni) (hM : MO nm mi md me) (hR : MR nm f mi md me mv mt) (hf3 : f 3 = nI nm) (hc : c ≤ 10) (kd : Nat → Int32) (hkd : kd = fillI (fun i => f (14 + i)) k0 ni) :
    f_X5_journeys (nI c) v1 v2 f ref k0 = bd2 (f_X5_fraction (lN (sN (jW lw nm c kn kd mi md me mv mt) 4096)) (lN (10 ^ nm)) v1 v2) fun u6 u7 => some (nI 1, u6, u7, ref, kd) := by
  have h8 := hM.1
  have hin : f_X5_in (Int32.toInt64 (nI c)) 0 10 = nI 1 := in_t (lo := 0) (hi := 10) rfl rfl (by rw [tN c (by omega)]; omega) (by rw [tN c (by omega)]; omega)
  obtain ⟨T, hT⟩ : ∃ T : Nat → Nat, ∀ n, sN (jW lw nm c kn kd mi md me mv mt) n = T n := ⟨_, fun _ => rfl⟩
  have hTs : ∀ n, T (n + 1) = T n + jW lw nm c kn kd mi md me mv mt n := fun n => by rw [← hT, ← hT]; rfl
  have hT0 : T 0 = 0 := by rw [← hT]; rfl
  rw [hT]
  have main : lq7 (f_X5_journeys_B57 (nI c) f) FU (lN (T 0)) (lN (10 ^ nm)) (nI 0) v1 v2 ref kd = bd2 (f_X5_fraction (lN (T 4096)) (lN (10 ^ nm)) v1 v2) fun u6 u7 => some (nI 1, u6, u7, ref, kd) := by
    refine lq7_run (fun n => lN (T n)) (fun _ => lN (10 ^ nm)) (fun n => nI n) (fun _ => v1) (fun _ => v2) (fun _ => ref) (fun _ => kd) 4096 (fun k w hw => ?_) (fun k => ?_) (by have := fu; omega)
    · have hb : sB (wrB kd mi md me mv mt w) nm < 256 := Nat.lt_of_lt_of_le (sB_lt _ nm) (Nat.pow_le_pow_right (by omega) h8)
      have hcl := ctN_le (p := wrB kd mi md me mv mt w) nm
      have eJ : jW lw nm c kn kd mi md me mv mt w = if isW lw kn w then jvN c nm (ctN (wrB kd mi md me mv mt w) nm) else 0 := rfl
      unfold f_X5_journeys_B57
      rw [if_neg (show ¬ (4096 : Int32) ≤ nI w from show ¬ nI 4096 ≤ nI w by rw [n_le (by omega) (by omega)]; omega), m_isWorld hl hf1 hk hw, bd1_n, m_wrongIn hM hR hf3 hw, bd1_n, m_bits (by omega), bd1_n, pc_sB h8, hTs]
      by_cases hi : isW lw kn w = true
      · rw [if_neg (show ¬ nI (if isW lw kn w then 1 else 0) = 0 by rw [hi]; decide), m_jour_in hc h8 hcl, lN_add, eJ, if_pos hi, show nI w + 1 = nI (w + 1) from n_add w 1]
      · rw [if_pos (show nI (if isW lw kn w then 1 else 0) = 0 by rw [if_neg hi]; rfl), eJ, if_neg hi, show nI w + 1 = nI (w + 1) from n_add w 1]; rfl
    · unfold f_X5_journeys_B57
      rw [if_pos (by decide)]; rfl
  rw [hT0] at main
  have m2 : lq7 (f_X5_journeys_B31 (nI c) f) FU (lN 0) (lN (10 ^ 0)) (nI 0) v1 v2 ref kd = bd2 (f_X5_fraction (lN (T 4096)) (lN (10 ^ nm)) v1 v2) fun u6 u7 => some (nI 1, u6, u7, ref, kd) := by
    refine lq7_run (fun _ => lN 0) (fun n => lN (10 ^ n)) (fun n => nI n) (fun _ => v1) (fun _ => v2) (fun _ => ref) (fun _ => kd) nm (fun k n hn' => ?_) (fun k => ?_) (by have := fu; omega)
    · unfold f_X5_journeys_B31
      rw [if_neg (show ¬ f_X5_marks f ≤ nI n from show ¬ f 3 ≤ nI n by rw [hf3, n_le (by omega) (by omega)]; omega), show nI n + 1 = nI (n + 1) from n_add n 1, show lN (10 ^ n) * (10 : Int64) = lN (10 ^ (n + 1)) from by rw [Nat.pow_succ]; exact lN_mul _ 10]
    · unfold f_X5_journeys_B31
      rw [if_pos (show f_X5_marks f ≤ nI nm from show f 3 ≤ nI nm by rw [hf3, n_le (by omega) (by omega)]; omega)]
      exact main
  rw [f_X5_journeys, hin, if_n1, m_layKinds hn hf0, ← hkd, bd1_n]
  exact m2
