section
variable {n m : Nat} {mb tok st va : Nat → Int32} {P C v : Nat → Nat} {L K V : Nat → Int32}
theorem it_mark (h : TKS n mb tok st va m P C v L K V) {i lw ni nm nu : Nat} {x : Int32} {kn kd tr mi md me mv mt ud ue f vs : Nat → Int32} (hi : i < m) (hu : nu ≤ 8) (hR : RO lw ni nm kn kd tr mi md me mv mt f) :
    (∃ (j nm' nu' : Nat) (tr' mi' md' me' mv' mt' ud' ue' f' vs' : Nat → Int32), i < j ∧ j < m ∧ C j = 2 ∧ nu' ≤ 8 ∧ RO lw ni nm' kn kd tr' mi' md' me' mv' mt' f' ∧ f_X1_takeMark (nI i) x (-1 : Int32) tok st va (nI ni) (nI nm) (nI nu) tr mi md me mv mt ud ue = some (nI (j + 1), nI (C (j + 1)), (-1 : Int32), nI nm', nI nu', tr', mi', md', me', mv', mt', ud', ue') ∧ f_X5_takesMark (nI n) (nI (P i)) (L i) (K i) (V i) mb f vs = some ((1 : Int32), nI (P j), L j, K j, V j, f', vs')) ∨
    (∃ (j : Nat) (a z o1 o2 : Int32) (o3 o4 o5 o6 o7 o8 o9 o10 f' vs' : Nat → Int32), j ≤ m ∧ f_X1_takeMark (nI i) x (-1 : Int32) tok st va (nI ni) (nI nm) (nI nu) tr mi md me mv mt ud ue = some (a, (1 : Int32), nI (P j), o1, o2, o3, o4, o5, o6, o7, o8, o9, o10) ∧ f_X5_takesMark (nI n) (nI (P i)) (L i) (K i) (V i) mb f vs = some (z, nI (P j), L j, K j, V j, f', vs') ∧ (z = (0 : Int32) ∨ (z = (1 : Int32) ∧ ¬ C j = 2))) := by
  have h150 := h.1.1
  have hn := hR.2.1.2
  have hm8 := hR.2.2.2.2.2.2.1.1
  have hf0 : f (Int32.toNatClampNeg (0 : Int32)) = nI ni := hR.2.1.1
  have hf3 : f (Int32.toNatClampNeg (3 : Int32)) = nI nm := hR.2.2.1
  have hP : ∀ j, j ≤ m → P j < 1000 := fun j hj => by have := (h.2.1 j hj).2.2.2.1; omega
  have hFU : 0 < FU := by have := fu; omega
  have hA : ∀ y, f_X1_takeIf (1 : Int32) (nI i) x y tok st = some (nI (i + 1), nI (C (i + 1)), y) := fun y => by
    unfold f_X1_takeIf
    rw [if_neg (by decide), t_adv h hi]; rfl
  have hpred : (nI ni - (1 : Int32)).toInt = (ni : Int) - 1 := by
    have := pred_toInt (n := ni) (by omega)
    rw [w_toInt] at this
    exact this
  unfold f_X1_takeMark f_X5_takesMark
  rw [hf0, hf3]
  by_cases c8 : nm < 8
  · rw [if_neg (show ¬ (8 : Int32) ≤ nI nm from show ¬ nI 8 ≤ nI nm by rw [n_le (by omega) (by omega)]; omega), if_neg (show ¬ nI nm = (8 : Int32) from fun z => by have := (n_eq (b := 8) (by omega) (by omega)).mp z; omega), hA, bd3_n, h.2.2.1 i hi, bd4_n]
    rcases num2 h (i := i + 1) (k := 0) (l := ni) (x1 := 0) (x2 := nI ni) (x3 := nI ni - (1 : Int32)) (by omega) (by omega) (by omega) rfl rfl hpred vs with ⟨a1, a2, a3, a4, a5⟩ | ⟨a3, a4, a5⟩
    · rw [a4, bd4_n, a5, bd6_n, if_neg (by decide)]
      rcases num2 h (i := i + 1 + 1) (k := 1) (l := 6) (x1 := 1) (x2 := 6) (x3 := 5) (by omega) (by omega) (by omega) rfl rfl rfl (upd vs 0 (nI (v (i + 1)))) with ⟨b1, b2, b3, b4, b5⟩ | ⟨b3, b4, b5⟩
      · rw [b4, bd4_n, b5, bd6_n, if_neg (by decide)]
        rcases num2 h (i := i + 1 + 1 + 1) (k := 2) (l := 3) (x1 := 2) (x2 := 3) (x3 := 2) (by omega) (by omega) (by omega) rfl rfl rfl (upd (upd vs 0 (nI (v (i + 1)))) 1 (nI (v (i + 1 + 1)))) with ⟨d1, d2, d3, d4, d5⟩ | ⟨d3, d4, d5⟩
        · rw [d4, bd4_n, d5, bd6_n, if_neg (by decide)]
          obtain ⟨q2, hq2⟩ : ∃ z, FU = z + 1 := ⟨FU - 1, by omega⟩
          have hq2' : 1000 < q2 := by have := fu; omega
          have M : ∀ vz w, lq7 (f_X5_takesMark_B58 (nI n) mb) FU (0 : Int32) (nI (P (i + 1 + 1 + 1 + 1))) (L (i + 1 + 1 + 1 + 1)) (K (i + 1 + 1 + 1 + 1)) (V (i + 1 + 1 + 1 + 1)) f vz = w ↔ f_X5_takesMark_B58 (nI n) mb (lq7 (f_X5_takesMark_B58 (nI n) mb) q2) (0 : Int32) (nI (P (i + 1 + 1 + 1 + 1))) (L (i + 1 + 1 + 1 + 1)) (K (i + 1 + 1 + 1 + 1)) (V (i + 1 + 1 + 1 + 1)) f vz = w := fun vz w => by rw [hq2]; exact Iff.rfl
          obtain ⟨g1, g2, g3, g4, g5, g6⟩ := h.2.1 (i + 1 + 1 + 1 + 1) (by omega)
          obtain ⟨k1, k2, k3, k4⟩ := h.2.2.2.1 (i + 1 + 1 + 1 + 1) (by omega)
          have hb0 : f_X5_bits (0 : Int32) = some (nI 0) := by
            have := m_bits (n := 0) (by omega)
            rw [pc_0] at this
            exact this
          rcases num2 h (i := i + 1 + 1 + 1 + 1) (k := 3) (l := 4) (x1 := 3) (x2 := 4) (x3 := 3) (by omega) (by omega) (by omega) rfl rfl rfl (upd (upd (upd vs 0 (nI (v (i + 1)))) 1 (nI (v (i + 1 + 1)))) 2 (nI (v (i + 1 + 1 + 1)))) with ⟨e1, e2, e3, e4, e5⟩ | ⟨e3, e4, e5⟩
          · obtain ⟨o1, o2⟩ := pc_one4 (v (i + 1 + 1 + 1 + 1)) e2
            have hMB : lq7 (f_X5_takesMark_B58 (nI n) mb) FU (0 : Int32) (nI (P (i + 1 + 1 + 1 + 1))) (L (i + 1 + 1 + 1 + 1)) (K (i + 1 + 1 + 1 + 1)) (V (i + 1 + 1 + 1 + 1)) f (upd (upd (upd vs 0 (nI (v (i + 1)))) 1 (nI (v (i + 1 + 1)))) 2 (nI (v (i + 1 + 1 + 1)))) = lq7 (f_X5_takesMark_B58 (nI n) mb) q2 (nI (2 ^ v (i + 1 + 1 + 1 + 1))) (nI (P (i + 1 + 1 + 1 + 1 + 1))) (L (i + 1 + 1 + 1 + 1 + 1)) (K (i + 1 + 1 + 1 + 1 + 1)) (V (i + 1 + 1 + 1 + 1 + 1)) f (upd (upd (upd (upd vs 0 (nI (v (i + 1)))) 1 (nI (v (i + 1 + 1)))) 2 (nI (v (i + 1 + 1 + 1)))) 3 (nI (v (i + 1 + 1 + 1 + 1)))) := by
              rw [M]
              unfold f_X5_takesMark_B58 f_X5_takesMark_J93
              have t3 : upd (upd (upd (upd vs 0 (nI (v (i + 1)))) 1 (nI (v (i + 1 + 1)))) 2 (nI (v (i + 1 + 1 + 1)))) 3 (nI (v (i + 1 + 1 + 1 + 1))) (Int32.toNatClampNeg (3 : Int32)) = nI (v (i + 1 + 1 + 1 + 1)) := rfl
              have hz : f_X5_has (0 : Int32) (V (i + 1 + 1 + 1 + 1)) = 0 := by
                rw [k4 e3]
                have : ∀ k, k < 4 → f_X5_has (0 : Int32) (nI k) = 0 := by decide +kernel
                exact this _ e2
              rw [if_pos (k1.mp e3), hb0, bd1_n, if_neg (show ¬ nI 0 = (3 : Int32) by decide), hz, if_pos rfl, ite_self, e5, bd6_n, if_neg (show ¬ (1 : Int32) = 0 by decide), t3, n_shl (by omega), show (0 : Int32) ||| nI (2 ^ v (i + 1 + 1 + 1 + 1)) = nI (2 ^ v (i + 1 + 1 + 1 + 1)) from (n_or 0 _).trans (by rw [Nat.zero_or])]
            rw [e4, bd4_n, n_shl (by omega), hMB]
            rcases mk_loop (mk := v (i + 1 + 1 + 1)) (ud := ud) (ue := ue) h hu hR c8 a2 b2 2 1 (2 ^ v (i + 1 + 1 + 1 + 1)) (i + 1 + 1 + 1 + 1 + 1) FU q2 (upd (upd (upd (upd vs 0 (nI (v (i + 1)))) 1 (nI (v (i + 1 + 1)))) 2 (nI (v (i + 1 + 1 + 1)))) 3 (nI (v (i + 1 + 1 + 1 + 1)))) (by omega) (by omega) o2 o1 (by omega) (by have := fu; omega) (by omega) rfl rfl rfl with ⟨jj, nu', tr', mi', md', me', mv', mt', ud', ue', f', vs', w1, w2, w3, w4, w5, w6, w7⟩ | ⟨jj, y, z, o1, o2, o3, o4, o5, o6, o7, o8, o9, o10, f', vs', w1, w2, w3, w4⟩
            · exact Or.inl ⟨jj, nm + 1, nu', tr', mi', md', me', mv', mt', ud', ue', f', vs', by omega, w2, w3, w4, w5, w6, w7⟩
            · exact Or.inr ⟨jj, y, z, o1, o2, o3, o4, o5, o6, o7, o8, o9, o10, f', vs', w1, w2, w3, w4⟩
          · refine Or.inr ⟨i + 1 + 1 + 1 + 1, nI (i + 1 + 1 + 1 + 1), (0 : Int32), nI nm, nI nu, tr, mi, md, me, mv, mt, ud, ue, f, upd (upd (upd vs 0 (nI (v (i + 1)))) 1 (nI (v (i + 1 + 1)))) 2 (nI (v (i + 1 + 1 + 1))), by omega, ?_, ?_, Or.inl rfl⟩
            · rw [e4, bd4_n]
              exact b59_F (hP _ (by omega)) hFU
            · rw [M]
              unfold f_X5_takesMark_B58 f_X5_takesMark_J93
              by_cases c3 : C (i + 1 + 1 + 1 + 1) = 3
              · rw [if_pos (k1.mp c3), hb0, bd1_n, if_neg (show ¬ nI 0 = (3 : Int32) by decide), k4 c3, if_pos (show (4 : Int32) ≤ nI (v (i + 1 + 1 + 1 + 1)) from show nI 4 ≤ nI (v (i + 1 + 1 + 1 + 1)) by rw [n_le (by omega) (by omega)]; omega), ← k4 c3, e5, bd6_n, if_pos rfl]
              · rw [if_neg (fun w => c3 (k1.mpr w)), if_pos rfl]
        · refine Or.inr ⟨i + 1 + 1 + 1, nI (i + 1 + 1 + 1), (0 : Int32), nI nm, nI nu, tr, mi, md, me, mv, mt, ud, ue, f, upd (upd vs 0 (nI (v (i + 1)))) 1 (nI (v (i + 1 + 1))), by omega, ?_, ?_, Or.inl rfl⟩
          · rw [d4, bd4_n, t_numF (by omega) (hP _ (by omega)), bd4_n]
            exact b59_F (hP _ (by omega)) hFU
          · rw [d5, bd6_n, if_pos rfl]
      · refine Or.inr ⟨i + 1 + 1, nI (i + 1 + 1), (0 : Int32), nI nm, nI nu, tr, mi, md, me, mv, mt, ud, ue, f, upd vs 0 (nI (v (i + 1))), by omega, ?_, ?_, Or.inl rfl⟩
        · rw [b4, bd4_n, t_numF (by omega) (hP _ (by omega)), bd4_n, t_numF (by omega) (hP _ (by omega)), bd4_n]
          exact b59_F (hP _ (by omega)) hFU
        · rw [b5, bd6_n, if_pos rfl]
    · refine Or.inr ⟨i + 1, nI (i + 1), (0 : Int32), nI nm, nI nu, tr, mi, md, me, mv, mt, ud, ue, f, vs, by omega, ?_, ?_, Or.inl rfl⟩
      · rw [a4, bd4_n, t_numF (by omega) (hP _ (by omega)), bd4_n, t_numF (by omega) (hP _ (by omega)), bd4_n, t_numF (by omega) (hP _ (by omega)), bd4_n]
        exact b59_F (hP _ (by omega)) hFU
      · rw [a5, bd6_n, if_pos rfl]
  · have e8 : nm = 8 := by omega
    subst e8
    refine Or.inr ⟨i, nI i, (0 : Int32), nI 8, nI nu, tr, mi, md, me, mv, mt, ud, ue, f, vs, by omega, ?_, ?_, Or.inl rfl⟩
    · have hB : f_X1_takeIf (0 : Int32) (nI i) x (-1 : Int32) tok st = some (nI i, (1 : Int32), nI (P i)) := by
        unfold f_X1_takeIf
        rw [if_pos rfl, t_rej h (by omega)]; rfl
      rw [if_pos (show (8 : Int32) ≤ nI 8 by decide), hB, bd3_n, t_numF (by omega) (hP _ (by omega)), bd4_n, t_numF (by omega) (hP _ (by omega)), bd4_n, t_numF (by omega) (hP _ (by omega)), bd4_n, t_numF (by omega) (hP _ (by omega)), bd4_n]
      exact b59_F (hP _ (by omega)) hFU
    · rw [if_pos (show nI 8 = (8 : Int32) from rfl)]
theorem item (h : TKS n mb tok st va m P C v L K V) {i lw ni nm nu : Nat} {kn kd tr mi md me mv mt ud ue f vs : Nat → Int32} (hi : i < m) (hu : nu ≤ 8) (hR : RO lw ni nm kn kd tr mi md me mv mt f) :
    (∃ (j lw' ni' nm' nu' : Nat) (kn' kd' tr' mi' md' me' mv' mt' ud' ue' f' vs' : Nat → Int32), i < j ∧ j < m ∧ C j = 2 ∧ nu' ≤ 8 ∧ RO lw' ni' nm' kn' kd' tr' mi' md' me' mv' mt' f' ∧ f_X1_takeItem (nI i) (nI (C i)) (-1 : Int32) tok st va (nI lw) (nI ni) (nI nm) (nI nu) kn kd tr mi md me mv mt ud ue = some (nI (j + 1), nI (C (j + 1)), (-1 : Int32), nI lw', nI ni', nI nm', nI nu', kn', kd', tr', mi', md', me', mv', mt', ud', ue') ∧ f_X5_takesItem (nI n) (nI (P i)) (L i) (K i) (V i) mb f vs = some ((1 : Int32), nI (P j), L j, K j, V j, f', vs')) ∨
    (∃ (j : Nat) (a z o1 o2 o3 o4 : Int32) (o5 o6 o7 o8 o9 o10 o11 o12 o13 o14 f' vs' : Nat → Int32), j ≤ m ∧ f_X1_takeItem (nI i) (nI (C i)) (-1 : Int32) tok st va (nI lw) (nI ni) (nI nm) (nI nu) kn kd tr mi md me mv mt ud ue = some (a, (1 : Int32), nI (P j), o1, o2, o3, o4, o5, o6, o7, o8, o9, o10, o11, o12, o13, o14) ∧ f_X5_takesItem (nI n) (nI (P i)) (L i) (K i) (V i) mb f vs = some (z, nI (P j), L j, K j, V j, f', vs') ∧ (z = (0 : Int32) ∨ (z = (1 : Int32) ∧ ¬ C j = 2))) := by
  obtain ⟨g1, g2, g3, g4, g5, g6⟩ := h.2.1 i (by omega)
  obtain ⟨s0, s1, s2, s3, s4⟩ := h.2.2.2.2 i (by omega)
  have hC : ∀ k, k < 9 → (nI (C i) = nI k ↔ C i = k) := fun k hk => n_eq (by omega) (by omega)
  have kB : ∀ {α : Type} (z : Int32) (y : Option α), (z = 0 ∨ z = 1) → ckB z y = y := by
    intro α z y hz
    rcases hz with rfl | rfl
    · exact ckB_0 y
    · exact ckB_1 y
  unfold f_X1_takeItem f_X5_takesItem
  rw [s1, bd1_n, s2, bd1_n, s3, bd1_n, s4, bd1_n]
  by_cases c5 : C i = 5
  · rw [if_pos c5, if_n1, if_pos (show nI (C i) = (5 : Int32) from (hC 5 (by omega)).mpr c5)]
    rcases it_law (x := nI (C i)) (vs := vs) h hi hR with ⟨j, lw', f', vs', w1, w2, w3, w4, w5, w6⟩ | ⟨j, a, z, lx, f', vs', w1, w2, w3, w4⟩
    · refine Or.inl ⟨j, lw', ni, nm, nu, kn, kd, tr, mi, md, me, mv, mt, ud, ue, f', vs', w1, w2, w3, hu, w4, by rw [w5]; rfl, ?_⟩
      rw [w6, bd7_n, kB _ _ (Or.inr rfl)]
    · refine Or.inr ⟨j, a, z, lx, nI ni, nI nm, nI nu, kn, kd, tr, mi, md, me, mv, mt, ud, ue, f', vs', w1, by rw [w2]; rfl, ?_, w4⟩
      rw [w3, bd7_n, kB _ _ (by rcases w4 with w | w; exact Or.inl w; exact Or.inr w.1)]
  · rw [if_neg c5, if_n0, if_neg (show ¬ nI (C i) = (5 : Int32) from fun z => c5 ((hC 5 (by omega)).mp z))]
    by_cases c6 : C i = 6
    · rw [if_pos c6, if_n1, if_pos (show nI (C i) = (6 : Int32) from (hC 6 (by omega)).mpr c6)]
      rcases it_known (x := nI (C i)) (ud := ud) (ue := ue) (vs := vs) h hi hu hR with ⟨j, nu', kn', ud', ue', f', vs', w1, w2, w3, w4, w5, w6, w7⟩ | ⟨j, a, z, o1, o2, o3, o4, f', vs', w1, w2, w3, w4⟩
      · refine Or.inl ⟨j, lw, ni, nm, nu', kn', kd, tr, mi, md, me, mv, mt, ud', ue', f', vs', w1, w2, w3, w4, w5, by rw [w6]; rfl, ?_⟩
        rw [w7, bd7_n, kB _ _ (Or.inr rfl)]
      · refine Or.inr ⟨j, a, z, nI lw, nI ni, nI nm, o1, o2, kd, tr, mi, md, me, mv, mt, o3, o4, f', vs', w1, by rw [w2]; rfl, ?_, w4⟩
        rw [w3, bd7_n, kB _ _ (by rcases w4 with w | w; exact Or.inl w; exact Or.inr w.1)]
    · rw [if_neg c6, if_n0, if_neg (show ¬ nI (C i) = (6 : Int32) from fun z => c6 ((hC 6 (by omega)).mp z))]
      by_cases c7 : C i = 7
      · rw [if_pos c7, if_n1, if_pos (show nI (C i) = (7 : Int32) from (hC 7 (by omega)).mpr c7)]
        rcases it_one (x := nI (C i)) (vs := vs) h hi hR with ⟨j, ni', kd', tr', f', vs', w1, w2, w3, w4, w5, w6⟩ | ⟨j, a, z, o1, o2, o3, f', vs', w1, w2, w3, w4⟩
        · refine Or.inl ⟨j, lw, ni', nm, nu, kn, kd', tr', mi, md, me, mv, mt, ud, ue, f', vs', w1, w2, w3, hu, w4, by rw [w5]; rfl, ?_⟩
          rw [w6, bd7_n, kB _ _ (Or.inr rfl)]
        · refine Or.inr ⟨j, a, z, nI lw, o1, nI nm, nI nu, kn, o2, o3, mi, md, me, mv, mt, ud, ue, f', vs', w1, by rw [w2]; rfl, ?_, w4⟩
          rw [w3, bd7_n, kB _ _ (by rcases w4 with w | w; exact Or.inl w; exact Or.inr w.1)]
      · rw [if_neg c7, if_n0, if_neg (show ¬ nI (C i) = (7 : Int32) from fun z => c7 ((hC 7 (by omega)).mp z))]
        by_cases c8 : C i = 8
        · rw [if_pos c8, if_n1, if_pos (show nI (C i) = (8 : Int32) from (hC 8 (by omega)).mpr c8)]
          rcases it_mark (x := nI (C i)) (ud := ud) (ue := ue) (vs := vs) h hi hu hR with ⟨j, nm', nu', tr', mi', md', me', mv', mt', ud', ue', f', vs', w1, w2, w3, w4, w5, w6, w7⟩ | ⟨j, a, z, o1, o2, o3, o4, o5, o6, o7, o8, o9, o10, f', vs', w1, w2, w3, w4⟩
          · refine Or.inl ⟨j, lw, ni, nm', nu', kn, kd, tr', mi', md', me', mv', mt', ud', ue', f', vs', w1, w2, w3, w4, w5, by rw [w6]; rfl, ?_⟩
            rw [w7, bd7_n, if_neg (by decide)]
          · refine Or.inr ⟨j, a, z, nI lw, nI ni, o1, o2, kn, kd, o3, o4, o5, o6, o7, o8, o9, o10, f', vs', w1, by rw [w2]; rfl, ?_, w4⟩
            rw [w3, bd7_n]
            rcases w4 with w | w
            · rw [w, if_pos rfl]
            · rw [w.1, if_neg (by decide)]
        · rw [if_neg c8, if_n0, if_neg (show ¬ nI (C i) = (8 : Int32) from fun z => c8 ((hC 8 (by omega)).mp z)), t_rej h (by omega)]
          exact Or.inr ⟨i, nI i, (0 : Int32), nI lw, nI ni, nI nm, nI nu, kn, kd, tr, mi, md, me, mv, mt, ud, ue, f, vs, by omega, rfl, rfl, Or.inl rfl⟩
end
