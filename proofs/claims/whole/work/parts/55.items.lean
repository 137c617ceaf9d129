theorem x_rem {nu : Nat} {a b : Int32} {ud ue : Nat → Int32} (hn : nu ≤ 8) : ∃ (nu' : Nat) (ud' ue' : Nat → Int32), nu' ≤ 8 ∧ f_X0_remember a b (nI nu) ud ue = some (nI nu', ud', ue') := by
  rcases Nat.lt_or_ge nu 8 with q | q
  · exact ⟨nu + 1, _, _, by omega, x_rem1 (by omega)⟩
  · have e : nu = 8 := by omega
    subst e
    exact ⟨7 + 1, _, _, by omega, x_rem8⟩
theorem m_layMark58 {g : Nat → Int32} {nm i : Nat} {x2 x3 x4 : Int32} (h3 : g 3 = nI nm) (hm : nm < 8) (hi : i < 4) : f_X5_layMark (nI i) x2 x3 x4 58 g = some (lmF g nm i (nI i) x2 x3 x4) := by
  simp (disch := omega) only [f_X5_layMark, ↓n_neg1, ↓n_neg2, ↓n_neg3, ↓n_neg4, ↓n_neg5, ↓n_neg10, n_lit, n_le, n_lt, n_eq, n_cl, n_add, n_mul, n_sub, ckI_n, n_shl1, n_shr, n_and, n_or, bd1_n, n_ng, ng_n, ng_ng, h3, pk_un, Nat.add_zero, pk_us]
  rfl
theorem m_layOne58 {f : Nat → Int32} {ni : Nat} {x y : Int32} (b1 : f 0 = nI ni) (hn : ni < 4) : f_X5_layOne x y 58 f = some (upd (upd (upd f (14 + ni) x) (10 + ni) y) 0 (nI (ni + 1))) := by
  have z1 : upd f (14 + ni) x 0 = nI ni := by rw [pk_un (by omega)]; exact b1
  have z2 : upd (upd f (14 + ni) x) (10 + ni) y 0 = nI ni := by rw [pk_un (by omega)]; exact z1
  simp (disch := omega) only [f_X5_layOne, ↓n_neg1, ↓n_neg2, ↓n_neg3, ↓n_neg4, ↓n_neg5, ↓n_neg10, n_lit, n_le, n_lt, n_eq, n_cl, n_add, n_mul, n_sub, ckI_n, n_shl1, n_shr, n_and, n_or, bd1_n, n_ng, ng_n, ng_ng, b1, z1, z2]
section
variable {n m : Nat} {mb tok st va : Nat → Int32} {P C v : Nat → Nat} {L K V : Nat → Int32}
theorem it_known (h : TKS n mb tok st va m P C v L K V) {i lw ni nm nu : Nat} {x : Int32} {kn kd tr mi md me mv mt ud ue f vs : Nat → Int32} (hi : i < m) (hu : nu ≤ 8) (hR : RO lw ni nm kn kd tr mi md me mv mt f) :
    (∃ (j nu' : Nat) (kn' ud' ue' f' vs' : Nat → Int32), i < j ∧ j < m ∧ C j = 2 ∧ nu' ≤ 8 ∧ RO lw ni nm kn' kd tr mi md me mv mt f' ∧ f_X1_takeKnown (nI i) x (-1 : Int32) tok st va (nI nu) kn ud ue = some (nI (j + 1), nI (C (j + 1)), (-1 : Int32), nI nu', kn', ud', ue') ∧ f_X5_takesKnown (nI n) (nI (P i)) (L i) (K i) (V i) mb f vs = some ((1 : Int32), nI (P j), L j, K j, V j, f', vs')) ∨
    (∃ (j : Nat) (a z o1 : Int32) (o2 o3 o4 f' vs' : Nat → Int32), j ≤ m ∧ f_X1_takeKnown (nI i) x (-1 : Int32) tok st va (nI nu) kn ud ue = some (a, (1 : Int32), nI (P j), o1, o2, o3, o4) ∧ f_X5_takesKnown (nI n) (nI (P i)) (L i) (K i) (V i) mb f vs = some (z, nI (P j), L j, K j, V j, f', vs') ∧ (z = (0 : Int32) ∨ (z = (1 : Int32) ∧ ¬ C j = 2))) := by
  have h150 := h.1.1
  have hP : ∀ j, j ≤ m → P j < 1000 := fun j hj => by have := (h.2.1 j hj).2.2.2.1; omega
  unfold f_X1_takeKnown f_X5_takesKnown
  rw [t_adv h hi, bd2_n, h.2.2.1 i hi, bd4_n]
  rcases num2 h (i := i + 1) (k := 0) (l := 6) (x1 := 0) (x2 := 6) (x3 := 5) (by omega) (by omega) (by omega) rfl rfl rfl vs with ⟨p1, p2, p3, p4, p5⟩ | ⟨p3, p4, p5⟩
  · rw [p4, bd4_n, p5, bd6_n, if_neg (by decide)]
    rcases num2 h (i := i + 1 + 1) (k := 1) (l := 4) (x1 := 1) (x2 := 4) (x3 := 3) (by omega) (by omega) (by omega) rfl rfl rfl (upd vs 0 (nI (v (i + 1)))) with ⟨r1, r2, r3, r4, r5⟩ | ⟨r3, r4, r5⟩
    · have z0 : upd (upd vs 0 (nI (v (i + 1)))) 1 (nI (v (i + 1 + 1))) (Int32.toNatClampNeg (0 : Int32)) = nI (v (i + 1)) := rfl
      have z1 : upd (upd vs 0 (nI (v (i + 1)))) 1 (nI (v (i + 1 + 1))) (Int32.toNatClampNeg (1 : Int32)) = nI (v (i + 1 + 1)) := rfl
      rw [r4, bd4_n, r5, bd6_n, if_neg (by decide), z0, z1, show (4 : Int32) + nI (v (i + 1)) = nI (4 + v (i + 1)) from n_add 4 _, ckI_n (by omega) (by omega), n_cl (by omega)]
      by_cases c : C (i + 1 + 1 + 1) = 2
      · have hj := tk_lt h (i := i + 1 + 1 + 1) (by omega) (by omega)
        obtain ⟨nu', ud', ue', y1, y2⟩ := x_rem (a := nI (v (i + 1))) (b := kn (v (i + 1))) (ud := ud) (ue := ue) hu
        refine Or.inl ⟨i + 1 + 1 + 1, nu', upd kn (v (i + 1)) (nI (v (i + 1 + 1))), ud', ue', upd f (4 + v (i + 1)) (nI (v (i + 1 + 1))), upd (upd vs 0 (nI (v (i + 1)))) 1 (nI (v (i + 1 + 1))), by omega, hj, c, y1, RO_known p2 r2 hR, ?_, rfl⟩
        rw [t_stop h hj c, bd3_n, if_pos rfl]
        unfold f_X0_learn
        rw [ckI_n (by omega) (by omega), n_cl (by omega), y2]; rfl
      · refine Or.inr ⟨i + 1 + 1 + 1, nI (i + 1 + 1 + 1), (1 : Int32), nI nu, kn, ud, ue, _, _, by omega, ?_, rfl, Or.inr ⟨rfl, c⟩⟩
        rw [t_stopN h (by omega) c, bd3_n, if_neg (ne_neg (by have := hP (i + 1 + 1 + 1) (by omega); omega))]
    · refine Or.inr ⟨i + 1 + 1, nI (i + 1 + 1), (0 : Int32), nI nu, kn, ud, ue, f, upd vs 0 (nI (v (i + 1))), by omega, ?_, ?_, Or.inl rfl⟩
      · rw [r4, bd4_n, t_stopF (hP _ (by omega)), bd3_n, if_neg (ne_neg (by have := hP (i + 1 + 1) (by omega); omega))]
      · rw [r5, bd6_n, if_pos rfl]
  · refine Or.inr ⟨i + 1, nI (i + 1), (0 : Int32), nI nu, kn, ud, ue, f, vs, by omega, ?_, ?_, Or.inl rfl⟩
    · rw [p4, bd4_n, t_numF (by omega) (hP _ (by omega)), bd4_n, t_stopF (hP _ (by omega)), bd3_n, if_neg (ne_neg (by have := hP (i + 1) (by omega); omega))]
    · rw [p5, bd6_n, if_pos rfl]
theorem it_one (h : TKS n mb tok st va m P C v L K V) {i lw ni nm : Nat} {x : Int32} {kn kd tr mi md me mv mt f vs : Nat → Int32} (hi : i < m) (hR : RO lw ni nm kn kd tr mi md me mv mt f) :
    (∃ (j ni' : Nat) (kd' tr' f' vs' : Nat → Int32), i < j ∧ j < m ∧ C j = 2 ∧ RO lw ni' nm kn kd' tr' mi md me mv mt f' ∧ f_X1_takeInspector (nI i) x (-1 : Int32) tok st va (nI ni) kd tr = some (nI (j + 1), nI (C (j + 1)), (-1 : Int32), nI ni', kd', tr') ∧ f_X5_takesOne (nI n) (nI (P i)) (L i) (K i) (V i) mb f vs = some ((1 : Int32), nI (P j), L j, K j, V j, f', vs')) ∨
    (∃ (j : Nat) (a z o1 : Int32) (o2 o3 f' vs' : Nat → Int32), j ≤ m ∧ f_X1_takeInspector (nI i) x (-1 : Int32) tok st va (nI ni) kd tr = some (a, (1 : Int32), nI (P j), o1, o2, o3) ∧ f_X5_takesOne (nI n) (nI (P i)) (L i) (K i) (V i) mb f vs = some (z, nI (P j), L j, K j, V j, f', vs') ∧ (z = (0 : Int32) ∨ (z = (1 : Int32) ∧ ¬ C j = 2))) := by
  have h150 := h.1.1
  have hn := hR.2.1.2
  have hf0 : f (Int32.toNatClampNeg (0 : Int32)) = nI ni := hR.2.1.1
  have hP : ∀ j, j ≤ m → P j < 1000 := fun j hj => by have := (h.2.1 j hj).2.2.2.1; omega
  have hA : ∀ y, f_X1_takeIf (1 : Int32) (nI i) x y tok st = some (nI (i + 1), nI (C (i + 1)), y) := fun y => by
    unfold f_X1_takeIf
    rw [if_neg (by decide), t_adv h hi]; rfl
  unfold f_X1_takeInspector f_X5_takesOne
  rw [hf0]
  by_cases c4 : ni < 4
  · rw [if_neg (show ¬ (4 : Int32) ≤ nI ni from show ¬ nI 4 ≤ nI ni by rw [n_le (by omega) (by omega)]; omega), if_neg (show ¬ nI ni = (4 : Int32) from fun z => by have := (n_eq (b := 4) (by omega) (by omega)).mp z; omega), hA, bd3_n, h.2.2.1 i hi, bd4_n]
    rcases num2 h (i := i + 1) (k := 0) (l := 6) (x1 := 0) (x2 := 6) (x3 := 5) (by omega) (by omega) (by omega) rfl rfl rfl vs with ⟨p1, p2, p3, p4, p5⟩ | ⟨p3, p4, p5⟩
    · rw [p4, bd4_n, p5, bd6_n, if_neg (by decide)]
      rcases num2 h (i := i + 1 + 1) (k := 1) (l := 10) (x1 := 1) (x2 := 10) (x3 := 9) (by omega) (by omega) (by omega) rfl rfl rfl (upd vs 0 (nI (v (i + 1)))) with ⟨r1, r2, r3, r4, r5⟩ | ⟨r3, r4, r5⟩
      · have z0 : upd (upd vs 0 (nI (v (i + 1)))) 1 (nI (v (i + 1 + 1))) (Int32.toNatClampNeg (0 : Int32)) = nI (v (i + 1)) := rfl
        have z1 : upd (upd vs 0 (nI (v (i + 1)))) 1 (nI (v (i + 1 + 1))) (Int32.toNatClampNeg (1 : Int32)) = nI (v (i + 1 + 1)) := rfl
        rw [r4, bd4_n, r5, bd6_n, if_neg (by decide), z0, z1, m_layOne58 hR.2.1.1 c4, bd1_n]
        by_cases c : C (i + 1 + 1 + 1) = 2
        · have hj := tk_lt h (i := i + 1 + 1 + 1) (by omega) (by omega)
          refine Or.inl ⟨i + 1 + 1 + 1, ni + 1, upd kd ni (nI (v (i + 1))), upd tr ni (nI (v (i + 1 + 1))), _, upd (upd vs 0 (nI (v (i + 1)))) 1 (nI (v (i + 1 + 1))), by omega, hj, c, RO_one c4 hR, ?_, rfl⟩
          rw [t_stop h hj c, bd3_n, if_pos rfl]
          unfold f_X0_addInspector
          rw [if_neg (show ¬ (4 : Int32) ≤ nI ni from show ¬ nI 4 ≤ nI ni by rw [n_le (by omega) (by omega)]; omega), ckI_n (by omega) (by omega), n_cl (by omega), show nI ni + 1 = nI (ni + 1) from n_add ni 1]; rfl
        · refine Or.inr ⟨i + 1 + 1 + 1, nI (i + 1 + 1 + 1), (1 : Int32), nI ni, kd, tr, _, _, by omega, ?_, rfl, Or.inr ⟨rfl, c⟩⟩
          rw [t_stopN h (by omega) c, bd3_n, if_neg (ne_neg (by have := hP (i + 1 + 1 + 1) (by omega); omega))]
      · refine Or.inr ⟨i + 1 + 1, nI (i + 1 + 1), (0 : Int32), nI ni, kd, tr, f, upd vs 0 (nI (v (i + 1))), by omega, ?_, ?_, Or.inl rfl⟩
        · rw [r4, bd4_n, t_stopF (hP _ (by omega)), bd3_n, if_neg (ne_neg (by have := hP (i + 1 + 1) (by omega); omega))]
        · rw [r5, bd6_n, if_pos rfl]
    · refine Or.inr ⟨i + 1, nI (i + 1), (0 : Int32), nI ni, kd, tr, f, vs, by omega, ?_, ?_, Or.inl rfl⟩
      · rw [p4, bd4_n, t_numF (by omega) (hP _ (by omega)), bd4_n, t_stopF (hP _ (by omega)), bd3_n, if_neg (ne_neg (by have := hP (i + 1) (by omega); omega))]
      · rw [p5, bd6_n, if_pos rfl]
  · have e4 : ni = 4 := by omega
    subst e4
    refine Or.inr ⟨i, nI i, (0 : Int32), nI 4, kd, tr, f, vs, by omega, ?_, ?_, Or.inl rfl⟩
    · have hB : f_X1_takeIf (0 : Int32) (nI i) x (-1 : Int32) tok st = some (nI i, (1 : Int32), nI (P i)) := by
        unfold f_X1_takeIf
        rw [if_pos rfl, t_rej h (by omega)]; rfl
      rw [if_pos (show (4 : Int32) ≤ nI 4 by decide), hB, bd3_n, t_numF (by omega) (hP _ (by omega)), bd4_n, t_numF (by omega) (hP _ (by omega)), bd4_n, t_stopF (hP _ (by omega)), bd3_n, if_neg (ne_neg (by have := hP i (by omega); omega))]
    · rw [if_pos (show nI 4 = (4 : Int32) from rfl)]
end
