/-! read: steps over tokens, on both sides -/
def RO (lw ni nm : Nat) (kn kd tr mi md me mv mt f : Nat → Int32) : Prop :=
  (f 1 = nI lw ∧ lw < 65536) ∧ (f 0 = nI ni ∧ ni ≤ 4) ∧ f 3 = nI nm ∧ f 2 = nI 0 ∧ (∀ d, d < 6 → f (4 + d) = kn d ∧ KOK (kn d)) ∧ (∀ i, i < ni → f (14 + i) = kd i ∧ f (10 + i) = tr i) ∧ MI nm ni mi md me ∧ MR nm f mi md me mv mt
theorem RO.ok4 {lw ni nm : Nat} {kn kd tr mi md me mv mt ud ue f f' : Nat → Int32} (h : RO lw ni nm kn kd tr mi md me mv mt f) (hf : ∀ j, j < 58 → f' j = f j) : OK4 lw ni nm 0 kn kd tr mi md me mv mt ud ue f' := by
  obtain ⟨⟨a1, a2⟩, ⟨b1, b2⟩, c1, d1, e1, f1, g1, k1⟩ := h
  have h8 := g1.1
  refine ⟨⟨by rw [hf _ (by omega)]; exact a1, a2⟩, ⟨by rw [hf _ (by omega)]; exact b1, b2⟩, by rw [hf _ (by omega)]; exact c1, ⟨by rw [hf _ (by omega)]; exact d1, by omega⟩, fun d hd => ?_, fun i hi => ?_, g1, fun j hj => ?_, trivial⟩
  · rw [hf _ (by omega)]; exact e1 d hd
  · rw [hf _ (by omega), hf _ (by omega)]; exact f1 i hi
  · rw [hf _ (by omega), hf _ (by omega), hf _ (by omega), hf _ (by omega), hf _ (by omega)]; exact k1 j hj
theorem RO_law {lw ni nm a b : Nat} {kn kd tr mi md me mv mt f : Nat → Int32} (ha : a < 4) (hb : b < 4) (h : RO lw ni nm kn kd tr mi md me mv mt f) : RO (lw ||| 2 ^ (4 * a + b)) ni nm kn kd tr mi md me mv mt (upd f 1 (nI (lw ||| 2 ^ (4 * a + b)))) := by
  obtain ⟨⟨a1, a2⟩, ⟨b1, b2⟩, c1, d1, e1, f1, g1, k1⟩ := h
  refine ⟨⟨pk_us, or_lt16 a2 (by omega)⟩, ⟨by rw [pk_un (by omega)]; exact b1, b2⟩, by rw [pk_un (by omega)]; exact c1, by rw [pk_un (by omega)]; exact d1, fun d hd => ?_, fun i hi => ?_, g1, fun j hj => ?_⟩
  · rw [pk_un (by omega)]; exact e1 d hd
  · rw [pk_un (by omega), pk_un (by omega)]; exact f1 i hi
  · rw [pk_un (by omega), pk_un (by omega), pk_un (by omega), pk_un (by omega), pk_un (by omega)]; exact k1 j hj
theorem RO_known {lw ni nm d e : Nat} {kn kd tr mi md me mv mt f : Nat → Int32} (hd : d < 6) (he : e < 4) (h : RO lw ni nm kn kd tr mi md me mv mt f) : RO lw ni nm (upd kn d (nI e)) kd tr mi md me mv mt (upd f (4 + d) (nI e)) := by
  obtain ⟨⟨a1, a2⟩, ⟨b1, b2⟩, c1, d1, e1, f1, g1, k1⟩ := h
  refine ⟨⟨by rw [pk_un (by omega)]; exact a1, a2⟩, ⟨by rw [pk_un (by omega)]; exact b1, b2⟩, by rw [pk_un (by omega)]; exact c1, by rw [pk_un (by omega)]; exact d1, fun x hx => ?_, fun i hi => ?_, g1, fun j hj => ?_⟩
  · by_cases q : x = d
    · subst q
      rw [pk_us, pk_us]
      exact ⟨rfl, Or.inr ⟨e, he, rfl⟩⟩
    · rw [pk_un (by omega), pk_un q]; exact e1 x hx
  · rw [pk_un (by omega), pk_un (by omega)]; exact f1 i hi
  · rw [pk_un (by omega), pk_un (by omega), pk_un (by omega), pk_un (by omega), pk_un (by omega)]; exact k1 j hj
theorem RO_one {lw ni nm x y : Nat} {kn kd tr mi md me mv mt f : Nat → Int32} (c : ni < 4) (h : RO lw ni nm kn kd tr mi md me mv mt f) : RO lw (ni + 1) nm kn (upd kd ni (nI x)) (upd tr ni (nI y)) mi md me mv mt (upd (upd (upd f (14 + ni) (nI x)) (10 + ni) (nI y)) 0 (nI (ni + 1))) := by
  obtain ⟨⟨a1, a2⟩, ⟨b1, b2⟩, c1, d1, e1, f1, ⟨g0, g1⟩, k1⟩ := h
  have hu : ∀ j, j ≠ 14 + ni → j ≠ 10 + ni → j ≠ 0 → upd (upd (upd f (14 + ni) (nI x)) (10 + ni) (nI y)) 0 (nI (ni + 1)) j = f j := fun j z1 z2 z3 => by rw [pk_un z3, pk_un z2, pk_un z1]
  refine ⟨⟨by rw [hu _ (by omega) (by omega) (by omega)]; exact a1, a2⟩, ⟨pk_us, by omega⟩, by rw [hu _ (by omega) (by omega) (by omega)]; exact c1, by rw [hu _ (by omega) (by omega) (by omega)]; exact d1, fun d hd => ?_, fun i hi => ?_, ⟨g0, fun j hj => ?_⟩, fun j hj => ?_⟩
  · rw [hu _ (by omega) (by omega) (by omega)]; exact e1 d hd
  · by_cases z : i = ni
    · subst z
      constructor
      · rw [pk_un (by omega), pk_un (by omega), pk_us]
        exact pk_us.symm
      · rw [pk_un (by omega), pk_us]
        exact pk_us.symm
    · rw [hu _ (by omega) (by omega) (by omega), hu _ (by omega) (by omega) (by omega)]
      have := f1 i (by omega)
      exact ⟨by rw [this.1]; exact (pk_un z).symm, by rw [this.2]; exact (pk_un z).symm⟩
  · obtain ⟨⟨w, hw1, hw2⟩, r⟩ := g1 j hj
    exact ⟨⟨w, by omega, hw2⟩, r⟩
  · have h8 : j < 8 := by omega
    rw [hu _ (by omega) (by omega) (by omega), hu _ (by omega) (by omega) (by omega), hu _ (by omega) (by omega) (by omega), hu _ (by omega) (by omega) (by omega), hu _ (by omega) (by omega) (by omega)]; exact k1 j hj
theorem RO_mark {lw ni nm i d e : Nat} {x : Int32} {kn kd tr mi md me mv mt f : Nat → Int32} (hm : nm < 8) (hi : i < ni) (hd : d < 6) (he1 : 1 ≤ e) (he : e < 15) (h : RO lw ni nm kn kd tr mi md me mv mt f) : RO lw ni (nm + 1) kn kd (upd tr i (tr i + nI 1)) (upd mi nm (nI i)) (upd md nm (nI d)) (upd me nm (nI e)) (upd mv nm x) (upd mt nm (tr i)) (lmF f nm i (nI i) (nI d) (nI e) x) := by
  obtain ⟨⟨a1, a2⟩, ⟨b1, b2⟩, c1, d1, e1, f1, ⟨g0, g1⟩, k1⟩ := h
  have hti : f (10 + i) = tr i := (f1 i hi).2
  have hu : ∀ j, j ≠ 10 + i → j ≠ 3 → (j < 18 + 5 * nm ∨ 18 + 5 * nm + 4 < j) → lmF f nm i (nI i) (nI d) (nI e) x j = f j := fun j h2 h3 h4 => by
    rw [lm_lo (by omega) (by omega) (by omega) (by omega) (by omega) h2 h3]
  refine ⟨⟨by rw [hu _ (by omega) (by omega) (by omega)]; exact a1, a2⟩, ⟨by rw [hu _ (by omega) (by omega) (by omega)]; exact b1, b2⟩, pk_us, by rw [hu _ (by omega) (by omega) (by omega)]; exact d1, fun dd hdd => ?_, fun ii hii => ?_, ⟨by omega, fun j hj => ?_⟩, fun j hj => ?_⟩
  · rw [hu _ (by omega) (by omega) (by omega)]; exact e1 dd hdd
  · rw [hu _ (by omega) (by omega) (by omega)]
    refine ⟨(f1 ii hii).1, ?_⟩
    by_cases q : ii = i
    · subst q
      unfold lmF
      rw [pk_un (by omega), pk_us, pk_us, hti]
    · rw [hu _ (by omega) (by omega) (by omega), pk_un q]; exact (f1 ii hii).2
  · by_cases q : j = nm
    · subst q
      rw [pk_us, pk_us, pk_us]
      exact ⟨⟨i, hi, rfl⟩, ⟨d, hd, rfl⟩, e, he1, he, rfl⟩
    · rw [pk_un q, pk_un q, pk_un q]; exact g1 j (by omega)
  · by_cases q : j = nm
    · subst q
      rw [pk_us, pk_us, pk_us, pk_us, pk_us]
      unfold lmF
      refine ⟨?_, ?_, ?_, ?_, ?_⟩
      · rw [pk_un (by omega), pk_un (by omega), pk_un (by omega), pk_un (by omega), pk_un (by omega), pk_un (by omega), pk_us]
      · rw [pk_un (by omega), pk_un (by omega), pk_un (by omega), pk_un (by omega), pk_un (by omega), pk_us]
      · rw [pk_un (by omega), pk_un (by omega), pk_un (by omega), pk_un (by omega), pk_us]
      · rw [pk_un (by omega), pk_un (by omega), pk_un (by omega), pk_us]
      · rw [pk_un (by omega), pk_un (by omega), pk_us, hti]
    · have hj' : j < nm := by omega
      rw [hu _ (by omega) (by omega) (by omega), hu _ (by omega) (by omega) (by omega), hu _ (by omega) (by omega) (by omega), hu _ (by omega) (by omega) (by omega), hu _ (by omega) (by omega) (by omega), pk_un q, pk_un q, pk_un q, pk_un q, pk_un q]
      exact k1 j hj'
section
variable {n m : Nat} {mb tok st va : Nat → Int32} {P C v : Nat → Nat} {L K V : Nat → Int32}
theorem tk_lt (h : TKS n mb tok st va m P C v L K V) {i : Nat} (hi : i ≤ m) (hc : ¬ C i = 0) : i < m := by
  rcases Nat.lt_or_ge i m with q | q
  · exact q
  · have e : i = m := by omega
    rw [e] at hc
    exact absurd h.1.2 hc
theorem t_adv (h : TKS n mb tok st va m P C v L K V) {i : Nat} {x : Int32} (hi : i < m) : f_X1_advance (nI i) x tok = some (nI (i + 1), nI (C (i + 1))) := by
  have h150 := h.1.1
  unfold f_X1_advance f_X1_advance_J20
  rw [if_neg (show ¬ (150 : Int32) ≤ nI i from show ¬ nI 150 ≤ nI i by rw [n_le (by omega) (by omega)]; omega), show nI i + 1 = nI (i + 1) from n_add i 1, ckI_n (by omega) (by omega), n_cl (by omega), (h.2.1 (i + 1) (by omega)).1]
theorem t_rej (h : TKS n mb tok st va m P C v L K V) {i : Nat} {x : Int32} (hi : i ≤ m) : f_X1_reject (nI i) x (-1 : Int32) st = some ((1 : Int32), nI (P i)) := by
  have h150 := h.1.1
  unfold f_X1_reject
  rw [if_pos rfl, ckI_n (by omega) (by omega), n_cl (by omega), (h.2.1 i hi).2.1]
theorem t_rejF {i s : Nat} {x : Int32} (hs : s < 1000) : f_X1_reject (nI i) x (nI s) st = some ((1 : Int32), nI s) := by
  unfold f_X1_reject
  rw [if_neg (ne_neg (by omega))]
theorem t_stop (h : TKS n mb tok st va m P C v L K V) {i : Nat} (hi : i < m) (hc : C i = 2) : f_X1_takeStop (nI i) (nI (C i)) (-1 : Int32) tok st = some (nI (i + 1), nI (C (i + 1)), (-1 : Int32)) := by
  unfold f_X1_takeStop f_X1_takeIf
  rw [if_pos (show nI (C i) = (2 : Int32) by rw [hc]; rfl), if_neg (by decide), t_adv h hi]; rfl
theorem t_stopN (h : TKS n mb tok st va m P C v L K V) {i : Nat} (hi : i ≤ m) (hc : ¬ C i = 2) : f_X1_takeStop (nI i) (nI (C i)) (-1 : Int32) tok st = some (nI i, (1 : Int32), nI (P i)) := by
  have h9 := (h.2.1 i hi).2.2.2.2.1
  unfold f_X1_takeStop f_X1_takeIf
  rw [if_neg (show ¬ nI (C i) = (2 : Int32) from fun z => hc ((n_eq (b := 2) (by omega) (by omega)).mp z)), if_pos rfl, t_rej h hi]; rfl
theorem t_stopF {i s : Nat} (hs : s < 1000) : f_X1_takeStop (nI i) (1 : Int32) (nI s) tok st = some (nI i, (1 : Int32), nI s) := by
  unfold f_X1_takeStop f_X1_takeIf
  rw [if_neg (by decide), if_pos rfl, t_rejF hs]; rfl
theorem t_numF {i s : Nat} {x2 : Int32} (hi : i ≤ 150) (hs : s < 1000) : f_X1_takeNumber x2 (nI i) (1 : Int32) (nI s) tok st va = some ((0 : Int32), nI i, (1 : Int32), nI s) := by
  unfold f_X1_takeNumber f_X1_takeNumber_J23
  rw [ckI_n (by omega) (by omega), if_neg (by decide), t_rejF hs]; rfl
/-- a number below l, or not -/
theorem num2 (h : TKS n mb tok st va m P C v L K V) {i k l : Nat} {x1 x2 x3 : Int32} (hi : i ≤ m) (hl : l < 200) (hk : k < 4) (h1 : x1 = nI k) (h2 : x2 = nI l) (h3 : x3.toInt = (l : Int) - 1) (vs : Nat → Int32) :
    (i < m ∧ v i < l ∧ C i = 3 ∧ f_X1_takeNumber x2 (nI i) (nI (C i)) (-1 : Int32) tok st va = some (nI (v i), nI (i + 1), nI (C (i + 1)), (-1 : Int32)) ∧ f_X5_takes x1 (0 : Int32) x3 (nI n) (nI (P i)) (L i) (K i) (V i) mb vs = some ((1 : Int32), nI (P (i + 1)), L (i + 1), K (i + 1), V (i + 1), upd vs k (nI (v i)))) ∨
    (¬ (C i = 3 ∧ v i < l) ∧ f_X1_takeNumber x2 (nI i) (nI (C i)) (-1 : Int32) tok st va = some ((0 : Int32), nI i, (1 : Int32), nI (P i)) ∧ f_X5_takes x1 (0 : Int32) x3 (nI n) (nI (P i)) (L i) (K i) (V i) mb vs = some ((0 : Int32), nI (P i), L i, K i, V i, vs)) := by
  have h150 := h.1.1
  obtain ⟨g1, g2, g3, g4, g5, g6⟩ := h.2.1 i hi
  obtain ⟨k1, k2, k3, k4⟩ := h.2.2.2.1 i hi
  subst h1 h2
  unfold f_X1_takeNumber f_X1_takeNumber_J23 f_X5_takes
  rw [ckI_n (by omega) (by omega), n_cl (by omega), g3, t_rej h hi]
  by_cases c : C i = 3
  · have hlt := tk_lt h hi (by omega)
    have hin : f_X5_in (Int32.toInt64 (V i)) (Int32.toInt64 (0 : Int32)) (Int32.toInt64 x3) = nI (if v i < l then 1 else 0) := by
      rw [k4 c, m_in (lo := 0) (hi := (l : Int) - 1) (by rw [w_toInt]; rfl) (by rw [w_toInt]; exact h3), tN _ (by omega)]
      congr 1
      by_cases q : v i < l
      · rw [if_pos (by omega), if_pos q]
      · rw [if_neg (by omega), if_neg q]
    rw [if_pos (show nI (C i) = (3 : Int32) by rw [c]; rfl), if_pos (k1.mp c), hin]
    by_cases q : v i < l
    · refine Or.inl ⟨hlt, q, c, ?_, ?_⟩
      · rw [if_pos (by rw [n_lt (by omega) (by omega)]; exact q), t_adv h hlt]; rfl
      · rw [if_pos q, if_n1, ckI_n hk (by omega), h.2.2.1 i hlt, bd4_n, n_cl (by omega), k4 c]
    · refine Or.inr ⟨fun z => q z.2, ?_, ?_⟩
      · rw [if_neg (by rw [n_lt (by omega) (by omega)]; exact q)]; rfl
      · rw [if_neg q, if_n0]
  · refine Or.inr ⟨fun z => c z.1, ?_, ?_⟩
    · rw [if_neg (show ¬ nI (C i) = (3 : Int32) from fun z => c ((n_eq (b := 3) (by omega) (by omega)).mp z))]; rfl
    · rw [if_neg (fun z => c (k1.mpr z))]
theorem it_law (h : TKS n mb tok st va m P C v L K V) {i lw ni nm : Nat} {x : Int32} {kn kd tr mi md me mv mt f vs : Nat → Int32} (hi : i < m) (hR : RO lw ni nm kn kd tr mi md me mv mt f) :
    (∃ (j lw' : Nat) (f' vs' : Nat → Int32), i < j ∧ j < m ∧ C j = 2 ∧ RO lw' ni nm kn kd tr mi md me mv mt f' ∧ f_X1_takeLaw (nI i) x (-1 : Int32) tok st va (nI lw) = some (nI (j + 1), nI (C (j + 1)), (-1 : Int32), nI lw') ∧ f_X5_takesNever (nI n) (nI (P i)) (L i) (K i) (V i) mb f vs = some ((1 : Int32), nI (P j), L j, K j, V j, f', vs')) ∨
    (∃ (j : Nat) (a z lx : Int32) (f' vs' : Nat → Int32), j ≤ m ∧ f_X1_takeLaw (nI i) x (-1 : Int32) tok st va (nI lw) = some (a, (1 : Int32), nI (P j), lx) ∧ f_X5_takesNever (nI n) (nI (P i)) (L i) (K i) (V i) mb f vs = some (z, nI (P j), L j, K j, V j, f', vs') ∧ (z = (0 : Int32) ∨ (z = (1 : Int32) ∧ ¬ C j = 2))) := by
  have h150 := h.1.1
  have hP : ∀ j, j ≤ m → P j < 1000 := fun j hj => by have := (h.2.1 j hj).2.2.2.1; omega
  unfold f_X1_takeLaw f_X5_takesNever
  rw [t_adv h hi, bd2_n, h.2.2.1 i hi, bd4_n]
  rcases num2 h (i := i + 1) (k := 0) (l := 4) (x1 := 0) (x2 := 4) (x3 := 3) (by omega) (by omega) (by omega) rfl rfl rfl vs with ⟨p1, p2, p3, p4, p5⟩ | ⟨p3, p4, p5⟩
  · rw [p4, bd4_n, p5, bd6_n, if_neg (by decide)]
    rcases num2 h (i := i + 1 + 1) (k := 1) (l := 4) (x1 := 1) (x2 := 4) (x3 := 3) (by omega) (by omega) (by omega) rfl rfl rfl (upd vs 0 (nI (v (i + 1)))) with ⟨r1, r2, r3, r4, r5⟩ | ⟨r3, r4, r5⟩
    · rw [r4, bd4_n, r5, bd6_n, if_neg (by decide)]
      by_cases c : C (i + 1 + 1 + 1) = 2
      · have hj := tk_lt h (i := i + 1 + 1 + 1) (by omega) (by omega)
        refine Or.inl ⟨i + 1 + 1 + 1, lw ||| 2 ^ (4 * v (i + 1) + v (i + 1 + 1)), upd f 1 (nI (lw ||| 2 ^ (4 * v (i + 1) + v (i + 1 + 1)))), upd (upd vs 0 (nI (v (i + 1)))) 1 (nI (v (i + 1 + 1))), by omega, hj, c, RO_law p2 r2 hR, ?_, ?_⟩
        · rw [t_stop h hj c, bd3_n, if_pos rfl]
          unfold f_X0_addLaw
          rw [show (4 : Int32) = nI 4 from rfl, n_mul, n_add, n_shl (by omega), n_or]; rfl
        · have z0 : upd (upd vs 0 (nI (v (i + 1)))) 1 (nI (v (i + 1 + 1))) (Int32.toNatClampNeg (0 : Int32)) = nI (v (i + 1)) := rfl
          have z1 : upd (upd vs 0 (nI (v (i + 1)))) 1 (nI (v (i + 1 + 1))) (Int32.toNatClampNeg (1 : Int32)) = nI (v (i + 1 + 1)) := rfl
          have z2 : f (Int32.toNatClampNeg (1 : Int32)) = nI lw := hR.1.1
          rw [z0, z1, z2, show (4 : Int32) = nI 4 from rfl, n_mul, n_add, n_shl (by omega), n_or]; rfl
      · refine Or.inr ⟨i + 1 + 1 + 1, nI (i + 1 + 1 + 1), (1 : Int32), nI lw, _, _, by omega, ?_, rfl, Or.inr ⟨rfl, c⟩⟩
        rw [t_stopN h (by omega) c, bd3_n, if_neg (ne_neg (by have := hP (i + 1 + 1 + 1) (by omega); omega))]
    · refine Or.inr ⟨i + 1 + 1, nI (i + 1 + 1), (0 : Int32), nI lw, f, upd vs 0 (nI (v (i + 1))), by omega, ?_, ?_, Or.inl rfl⟩
      · rw [r4, bd4_n, t_stopF (hP _ (by omega)), bd3_n, if_neg (ne_neg (by have := hP (i + 1 + 1) (by omega); omega))]
      · rw [r5, bd6_n, if_pos rfl]
  · refine Or.inr ⟨i + 1, nI (i + 1), (0 : Int32), nI lw, f, vs, by omega, ?_, ?_, Or.inl rfl⟩
    · rw [p4, bd4_n, t_numF (by omega) (hP _ (by omega)), bd4_n, t_stopF (hP _ (by omega)), bd3_n, if_neg (ne_neg (by have := hP (i + 1) (by omega); omega))]
    · rw [p5, bd6_n, if_pos rfl]
end
