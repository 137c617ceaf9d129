theorem pc_or16 : ∀ ev, ev < 16 → ∀ k, k < 4 → ev.testBit k = false → pc 31 (ev ||| 2 ^ k) = pc 31 ev + 1 ∧ ev ||| 2 ^ k < 16 := by decide +kernel
theorem pc_rng16 : ∀ ev, ev < 16 → 1 ≤ pc 31 ev → pc 31 ev ≤ 3 → 1 ≤ ev ∧ ev < 15 := by decide +kernel
theorem pc_one4 : ∀ k, k < 4 → pc 31 (2 ^ k) = 1 ∧ 2 ^ k < 16 := by decide +kernel
theorem tb1 {x k : Nat} (hx : x < 2 ^ 31) (hk : k < 32) : ((nI x >>> (nI k &&& 31)) &&& (1 : Int32)) = (1 : Int32) ↔ x.testBit k = true := by
  have hm : x / 2 ^ k % 2 < 2 := Nat.mod_lt _ (by omega)
  rw [bitE hx hk, Nat.testBit_eq_decide_div_mod_eq, decide_eq_true_eq]
  exact n_eq (b := 1) (by omega) (by omega)
theorem x_addMark {nm nu a d ev mk : Nat} {tr mi md me mv mt ud ue : Nat → Int32} (hm : nm < 8) (ha : a < 4) (hu : nu ≤ 8) : ∃ (nu' : Nat) (ud' ue' : Nat → Int32), nu' ≤ 8 ∧ f_X0_addMark (nI a) (nI d) (nI ev) (nI mk) (nI nm) (nI nu) tr mi md me mv mt ud ue = some (nI (nm + 1), nI nu', upd tr a (tr a + nI 1), upd mi nm (nI a), upd md nm (nI d), upd me nm (nI ev), upd mv nm (nI mk), upd mt nm (tr a), ud', ue') := by
  obtain ⟨nu', ud', ue', y1, y2⟩ := x_rem (a := (-1 : Int32)) (b := (-1 : Int32)) (ud := ud) (ue := ue) hu
  refine ⟨nu', ud', ue', y1, ?_⟩
  unfold f_X0_addMark
  rw [if_neg (show ¬ (8 : Int32) ≤ nI nm from show ¬ nI 8 ≤ nI nm by rw [n_le (by omega) (by omega)]; omega), y2, bd3_n, ckI_n (by omega) (by omega), ckI_n (by omega) (by omega), n_cl (by omega), n_cl (by omega), show nI nm + 1 = nI (nm + 1) from n_add nm 1]
  rfl
section
variable {n m : Nat} {mb tok st va : Nat → Int32} {P C v : Nat → Nat} {L K V : Nat → Int32}
theorem j88_F {i s : Nat} {y3 y4 y5 y6 y8 y9 : Int32} {tr mi md me mv mt ud ue : Nat → Int32} (hs : s < 1000) : f_X1_takeMark_J88 tok st y3 y4 y5 y6 (nI i) (1 : Int32) (nI s) y8 y9 tr mi md me mv mt ud ue = some (nI i, (1 : Int32), nI s, y8, y9, tr, mi, md, me, mv, mt, ud, ue) := by
  unfold f_X1_takeMark_J88
  rw [t_stopF hs, bd3_n, if_neg (ne_neg (by omega))]
theorem b59_F {i s q : Nat} {y3 y4 y5 y6 y7 y8 y9 : Int32} {tr mi md me mv mt ud ue : Nat → Int32} (hs : s < 1000) (hq : 0 < q) : lq18 (f_X1_takeMark_B59 tok st va) q y3 y4 y5 y6 y7 (nI i) (1 : Int32) (nI s) y8 y9 tr mi md me mv mt ud ue = some (nI i, (1 : Int32), nI s, y8, y9, tr, mi, md, me, mv, mt, ud, ue) := by
  obtain ⟨q, rfl⟩ : ∃ z, q = z + 1 := ⟨q - 1, by omega⟩
  show f_X1_takeMark_B59 tok st va (lq18 (f_X1_takeMark_B59 tok st va) q) y3 y4 y5 y6 y7 (nI i) (1 : Int32) (nI s) y8 y9 tr mi md me mv mt ud ue = _
  unfold f_X1_takeMark_B59
  rw [j88_F hs, if_neg (show ¬ (1 : Int32) = 3 by decide)]
  split <;> rfl
/-- the end of a mark, at a token that is no number or behind three events -/
theorem mk_end (h : TKS n mb tok st va m P C v L K V) {j lw ni nm nu a d ev mk : Nat} {kn kd tr mi md me mv mt ud ue f : Nat → Int32} (hj : j ≤ m) (hu : nu ≤ 8) (hR : RO lw ni nm kn kd tr mi md me mv mt f) (hm : nm < 8) (ha : a < ni) (hd : d < 6) (he1 : 1 ≤ ev) (he : ev < 15) :
    (∃ (nu' : Nat) (tr' mi' md' me' mv' mt' ud' ue' f' : Nat → Int32), j < m ∧ C j = 2 ∧ nu' ≤ 8 ∧ RO lw ni (nm + 1) kn kd tr' mi' md' me' mv' mt' f' ∧ f_X1_takeMark_J88 tok st (nI a) (nI d) (nI mk) (nI ev) (nI j) (nI (C j)) (-1 : Int32) (nI nm) (nI nu) tr mi md me mv mt ud ue = some (nI (j + 1), nI (C (j + 1)), (-1 : Int32), nI (nm + 1), nI nu', tr', mi', md', me', mv', mt', ud', ue') ∧ f_X5_layMark (nI a) (nI d) (nI ev) (nI mk) 58 f = some f') ∨
    (¬ C j = 2 ∧ f_X1_takeMark_J88 tok st (nI a) (nI d) (nI mk) (nI ev) (nI j) (nI (C j)) (-1 : Int32) (nI nm) (nI nu) tr mi md me mv mt ud ue = some (nI j, (1 : Int32), nI (P j), nI nm, nI nu, tr, mi, md, me, mv, mt, ud, ue) ∧ ∃ f', f_X5_layMark (nI a) (nI d) (nI ev) (nI mk) 58 f = some f') := by
  have hn := hR.2.1.2
  have hP : ∀ j, j ≤ m → P j < 1000 := fun j hj => by have := (h.2.1 j hj).2.2.2.1; omega
  have hL := m_layMark58 (i := a) (x2 := nI d) (x3 := nI ev) (x4 := nI mk) hR.2.2.1 hm (by omega)
  unfold f_X1_takeMark_J88
  by_cases c : C j = 2
  · have hj' := tk_lt h hj (by omega)
    obtain ⟨nu', ud', ue', y1, y2⟩ := x_addMark (d := d) (ev := ev) (mk := mk) (tr := tr) (mi := mi) (md := md) (me := me) (mv := mv) (mt := mt) (ud := ud) (ue := ue) hm (show a < 4 by omega) hu
    refine Or.inl ⟨nu', _, _, _, _, _, _, ud', ue', _, hj', c, y1, RO_mark (x := nI mk) hm ha hd he1 he hR, ?_, hL⟩
    rw [t_stop h hj' c, bd3_n, if_pos rfl, y2]; rfl
  · refine Or.inr ⟨c, ?_, _, hL⟩
    rw [t_stopN h hj c, bd3_n, if_neg (ne_neg (by have := hP j hj; omega))]
theorem mk_step (h : TKS n mb tok st va m P C v L K V) {lw ni nm nu a d mk : Nat} {kn kd tr mi md me mv mt ud ue f : Nat → Int32} (hu : nu ≤ 8) (hR : RO lw ni nm kn kd tr mi md me mv mt f) (hm : nm < 8) (ha : a < ni) (hd : d < 6) (r : Nat) (ih : ∀ r', r' + 1 = r → ∀ (c ev j q q2 : Nat) (vs : Nat → Int32), c + r' = 3 → 1 ≤ c → ev < 16 → pc 31 ev = c → j ≤ m → r' < q → r' < q2 → vs 0 = nI a → vs 1 = nI d → vs 2 = nI mk →
    (∃ (jj nu' : Nat) (tr' mi' md' me' mv' mt' ud' ue' f' vs' : Nat → Int32), j ≤ jj ∧ jj < m ∧ C jj = 2 ∧ nu' ≤ 8 ∧ RO lw ni (nm + 1) kn kd tr' mi' md' me' mv' mt' f' ∧ lq18 (f_X1_takeMark_B59 tok st va) q (nI a) (nI d) (nI mk) (nI ev) (nI c) (nI j) (nI (C j)) (-1 : Int32) (nI nm) (nI nu) tr mi md me mv mt ud ue = some (nI (jj + 1), nI (C (jj + 1)), (-1 : Int32), nI (nm + 1), nI nu', tr', mi', md', me', mv', mt', ud', ue') ∧ lq7 (f_X5_takesMark_B58 (nI n) mb) q2 (nI ev) (nI (P j)) (L j) (K j) (V j) f vs = some ((1 : Int32), nI (P jj), L jj, K jj, V jj, f', vs')) ∨
    (∃ (jj : Nat) (x z o1 o2 : Int32) (o3 o4 o5 o6 o7 o8 o9 o10 f' vs' : Nat → Int32), jj ≤ m ∧ lq18 (f_X1_takeMark_B59 tok st va) q (nI a) (nI d) (nI mk) (nI ev) (nI c) (nI j) (nI (C j)) (-1 : Int32) (nI nm) (nI nu) tr mi md me mv mt ud ue = some (x, (1 : Int32), nI (P jj), o1, o2, o3, o4, o5, o6, o7, o8, o9, o10) ∧ lq7 (f_X5_takesMark_B58 (nI n) mb) q2 (nI ev) (nI (P j)) (L j) (K j) (V j) f vs = some (z, nI (P jj), L jj, K jj, V jj, f', vs') ∧ (z = (0 : Int32) ∨ (z = (1 : Int32) ∧ ¬ C jj = 2)))) : ∀ (c ev j q q2 : Nat) (vs : Nat → Int32), c + r = 3 → 1 ≤ c → ev < 16 → pc 31 ev = c → j ≤ m → r < q → r < q2 → vs 0 = nI a → vs 1 = nI d → vs 2 = nI mk →
    (∃ (jj nu' : Nat) (tr' mi' md' me' mv' mt' ud' ue' f' vs' : Nat → Int32), j ≤ jj ∧ jj < m ∧ C jj = 2 ∧ nu' ≤ 8 ∧ RO lw ni (nm + 1) kn kd tr' mi' md' me' mv' mt' f' ∧ lq18 (f_X1_takeMark_B59 tok st va) q (nI a) (nI d) (nI mk) (nI ev) (nI c) (nI j) (nI (C j)) (-1 : Int32) (nI nm) (nI nu) tr mi md me mv mt ud ue = some (nI (jj + 1), nI (C (jj + 1)), (-1 : Int32), nI (nm + 1), nI nu', tr', mi', md', me', mv', mt', ud', ue') ∧ lq7 (f_X5_takesMark_B58 (nI n) mb) q2 (nI ev) (nI (P j)) (L j) (K j) (V j) f vs = some ((1 : Int32), nI (P jj), L jj, K jj, V jj, f', vs')) ∨
    (∃ (jj : Nat) (x z o1 o2 : Int32) (o3 o4 o5 o6 o7 o8 o9 o10 f' vs' : Nat → Int32), jj ≤ m ∧ lq18 (f_X1_takeMark_B59 tok st va) q (nI a) (nI d) (nI mk) (nI ev) (nI c) (nI j) (nI (C j)) (-1 : Int32) (nI nm) (nI nu) tr mi md me mv mt ud ue = some (x, (1 : Int32), nI (P jj), o1, o2, o3, o4, o5, o6, o7, o8, o9, o10) ∧ lq7 (f_X5_takesMark_B58 (nI n) mb) q2 (nI ev) (nI (P j)) (L j) (K j) (V j) f vs = some (z, nI (P jj), L jj, K jj, V jj, f', vs') ∧ (z = (0 : Int32) ∨ (z = (1 : Int32) ∧ ¬ C jj = 2))) := by
  intro c ev j q q2 vs hc hc1 hev hpc hj hq hq2 v0 v1 v2
  have h150 := h.1.1
  have hn := hR.2.1.2
  have hP : ∀ j, j ≤ m → P j < 1000 := fun j hj => by have := (h.2.1 j hj).2.2.2.1; omega
  obtain ⟨g1, g2, g3, g4, g5, g6⟩ := h.2.1 j hj
  obtain ⟨k1, k2, k3, k4⟩ := h.2.2.2.1 j hj
  obtain ⟨e1, e2⟩ := pc_rng16 ev hev (by omega) (by omega)
  obtain ⟨q, rfl⟩ : ∃ z, q = z + 1 := ⟨q - 1, by omega⟩
  obtain ⟨q2, rfl⟩ : ∃ z, q2 = z + 1 := ⟨q2 - 1, by omega⟩
  have X : ∀ w, lq18 (f_X1_takeMark_B59 tok st va) (q + 1) (nI a) (nI d) (nI mk) (nI ev) (nI c) (nI j) (nI (C j)) (-1 : Int32) (nI nm) (nI nu) tr mi md me mv mt ud ue = w ↔ f_X1_takeMark_B59 tok st va (lq18 (f_X1_takeMark_B59 tok st va) q) (nI a) (nI d) (nI mk) (nI ev) (nI c) (nI j) (nI (C j)) (-1 : Int32) (nI nm) (nI nu) tr mi md me mv mt ud ue = w := fun w => Iff.rfl
  have M : ∀ w, lq7 (f_X5_takesMark_B58 (nI n) mb) (q2 + 1) (nI ev) (nI (P j)) (L j) (K j) (V j) f vs = w ↔ f_X5_takesMark_B58 (nI n) mb (lq7 (f_X5_takesMark_B58 (nI n) mb) q2) (nI ev) (nI (P j)) (L j) (K j) (V j) f vs = w := fun w => Iff.rfl
  have t0 : vs (Int32.toNatClampNeg (0 : Int32)) = nI a := v0
  have t1 : vs (Int32.toNatClampNeg (1 : Int32)) = nI d := v1
  have t2 : vs (Int32.toNatClampNeg (2 : Int32)) = nI mk := v2
  have hC3 : nI (C j) = (3 : Int32) ↔ C j = 3 := n_eq (b := 3) (by omega) (by omega)
  have hc3 : (3 : Int32) ≤ nI c ↔ 3 ≤ c := n_le (a := 3) (by omega) (by omega)
  -- where it ends
  have fin : (3 ≤ c ∨ ¬ C j = 3) → f_X1_takeMark_B59 tok st va (lq18 (f_X1_takeMark_B59 tok st va) q) (nI a) (nI d) (nI mk) (nI ev) (nI c) (nI j) (nI (C j)) (-1 : Int32) (nI nm) (nI nu) tr mi md me mv mt ud ue = f_X1_takeMark_J88 tok st (nI a) (nI d) (nI mk) (nI ev) (nI j) (nI (C j)) (-1 : Int32) (nI nm) (nI nu) tr mi md me mv mt ud ue := by
    intro z
    unfold f_X1_takeMark_B59
    by_cases y : 3 ≤ c
    · rw [if_pos (hc3.mpr y)]
    · rw [if_neg (fun w => y (hc3.mp w)), if_neg (fun w => by have := hC3.mp w; omega)]
  by_cases cn : C j = 3
  · by_cases y : 3 ≤ c
    · -- a fourth one
      rcases mk_end (mk := mk) (ud := ud) (ue := ue) h hj hu hR hm ha hd e1 e2 with ⟨nu', tr', mi', md', me', mv', mt', ud', ue', f', w1, w2, w3, w4, w5, w6⟩ | ⟨w1, w2, f', w3⟩
      · omega
      · refine Or.inr ⟨j, _, (0 : Int32), _, _, _, _, _, _, _, _, _, _, f, vs, hj, (X _).mpr ((fin (Or.inl y)).trans w2), (M _).mpr ?_, Or.inl rfl⟩
        unfold f_X5_takesMark_B58
        rw [if_pos (k1.mp cn), m_bits (by omega), bd1_n, hpc, if_pos (show nI c = (3 : Int32) by rw [show c = 3 by omega]; rfl)]
    · have hMB : f_X5_takesMark_B58 (nI n) mb (lq7 (f_X5_takesMark_B58 (nI n) mb) q2) (nI ev) (nI (P j)) (L j) (K j) (V j) f vs = if v j < 4 ∧ ev.testBit (v j) = true then some ((0 : Int32), nI (P j), L j, K j, V j, f, vs) else f_X5_takesMark_J93 (nI n) mb (lq7 (f_X5_takesMark_B58 (nI n) mb) q2) (nI ev) (nI (P j)) (L j) (K j) (V j) f vs := by
        unfold f_X5_takesMark_B58
        rw [if_pos (k1.mp cn), m_bits (by omega), bd1_n, hpc, if_neg (show ¬ nI c = (3 : Int32) from fun w => by have := (n_eq (b := 3) (by omega) (by omega)).mp w; omega), k4 cn]
        by_cases y4 : v j < 4
        · rw [if_neg (show ¬ (4 : Int32) ≤ nI (v j) from show ¬ nI 4 ≤ nI (v j) by rw [n_le (by omega) (by omega)]; omega), show f_X5_has (nI ev) (nI (v j)) = f_X4_truth (nI ev) (nI (v j)) from rfl, tr_bit (by omega) (by omega)]
          cases hb : ev.testBit (v j) with
          | true => rw [if_pos rfl, if_neg (by decide), if_pos ⟨y4, rfl⟩]
          | false => rw [if_neg Bool.false_ne_true, if_pos rfl, if_neg (fun w => by cases w.2)]
        · rw [if_pos (show (4 : Int32) ≤ nI (v j) from show nI 4 ≤ nI (v j) by rw [n_le (by omega) (by omega)]; omega), if_neg (fun w => y4 w.1)]
      have hXB : f_X1_takeMark_B59 tok st va (lq18 (f_X1_takeMark_B59 tok st va) q) (nI a) (nI d) (nI mk) (nI ev) (nI c) (nI j) (nI (C j)) (-1 : Int32) (nI nm) (nI nu) tr mi md me mv mt ud ue = bd4 (f_X1_takeUnlike (nI ev) (nI j) (nI (C j)) (-1 : Int32) tok st va) fun z44 u45 u46 u47 => lq18 (f_X1_takeMark_B59 tok st va) q (nI a) (nI d) (nI mk) z44 (nI (c + 1)) u45 u46 u47 (nI nm) (nI nu) tr mi md me mv mt ud ue := by
        unfold f_X1_takeMark_B59
        rw [if_neg (fun w => y (hc3.mp w)), if_pos (hC3.mpr cn), show nI c + 1 = nI (c + 1) from n_add c 1]
      have hUn : f_X1_takeUnlike (nI ev) (nI j) (nI (C j)) (-1 : Int32) tok st va = if v j < 4 ∧ ev.testBit (v j) = true then some (nI ev, nI j, (1 : Int32), nI (P j)) else f_X1_takeUnlike_J31 (nI ev) tok st va (nI j) (nI (C j)) (-1 : Int32) := by
        unfold f_X1_takeUnlike
        rw [ckI_n (by omega) (by omega), n_cl (by omega), g3, t_rej h hj]
        by_cases y4 : v j < 4
        · rw [if_neg (show ¬ (4 : Int32) ≤ nI (v j) from show ¬ nI 4 ≤ nI (v j) by rw [n_le (by omega) (by omega)]; omega)]
          by_cases hb : ev.testBit (v j) = true
          · rw [if_pos ((tb1 (by omega) (by omega)).mpr hb), if_pos ⟨y4, hb⟩]; rfl
          · rw [if_neg (fun w => hb ((tb1 (by omega) (by omega)).mp w)), if_neg (fun w => hb w.2)]
        · rw [if_pos (show (4 : Int32) ≤ nI (v j) from show nI 4 ≤ nI (v j) by rw [n_le (by omega) (by omega)]; omega), if_neg (fun w => y4 w.1)]
      by_cases again : v j < 4 ∧ ev.testBit (v j) = true
      · refine Or.inr ⟨j, nI j, (0 : Int32), nI nm, nI nu, tr, mi, md, me, mv, mt, ud, ue, f, vs, hj, (X _).mpr ?_, (M _).mpr ?_, Or.inl rfl⟩
        · rw [hXB, hUn, if_pos again, bd4_n]
          exact b59_F (hP j hj) (by omega)
        · rw [hMB, if_pos again]
      · rw [if_neg again] at hMB hUn
        unfold f_X5_takesMark_J93 at hMB
        unfold f_X1_takeUnlike_J31 at hUn
        rcases num2 h (i := j) (k := 3) (l := 4) (x1 := 3) (x2 := 4) (x3 := 3) hj (by omega) (by omega) rfl rfl rfl vs with ⟨p1, p2, p3, p4, p5⟩ | ⟨p3, p4, p5⟩
        · have hb : ev.testBit (v j) = false := by
            cases hb : ev.testBit (v j) with
            | false => rfl
            | true => exact absurd ⟨p2, hb⟩ again
          obtain ⟨o1, o2⟩ := pc_or16 ev hev (v j) p2 hb
          rw [p4, bd4_n, n_shl (by omega), n_or] at hUn
          have t3 : upd vs 3 (nI (v j)) (Int32.toNatClampNeg (3 : Int32)) = nI (v j) := rfl
          rw [p5, bd6_n, if_neg (by decide), t3, n_shl (by omega), n_or] at hMB
          obtain ⟨r, rfl⟩ : ∃ z, r = z + 1 := ⟨r - 1, by omega⟩
          rcases ih r rfl (c + 1) (ev ||| 2 ^ v j) (j + 1) q q2 (upd vs 3 (nI (v j))) (by omega) (by omega) o2 (by omega) (by omega) (by omega) (by omega) ((pk_un (by omega)).trans v0) ((pk_un (by omega)).trans v1) ((pk_un (by omega)).trans v2) with ⟨jj, nu', tr', mi', md', me', mv', mt', ud', ue', f', vs', w1, w2, w3, w4, w5, w6, w7⟩ | ⟨jj, x, z, o1, o2, o3, o4, o5, o6, o7, o8, o9, o10, f', vs', w1, w2, w3, w4⟩
          · exact Or.inl ⟨jj, nu', tr', mi', md', me', mv', mt', ud', ue', f', vs', by omega, w2, w3, w4, w5, (X _).mpr (by rw [hXB, hUn, bd4_n]; exact w6), (M _).mpr (by rw [hMB]; exact w7)⟩
          · exact Or.inr ⟨jj, x, z, o1, o2, o3, o4, o5, o6, o7, o8, o9, o10, f', vs', w1, (X _).mpr (by rw [hXB, hUn, bd4_n]; exact w2), (M _).mpr (by rw [hMB]; exact w3), w4⟩
        · refine Or.inr ⟨j, nI j, (0 : Int32), nI nm, nI nu, tr, mi, md, me, mv, mt, ud, ue, f, vs, hj, (X _).mpr ?_, (M _).mpr ?_, Or.inl rfl⟩
          · rw [hXB, hUn, p4, bd4_n, bd4_n]
            exact b59_F (hP j hj) (by omega)
          · rw [hMB, p5, bd6_n, if_pos rfl]
  · have hMB : ∀ f', f_X5_layMark (nI a) (nI d) (nI ev) (nI mk) 58 f = some f' → f_X5_takesMark_B58 (nI n) mb (lq7 (f_X5_takesMark_B58 (nI n) mb) q2) (nI ev) (nI (P j)) (L j) (K j) (V j) f vs = some ((1 : Int32), nI (P j), L j, K j, V j, f', vs) := by
      intro f' hL
      unfold f_X5_takesMark_B58
      rw [if_neg (fun w => cn (k1.mpr w)), if_neg (ne_zero (by omega) (by omega)), t0, t1, t2, hL, bd1_n]
    rcases mk_end (mk := mk) (ud := ud) (ue := ue) h hj hu hR hm ha hd e1 e2 with ⟨nu', tr', mi', md', me', mv', mt', ud', ue', f', w1, w2, w3, w4, w5, w6⟩ | ⟨w1, w2, f', w3⟩
    · exact Or.inl ⟨j, nu', tr', mi', md', me', mv', mt', ud', ue', f', vs, Nat.le_refl _, w1, w2, w3, w4, (X _).mpr ((fin (Or.inr cn)).trans w5), (M _).mpr (hMB f' w6)⟩
    · exact Or.inr ⟨j, nI j, (1 : Int32), nI nm, nI nu, tr, mi, md, me, mv, mt, ud, ue, f', vs, hj, (X _).mpr ((fin (Or.inr cn)).trans w2), (M _).mpr (hMB f' w3), Or.inr ⟨rfl, w1⟩⟩
theorem mk_loop (h : TKS n mb tok st va m P C v L K V) {lw ni nm nu a d mk : Nat} {kn kd tr mi md me mv mt ud ue f : Nat → Int32} (hu : nu ≤ 8) (hR : RO lw ni nm kn kd tr mi md me mv mt f) (hm : nm < 8) (ha : a < ni) (hd : d < 6) : ∀ r : Nat, ∀ (c ev j q q2 : Nat) (vs : Nat → Int32), c + r = 3 → 1 ≤ c → ev < 16 → pc 31 ev = c → j ≤ m → r < q → r < q2 → vs 0 = nI a → vs 1 = nI d → vs 2 = nI mk →
    (∃ (jj nu' : Nat) (tr' mi' md' me' mv' mt' ud' ue' f' vs' : Nat → Int32), j ≤ jj ∧ jj < m ∧ C jj = 2 ∧ nu' ≤ 8 ∧ RO lw ni (nm + 1) kn kd tr' mi' md' me' mv' mt' f' ∧ lq18 (f_X1_takeMark_B59 tok st va) q (nI a) (nI d) (nI mk) (nI ev) (nI c) (nI j) (nI (C j)) (-1 : Int32) (nI nm) (nI nu) tr mi md me mv mt ud ue = some (nI (jj + 1), nI (C (jj + 1)), (-1 : Int32), nI (nm + 1), nI nu', tr', mi', md', me', mv', mt', ud', ue') ∧ lq7 (f_X5_takesMark_B58 (nI n) mb) q2 (nI ev) (nI (P j)) (L j) (K j) (V j) f vs = some ((1 : Int32), nI (P jj), L jj, K jj, V jj, f', vs')) ∨
    (∃ (jj : Nat) (x z o1 o2 : Int32) (o3 o4 o5 o6 o7 o8 o9 o10 f' vs' : Nat → Int32), jj ≤ m ∧ lq18 (f_X1_takeMark_B59 tok st va) q (nI a) (nI d) (nI mk) (nI ev) (nI c) (nI j) (nI (C j)) (-1 : Int32) (nI nm) (nI nu) tr mi md me mv mt ud ue = some (x, (1 : Int32), nI (P jj), o1, o2, o3, o4, o5, o6, o7, o8, o9, o10) ∧ lq7 (f_X5_takesMark_B58 (nI n) mb) q2 (nI ev) (nI (P j)) (L j) (K j) (V j) f vs = some (z, nI (P jj), L jj, K jj, V jj, f', vs') ∧ (z = (0 : Int32) ∨ (z = (1 : Int32) ∧ ¬ C jj = 2))) := by
  intro r
  induction r with
  | zero => exact mk_step h hu hR hm ha hd 0 (fun r' e => by omega)
  | succ r ih => exact mk_step h hu hR hm ha hd (r + 1) (fun r' e => by
    have e : r' = r := by omega
    rw [e]
    exact ih)
end
