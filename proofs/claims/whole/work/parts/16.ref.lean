/-! the reference: worlds one by one -/
def dg (w d : Nat) : Nat := w / 4 ^ (5 - d) % 4
theorem dg_lt (w d : Nat) : dg w d < 4 := Nat.mod_lt _ (by omega)
theorem pow24 (k : Nat) : 2 ^ (2 * k) = 4 ^ k := by rw [Nat.pow_mul]
theorem m_eventOf {w d : Nat} (hw : w < 4096) (hd : d < 6) : f_X5_eventOf (nI w) (nI d) = nI (dg w d) := by
  simp (disch := omega) only [f_X5_eventOf, ↓n_neg1, ↓n_neg2, ↓n_neg3, ↓n_neg4, ↓n_neg5, ↓n_neg10, n_lit, n_le, n_lt, n_eq, n_cl, n_add, n_mul, n_sub, ckI_n, n_shl1, n_shr, n_and, n_or, bd1_n, n_ng, ng_n, ng_ng, m_and3, pow24]
  rfl
theorem m_has {a k : Nat} (ha : a < 2 ^ 31) (hk : k < 32) : f_X5_has (nI a) (nI k) = nI (if a / 2 ^ k % 2 == 1 then 1 else 0) := by
  have hd : a / 2 ^ k < 2 ^ 31 := Nat.lt_of_le_of_lt (Nat.div_le_self _ _) ha
  simp (disch := omega) only [f_X5_has, ↓n_neg1, ↓n_neg2, ↓n_neg3, ↓n_neg4, ↓n_neg5, ↓n_neg10, n_lit, n_le, n_lt, n_eq, n_cl, n_add, n_mul, n_sub, ckI_n, n_shl1, n_shr, n_and, n_or, bd1_n, n_ng, ng_n, ng_ng, m_and1]
  by_cases h : a / 2 ^ k % 2 = 1
  · simp [h]
  · simp [h]
def cW (lw : Nat) (kn : Nat → Int32) (w d : Nat) : Bool := (decide (d = 0) || !(lwB lw (dg w (d - 1)) (dg w d))) && okd kn d (dg w d)
def isW (lw : Nat) (kn : Nat → Int32) (w : Nat) : Bool := allB (cW lw kn w) 6
theorem ckB_1 {α : Type} (x : Option α) : ckB (nI 1) x = x := ckB_t (by decide)
theorem ckB_0 {α : Type} (x : Option α) : ckB (nI 0) x = x := ckB_t (by decide)
theorem m_isWorld {lw w : Nat} {f kn : Nat → Int32} (hl : lw < 65536) (hf : f 1 = nI lw) (hk : ∀ d, d < 6 → f (4 + d) = kn d) (hw : w < 4096) : f_X5_isWorld (nI w) f = some (nI (if isW lw kn w then 1 else 0)) := by
  refine lq2_stop (cW lw kn w) 6 (fun k i hi => ?_) (fun k => ?_) (fun k i hi => ?_) (by have := fu; omega)
  · have hdi := dg_lt w i
    have J : ∀ s : Nat, s < 2 → f_X5_isWorld_J54 f k (nI i) (nI (dg w i)) (nI s) = k (nI (if decide (s = 1) && okd kn i (dg w i) then 1 else 0)) (nI (i + 1)) := by
      intro s hs
      simp (disch := omega) only [f_X5_isWorld_J54, ↓n_neg1, ↓n_neg2, ↓n_neg3, ↓n_neg4, ↓n_neg5, ↓n_neg10, n_lit, n_le, n_lt, n_eq, n_cl, n_add, n_mul, n_sub, ckI_n, n_shl1, n_shr, n_and, n_or, bd1_n, n_ng, ng_n, ng_ng, hk i hi]
      unfold okd
      rcases (show s = 0 ∨ s = 1 by omega) with rfl | rfl
      · simp
      · rw [if_neg (by omega)]
        by_cases h1 : kn i = ngI 1
        · simp [h1]
        · rw [if_neg h1]
          by_cases h2 : kn i = nI (dg w i)
          · simp [h2]
          · rw [if_neg h2, decide_eq_false h1, decide_eq_false h2]; rfl
    simp (disch := omega) only [f_X5_isWorld_B4, ↓n_neg1, ↓n_neg2, ↓n_neg3, ↓n_neg4, ↓n_neg5, ↓n_neg10, n_lit, n_le, n_lt, n_eq, n_cl, n_add, n_mul, n_sub, ckI_n, n_shl1, n_shr, n_and, n_or, bd1_n, n_ng, ng_n, ng_ng, m_eventOf hw hi]
    rw [if_neg (by omega), if_neg (by omega)]
    by_cases h0 : i = 0
    · rw [if_pos h0, J 1 (by omega)]
      unfold cW
      rw [decide_eq_true h0]; rfl
    · rw [if_neg h0, m_eventOf hw (by omega : i - 1 < 6)]
      have hd1 := dg_lt w (i - 1)
      simp (disch := omega) only [↓n_neg1, ↓n_neg2, ↓n_neg3, ↓n_neg4, ↓n_neg5, ↓n_neg10, n_lit, n_le, n_lt, n_eq, n_cl, n_add, n_mul, n_sub, ckI_n, n_shl1, n_shr, n_and, n_or, bd1_n, n_ng, ng_n, ng_ng, hf]
      rw [m_has (by omega) (by omega)]
      have hlw : (lw / 2 ^ (4 * dg w (i - 1) + dg w i) % 2 == 1) = lwB lw (dg w (i - 1)) (dg w i) := rfl
      rw [hlw]
      unfold cW
      rw [decide_eq_false h0]
      cases lwB lw (dg w (i - 1)) (dg w i) with
      | true =>
        rw [if_pos rfl, if_neg (by decide), J 0 (by omega)]; rfl
      | false =>
        rw [if_neg Bool.false_ne_true, if_pos rfl, J 1 (by omega)]; rfl
  · simp (disch := omega) only [f_X5_isWorld_B4, ↓n_neg1, ↓n_neg2, ↓n_neg3, ↓n_neg4, ↓n_neg5, ↓n_neg10, n_lit, n_le, n_lt, n_eq, n_cl, n_add, n_mul, n_sub, ckI_n, n_shl1, n_shr, n_and, n_or, bd1_n, n_ng, ng_n, ng_ng, ckB_1]
    rw [if_pos (by omega)]
  · simp (disch := omega) only [f_X5_isWorld_B4, ↓n_neg1, ↓n_neg2, ↓n_neg3, ↓n_neg4, ↓n_neg5, ↓n_neg10, n_lit, n_le, n_lt, n_eq, n_cl, n_add, n_mul, n_sub, ckI_n, n_shl1, n_shr, n_and, n_or, bd1_n, n_ng, ng_n, ng_ng, ckB_0]
    by_cases h : 6 ≤ i
    · rw [if_pos h]
    · rw [if_neg h, if_pos trivial]
def fillI (V g : Nat → Int32) (n j : Nat) : Int32 := if j < n then V j else g j
theorem fillI_0 (V g : Nat → Int32) : fillI V g 0 = g := by
  funext j; unfold fillI; rw [if_neg (by omega)]
theorem fillI_s (V g : Nat → Int32) (n : Nat) : upd (fillI V g n) n (V n) = fillI V g (n + 1) := by
  funext j
  unfold upd fillI
  by_cases h : j = n
  · rw [if_pos h, if_pos (by omega), h]
  · rw [if_neg h]
    by_cases q : j < n
    · rw [if_pos q, if_pos (by omega)]
    · rw [if_neg q, if_neg (by omega)]
theorem fillI_in {V g : Nat → Int32} {n j : Nat} (h : j < n) : fillI V g n j = V j := if_pos h
theorem fillI_out {V g : Nat → Int32} {n j : Nat} (h : n ≤ j) : fillI V g n j = g j := if_neg (by omega)
theorem m_layKinds {ni : Nat} {f k0 : Nat → Int32} (hn : ni ≤ 4) (hf : f 0 = nI ni) : f_X5_layKinds f k0 = some (fillI (fun i => f (14 + i)) k0 ni) := by
  have main : lq2 (f_X5_layKinds_B2 f) FU (nI 0) (fillI (fun i => f (14 + i)) k0 0) = some (fillI (fun i => f (14 + i)) k0 ni) := by
    refine lq2_run (fun i => nI i) (fun i => fillI (fun i => f (14 + i)) k0 i) ni (fun k i hi => ?_) (fun k => ?_) (by have := fu; omega)
    · simp (disch := omega) only [f_X5_layKinds_B2, f_X5_many, ↓n_neg1, ↓n_neg2, ↓n_neg3, ↓n_neg4, ↓n_neg5, ↓n_neg10, n_lit, n_le, n_lt, n_eq, n_cl, n_add, n_mul, n_sub, ckI_n, n_shl1, n_shr, n_and, n_or, bd1_n, n_ng, ng_n, ng_ng, hf]
      rw [if_neg (by omega), fillI_s]
    · simp (disch := omega) only [f_X5_layKinds_B2, f_X5_many, ↓n_neg1, ↓n_neg2, ↓n_neg3, ↓n_neg4, ↓n_neg5, ↓n_neg10, n_lit, n_le, n_lt, n_eq, n_cl, n_add, n_mul, n_sub, ckI_n, n_shl1, n_shr, n_and, n_or, bd1_n, n_ng, ng_n, ng_ng, hf]
      rw [if_pos (by omega)]
  rw [fillI_0] at main
  exact main
theorem tr_01 (a b : Int32) : f_X4_truth a b = 0 ∨ f_X4_truth a b = 1 := by
  unfold f_X4_truth
  by_cases h : ((a >>> (b &&& 31)) &&& (1 : Int32)) = (1 : Int32)
  · rw [if_pos h]; exact Or.inr rfl
  · rw [if_neg h]; exact Or.inl rfl
theorem markAs_eq {k tv d n t ev : Int32} (htv : tv = 0 ∨ tv = 1) (hn : f_J6_bitCount_0f7a4 ev = n) : f_X5_markAs k tv d n t = f_X4_given k tv d ev t := by
  rcases htv with rfl | rfl
  · simp only [f_X5_markAs, f_X5_markAs_J9, f_X5_markAs_J24, f_X4_given, f_X4_oldGiven, f_X4_coyGiven, hn, if_true]
    by_cases h : (d - d / 2 * 2) = 1
    · simp only [h, if_true]
    · simp only [h, if_false]
  · simp only [f_X5_markAs, f_X5_markAs_J9, f_X5_markAs_J24, f_X4_given, f_X4_oldGiven, f_X4_coyGiven, hn, show ((1 : Int32) = 0) = False by decide, if_false]
    by_cases h : (d - d / 2 * 2) = 1
    · simp only [h, if_true]
    · simp only [h, if_false]
def dyj (md : Nat → Int32) (j : Nat) : Nat := Int32.toNatClampNeg (md j)
/-- the marks of the reference's row are those of the class's rows -/
def MR (nm : Nat) (f mi md me mv mt : Nat → Int32) : Prop := ∀ j, j < nm → f (18 + 5 * j) = mi j ∧ f (18 + 5 * j + 1) = md j ∧ f (18 + 5 * j + 2) = me j ∧ f (18 + 5 * j + 3) = mv j ∧ f (18 + 5 * j + 4) = mt j
def wrB (kd mi md me mv mt : Nat → Int32) (w j : Nat) : Bool := bdj kd mi md me mv mt j (dg w (dyj md j))
theorem m_get {f : Nat → Int32} {j c : Nat} (hj : j < 8) (hc : c < 5) : f_X5_get (nI j) (nI c) f = some (f (18 + 5 * j + c)) := by
  simp (disch := omega) only [f_X5_get, ↓n_neg1, ↓n_neg2, ↓n_neg3, ↓n_neg4, ↓n_neg5, ↓n_neg10, n_lit, n_le, n_lt, n_eq, n_cl, n_add, n_mul, n_sub, ckI_n, n_shl1, n_shr, n_and, n_or, bd1_n, n_ng, ng_n, ng_ng]
theorem m_wrongIn {nm w : Nat} {f kk mi md me mv mt : Nat → Int32} (hM : MO nm mi md me) (hR : MR nm f mi md me mv mt) (hf : f 3 = nI nm) (hw : w < 4096) : f_X5_wrongIn (nI w) f kk = some (nI (sB (wrB kk mi md me mv mt w) nm)) := by
  have h8 := hM.1
  refine lq2_run (fun i => nI (sB (wrB kk mi md me mv mt w) i)) (fun i => nI i) nm (fun k i hi => ?_) (fun k => ?_) (by have := fu; omega)
  · obtain ⟨⟨wi, hwi, ewi⟩, ⟨d, hd, ed⟩, ⟨e, he1, he2, ee⟩⟩ := hM.2 i hi
    obtain ⟨r0, r1, r2, r3, r4⟩ := hR i hi
    have g0 := m_get (f := f) (j := i) (c := 0) (by omega) (by omega)
    have g1 := m_get (f := f) (j := i) (c := 1) (by omega) (by omega)
    have g2 := m_get (f := f) (j := i) (c := 2) (by omega) (by omega)
    have g3 := m_get (f := f) (j := i) (c := 3) (by omega) (by omega)
    have g4 := m_get (f := f) (j := i) (c := 4) (by omega) (by omega)
    rw [Nat.add_zero, r0] at g0
    rw [r1] at g1
    rw [r2] at g2
    rw [r3] at g3
    rw [r4] at g4
    simp (disch := omega) only [f_X5_wrongIn_B4, f_X5_marks, ↓n_neg1, ↓n_neg2, ↓n_neg3, ↓n_neg4, ↓n_neg5, ↓n_neg10, n_lit, n_le, n_lt, n_eq, n_cl, n_add, n_mul, n_sub, ckI_n, n_shl1, n_shr, n_and, n_or, bd1_n, n_ng, ng_n, ng_ng, hf, g0, g1, g2, g3, g4, ewi, ed, ee, m_bits, m_eventOf hw hd]
    rw [if_neg (by omega), markAs_eq (ev := nI e) (tv := f_X5_has (nI e) (nI (dg w d))) (tr_01 (nI e) (nI (dg w d))) (m_bitCount8 e (by omega))]
    have hb : wrB kk mi md me mv mt w i = !decide (f_X4_given (kk wi) (f_X5_has (nI e) (nI (dg w d))) (nI d) (nI e) (mt i) = mv i) := by
      unfold wrB bdj dyj
      rw [ewi, ed, ee, n_cl (by omega), n_cl (by omega)]; rfl
    by_cases h : f_X4_given (kk wi) (f_X5_has (nI e) (nI (dg w d))) (nI d) (nI e) (mt i) = mv i
    · rw [if_pos h, Nat.or_zero, sB_no _ _ (by rw [hb, decide_eq_true h]; rfl)]
    · rw [if_neg h, sB_or _ _ (by rw [hb, decide_eq_false h]; rfl)]
  · simp (disch := omega) only [f_X5_wrongIn_B4, f_X5_marks, ↓n_neg1, ↓n_neg2, ↓n_neg3, ↓n_neg4, ↓n_neg5, ↓n_neg10, n_lit, n_le, n_lt, n_eq, n_cl, n_add, n_mul, n_sub, ckI_n, n_shl1, n_shr, n_and, n_or, bd1_n, n_ng, ng_n, ng_ng, hf]
    rw [if_pos (by omega)]
