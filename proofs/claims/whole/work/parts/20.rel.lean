/-! what the class's office and the reference's row have in common -/
abbrev OF : Type := Int32 × Int32 × Int32 × Int32 × (Nat → Int32) × (Nat → Int32) × (Nat → Int32) × (Nat → Int32) × (Nat → Int32) × (Nat → Int32) × (Nat → Int32) × (Nat → Int32) × (Nat → Int32) × (Nat → Int32)
def KOK (x : Int32) : Prop := x = ngI 1 ∨ ∃ e, e < 4 ∧ x = nI e
/-- what was kept of MARKS, KNOWN, TRIPS -/
def PS (f : Nat → Int32) (k m ni : Nat) (kn tr : Nat → Int32) : Prop := f (58 + 11 * k) = nI m ∧ (∀ d, d < 6 → f (58 + 11 * k + 1 + d) = kn d) ∧ ∀ i, i < ni → f (58 + 11 * k + 7 + i) = tr i
/-- the class's undos are the reference's pasts -/
def UC (mi mt ud ue f : Nat → Int32) (ni : Nat) : Nat → Nat → (Nat → Int32) → (Nat → Int32) → Prop
  | 0, _, _, _ => True
  | k + 1, m, kn, tr => (∃ d, d < 6 ∧ ud k = nI d ∧ KOK (ue k) ∧ PS f k m ni (upd kn d (ue k)) tr ∧ UC mi mt ud ue f ni k m (upd kn d (ue k)) tr) ∨
    (ud k = ngI 1 ∧ ∃ m', m = m' + 1 ∧ ∃ w, w < ni ∧ mi m' = nI w ∧ PS f k m' ni kn (upd tr w (mt m')) ∧ UC mi mt ud ue f ni k m' kn (upd tr w (mt m')))
def MI (nm ni : Nat) (mi md me : Nat → Int32) : Prop := nm ≤ 8 ∧ ∀ j, j < nm → (∃ w, w < ni ∧ mi j = nI w) ∧ (∃ d, d < 6 ∧ md j = nI d) ∧ ∃ e, 1 ≤ e ∧ e < 15 ∧ me j = nI e
theorem MI.mo {nm ni : Nat} {mi md me : Nat → Int32} (h : MI nm ni mi md me) (hn : ni ≤ 4) : MO nm mi md me := ⟨h.1, fun j hj => by
  obtain ⟨⟨w, hw, ew⟩, h2, h3⟩ := h.2 j hj
  exact ⟨⟨w, by omega, ew⟩, h2, h3⟩⟩
/-- an office of numbers lw, ni, nm, nu -/
def OK4 (lw ni nm nu : Nat) (kn kd tr mi md me mv mt ud ue f : Nat → Int32) : Prop :=
  (f 1 = nI lw ∧ lw < 65536) ∧ (f 0 = nI ni ∧ ni ≤ 4) ∧ f 3 = nI nm ∧ (f 2 = nI nu ∧ nu ≤ 8) ∧ (∀ d, d < 6 → f (4 + d) = kn d ∧ KOK (kn d)) ∧ (∀ i, i < ni → f (14 + i) = kd i ∧ f (10 + i) = tr i) ∧ MI nm ni mi md me ∧ MR nm f mi md me mv mt ∧ UC mi mt ud ue f ni nu nm kn tr
def OR (laws insp marks undos : Int32) (kn kd tr mi md me mv mt ud ue f : Nat → Int32) : Prop := ∃ lw ni nm nu : Nat, laws = nI lw ∧ insp = nI ni ∧ marks = nI nm ∧ undos = nI nu ∧ OK4 lw ni nm nu kn kd tr mi md me mv mt ud ue f
def OFR (O : OF) (f : Nat → Int32) : Prop := OR O.1 O.2.1 O.2.2.1 O.2.2.2.1 O.2.2.2.2.1 O.2.2.2.2.2.1 O.2.2.2.2.2.2.1 O.2.2.2.2.2.2.2.1 O.2.2.2.2.2.2.2.2.1 O.2.2.2.2.2.2.2.2.2.1 O.2.2.2.2.2.2.2.2.2.2.1 O.2.2.2.2.2.2.2.2.2.2.2.1 O.2.2.2.2.2.2.2.2.2.2.2.2.1 O.2.2.2.2.2.2.2.2.2.2.2.2.2 f
def IM (k : Int32) (O : OF) (z : Int32) (f : Nat → Int32) : Prop := k = z ∧ (k = nI 0 ∨ (k = nI 1 ∧ OFR O f))
def TX (len mlen : Int32) (by_ mby : Nat → Int32) : Prop := ∃ n, n ≤ 150 ∧ len = nI n ∧ mlen = nI n ∧ ∀ j, j < n → by_ j = mby j ∧ ∃ c, c < 128 ∧ by_ j = nI c
def Rel (nw i0 i1 : OF) (k0 k1 len : Int32) (by_ : Nat → Int32) (ab be : Int64) (rb rn rf : Int32) (mn mk mz mr : Nat → Int32) (mab mbe : Int64) (mby : Nat → Int32) (mlen : Int32) : Prop :=
  OFR nw mn ∧ IM k0 i0 (mz 0) mk ∧ IM k1 i1 (mz 1) (fun k => mk (146 + k)) ∧ TX len mlen by_ mby ∧ (ab = mab ∧ be = mbe) ∧ rb = mr 0 ∧ rn = mr 1 ∧ rf = mr 2
theorem UC_congr {mi mt ud ue f mi' mt' ud' ue' f' : Nat → Int32} {ni : Nat} : ∀ {k m : Nat} {kn tr kn' tr' : Nat → Int32}, (∀ j, j < m → mi' j = mi j ∧ mt' j = mt j) → (∀ j, j < k → ud' j = ud j ∧ ue' j = ue j) → (∀ j, 58 ≤ j → j < 58 + 11 * k → f' j = f j) → (∀ d, d < 6 → kn' d = kn d) → (∀ i, i < ni → tr' i = tr i) → ni ≤ 4 → UC mi mt ud ue f ni k m kn tr → UC mi' mt' ud' ue' f' ni k m kn' tr'
  | 0, _, _, _, _, _, _, _, _, _, _, _, _ => trivial
  | k + 1, m, kn, tr, kn', tr', hm, hu, hf, hk, ht, hn, h => by
    obtain ⟨hu1, hu2⟩ := hu k (by omega)
    have hPS : ∀ (q : Nat) (a b a' b' : Nat → Int32), (∀ d, d < 6 → a' d = a d) → (∀ i, i < ni → b' i = b i) → PS f k q ni a b → PS f' k q ni a' b' := by
      intro q a b a' b' ha hb ⟨p1, p2, p3⟩
      refine ⟨by rw [hf _ (by omega) (by omega)]; exact p1, fun d hd => ?_, fun i hi => ?_⟩
      · rw [hf _ (by omega) (by omega), ha d hd]; exact p2 d hd
      · rw [hf _ (by omega) (by omega), hb i hi]; exact p3 i hi
    have hud : ∀ (a a' : Nat → Int32) (n x : Nat) (v : Int32), (∀ d, d < n → a' d = a d) → ∀ d, d < n → upd a' x v d = upd a x v d := by
      intro a a' n x v ha d hd
      unfold upd
      by_cases q : d = x
      · rw [if_pos q, if_pos q]
      · rw [if_neg q, if_neg q, ha d hd]
    rcases h with ⟨d, hd, e1, e2, e3, e4⟩ | ⟨e1, m', em, w, hw, e2, e3, e4⟩
    · refine Or.inl ⟨d, hd, by rw [hu1]; exact e1, by rw [hu2]; exact e2, ?_, ?_⟩
      · rw [hu2]; exact hPS m _ _ _ _ (hud kn kn' 6 d (ue k) hk) ht e3
      · rw [hu2]; exact UC_congr hm (fun j hj => hu j (by omega)) (fun j h1 h2 => hf j h1 (by omega)) (hud kn kn' 6 d (ue k) hk) ht hn e4
    · obtain ⟨q1, q2⟩ := hm m' (by omega)
      refine Or.inr ⟨by rw [hu1]; exact e1, m', em, w, hw, by rw [q1]; exact e2, ?_, ?_⟩
      · rw [q2]; exact hPS m' _ _ _ _ hk (hud tr tr' ni w (mt m') ht) e3
      · rw [q2]; exact UC_congr (fun j hj => hm j (by omega)) (fun j hj => hu j (by omega)) (fun j h1 h2 => hf j h1 (by omega)) hk (hud tr tr' ni w (mt m') ht) hn e4
theorem OK4_congr {lw ni nm nu : Nat} {kn kd tr mi md me mv mt ud ue f kn' kd' tr' mi' md' me' mv' mt' ud' ue' f' : Nat → Int32} (hf : ∀ j, j < 146 → f' j = f j) (h1 : ∀ j, j < 6 → kn' j = kn j) (h2 : ∀ j, j < 4 → kd' j = kd j ∧ tr' j = tr j) (h3 : ∀ j, j < 8 → mi' j = mi j ∧ md' j = md j ∧ me' j = me j ∧ mv' j = mv j ∧ mt' j = mt j ∧ ud' j = ud j ∧ ue' j = ue j) (h : OK4 lw ni nm nu kn kd tr mi md me mv mt ud ue f) : OK4 lw ni nm nu kn' kd' tr' mi' md' me' mv' mt' ud' ue' f' := by
  obtain ⟨⟨a1, a2⟩, ⟨b1, b2⟩, c1, ⟨d1, d2⟩, e1, f1, ⟨g0, g1⟩, k1, l1⟩ := h
  refine ⟨⟨by rw [hf _ (by omega)]; exact a1, a2⟩, ⟨by rw [hf _ (by omega)]; exact b1, b2⟩, by rw [hf _ (by omega)]; exact c1, ⟨by rw [hf _ (by omega)]; exact d1, d2⟩, fun d hd => ?_, fun i hi => ?_, ⟨g0, fun j hj => ?_⟩, fun j hj => ?_, ?_⟩
  · rw [hf _ (by omega), h1 d hd]; exact e1 d hd
  · rw [hf _ (by omega), hf _ (by omega), (h2 i (by omega)).1, (h2 i (by omega)).2]; exact f1 i hi
  · obtain ⟨q1, q2, q3, -⟩ := h3 j (by omega)
    rw [q1, q2, q3]; exact g1 j hj
  · obtain ⟨q1, q2, q3, q4, q5, -⟩ := h3 j (by omega)
    rw [q1, q2, q3, q4, q5, hf _ (by omega), hf _ (by omega), hf _ (by omega), hf _ (by omega), hf _ (by omega)]; exact k1 j hj
  · exact UC_congr (fun j hj => ⟨(h3 j (by omega)).1, (h3 j (by omega)).2.2.2.2.1⟩) (fun j hj => ⟨(h3 j (by omega)).2.2.2.2.2.1, (h3 j (by omega)).2.2.2.2.2.2⟩) (fun j q1 q2 => hf j (by omega)) h1 (fun i hi => (h2 i (by omega)).2) b2 l1
theorem x_reset (v1 v2 v3 v4 : Int32) (kn : Nat → Int32) : f_X0_reset v1 v2 v3 v4 kn = some (nI 0, nI 0, nI 0, nI 0, fillI (fun _ => ngI 1) kn 6) := by
  have main : lq6 f_X0_reset_B2 FU (nI 0) v1 v2 v3 v4 (fillI (fun _ => ngI 1) kn 0) = some (nI 0, nI 0, nI 0, nI 0, fillI (fun _ => ngI 1) kn 6) := by
    refine lq6_run (fun i => nI i) (fun _ => v1) (fun _ => v2) (fun _ => v3) (fun _ => v4) (fun i => fillI (fun _ => ngI 1) kn i) 6 (fun k i hi => ?_) (fun k => ?_) (by have := fu; omega)
    · simp (disch := omega) only [f_X0_reset_B2, ↓n_neg1, ↓n_neg2, ↓n_neg3, ↓n_neg4, ↓n_neg5, ↓n_neg10, n_lit, n_le, n_lt, n_eq, n_cl, n_add, n_mul, n_sub, ckI_n, n_shl1, n_shr, n_and, n_or, bd1_n, n_ng, ng_n, ng_ng]
      rw [if_neg (by omega)]
      exact congrArg _ (fillI_s (fun _ => ngI 1) kn i)
    · simp (disch := omega) only [f_X0_reset_B2, ↓n_neg1, ↓n_neg2, ↓n_neg3, ↓n_neg4, ↓n_neg5, ↓n_neg10, n_lit, n_le, n_lt, n_eq, n_cl, n_add, n_mul, n_sub, ckI_n, n_shl1, n_shr, n_and, n_or, bd1_n, n_ng, ng_n, ng_ng]
      rw [if_pos (by omega)]
  rw [fillI_0] at main
  exact main
def begF (g : Nat → Int32) (j : Nat) : Int32 := if 4 ≤ j ∧ j < 10 then ngI 1 else if j < 58 then nI 0 else g j
theorem m_begin {n : Nat} (g : Nat → Int32) (hn : 58 ≤ n) (hn2 : n < 1000) : f_X5_begin n g = some (begF g) := by
  let g2 : Nat → Nat → Int32 := fun i j => if 4 ≤ j ∧ j < 4 + i then ngI 1 else if j < 58 then nI 0 else g j
  have s2 : lq2 (f_X5_begin_B20 n) FU (nI 0) (g2 0) = some (begF g) := by
    refine lq2_run (fun i => nI i) g2 6 (fun k i hi => ?_) (fun k => ?_) (by have := fu; omega)
    · simp (disch := omega) only [f_X5_begin_B20, ↓n_neg1, ↓n_neg2, ↓n_neg3, ↓n_neg4, ↓n_neg5, ↓n_neg10, n_lit, n_le, n_lt, n_eq, n_cl, n_add, n_mul, n_sub, ckI_n, n_shl1, n_shr, n_and, n_or, bd1_n, n_ng, ng_n, ng_ng]
      rw [if_neg (by omega)]
      refine congrArg _ ?_
      funext j
      show (if j = 4 + i then ngI 1 else if 4 ≤ j ∧ j < 4 + i then ngI 1 else if j < 58 then nI 0 else g j) = if 4 ≤ j ∧ j < 4 + (i + 1) then ngI 1 else if j < 58 then nI 0 else g j
      by_cases q : j = 4 + i
      · rw [if_pos q, if_pos (by omega)]
      · rw [if_neg q]
        by_cases q2 : 4 ≤ j ∧ j < 4 + i
        · rw [if_pos q2, if_pos (by omega)]
        · rw [if_neg q2, if_neg (by omega : ¬ (4 ≤ j ∧ j < 4 + (i + 1)))]
    · simp (disch := omega) only [f_X5_begin_B20, ↓n_neg1, ↓n_neg2, ↓n_neg3, ↓n_neg4, ↓n_neg5, ↓n_neg10, n_lit, n_le, n_lt, n_eq, n_cl, n_add, n_mul, n_sub, ckI_n, n_shl1, n_shr, n_and, n_or, bd1_n, n_ng, ng_n, ng_ng]
      rw [if_pos (by omega)]
      rfl
  have e0 : fillI (fun _ => nI 0) g 58 = g2 0 := by
    funext j
    show (if j < 58 then nI 0 else g j) = if 4 ≤ j ∧ j < 4 + 0 then ngI 1 else if j < 58 then nI 0 else g j
    rw [if_neg (by omega : ¬ (4 ≤ j ∧ j < 4 + 0))]
  have s1 : lq2 (f_X5_begin_B2 n) FU (nI 0) (fillI (fun _ => nI 0) g 0) = some (begF g) := by
    refine lq2_run (fun i => nI i) (fun i => fillI (fun _ => nI 0) g i) 58 (fun k i hi => ?_) (fun k => ?_) (by have := fu; omega)
    · simp (disch := omega) only [f_X5_begin_B2, ↓n_neg1, ↓n_neg2, ↓n_neg3, ↓n_neg4, ↓n_neg5, ↓n_neg10, n_lit, n_le, n_lt, n_eq, n_cl, n_add, n_mul, n_sub, ckI_n, n_shl1, n_shr, n_and, n_or, bd1_n, n_ng, ng_n, ng_ng]
      rw [if_neg (by omega)]
      exact congrArg _ (fillI_s (fun _ => nI 0) g i)
    · simp (disch := omega) only [f_X5_begin_B2, ↓n_neg1, ↓n_neg2, ↓n_neg3, ↓n_neg4, ↓n_neg5, ↓n_neg10, n_lit, n_le, n_lt, n_eq, n_cl, n_add, n_mul, n_sub, ckI_n, n_shl1, n_shr, n_and, n_or, bd1_n, n_ng, ng_n, ng_ng]
      rw [if_pos (by omega), e0]
      exact s2
  rw [fillI_0] at s1
  exact s1
theorem OR_begin (kn kd tr mi md me mv mt ud ue g : Nat → Int32) : OR (nI 0) (nI 0) (nI 0) (nI 0) (fillI (fun _ => ngI 1) kn 6) kd tr mi md me mv mt ud ue (begF g) := by
  refine ⟨0, 0, 0, 0, rfl, rfl, rfl, rfl, ⟨rfl, by omega⟩, ⟨rfl, by omega⟩, rfl, ⟨rfl, by omega⟩, fun d hd => ?_, fun i hi => by omega, ⟨by omega, fun j hj => by omega⟩, fun j hj => by omega, trivial⟩
  have e : fillI (fun _ => ngI 1) kn 6 d = ngI 1 := fillI_in hd
  rw [e]
  exact ⟨if_pos (by omega), Or.inl rfl⟩
theorem st_office (v_X_firstKept : Int32) (v_X_secondKept : Int32) (v_X_above : Int64) (v_X_below : Int64) (v_X_refusedBad : Int32) (v_X_refusedNo : Int32) (v_X_refusedFull : Int32) (v_X_now_laws : Int32) (v_X_now_inspectors : Int32) (v_X_now_marks : Int32) (v_X_now_undos : Int32) (r_X_now_knownEvent : Nat → Int32) (r_X_now_kind : Nat → Int32) (r_X_now_trips : Nat → Int32) (r_X_now_markInspector : Nat → Int32) (r_X_now_markDay : Nat → Int32) (r_X_now_markEvents : Nat → Int32) (r_X_now_markValue : Nat → Int32) (r_X_now_markTrips : Nat → Int32) (r_X_now_undoDay : Nat → Int32) (r_X_now_undoEvent : Nat → Int32) (v_X_firstImage_laws : Int32) (v_X_firstImage_inspectors : Int32) (v_X_firstImage_marks : Int32) (v_X_firstImage_undos : Int32) (r_X_firstImage_knownEvent : Nat → Int32) (r_X_firstImage_kind : Nat → Int32) (r_X_firstImage_trips : Nat → Int32) (r_X_firstImage_markInspector : Nat → Int32) (r_X_firstImage_markDay : Nat → Int32) (r_X_firstImage_markEvents : Nat → Int32) (r_X_firstImage_markValue : Nat → Int32) (r_X_firstImage_markTrips : Nat → Int32) (r_X_firstImage_undoDay : Nat → Int32) (r_X_firstImage_undoEvent : Nat → Int32) (v_X_secondImage_laws : Int32) (v_X_secondImage_inspectors : Int32) (v_X_secondImage_marks : Int32) (v_X_secondImage_undos : Int32) (r_X_secondImage_knownEvent : Nat → Int32) (r_X_secondImage_kind : Nat → Int32) (r_X_secondImage_trips : Nat → Int32) (r_X_secondImage_markInspector : Nat → Int32) (r_X_secondImage_markDay : Nat → Int32) (r_X_secondImage_markEvents : Nat → Int32) (r_X_secondImage_markValue : Nat → Int32) (r_X_secondImage_markTrips : Nat → Int32) (r_X_secondImage_undoDay : Nat → Int32) (r_X_secondImage_undoEvent : Nat → Int32) (v_X_text_length : Int32) (r_X_text_bytes : Nat → Int32) (v_M_above : Int64) (v_M_below : Int64) (v_M_bytesLong : Int32) (r_M_now : Nat → Int32) (r_M_kept : Nat → Int32) (r_M_isKept : Nat → Int32) (r_M_refused : Nat → Int32) (r_M_bytes : Nat → Int32)  (hR : Rel (v_X_now_laws, v_X_now_inspectors, v_X_now_marks, v_X_now_undos, r_X_now_knownEvent, r_X_now_kind, r_X_now_trips, r_X_now_markInspector, r_X_now_markDay, r_X_now_markEvents, r_X_now_markValue, r_X_now_markTrips, r_X_now_undoDay, r_X_now_undoEvent) (v_X_firstImage_laws, v_X_firstImage_inspectors, v_X_firstImage_marks, v_X_firstImage_undos, r_X_firstImage_knownEvent, r_X_firstImage_kind, r_X_firstImage_trips, r_X_firstImage_markInspector, r_X_firstImage_markDay, r_X_firstImage_markEvents, r_X_firstImage_markValue, r_X_firstImage_markTrips, r_X_firstImage_undoDay, r_X_firstImage_undoEvent) (v_X_secondImage_laws, v_X_secondImage_inspectors, v_X_secondImage_marks, v_X_secondImage_undos, r_X_secondImage_knownEvent, r_X_secondImage_kind, r_X_secondImage_trips, r_X_secondImage_markInspector, r_X_secondImage_markDay, r_X_secondImage_markEvents, r_X_secondImage_markValue, r_X_secondImage_markTrips, r_X_secondImage_undoDay, r_X_secondImage_undoEvent) v_X_firstKept v_X_secondKept v_X_text_length r_X_text_bytes v_X_above v_X_below v_X_refusedBad v_X_refusedNo v_X_refusedFull r_M_now r_M_kept r_M_isKept r_M_refused v_M_above v_M_below r_M_bytes v_M_bytesLong) : ∃ (r : Int32) (ov_X_now_laws : Int32) (ov_X_now_inspectors : Int32) (ov_X_now_marks : Int32) (ov_X_now_undos : Int32) (or_X_now_knownEvent : Nat → Int32) (or_M_now : Nat → Int32), f_X4_office v_X_now_laws v_X_now_inspectors v_X_now_marks v_X_now_undos r_X_now_knownEvent = some (r, ov_X_now_laws, ov_X_now_inspectors, ov_X_now_marks, ov_X_now_undos, or_X_now_knownEvent) ∧ f_X5_office r_M_now = some (r, or_M_now) ∧ Rel (ov_X_now_laws, ov_X_now_inspectors, ov_X_now_marks, ov_X_now_undos, or_X_now_knownEvent, r_X_now_kind, r_X_now_trips, r_X_now_markInspector, r_X_now_markDay, r_X_now_markEvents, r_X_now_markValue, r_X_now_markTrips, r_X_now_undoDay, r_X_now_undoEvent) (v_X_firstImage_laws, v_X_firstImage_inspectors, v_X_firstImage_marks, v_X_firstImage_undos, r_X_firstImage_knownEvent, r_X_firstImage_kind, r_X_firstImage_trips, r_X_firstImage_markInspector, r_X_firstImage_markDay, r_X_firstImage_markEvents, r_X_firstImage_markValue, r_X_firstImage_markTrips, r_X_firstImage_undoDay, r_X_firstImage_undoEvent) (v_X_secondImage_laws, v_X_secondImage_inspectors, v_X_secondImage_marks, v_X_secondImage_undos, r_X_secondImage_knownEvent, r_X_secondImage_kind, r_X_secondImage_trips, r_X_secondImage_markInspector, r_X_secondImage_markDay, r_X_secondImage_markEvents, r_X_secondImage_markValue, r_X_secondImage_markTrips, r_X_secondImage_undoDay, r_X_secondImage_undoEvent) v_X_firstKept v_X_secondKept v_X_text_length r_X_text_bytes v_X_above v_X_below v_X_refusedBad v_X_refusedNo v_X_refusedFull or_M_now r_M_kept r_M_isKept r_M_refused v_M_above v_M_below r_M_bytes v_M_bytesLong := by
  obtain ⟨hO, hr⟩ := hR
  exact ⟨v_X_now_inspectors, nI 0, nI 0, nI 0, nI 0, fillI (fun _ => ngI 1) r_X_now_knownEvent 6, begF r_M_now, by rw [f_X4_office, x_reset]; rfl, by
    obtain ⟨lw, ni, nm, nu, e1, e2, e3, e4, h⟩ := hO
    have e0 : r_M_now 0 = v_X_now_inspectors := by
      have : v_X_now_inspectors = nI ni := e2
      rw [this]; exact h.2.1.1
    rw [f_X5_office, m_begin _ (by omega) (by omega), bd1_n, f_X5_many]
    show some (r_M_now 0, _) = _
    rw [e0], OR_begin _ _ _ _ _ _ _ _ _ _ _, hr⟩
theorem st_init : ∃ (o1 o2 o3 o4 : Int32) (kn nw : Nat → Int32), f_X0_reset 0 0 0 0 (fun _ => 0) = some (o1, o2, o3, o4, kn) ∧ f_X5_begin 146 (fun _ => 0) = some nw ∧ Rel (o1, o2, o3, o4, kn, (fun _ => 0), (fun _ => 0), (fun _ => 0), (fun _ => 0), (fun _ => 0), (fun _ => 0), (fun _ => 0), (fun _ => 0), (fun _ => 0)) (o1, o2, o3, o4, kn, (fun _ => 0), (fun _ => 0), (fun _ => 0), (fun _ => 0), (fun _ => 0), (fun _ => 0), (fun _ => 0), (fun _ => 0), (fun _ => 0)) (o1, o2, o3, o4, kn, (fun _ => 0), (fun _ => 0), (fun _ => 0), (fun _ => 0), (fun _ => 0), (fun _ => 0), (fun _ => 0), (fun _ => 0), (fun _ => 0)) 0 0 0 (fun _ => 0) 0 1 0 0 0 nw (fun _ => 0) (fun _ => 0) (fun _ => 0) 0 1 (fun _ => 0) 0 := ⟨nI 0, nI 0, nI 0, nI 0, fillI (fun _ => ngI 1) (fun _ => 0) 6, begF (fun _ => 0), x_reset _ _ _ _ _, m_begin _ (by omega) (by omega), OR_begin _ _ _ _ _ _ _ _ _ _ _, ⟨rfl, Or.inl rfl⟩, ⟨rfl, Or.inl rfl⟩, ⟨0, by omega, rfl, rfl, fun j hj => by omega⟩, ⟨rfl, rfl⟩, rfl, rfl, rfl⟩
theorem st_clear (v_X_firstKept : Int32) (v_X_secondKept : Int32) (v_X_above : Int64) (v_X_below : Int64) (v_X_refusedBad : Int32) (v_X_refusedNo : Int32) (v_X_refusedFull : Int32) (v_X_now_laws : Int32) (v_X_now_inspectors : Int32) (v_X_now_marks : Int32) (v_X_now_undos : Int32) (r_X_now_knownEvent : Nat → Int32) (r_X_now_kind : Nat → Int32) (r_X_now_trips : Nat → Int32) (r_X_now_markInspector : Nat → Int32) (r_X_now_markDay : Nat → Int32) (r_X_now_markEvents : Nat → Int32) (r_X_now_markValue : Nat → Int32) (r_X_now_markTrips : Nat → Int32) (r_X_now_undoDay : Nat → Int32) (r_X_now_undoEvent : Nat → Int32) (v_X_firstImage_laws : Int32) (v_X_firstImage_inspectors : Int32) (v_X_firstImage_marks : Int32) (v_X_firstImage_undos : Int32) (r_X_firstImage_knownEvent : Nat → Int32) (r_X_firstImage_kind : Nat → Int32) (r_X_firstImage_trips : Nat → Int32) (r_X_firstImage_markInspector : Nat → Int32) (r_X_firstImage_markDay : Nat → Int32) (r_X_firstImage_markEvents : Nat → Int32) (r_X_firstImage_markValue : Nat → Int32) (r_X_firstImage_markTrips : Nat → Int32) (r_X_firstImage_undoDay : Nat → Int32) (r_X_firstImage_undoEvent : Nat → Int32) (v_X_secondImage_laws : Int32) (v_X_secondImage_inspectors : Int32) (v_X_secondImage_marks : Int32) (v_X_secondImage_undos : Int32) (r_X_secondImage_knownEvent : Nat → Int32) (r_X_secondImage_kind : Nat → Int32) (r_X_secondImage_trips : Nat → Int32) (r_X_secondImage_markInspector : Nat → Int32) (r_X_secondImage_markDay : Nat → Int32) (r_X_secondImage_markEvents : Nat → Int32) (r_X_secondImage_markValue : Nat → Int32) (r_X_secondImage_markTrips : Nat → Int32) (r_X_secondImage_undoDay : Nat → Int32) (r_X_secondImage_undoEvent : Nat → Int32) (v_X_text_length : Int32) (r_X_text_bytes : Nat → Int32) (v_M_above : Int64) (v_M_below : Int64) (v_M_bytesLong : Int32) (r_M_now : Nat → Int32) (r_M_kept : Nat → Int32) (r_M_isKept : Nat → Int32) (r_M_refused : Nat → Int32) (r_M_bytes : Nat → Int32)  (hR : Rel (v_X_now_laws, v_X_now_inspectors, v_X_now_marks, v_X_now_undos, r_X_now_knownEvent, r_X_now_kind, r_X_now_trips, r_X_now_markInspector, r_X_now_markDay, r_X_now_markEvents, r_X_now_markValue, r_X_now_markTrips, r_X_now_undoDay, r_X_now_undoEvent) (v_X_firstImage_laws, v_X_firstImage_inspectors, v_X_firstImage_marks, v_X_firstImage_undos, r_X_firstImage_knownEvent, r_X_firstImage_kind, r_X_firstImage_trips, r_X_firstImage_markInspector, r_X_firstImage_markDay, r_X_firstImage_markEvents, r_X_firstImage_markValue, r_X_firstImage_markTrips, r_X_firstImage_undoDay, r_X_firstImage_undoEvent) (v_X_secondImage_laws, v_X_secondImage_inspectors, v_X_secondImage_marks, v_X_secondImage_undos, r_X_secondImage_knownEvent, r_X_secondImage_kind, r_X_secondImage_trips, r_X_secondImage_markInspector, r_X_secondImage_markDay, r_X_secondImage_markEvents, r_X_secondImage_markValue, r_X_secondImage_markTrips, r_X_secondImage_undoDay, r_X_secondImage_undoEvent) v_X_firstKept v_X_secondKept v_X_text_length r_X_text_bytes v_X_above v_X_below v_X_refusedBad v_X_refusedNo v_X_refusedFull r_M_now r_M_kept r_M_isKept r_M_refused v_M_above v_M_below r_M_bytes v_M_bytesLong) : ∃ (r : Int32) (ov_X_text_length : Int32) (ov_M_bytesLong : Int32), f_X4_clear v_X_text_length = some (r, ov_X_text_length) ∧ f_X5_clear v_M_bytesLong = some (r, ov_M_bytesLong) ∧ Rel (v_X_now_laws, v_X_now_inspectors, v_X_now_marks, v_X_now_undos, r_X_now_knownEvent, r_X_now_kind, r_X_now_trips, r_X_now_markInspector, r_X_now_markDay, r_X_now_markEvents, r_X_now_markValue, r_X_now_markTrips, r_X_now_undoDay, r_X_now_undoEvent) (v_X_firstImage_laws, v_X_firstImage_inspectors, v_X_firstImage_marks, v_X_firstImage_undos, r_X_firstImage_knownEvent, r_X_firstImage_kind, r_X_firstImage_trips, r_X_firstImage_markInspector, r_X_firstImage_markDay, r_X_firstImage_markEvents, r_X_firstImage_markValue, r_X_firstImage_markTrips, r_X_firstImage_undoDay, r_X_firstImage_undoEvent) (v_X_secondImage_laws, v_X_secondImage_inspectors, v_X_secondImage_marks, v_X_secondImage_undos, r_X_secondImage_knownEvent, r_X_secondImage_kind, r_X_secondImage_trips, r_X_secondImage_markInspector, r_X_secondImage_markDay, r_X_secondImage_markEvents, r_X_secondImage_markValue, r_X_secondImage_markTrips, r_X_secondImage_undoDay, r_X_secondImage_undoEvent) v_X_firstKept v_X_secondKept ov_X_text_length r_X_text_bytes v_X_above v_X_below v_X_refusedBad v_X_refusedNo v_X_refusedFull r_M_now r_M_kept r_M_isKept r_M_refused v_M_above v_M_below r_M_bytes ov_M_bytesLong := by
  obtain ⟨hO, h0, h1, ⟨n, hn, e1, e2, hb⟩, hr⟩ := hR
  exact ⟨v_X_text_length, 0, 0, rfl, by rw [f_X5_clear, e1, e2], hO, h0, h1, ⟨0, by omega, rfl, rfl, fun j hj => by omega⟩, hr⟩
