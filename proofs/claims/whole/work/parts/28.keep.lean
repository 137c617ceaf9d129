/-! mark, known, undo -/
def shF (f : Nat → Int32) (i j : Nat) : Int32 := if 58 ≤ j ∧ j < 58 + i then f (j + 11) else f j
def cpF (g : Nat → Int32) (n i j : Nat) : Int32 := if 58 + 11 * n ≤ j ∧ j < 58 + 11 * n + i then g (3 + (j - (58 + 11 * n))) else g j
def kpF (g : Nat → Int32) (n : Nat) : Nat → Int32 := upd (cpF g n 11) 2 (nI (n + 1))
theorem cp_keep {g : Nat → Int32} {n : Nat} (hn : n ≤ 7) (h2 : g 2 = nI n) : lq2 f_X5_keep_B53 FU (nI 0) g = some (kpF g n) := by
  have main : lq2 f_X5_keep_B53 FU (nI 0) (cpF g n 0) = some (kpF g n) := by
    refine lq2_run (fun i => nI i) (fun i => cpF g n i) 11 (fun k i hi => ?_) (fun k => ?_) (by have := fu; omega)
    · have z2 : cpF g n i 2 = nI n := by unfold cpF; rw [if_neg (by omega)]; exact h2
      have z3 : cpF g n i (3 + i) = g (3 + i) := by unfold cpF; rw [if_neg (by omega)]
      simp (disch := omega) only [f_X5_keep_B53, ↓n_neg1, ↓n_neg2, ↓n_neg3, ↓n_neg4, ↓n_neg5, ↓n_neg10, n_lit, n_le, n_lt, n_eq, n_cl, n_add, n_mul, n_sub, ckI_n, n_shl1, n_shr, n_and, n_or, bd1_n, n_ng, ng_n, ng_ng, z2, z3]
      rw [if_neg (by omega)]
      refine congrArg _ ?_
      funext j
      unfold upd
      by_cases q : j = 58 + 11 * n + i
      · rw [if_pos q]; unfold cpF; rw [if_pos (by omega)]; congr 1; omega
      · rw [if_neg q]; unfold cpF
        by_cases q2 : 58 + 11 * n ≤ j ∧ j < 58 + 11 * n + i
        · rw [if_pos q2, if_pos (by omega)]
        · rw [if_neg q2, if_neg (by omega)]
    · have z2 : cpF g n 11 2 = nI n := by unfold cpF; rw [if_neg (by omega)]; exact h2
      simp (disch := omega) only [f_X5_keep_B53, ↓n_neg1, ↓n_neg2, ↓n_neg3, ↓n_neg4, ↓n_neg5, ↓n_neg10, n_lit, n_le, n_lt, n_eq, n_cl, n_add, n_mul, n_sub, ckI_n, n_shl1, n_shr, n_and, n_or, bd1_n, n_ng, ng_n, ng_ng, z2]
      rw [if_pos (by omega)]; rfl
  have e0 : cpF g n 0 = g := by funext j; unfold cpF; rw [if_neg (by omega)]
  rw [e0] at main
  exact main
theorem m_keep1 {f : Nat → Int32} {n : Nat} (hn : n ≤ 7) (h2 : f 2 = nI n) : f_X5_keep f = some (kpF f n) := by
  unfold f_X5_keep
  rw [if_neg (show ¬ f (Int32.toNatClampNeg 2) = 8 from show ¬ f 2 = nI 8 by rw [h2, n_eq (by omega) (by omega)]; omega)]
  exact cp_keep hn h2
theorem m_keep8 {f : Nat → Int32} (h2 : f 2 = nI 8) : f_X5_keep f = some (kpF (upd (shF f 77) 2 (nI 7)) 7) := by
  unfold f_X5_keep
  rw [if_pos (show f (Int32.toNatClampNeg 2) = 8 from h2)]
  have main : lq2 f_X5_keep_B13 FU (nI 0) (shF f 0) = some (kpF (upd (shF f 77) 2 (nI 7)) 7) := by
    refine lq2_run (fun i => nI i) (fun i => shF f i) 77 (fun k i hi => ?_) (fun k => ?_) (by have := fu; omega)
    · have z3 : shF f i (69 + i) = f (69 + i) := by unfold shF; rw [if_neg (by omega)]
      simp (disch := omega) only [f_X5_keep_B13, ↓n_neg1, ↓n_neg2, ↓n_neg3, ↓n_neg4, ↓n_neg5, ↓n_neg10, n_lit, n_le, n_lt, n_eq, n_cl, n_add, n_mul, n_sub, ckI_n, n_shl1, n_shr, n_and, n_or, bd1_n, n_ng, ng_n, ng_ng, z3]
      rw [if_neg (by omega)]
      refine congrArg _ ?_
      funext j
      unfold upd
      by_cases q : j = 58 + i
      · rw [if_pos q]; unfold shF; rw [if_pos (by omega)]; congr 1; omega
      · rw [if_neg q]; unfold shF
        by_cases q2 : 58 ≤ j ∧ j < 58 + i
        · rw [if_pos q2, if_pos (by omega)]
        · rw [if_neg q2, if_neg (by omega)]
    · simp (disch := omega) only [f_X5_keep_B13, ↓n_neg1, ↓n_neg2, ↓n_neg3, ↓n_neg4, ↓n_neg5, ↓n_neg10, n_lit, n_le, n_lt, n_eq, n_cl, n_add, n_mul, n_sub, ckI_n, n_shl1, n_shr, n_and, n_or, bd1_n, n_ng, ng_n, ng_ng]
      rw [if_pos (by omega)]
      exact cp_keep (by omega) rfl
  have e0 : shF f 0 = f := by funext j; unfold shF; rw [if_neg (by omega)]
  rw [e0] at main
  exact main
def suF (u : Nat → Int32) (i j : Nat) : Int32 := if j + 1 < i then u (j + 1) else u j
theorem x_forget {ud ue : Nat → Int32} {v : Int32} : f_X0_forgetOldest v ud ue = some (nI 7, suF ud 8, suF ue 8) := by
  have main : lq4 f_X0_forgetOldest_B2 FU (nI 1) v (suF ud 1) (suF ue 1) = some (nI 7, suF ud 8, suF ue 8) := by
    refine lq4_run (fun i => nI (i + 1)) (fun _ => v) (fun i => suF ud (i + 1)) (fun i => suF ue (i + 1)) 7 (fun k i hi => ?_) (fun k => ?_) (by have := fu; omega)
    · have st : ∀ u : Nat → Int32, upd (suF u (i + 1)) (i + 1 - 1) (suF u (i + 1) (i + 1)) = suF u (i + 1 + 1) := by
        intro u
        funext j
        unfold upd
        by_cases q : j = i + 1 - 1
        · rw [if_pos q]; unfold suF; rw [if_neg (by omega), if_pos (by omega)]; congr 1; omega
        · rw [if_neg q]; unfold suF
          by_cases q2 : j + 1 < i + 1
          · rw [if_pos q2, if_pos (by omega)]
          · rw [if_neg q2, if_neg (by omega)]
      simp (disch := omega) only [f_X0_forgetOldest_B2, ↓n_neg1, ↓n_neg2, ↓n_neg3, ↓n_neg4, ↓n_neg5, ↓n_neg10, n_lit, n_le, n_lt, n_eq, n_cl, n_add, n_mul, n_sub, ckI_n, n_shl1, n_shr, n_and, n_or, bd1_n, n_ng, ng_n, ng_ng]
      rw [if_neg (by omega), st, st]
    · simp (disch := omega) only [f_X0_forgetOldest_B2, ↓n_neg1, ↓n_neg2, ↓n_neg3, ↓n_neg4, ↓n_neg5, ↓n_neg10, n_lit, n_le, n_lt, n_eq, n_cl, n_add, n_mul, n_sub, ckI_n, n_shl1, n_shr, n_and, n_or, bd1_n, n_ng, ng_n, ng_ng]
      rw [if_pos (by omega)]
  have e0 : ∀ u : Nat → Int32, suF u 1 = u := by intro u; funext j; unfold suF; rw [if_neg (by omega)]
  rw [e0, e0] at main
  exact main
theorem x_rem1 {a b : Int32} {ud ue : Nat → Int32} {n : Nat} (hn : n ≤ 7) : f_X0_remember a b (nI n) ud ue = some (nI (n + 1), upd ud n a, upd ue n b) := by
  simp (disch := omega) only [f_X0_remember, f_X0_remember_J13, ↓n_neg1, ↓n_neg2, ↓n_neg3, ↓n_neg4, ↓n_neg5, ↓n_neg10, n_lit, n_le, n_lt, n_eq, n_cl, n_add, n_mul, n_sub, ckI_n, n_shl1, n_shr, n_and, n_or, bd1_n, n_ng, ng_n, ng_ng]
  rw [if_pos (by omega)]
theorem x_rem8 {a b : Int32} {ud ue : Nat → Int32} : f_X0_remember a b (nI 8) ud ue = some (nI (7 + 1), upd (suF ud 8) 7 a, upd (suF ue 8) 7 b) := by
  unfold f_X0_remember
  rw [if_neg (by decide), x_forget]
  show f_X0_remember_J13 a b (nI 7) _ _ = _
  simp (disch := omega) only [f_X0_remember_J13, ↓n_neg1, ↓n_neg2, ↓n_neg3, ↓n_neg4, ↓n_neg5, ↓n_neg10, n_lit, n_le, n_lt, n_eq, n_cl, n_add, n_mul, n_sub, ckI_n, n_shl1, n_shr, n_and, n_or, bd1_n, n_ng, ng_n, ng_ng]
theorem UC_shift {mi mt ud ue f ud' ue' f' : Nat → Int32} {ni : Nat} : ∀ {k m : Nat} {kn tr : Nat → Int32}, (∀ j, j < k → ud' j = ud (j + 1) ∧ ue' j = ue (j + 1)) → (∀ j, 58 ≤ j → j < 58 + 11 * k → f' j = f (j + 11)) → ni ≤ 4 → UC mi mt ud ue f ni (k + 1) m kn tr → UC mi mt ud' ue' f' ni k m kn tr
  | 0, _, _, _, _, _, _, _ => trivial
  | k + 1, m, kn, tr, hu, hf, hn, h => by
    obtain ⟨hu1, hu2⟩ := hu k (by omega)
    have hPS : ∀ (q : Nat) (a b : Nat → Int32), PS f (k + 1) q ni a b → PS f' k q ni a b := by
      intro q a b ⟨p1, p2, p3⟩
      refine ⟨?_, fun d hd => ?_, fun i hi => ?_⟩
      · rw [hf _ (by omega) (by omega), ← p1]; congr 1
      · rw [hf _ (by omega) (by omega), ← p2 d hd]; congr 1; omega
      · rw [hf _ (by omega) (by omega), ← p3 i hi]; congr 1; omega
    rcases h with ⟨d, hd, e1, e2, e3, e4⟩ | ⟨e1, m', em, w, hw, e2, e3, e4⟩
    · refine Or.inl ⟨d, hd, by rw [hu1]; exact e1, by rw [hu2]; exact e2, ?_, ?_⟩
      · rw [hu2]; exact hPS m _ _ e3
      · rw [hu2]; exact UC_shift (fun j hj => hu j (by omega)) (fun j h1 h2 => hf j h1 (by omega)) hn e4
    · refine Or.inr ⟨by rw [hu1]; exact e1, m', em, w, hw, e2, hPS m' _ _ e3, ?_⟩
      exact UC_shift (fun j hj => hu j (by omega)) (fun j h1 h2 => hf j h1 (by omega)) hn e4
theorem OK4_shift {lw ni nm : Nat} {kn kd tr mi md me mv mt ud ue f : Nat → Int32} (h : OK4 lw ni nm 8 kn kd tr mi md me mv mt ud ue f) : OK4 lw ni nm 7 kn kd tr mi md me mv mt (suF ud 8) (suF ue 8) (upd (shF f 77) 2 (nI 7)) := by
  obtain ⟨⟨a1, a2⟩, ⟨b1, b2⟩, c1, ⟨d1, d2⟩, e1, f1, ⟨g0, g1⟩, k1, l1⟩ := h
  have hu : ∀ j, j ≠ 2 → j < 58 → upd (shF f 77) 2 (nI 7) j = f j := fun j h1 h2 => by rw [pk_un h1]; unfold shF; rw [if_neg (by omega)]
  refine ⟨⟨by rw [hu _ (by omega) (by omega)]; exact a1, a2⟩, ⟨by rw [hu _ (by omega) (by omega)]; exact b1, b2⟩, by rw [hu _ (by omega) (by omega)]; exact c1, ⟨rfl, by omega⟩, fun d hd => ?_, fun i hi => ?_, ⟨g0, g1⟩, fun j hj => ?_, ?_⟩
  · rw [hu _ (by omega) (by omega)]; exact e1 d hd
  · rw [hu _ (by omega) (by omega), hu _ (by omega) (by omega)]; exact f1 i hi
  · rw [hu _ (by omega) (by omega), hu _ (by omega) (by omega), hu _ (by omega) (by omega), hu _ (by omega) (by omega), hu _ (by omega) (by omega)]; exact k1 j hj
  · refine UC_shift (fun j hj => ?_) (fun j h1 h2 => ?_) b2 l1
    · unfold suF; rw [if_pos (by omega), if_pos (by omega)]; exact ⟨rfl, rfl⟩
    · rw [pk_un (by omega)]; unfold shF; rw [if_pos (by omega)]
theorem kp_lo {g : Nat → Int32} {n j : Nat} (h1 : j ≠ 2) (h2 : j < 58 + 11 * n) : kpF g n j = g j := by
  unfold kpF
  rw [pk_un h1]; unfold cpF; rw [if_neg (by omega)]
theorem kp_at {g : Nat → Int32} {n i : Nat} (h : i < 11) : kpF g n (58 + 11 * n + i) = g (3 + i) := by
  unfold kpF
  rw [pk_un (by omega)]; unfold cpF; rw [if_pos (by omega)]; congr 1; omega
theorem kp_PS {g kn tr : Nat → Int32} {n ni nm : Nat} (hn : ni ≤ 4) (c1 : g 3 = nI nm) (e1 : ∀ d, d < 6 → g (4 + d) = kn d) (f1 : ∀ i, i < ni → g (10 + i) = tr i) : PS (kpF g n) n nm ni kn tr := by
  refine ⟨?_, fun d hd => ?_, fun i hi => ?_⟩
  · have := kp_at (g := g) (n := n) (i := 0) (by omega)
    rw [Nat.add_zero] at this
    rw [this]; exact c1
  · rw [Nat.add_assoc, kp_at (by omega), ← e1 d hd]; congr 1; omega
  · rw [Nat.add_assoc, kp_at (by omega), ← f1 i hi]; congr 1; omega
theorem OK4_known {lw ni nm n d : Nat} {x : Int32} {kn kd tr mi md me mv mt ud ue f : Nat → Int32} (hn7 : n ≤ 7) (hd : d < 6) (hx : KOK x) (h : OK4 lw ni nm n kn kd tr mi md me mv mt ud ue f) : OK4 lw ni nm (n + 1) (upd kn d x) kd tr mi md me mv mt (upd ud n (nI d)) (upd ue n (kn d)) (upd (kpF f n) (4 + d) x) := by
  obtain ⟨⟨a1, a2⟩, ⟨b1, b2⟩, c1, ⟨d1, d2⟩, e1, f1, ⟨g0, g1⟩, k1, l1⟩ := h
  have hu : ∀ j, j ≠ 2 → j ≠ 4 + d → j < 58 → upd (kpF f n) (4 + d) x j = f j := fun j h1 h2 h3 => by rw [pk_un h2, kp_lo h1 (by omega)]
  refine ⟨⟨by rw [hu _ (by omega) (by omega) (by omega)]; exact a1, a2⟩, ⟨by rw [hu _ (by omega) (by omega) (by omega)]; exact b1, b2⟩, by rw [hu _ (by omega) (by omega) (by omega)]; exact c1, ⟨by rw [pk_un (by omega)]; exact pk_us, by omega⟩, fun dd hdd => ?_, fun i hi => ?_, ⟨g0, g1⟩, fun j hj => ?_, ?_⟩
  · by_cases q : dd = d
    · subst q; rw [pk_us, pk_us]; exact ⟨rfl, hx⟩
    · rw [hu _ (by omega) (by omega) (by omega), pk_un q]; exact e1 dd hdd
  · rw [hu _ (by omega) (by omega) (by omega), hu _ (by omega) (by omega) (by omega)]; exact f1 i hi
  · have := g0
    rw [hu _ (by omega) (by omega) (by omega), hu _ (by omega) (by omega) (by omega), hu _ (by omega) (by omega) (by omega), hu _ (by omega) (by omega) (by omega), hu _ (by omega) (by omega) (by omega)]; exact k1 j hj
  · have ek : upd (upd kn d x) d (kn d) = kn := by
      funext j
      unfold upd
      by_cases q : j = d
      · rw [if_pos q, q]
      · rw [if_neg q, if_neg q]
    refine Or.inl ⟨d, hd, pk_us, by rw [pk_us]; exact (e1 d hd).2, ?_, ?_⟩
    · rw [pk_us, ek]
      obtain ⟨p1, p2, p3⟩ := kp_PS (g := f) (n := n) b2 c1 (fun d hd => (e1 d hd).1) (fun i hi => (f1 i hi).2)
      exact ⟨by rw [pk_un (by omega)]; exact p1, fun dd hdd => by rw [pk_un (by omega)]; exact p2 dd hdd, fun i hi => by rw [pk_un (by omega)]; exact p3 i hi⟩
    · rw [pk_us, ek]
      exact UC_congr (fun j hj => ⟨rfl, rfl⟩) (fun j hj => ⟨pk_un (by omega), pk_un (by omega)⟩) (fun j h1 h2 => by rw [pk_un (by omega), kp_lo (by omega) h2]) (fun _ _ => rfl) (fun _ _ => rfl) b2 l1
theorem ekok {x : Int32} : (x = ngI 1 ∨ ∃ e, e < 4 ∧ x = nI e) ∨ ¬ (-1 ≤ x.toInt ∧ x.toInt ≤ 3) := by
  rcases rng x 4 (by omega) with ⟨e, he, rfl, -⟩ | h
  · exact Or.inl (Or.inr ⟨e, he, rfl⟩)
  · by_cases q : x = ngI 1
    · exact Or.inl (Or.inl q)
    · refine Or.inr (fun c => ?_)
      have : x.toInt = -1 := by omega
      exact q (Int32.toInt_inj.mp (by rw [this]; rfl))
theorem st_known (v_X_firstKept : Int32) (v_X_secondKept : Int32) (v_X_above : Int64) (v_X_below : Int64) (v_X_refusedBad : Int32) (v_X_refusedNo : Int32) (v_X_refusedFull : Int32) (v_X_now_laws : Int32) (v_X_now_inspectors : Int32) (v_X_now_marks : Int32) (v_X_now_undos : Int32) (r_X_now_knownEvent : Nat → Int32) (r_X_now_kind : Nat → Int32) (r_X_now_trips : Nat → Int32) (r_X_now_markInspector : Nat → Int32) (r_X_now_markDay : Nat → Int32) (r_X_now_markEvents : Nat → Int32) (r_X_now_markValue : Nat → Int32) (r_X_now_markTrips : Nat → Int32) (r_X_now_undoDay : Nat → Int32) (r_X_now_undoEvent : Nat → Int32) (v_X_firstImage_laws : Int32) (v_X_firstImage_inspectors : Int32) (v_X_firstImage_marks : Int32) (v_X_firstImage_undos : Int32) (r_X_firstImage_knownEvent : Nat → Int32) (r_X_firstImage_kind : Nat → Int32) (r_X_firstImage_trips : Nat → Int32) (r_X_firstImage_markInspector : Nat → Int32) (r_X_firstImage_markDay : Nat → Int32) (r_X_firstImage_markEvents : Nat → Int32) (r_X_firstImage_markValue : Nat → Int32) (r_X_firstImage_markTrips : Nat → Int32) (r_X_firstImage_undoDay : Nat → Int32) (r_X_firstImage_undoEvent : Nat → Int32) (v_X_secondImage_laws : Int32) (v_X_secondImage_inspectors : Int32) (v_X_secondImage_marks : Int32) (v_X_secondImage_undos : Int32) (r_X_secondImage_knownEvent : Nat → Int32) (r_X_secondImage_kind : Nat → Int32) (r_X_secondImage_trips : Nat → Int32) (r_X_secondImage_markInspector : Nat → Int32) (r_X_secondImage_markDay : Nat → Int32) (r_X_secondImage_markEvents : Nat → Int32) (r_X_secondImage_markValue : Nat → Int32) (r_X_secondImage_markTrips : Nat → Int32) (r_X_secondImage_undoDay : Nat → Int32) (r_X_secondImage_undoEvent : Nat → Int32) (v_X_text_length : Int32) (r_X_text_bytes : Nat → Int32) (v_M_above : Int64) (v_M_below : Int64) (v_M_bytesLong : Int32) (r_M_now : Nat → Int32) (r_M_kept : Nat → Int32) (r_M_isKept : Nat → Int32) (r_M_refused : Nat → Int32) (r_M_bytes : Nat → Int32) (x1 : Int32) (x2 : Int32) (hR : Rel (v_X_now_laws, v_X_now_inspectors, v_X_now_marks, v_X_now_undos, r_X_now_knownEvent, r_X_now_kind, r_X_now_trips, r_X_now_markInspector, r_X_now_markDay, r_X_now_markEvents, r_X_now_markValue, r_X_now_markTrips, r_X_now_undoDay, r_X_now_undoEvent) (v_X_firstImage_laws, v_X_firstImage_inspectors, v_X_firstImage_marks, v_X_firstImage_undos, r_X_firstImage_knownEvent, r_X_firstImage_kind, r_X_firstImage_trips, r_X_firstImage_markInspector, r_X_firstImage_markDay, r_X_firstImage_markEvents, r_X_firstImage_markValue, r_X_firstImage_markTrips, r_X_firstImage_undoDay, r_X_firstImage_undoEvent) (v_X_secondImage_laws, v_X_secondImage_inspectors, v_X_secondImage_marks, v_X_secondImage_undos, r_X_secondImage_knownEvent, r_X_secondImage_kind, r_X_secondImage_trips, r_X_secondImage_markInspector, r_X_secondImage_markDay, r_X_secondImage_markEvents, r_X_secondImage_markValue, r_X_secondImage_markTrips, r_X_secondImage_undoDay, r_X_secondImage_undoEvent) v_X_firstKept v_X_secondKept v_X_text_length r_X_text_bytes v_X_above v_X_below v_X_refusedBad v_X_refusedNo v_X_refusedFull r_M_now r_M_kept r_M_isKept r_M_refused v_M_above v_M_below r_M_bytes v_M_bytesLong) : ∃ (r : Int32) (ov_X_refusedBad : Int32) (ov_X_now_undos : Int32) (or_X_now_knownEvent : Nat → Int32) (or_X_now_undoDay : Nat → Int32) (or_X_now_undoEvent : Nat → Int32) (or_M_now : Nat → Int32) (or_M_refused : Nat → Int32), f_X4_known x1 x2 v_X_refusedBad v_X_now_undos r_X_now_knownEvent r_X_now_undoDay r_X_now_undoEvent = some (r, ov_X_refusedBad, ov_X_now_undos, or_X_now_knownEvent, or_X_now_undoDay, or_X_now_undoEvent) ∧ f_X5_known x1 x2 r_M_now r_M_refused = some (r, or_M_now, or_M_refused) ∧ Rel (v_X_now_laws, v_X_now_inspectors, v_X_now_marks, ov_X_now_undos, or_X_now_knownEvent, r_X_now_kind, r_X_now_trips, r_X_now_markInspector, r_X_now_markDay, r_X_now_markEvents, r_X_now_markValue, r_X_now_markTrips, or_X_now_undoDay, or_X_now_undoEvent) (v_X_firstImage_laws, v_X_firstImage_inspectors, v_X_firstImage_marks, v_X_firstImage_undos, r_X_firstImage_knownEvent, r_X_firstImage_kind, r_X_firstImage_trips, r_X_firstImage_markInspector, r_X_firstImage_markDay, r_X_firstImage_markEvents, r_X_firstImage_markValue, r_X_firstImage_markTrips, r_X_firstImage_undoDay, r_X_firstImage_undoEvent) (v_X_secondImage_laws, v_X_secondImage_inspectors, v_X_secondImage_marks, v_X_secondImage_undos, r_X_secondImage_knownEvent, r_X_secondImage_kind, r_X_secondImage_trips, r_X_secondImage_markInspector, r_X_secondImage_markDay, r_X_secondImage_markEvents, r_X_secondImage_markValue, r_X_secondImage_markTrips, r_X_secondImage_undoDay, r_X_secondImage_undoEvent) v_X_firstKept v_X_secondKept v_X_text_length r_X_text_bytes v_X_above v_X_below ov_X_refusedBad v_X_refusedNo v_X_refusedFull or_M_now r_M_kept r_M_isKept or_M_refused v_M_above v_M_below r_M_bytes v_M_bytesLong := by
  have hR0 := hR
  obtain ⟨hO, h0, h1, hT, hb, r1, r2, r3⟩ := hR
  obtain ⟨lw, ni, nm, nu, q1, q2, q3, q4, h⟩ := hO
  have q4 : v_X_now_undos = nI nu := q4
  subst q4
  have h : OK4 lw ni nm nu r_X_now_knownEvent r_X_now_kind r_X_now_trips r_X_now_markInspector r_X_now_markDay r_X_now_markEvents r_X_now_markValue r_X_now_markTrips r_X_now_undoDay r_X_now_undoEvent r_M_now := h
  have B1 : f_X4_known_J19 v_X_refusedBad (nI nu) r_X_now_knownEvent r_X_now_undoDay r_X_now_undoEvent = some (ngI 10, v_X_refusedBad + 1, nI nu, r_X_now_knownEvent, r_X_now_undoDay, r_X_now_undoEvent) := rfl
  have B2 : f_X5_known_J21 r_M_now r_M_refused = some (ngI 10, r_M_now, upd r_M_refused 0 (r_M_refused 0 + 1)) := rfl
  rcases rng x1 6 (by omega) with ⟨d, hd, rfl, hz⟩ | hz
  · rcases ekok (x := x2) with hx | hx
    · have hin : f_X5_in (Int32.toInt64 x2) (-1) 3 = nI 1 := by
        refine in_t (lo := -1) (hi := 3) rfl rfl ?_ ?_
        · rcases hx with rfl | ⟨e, he, rfl⟩
          · decide
          · rw [tN e (by omega)]; omega
        · rcases hx with rfl | ⟨e, he, rfl⟩
          · decide
          · rw [tN e (by omega)]; omega
      have X1 : f_X4_known (nI d) x2 v_X_refusedBad (nI nu) r_X_now_knownEvent r_X_now_undoDay r_X_now_undoEvent = f_X4_known_J27 (nI d) x2 v_X_refusedBad (nI nu) r_X_now_knownEvent r_X_now_undoDay r_X_now_undoEvent := by
        rw [f_X4_known, xday_t hd, if_n1]
        rcases hx with rfl | ⟨e, he, rfl⟩
        · rw [if_pos (show ngI 1 = -1 from rfl)]
        · by_cases q : nI e = (-1 : Int32)
          · rw [if_pos q]
          · rw [if_neg q, xev_t he, if_n1]
      have kd1 : r_M_now (4 + d) = r_X_now_knownEvent d := (h.2.2.2.2.1 d hd).1
      have h2 := h.2.2.2.1.1
      rcases (show nu ≤ 7 ∨ nu = 8 by have := h.2.2.2.1.2; omega) with hn7 | rfl
      · refine ⟨r_X_now_knownEvent d, v_X_refusedBad, nI (nu + 1), upd r_X_now_knownEvent d x2, upd r_X_now_undoDay nu (nI d), upd r_X_now_undoEvent nu (r_X_now_knownEvent d), upd (kpF r_M_now nu) (4 + d) x2, r_M_refused, ?_, ?_, ⟨lw, ni, nm, nu + 1, q1, q2, q3, rfl, OK4_known hn7 hd hx h⟩, h0, h1, hT, hb, r1, r2, r3⟩
        · rw [X1]
          simp (disch := omega) only [f_X4_known_J27, f_X0_learn, ↓n_neg1, ↓n_neg2, ↓n_neg3, ↓n_neg4, ↓n_neg5, ↓n_neg10, n_lit, n_le, n_lt, n_eq, n_cl, n_add, n_mul, n_sub, ckI_n, n_shl1, n_shr, n_and, n_or, bd1_n, n_ng, ng_n, ng_ng, x_rem1 hn7]
          rfl
        · rw [f_X5_known, mday_t hd, if_n1, hin, if_n1, m_keep1 hn7 h2]
          simp (disch := omega) only [↓n_neg1, ↓n_neg2, ↓n_neg3, ↓n_neg4, ↓n_neg5, ↓n_neg10, n_lit, n_le, n_lt, n_eq, n_cl, n_add, n_mul, n_sub, ckI_n, n_shl1, n_shr, n_and, n_or, bd1_n, n_ng, ng_n, ng_ng, kd1]
      · have h7 := OK4_shift h
        refine ⟨r_X_now_knownEvent d, v_X_refusedBad, nI (7 + 1), upd r_X_now_knownEvent d x2, upd (suF r_X_now_undoDay 8) 7 (nI d), upd (suF r_X_now_undoEvent 8) 7 (r_X_now_knownEvent d), upd (kpF (upd (shF r_M_now 77) 2 (nI 7)) 7) (4 + d) x2, r_M_refused, ?_, ?_, ⟨lw, ni, nm, 7 + 1, q1, q2, q3, rfl, OK4_known (by omega) hd hx h7⟩, h0, h1, hT, hb, r1, r2, r3⟩
        · rw [X1]
          simp (disch := omega) only [f_X4_known_J27, f_X0_learn, ↓n_neg1, ↓n_neg2, ↓n_neg3, ↓n_neg4, ↓n_neg5, ↓n_neg10, n_lit, n_le, n_lt, n_eq, n_cl, n_add, n_mul, n_sub, ckI_n, n_shl1, n_shr, n_and, n_or, bd1_n, n_ng, ng_n, ng_ng, x_rem8]
          rfl
        · rw [f_X5_known, mday_t hd, if_n1, hin, if_n1, m_keep8 h2]
          simp (disch := omega) only [↓n_neg1, ↓n_neg2, ↓n_neg3, ↓n_neg4, ↓n_neg5, ↓n_neg10, n_lit, n_le, n_lt, n_eq, n_cl, n_add, n_mul, n_sub, ckI_n, n_shl1, n_shr, n_and, n_or, bd1_n, n_ng, ng_n, ng_ng, kd1]
    · have hin : f_X5_in (Int32.toInt64 x2) (-1) 3 = nI 0 := in_f (lo := -1) (hi := 3) rfl rfl hx
      refine ⟨ngI 10, v_X_refusedBad + 1, nI nu, r_X_now_knownEvent, r_X_now_undoDay, r_X_now_undoEvent, r_M_now, upd r_M_refused 0 (r_M_refused 0 + 1), ?_, ?_, hR0.bad⟩
      · rw [f_X4_known, xday_t hd, if_n1, if_neg (fun q => hx (by rw [q]; decide)), xev_f (fun q => hx (by omega)), if_n0, B1]
      · rw [f_X5_known, mday_t hd, if_n1, hin, if_n0, B2]
  · refine ⟨ngI 10, v_X_refusedBad + 1, nI nu, r_X_now_knownEvent, r_X_now_undoDay, r_X_now_undoEvent, r_M_now, upd r_M_refused 0 (r_M_refused 0 + 1), ?_, ?_, hR0.bad⟩
    · rw [f_X4_known, xday_f hz, if_n0, B1]
    · rw [f_X5_known, mday_f hz, if_n0, B2]
