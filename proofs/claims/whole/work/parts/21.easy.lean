/-! tests of numbers: class and reference agree -/
theorem i_le (a b : Int32) : a ≤ b ↔ a.toInt ≤ b.toInt := Int32.le_iff_toInt_le
theorem i_lt (a b : Int32) : a < b ↔ a.toInt < b.toInt := Int32.lt_iff_toInt_lt
theorem j_le (a b : Int64) : a ≤ b ↔ a.toInt ≤ b.toInt := Int64.le_iff_toInt_le
theorem j_lt (a b : Int64) : a < b ↔ a.toInt < b.toInt := Int64.lt_iff_toInt_lt
theorem w_toInt (x : Int32) : x.toInt64.toInt = x.toInt := Int32.toInt_toInt64 x
theorem m_in {x : Int32} {a b : Int64} {lo hi : Int} (ha : a.toInt = lo) (hb : b.toInt = hi) : f_X5_in x.toInt64 a b = nI (if lo ≤ x.toInt ∧ x.toInt ≤ hi then 1 else 0) := by
  unfold f_X5_in
  by_cases h1 : lo ≤ x.toInt
  · rw [if_neg (by rw [lg_lt, j_lt, w_toInt, ha]; omega)]
    by_cases h2 : x.toInt ≤ hi
    · rw [if_neg (by rw [lg_gt, j_lt, w_toInt, hb]; omega), if_pos ⟨h1, h2⟩]; rfl
    · rw [if_pos (by rw [lg_gt, j_lt, w_toInt, hb]; omega), if_neg (fun q => h2 q.2)]; rfl
  · rw [if_pos (by rw [lg_lt, j_lt, w_toInt, ha]; omega), if_neg (fun q => h1 q.1)]; rfl
/-- a number within 0 .. n - 1, or not -/
theorem rng (x : Int32) (n : Nat) (hn : n < 2 ^ 31) : (∃ j, j < n ∧ x = nI j ∧ 0 ≤ x.toInt ∧ x.toInt ≤ (n : Int) - 1) ∨ ¬ (0 ≤ x.toInt ∧ x.toInt ≤ (n : Int) - 1) := by
  by_cases h : 0 ≤ x.toInt ∧ x.toInt ≤ (n : Int) - 1
  · obtain ⟨j, hj, e⟩ := vp_in_of (vp_in_iff.mpr ⟨h.1, by omega⟩ : vp_in x n) hn
    exact Or.inl ⟨j, hj, e, h⟩
  · exact Or.inr h
theorem t0 : (0 : Int32).toInt = 0 := rfl
theorem tN (n : Nat) (h : n < 2 ^ 31) : (nI n).toInt = n := nI_toInt h
theorem x_isDay (x : Int32) : f_X4_isDay x = nI (if 0 ≤ x.toInt ∧ x.toInt ≤ 5 then 1 else 0) := by
  unfold f_X4_isDay
  have e6 : (6 : Int32).toInt = 6 := rfl
  by_cases h1 : x < 0
  · rw [if_pos h1, if_neg (fun q => by have := (i_lt x 0).mp h1; rw [t0] at this; omega)]; rfl
  · rw [if_neg h1]
    rw [i_lt, t0] at h1
    by_cases h2 : (6 : Int32) ≤ x
    · rw [if_pos h2, if_neg (fun q => by have := (i_le 6 x).mp h2; rw [e6] at this; omega)]; rfl
    · rw [if_neg h2]
      rw [i_le, e6] at h2
      rw [if_pos (by omega)]; rfl
theorem x_isEvent (x : Int32) : f_X4_isEvent x = nI (if 0 ≤ x.toInt ∧ x.toInt ≤ 3 then 1 else 0) := by
  unfold f_X4_isEvent
  have e6 : (4 : Int32).toInt = 4 := rfl
  by_cases h1 : x < 0
  · rw [if_pos h1, if_neg (fun q => by have := (i_lt x 0).mp h1; rw [t0] at this; omega)]; rfl
  · rw [if_neg h1]
    rw [i_lt, t0] at h1
    by_cases h2 : (4 : Int32) ≤ x
    · rw [if_pos h2, if_neg (fun q => by have := (i_le 4 x).mp h2; rw [e6] at this; omega)]; rfl
    · rw [if_neg h2]
      rw [i_le, e6] at h2
      rw [if_pos (by omega)]; rfl
theorem m_isDay (x : Int32) : f_X5_isDay x = nI (if 0 ≤ x.toInt ∧ x.toInt ≤ 5 then 1 else 0) := m_in rfl rfl
theorem m_isEvent (x : Int32) : f_X5_isEvent x = nI (if 0 ≤ x.toInt ∧ x.toInt ≤ 3 then 1 else 0) := m_in rfl rfl
theorem m_areEvents (x : Int32) : f_X5_areEvents x = nI (if 1 ≤ x.toInt ∧ x.toInt ≤ 14 then 1 else 0) := m_in rfl rfl
theorem pred_toInt {n : Nat} (h : n < 2 ^ 30) : (Int32.toInt64 (nI n - 1)).toInt = (n : Int) - 1 := by
  rw [w_toInt, show (1 : Int32) = nI 1 from rfl, pk_sub_toInt h (by omega)]; rfl
theorem m_isOne {x : Int32} {f : Nat → Int32} {ni : Nat} (hf : f 0 = nI ni) (hn : ni ≤ 4) : f_X5_isOne x f = nI (if 0 ≤ x.toInt ∧ x.toInt ≤ (ni : Int) - 1 then 1 else 0) := by
  unfold f_X5_isOne f_X5_many
  show f_X5_in _ _ (Int32.toInt64 (f 0 - 1)) = _
  rw [hf]
  exact m_in rfl (pred_toInt (by omega))
theorem x_isInspector {x : Int32} {ni : Nat} (hn : ni ≤ 4) : f_X4_isInspector x (nI ni) = nI (if 0 ≤ x.toInt ∧ x.toInt ≤ (ni : Int) - 1 then 1 else 0) := by
  unfold f_X4_isInspector
  have e6 : (4 : Int32).toInt = 4 := rfl
  by_cases h1 : x < 0
  · rw [if_pos h1, if_neg (fun q => by have := (i_lt x 0).mp h1; rw [t0] at this; omega)]; rfl
  · rw [if_neg h1]
    rw [i_lt, t0] at h1
    by_cases h2 : nI ni ≤ x
    · rw [if_pos h2, if_neg (fun q => by have := (i_le _ x).mp h2; rw [tN ni (by omega)] at this; omega)]; rfl
    · rw [if_neg h2]
      rw [i_le, tN ni (by omega)] at h2
      rw [if_neg (by rw [i_le, e6]; omega), if_pos (by omega)]; rfl
theorem n1_ne0 : ¬ nI 1 = 0 := by decide
theorem n0_eq0 : nI 0 = 0 := rfl
/-- what a bad number does on both sides -/
theorem x_bad (v : Int32) : f_X4_refuseBad v = some (ngI 2, v + 1) := rfl
theorem x_no (v : Int32) : f_X4_refuseNo v = some (ngI 3, v + 1) := rfl
theorem x_full (v : Int32) : f_X4_refuseFull v = some (ngI 4, v + 1) := rfl
theorem m_bad (x : Int32) (r : Nat → Int32) : f_X5_bad x r = some (x, upd r 0 (r 0 + 1)) := rfl
theorem m_no (r : Nat → Int32) : f_X5_no r = some (ngI 3, upd r 1 (r 1 + 1)) := rfl
theorem m_full (r : Nat → Int32) : f_X5_full r = some (ngI 4, upd r 2 (r 2 + 1)) := rfl
theorem Rel.bad {nw i0 i1 : OF} {k0 k1 len : Int32} {by_ : Nat → Int32} {ab be : Int64} {rb rn rf : Int32} {mn mk mz mr : Nat → Int32} {mab mbe : Int64} {mby : Nat → Int32} {mlen : Int32} (h : Rel nw i0 i1 k0 k1 len by_ ab be rb rn rf mn mk mz mr mab mbe mby mlen) : Rel nw i0 i1 k0 k1 len by_ ab be (rb + 1) rn rf mn mk mz (upd mr 0 (mr 0 + 1)) mab mbe mby mlen := by
  obtain ⟨a, b, c, d, e, f1, f2, f3⟩ := h
  exact ⟨a, b, c, d, e, by rw [f1]; rfl, f2, f3⟩
theorem Rel.no {nw i0 i1 : OF} {k0 k1 len : Int32} {by_ : Nat → Int32} {ab be : Int64} {rb rn rf : Int32} {mn mk mz mr : Nat → Int32} {mab mbe : Int64} {mby : Nat → Int32} {mlen : Int32} (h : Rel nw i0 i1 k0 k1 len by_ ab be rb rn rf mn mk mz mr mab mbe mby mlen) : Rel nw i0 i1 k0 k1 len by_ ab be rb (rn + 1) rf mn mk mz (upd mr 1 (mr 1 + 1)) mab mbe mby mlen := by
  obtain ⟨a, b, c, d, e, f1, f2, f3⟩ := h
  exact ⟨a, b, c, d, e, f1, by rw [f2]; rfl, f3⟩
theorem Rel.full {nw i0 i1 : OF} {k0 k1 len : Int32} {by_ : Nat → Int32} {ab be : Int64} {rb rn rf : Int32} {mn mk mz mr : Nat → Int32} {mab mbe : Int64} {mby : Nat → Int32} {mlen : Int32} (h : Rel nw i0 i1 k0 k1 len by_ ab be rb rn rf mn mk mz mr mab mbe mby mlen) : Rel nw i0 i1 k0 k1 len by_ ab be rb rn (rf + 1) mn mk mz (upd mr 2 (mr 2 + 1)) mab mbe mby mlen := by
  obtain ⟨a, b, c, d, e, f1, f2, f3⟩ := h
  exact ⟨a, b, c, d, e, f1, f2, by rw [f3]; rfl⟩
theorem st_part (v_X_firstKept : Int32) (v_X_secondKept : Int32) (v_X_above : Int64) (v_X_below : Int64) (v_X_refusedBad : Int32) (v_X_refusedNo : Int32) (v_X_refusedFull : Int32) (v_X_now_laws : Int32) (v_X_now_inspectors : Int32) (v_X_now_marks : Int32) (v_X_now_undos : Int32) (r_X_now_knownEvent : Nat → Int32) (r_X_now_kind : Nat → Int32) (r_X_now_trips : Nat → Int32) (r_X_now_markInspector : Nat → Int32) (r_X_now_markDay : Nat → Int32) (r_X_now_markEvents : Nat → Int32) (r_X_now_markValue : Nat → Int32) (r_X_now_markTrips : Nat → Int32) (r_X_now_undoDay : Nat → Int32) (r_X_now_undoEvent : Nat → Int32) (v_X_firstImage_laws : Int32) (v_X_firstImage_inspectors : Int32) (v_X_firstImage_marks : Int32) (v_X_firstImage_undos : Int32) (r_X_firstImage_knownEvent : Nat → Int32) (r_X_firstImage_kind : Nat → Int32) (r_X_firstImage_trips : Nat → Int32) (r_X_firstImage_markInspector : Nat → Int32) (r_X_firstImage_markDay : Nat → Int32) (r_X_firstImage_markEvents : Nat → Int32) (r_X_firstImage_markValue : Nat → Int32) (r_X_firstImage_markTrips : Nat → Int32) (r_X_firstImage_undoDay : Nat → Int32) (r_X_firstImage_undoEvent : Nat → Int32) (v_X_secondImage_laws : Int32) (v_X_secondImage_inspectors : Int32) (v_X_secondImage_marks : Int32) (v_X_secondImage_undos : Int32) (r_X_secondImage_knownEvent : Nat → Int32) (r_X_secondImage_kind : Nat → Int32) (r_X_secondImage_trips : Nat → Int32) (r_X_secondImage_markInspector : Nat → Int32) (r_X_secondImage_markDay : Nat → Int32) (r_X_secondImage_markEvents : Nat → Int32) (r_X_secondImage_markValue : Nat → Int32) (r_X_secondImage_markTrips : Nat → Int32) (r_X_secondImage_undoDay : Nat → Int32) (r_X_secondImage_undoEvent : Nat → Int32) (v_X_text_length : Int32) (r_X_text_bytes : Nat → Int32) (v_M_above : Int64) (v_M_below : Int64) (v_M_bytesLong : Int32) (r_M_now : Nat → Int32) (r_M_kept : Nat → Int32) (r_M_isKept : Nat → Int32) (r_M_refused : Nat → Int32) (r_M_bytes : Nat → Int32) (x1 : Int32) (hR : Rel (v_X_now_laws, v_X_now_inspectors, v_X_now_marks, v_X_now_undos, r_X_now_knownEvent, r_X_now_kind, r_X_now_trips, r_X_now_markInspector, r_X_now_markDay, r_X_now_markEvents, r_X_now_markValue, r_X_now_markTrips, r_X_now_undoDay, r_X_now_undoEvent) (v_X_firstImage_laws, v_X_firstImage_inspectors, v_X_firstImage_marks, v_X_firstImage_undos, r_X_firstImage_knownEvent, r_X_firstImage_kind, r_X_firstImage_trips, r_X_firstImage_markInspector, r_X_firstImage_markDay, r_X_firstImage_markEvents, r_X_firstImage_markValue, r_X_firstImage_markTrips, r_X_firstImage_undoDay, r_X_firstImage_undoEvent) (v_X_secondImage_laws, v_X_secondImage_inspectors, v_X_secondImage_marks, v_X_secondImage_undos, r_X_secondImage_knownEvent, r_X_secondImage_kind, r_X_secondImage_trips, r_X_secondImage_markInspector, r_X_secondImage_markDay, r_X_secondImage_markEvents, r_X_secondImage_markValue, r_X_secondImage_markTrips, r_X_secondImage_undoDay, r_X_secondImage_undoEvent) v_X_firstKept v_X_secondKept v_X_text_length r_X_text_bytes v_X_above v_X_below v_X_refusedBad v_X_refusedNo v_X_refusedFull r_M_now r_M_kept r_M_isKept r_M_refused v_M_above v_M_below r_M_bytes v_M_bytesLong) : ∃ (r : Int64) (ov_X_refusedBad : Int32) (or_M_refused : Nat → Int32), f_X4_part x1 v_X_above v_X_below v_X_refusedBad = some (r, ov_X_refusedBad) ∧ f_X5_part x1 v_M_above v_M_below r_M_refused = some (r, or_M_refused) ∧ Rel (v_X_now_laws, v_X_now_inspectors, v_X_now_marks, v_X_now_undos, r_X_now_knownEvent, r_X_now_kind, r_X_now_trips, r_X_now_markInspector, r_X_now_markDay, r_X_now_markEvents, r_X_now_markValue, r_X_now_markTrips, r_X_now_undoDay, r_X_now_undoEvent) (v_X_firstImage_laws, v_X_firstImage_inspectors, v_X_firstImage_marks, v_X_firstImage_undos, r_X_firstImage_knownEvent, r_X_firstImage_kind, r_X_firstImage_trips, r_X_firstImage_markInspector, r_X_firstImage_markDay, r_X_firstImage_markEvents, r_X_firstImage_markValue, r_X_firstImage_markTrips, r_X_firstImage_undoDay, r_X_firstImage_undoEvent) (v_X_secondImage_laws, v_X_secondImage_inspectors, v_X_secondImage_marks, v_X_secondImage_undos, r_X_secondImage_knownEvent, r_X_secondImage_kind, r_X_secondImage_trips, r_X_secondImage_markInspector, r_X_secondImage_markDay, r_X_secondImage_markEvents, r_X_secondImage_markValue, r_X_secondImage_markTrips, r_X_secondImage_undoDay, r_X_secondImage_undoEvent) v_X_firstKept v_X_secondKept v_X_text_length r_X_text_bytes v_X_above v_X_below ov_X_refusedBad v_X_refusedNo v_X_refusedFull r_M_now r_M_kept r_M_isKept or_M_refused v_M_above v_M_below r_M_bytes v_M_bytesLong := by
  have hR0 := hR
  obtain ⟨hO, h0, h1, ht, ⟨ea, eb⟩, e1, e2, e3⟩ := hR
  unfold f_X4_part f_X5_part f_X4_part_J9
  by_cases c0 : x1 = 0
  · subst c0
    exact ⟨v_X_above, v_X_refusedBad, r_M_refused, by rw [if_neg (by decide), if_pos (by decide), if_pos rfl], by rw [if_pos rfl, ea], hR0⟩
  · by_cases c1 : x1 = 1
    · subst c1
      exact ⟨v_X_below, v_X_refusedBad, r_M_refused, by rw [if_neg (by decide), if_pos (by decide), if_neg (by decide)], by rw [if_neg (by decide), if_pos rfl, eb], hR0⟩
    · refine ⟨Int32.toInt64 (-2), v_X_refusedBad + 1, upd r_M_refused 0 (r_M_refused 0 + 1), ?_, by rw [if_neg c0, if_neg c1]; rfl, hR0.bad⟩
      by_cases c2 : x1 < 0
      · rw [if_pos c2]; rfl
      · rw [if_neg c2, if_neg (fun q => ?_)]
        · rfl
        · rw [i_lt, t0] at c2
          rw [i_le] at q
          have e1' : (1 : Int32).toInt = 1 := rfl
          rw [e1'] at q
          rcases (show x1.toInt = 0 ∨ x1.toInt = 1 by omega) with z | z
          · exact c0 (Int32.toInt_inj.mp z)
          · exact c1 (Int32.toInt_inj.mp z)
theorem if_n1 {α : Type} {a b : α} : (if nI 1 = (0 : Int32) then a else b) = b := if_neg n1_ne0
theorem if_n0 {α : Type} {a b : α} : (if nI 0 = (0 : Int32) then a else b) = a := if_pos rfl
theorem in_t {x : Int32} {a b : Int64} {lo hi : Int} (ha : a.toInt = lo) (hb : b.toInt = hi) (h1 : lo ≤ x.toInt) (h2 : x.toInt ≤ hi) : f_X5_in x.toInt64 a b = nI 1 := by rw [m_in ha hb, if_pos ⟨h1, h2⟩]
theorem in_f {x : Int32} {a b : Int64} {lo hi : Int} (ha : a.toInt = lo) (hb : b.toInt = hi) (h : ¬ (lo ≤ x.toInt ∧ x.toInt ≤ hi)) : f_X5_in x.toInt64 a b = nI 0 := by rw [m_in ha hb, if_neg h]
theorem xday_t {d : Nat} (h : d < 6) : f_X4_isDay (nI d) = nI 1 := by rw [x_isDay, tN d (by omega), if_pos (by omega)]
theorem mday_t {d : Nat} (h : d < 6) : f_X5_isDay (nI d) = nI 1 := by rw [m_isDay, tN d (by omega), if_pos (by omega)]
theorem xday_f {x : Int32} (h : ¬ (0 ≤ x.toInt ∧ x.toInt ≤ ((6 : Nat) : Int) - 1)) : f_X4_isDay x = nI 0 := by rw [x_isDay, if_neg (fun q => h ⟨q.1, by omega⟩)]
theorem mday_f {x : Int32} (h : ¬ (0 ≤ x.toInt ∧ x.toInt ≤ ((6 : Nat) : Int) - 1)) : f_X5_isDay x = nI 0 := by rw [m_isDay, if_neg (fun q => h ⟨q.1, by omega⟩)]
theorem xev_t {d : Nat} (h : d < 4) : f_X4_isEvent (nI d) = nI 1 := by rw [x_isEvent, tN d (by omega), if_pos (by omega)]
theorem mev_t {d : Nat} (h : d < 4) : f_X5_isEvent (nI d) = nI 1 := by rw [m_isEvent, tN d (by omega), if_pos (by omega)]
theorem xev_f {x : Int32} (h : ¬ (0 ≤ x.toInt ∧ x.toInt ≤ ((4 : Nat) : Int) - 1)) : f_X4_isEvent x = nI 0 := by rw [x_isEvent, if_neg (fun q => h ⟨q.1, by omega⟩)]
theorem mev_f {x : Int32} (h : ¬ (0 ≤ x.toInt ∧ x.toInt ≤ ((4 : Nat) : Int) - 1)) : f_X5_isEvent x = nI 0 := by rw [m_isEvent, if_neg (fun q => h ⟨q.1, by omega⟩)]
theorem xone_t {i ni : Nat} (h : i < ni) (hn : ni ≤ 4) : f_X4_isInspector (nI i) (nI ni) = nI 1 := by rw [x_isInspector hn, tN i (by omega), if_pos (by omega)]
theorem xone_f {x : Int32} {ni : Nat} (hn : ni ≤ 4) (h : ¬ (0 ≤ x.toInt ∧ x.toInt ≤ (ni : Int) - 1)) : f_X4_isInspector x (nI ni) = nI 0 := by rw [x_isInspector hn, if_neg h]
theorem mone_t {f : Nat → Int32} {i ni : Nat} (hf : f 0 = nI ni) (h : i < ni) (hn : ni ≤ 4) : f_X5_isOne (nI i) f = nI 1 := by rw [m_isOne hf hn, tN i (by omega), if_pos (by omega)]
theorem mone_f {f : Nat → Int32} {x : Int32} {ni : Nat} (hf : f 0 = nI ni) (hn : ni ≤ 4) (h : ¬ (0 ≤ x.toInt ∧ x.toInt ≤ (ni : Int) - 1)) : f_X5_isOne x f = nI 0 := by rw [m_isOne hf hn, if_neg h]
theorem not_lt0 {j : Nat} (h : j < 2 ^ 31) : ¬ nI j < 0 := nI_pos h
theorem st_status (v_X_firstKept : Int32) (v_X_secondKept : Int32) (v_X_above : Int64) (v_X_below : Int64) (v_X_refusedBad : Int32) (v_X_refusedNo : Int32) (v_X_refusedFull : Int32) (v_X_now_laws : Int32) (v_X_now_inspectors : Int32) (v_X_now_marks : Int32) (v_X_now_undos : Int32) (r_X_now_knownEvent : Nat → Int32) (r_X_now_kind : Nat → Int32) (r_X_now_trips : Nat → Int32) (r_X_now_markInspector : Nat → Int32) (r_X_now_markDay : Nat → Int32) (r_X_now_markEvents : Nat → Int32) (r_X_now_markValue : Nat → Int32) (r_X_now_markTrips : Nat → Int32) (r_X_now_undoDay : Nat → Int32) (r_X_now_undoEvent : Nat → Int32) (v_X_firstImage_laws : Int32) (v_X_firstImage_inspectors : Int32) (v_X_firstImage_marks : Int32) (v_X_firstImage_undos : Int32) (r_X_firstImage_knownEvent : Nat → Int32) (r_X_firstImage_kind : Nat → Int32) (r_X_firstImage_trips : Nat → Int32) (r_X_firstImage_markInspector : Nat → Int32) (r_X_firstImage_markDay : Nat → Int32) (r_X_firstImage_markEvents : Nat → Int32) (r_X_firstImage_markValue : Nat → Int32) (r_X_firstImage_markTrips : Nat → Int32) (r_X_firstImage_undoDay : Nat → Int32) (r_X_firstImage_undoEvent : Nat → Int32) (v_X_secondImage_laws : Int32) (v_X_secondImage_inspectors : Int32) (v_X_secondImage_marks : Int32) (v_X_secondImage_undos : Int32) (r_X_secondImage_knownEvent : Nat → Int32) (r_X_secondImage_kind : Nat → Int32) (r_X_secondImage_trips : Nat → Int32) (r_X_secondImage_markInspector : Nat → Int32) (r_X_secondImage_markDay : Nat → Int32) (r_X_secondImage_markEvents : Nat → Int32) (r_X_secondImage_markValue : Nat → Int32) (r_X_secondImage_markTrips : Nat → Int32) (r_X_secondImage_undoDay : Nat → Int32) (r_X_secondImage_undoEvent : Nat → Int32) (v_X_text_length : Int32) (r_X_text_bytes : Nat → Int32) (v_M_above : Int64) (v_M_below : Int64) (v_M_bytesLong : Int32) (r_M_now : Nat → Int32) (r_M_kept : Nat → Int32) (r_M_isKept : Nat → Int32) (r_M_refused : Nat → Int32) (r_M_bytes : Nat → Int32) (x1 : Int32) (hR : Rel (v_X_now_laws, v_X_now_inspectors, v_X_now_marks, v_X_now_undos, r_X_now_knownEvent, r_X_now_kind, r_X_now_trips, r_X_now_markInspector, r_X_now_markDay, r_X_now_markEvents, r_X_now_markValue, r_X_now_markTrips, r_X_now_undoDay, r_X_now_undoEvent) (v_X_firstImage_laws, v_X_firstImage_inspectors, v_X_firstImage_marks, v_X_firstImage_undos, r_X_firstImage_knownEvent, r_X_firstImage_kind, r_X_firstImage_trips, r_X_firstImage_markInspector, r_X_firstImage_markDay, r_X_firstImage_markEvents, r_X_firstImage_markValue, r_X_firstImage_markTrips, r_X_firstImage_undoDay, r_X_firstImage_undoEvent) (v_X_secondImage_laws, v_X_secondImage_inspectors, v_X_secondImage_marks, v_X_secondImage_undos, r_X_secondImage_knownEvent, r_X_secondImage_kind, r_X_secondImage_trips, r_X_secondImage_markInspector, r_X_secondImage_markDay, r_X_secondImage_markEvents, r_X_secondImage_markValue, r_X_secondImage_markTrips, r_X_secondImage_undoDay, r_X_secondImage_undoEvent) v_X_firstKept v_X_secondKept v_X_text_length r_X_text_bytes v_X_above v_X_below v_X_refusedBad v_X_refusedNo v_X_refusedFull r_M_now r_M_kept r_M_isKept r_M_refused v_M_above v_M_below r_M_bytes v_M_bytesLong) : ∃ (r : Int32) (ov_X_refusedBad : Int32) (or_M_refused : Nat → Int32), f_X4_status x1 v_X_refusedBad v_X_refusedNo v_X_refusedFull = some (r, ov_X_refusedBad) ∧ f_X5_status x1 r_M_refused = some (r, or_M_refused) ∧ Rel (v_X_now_laws, v_X_now_inspectors, v_X_now_marks, v_X_now_undos, r_X_now_knownEvent, r_X_now_kind, r_X_now_trips, r_X_now_markInspector, r_X_now_markDay, r_X_now_markEvents, r_X_now_markValue, r_X_now_markTrips, r_X_now_undoDay, r_X_now_undoEvent) (v_X_firstImage_laws, v_X_firstImage_inspectors, v_X_firstImage_marks, v_X_firstImage_undos, r_X_firstImage_knownEvent, r_X_firstImage_kind, r_X_firstImage_trips, r_X_firstImage_markInspector, r_X_firstImage_markDay, r_X_firstImage_markEvents, r_X_firstImage_markValue, r_X_firstImage_markTrips, r_X_firstImage_undoDay, r_X_firstImage_undoEvent) (v_X_secondImage_laws, v_X_secondImage_inspectors, v_X_secondImage_marks, v_X_secondImage_undos, r_X_secondImage_knownEvent, r_X_secondImage_kind, r_X_secondImage_trips, r_X_secondImage_markInspector, r_X_secondImage_markDay, r_X_secondImage_markEvents, r_X_secondImage_markValue, r_X_secondImage_markTrips, r_X_secondImage_undoDay, r_X_secondImage_undoEvent) v_X_firstKept v_X_secondKept v_X_text_length r_X_text_bytes v_X_above v_X_below ov_X_refusedBad v_X_refusedNo v_X_refusedFull r_M_now r_M_kept r_M_isKept or_M_refused v_M_above v_M_below r_M_bytes v_M_bytesLong := by
  have hR0 := hR
  obtain ⟨hO, h0, h1, ht, he, e1, e2, e3⟩ := hR
  rcases rng x1 3 (by omega) with ⟨j, hj, rfl, hz⟩ | hz
  · have hin : f_X5_in (Int32.toInt64 (nI j)) 0 2 = nI 1 := in_t (lo := 0) (hi := 2) rfl rfl (by omega) (by omega)
    simp (disch := omega) only [f_X5_status, hin, if_n1, ckI_n, n_cl]
    rcases (show j = 0 ∨ j = 1 ∨ j = 2 by omega) with rfl | rfl | rfl
    · exact ⟨_, _, _, rfl, by rw [e1], hR0⟩
    · exact ⟨_, _, _, rfl, by rw [e2], hR0⟩
    · exact ⟨_, _, _, rfl, by rw [e3], hR0⟩
  · have hin : f_X5_in (Int32.toInt64 x1) 0 2 = nI 0 := in_f (lo := 0) (hi := 2) rfl rfl (by omega)
    have n0 : ¬ x1 = 0 := fun q => hz (by rw [q]; decide)
    have n1 : ¬ x1 = 1 := fun q => hz (by rw [q]; decide)
    have n2 : ¬ x1 = 2 := fun q => hz (by rw [q]; decide)
    refine ⟨ngI 1, v_X_refusedBad + 1, upd r_M_refused 0 (r_M_refused 0 + 1), ?_, ?_, hR0.bad⟩
    · rw [f_X4_status, if_neg n0, if_neg n1, if_neg n2]; rfl
    · rw [f_X5_status, hin, if_n0]; rfl
theorem st_of (v_X_firstKept : Int32) (v_X_secondKept : Int32) (v_X_above : Int64) (v_X_below : Int64) (v_X_refusedBad : Int32) (v_X_refusedNo : Int32) (v_X_refusedFull : Int32) (v_X_now_laws : Int32) (v_X_now_inspectors : Int32) (v_X_now_marks : Int32) (v_X_now_undos : Int32) (r_X_now_knownEvent : Nat → Int32) (r_X_now_kind : Nat → Int32) (r_X_now_trips : Nat → Int32) (r_X_now_markInspector : Nat → Int32) (r_X_now_markDay : Nat → Int32) (r_X_now_markEvents : Nat → Int32) (r_X_now_markValue : Nat → Int32) (r_X_now_markTrips : Nat → Int32) (r_X_now_undoDay : Nat → Int32) (r_X_now_undoEvent : Nat → Int32) (v_X_firstImage_laws : Int32) (v_X_firstImage_inspectors : Int32) (v_X_firstImage_marks : Int32) (v_X_firstImage_undos : Int32) (r_X_firstImage_knownEvent : Nat → Int32) (r_X_firstImage_kind : Nat → Int32) (r_X_firstImage_trips : Nat → Int32) (r_X_firstImage_markInspector : Nat → Int32) (r_X_firstImage_markDay : Nat → Int32) (r_X_firstImage_markEvents : Nat → Int32) (r_X_firstImage_markValue : Nat → Int32) (r_X_firstImage_markTrips : Nat → Int32) (r_X_firstImage_undoDay : Nat → Int32) (r_X_firstImage_undoEvent : Nat → Int32) (v_X_secondImage_laws : Int32) (v_X_secondImage_inspectors : Int32) (v_X_secondImage_marks : Int32) (v_X_secondImage_undos : Int32) (r_X_secondImage_knownEvent : Nat → Int32) (r_X_secondImage_kind : Nat → Int32) (r_X_secondImage_trips : Nat → Int32) (r_X_secondImage_markInspector : Nat → Int32) (r_X_secondImage_markDay : Nat → Int32) (r_X_secondImage_markEvents : Nat → Int32) (r_X_secondImage_markValue : Nat → Int32) (r_X_secondImage_markTrips : Nat → Int32) (r_X_secondImage_undoDay : Nat → Int32) (r_X_secondImage_undoEvent : Nat → Int32) (v_X_text_length : Int32) (r_X_text_bytes : Nat → Int32) (v_M_above : Int64) (v_M_below : Int64) (v_M_bytesLong : Int32) (r_M_now : Nat → Int32) (r_M_kept : Nat → Int32) (r_M_isKept : Nat → Int32) (r_M_refused : Nat → Int32) (r_M_bytes : Nat → Int32) (x1 : Int32) (x2 : Int32) (hR : Rel (v_X_now_laws, v_X_now_inspectors, v_X_now_marks, v_X_now_undos, r_X_now_knownEvent, r_X_now_kind, r_X_now_trips, r_X_now_markInspector, r_X_now_markDay, r_X_now_markEvents, r_X_now_markValue, r_X_now_markTrips, r_X_now_undoDay, r_X_now_undoEvent) (v_X_firstImage_laws, v_X_firstImage_inspectors, v_X_firstImage_marks, v_X_firstImage_undos, r_X_firstImage_knownEvent, r_X_firstImage_kind, r_X_firstImage_trips, r_X_firstImage_markInspector, r_X_firstImage_markDay, r_X_firstImage_markEvents, r_X_firstImage_markValue, r_X_firstImage_markTrips, r_X_firstImage_undoDay, r_X_firstImage_undoEvent) (v_X_secondImage_laws, v_X_secondImage_inspectors, v_X_secondImage_marks, v_X_secondImage_undos, r_X_secondImage_knownEvent, r_X_secondImage_kind, r_X_secondImage_trips, r_X_secondImage_markInspector, r_X_secondImage_markDay, r_X_secondImage_markEvents, r_X_secondImage_markValue, r_X_secondImage_markTrips, r_X_secondImage_undoDay, r_X_secondImage_undoEvent) v_X_firstKept v_X_secondKept v_X_text_length r_X_text_bytes v_X_above v_X_below v_X_refusedBad v_X_refusedNo v_X_refusedFull r_M_now r_M_kept r_M_isKept r_M_refused v_M_above v_M_below r_M_bytes v_M_bytesLong) : ∃ (r : Int32) (ov_X_refusedBad : Int32) (or_M_refused : Nat → Int32), f_X4_of x1 x2 v_X_refusedBad v_X_now_inspectors r_X_now_kind r_X_now_trips = some (r, ov_X_refusedBad) ∧ f_X5_of x1 x2 r_M_now r_M_refused = some (r, or_M_refused) ∧ Rel (v_X_now_laws, v_X_now_inspectors, v_X_now_marks, v_X_now_undos, r_X_now_knownEvent, r_X_now_kind, r_X_now_trips, r_X_now_markInspector, r_X_now_markDay, r_X_now_markEvents, r_X_now_markValue, r_X_now_markTrips, r_X_now_undoDay, r_X_now_undoEvent) (v_X_firstImage_laws, v_X_firstImage_inspectors, v_X_firstImage_marks, v_X_firstImage_undos, r_X_firstImage_knownEvent, r_X_firstImage_kind, r_X_firstImage_trips, r_X_firstImage_markInspector, r_X_firstImage_markDay, r_X_firstImage_markEvents, r_X_firstImage_markValue, r_X_firstImage_markTrips, r_X_firstImage_undoDay, r_X_firstImage_undoEvent) (v_X_secondImage_laws, v_X_secondImage_inspectors, v_X_secondImage_marks, v_X_secondImage_undos, r_X_secondImage_knownEvent, r_X_secondImage_kind, r_X_secondImage_trips, r_X_secondImage_markInspector, r_X_secondImage_markDay, r_X_secondImage_markEvents, r_X_secondImage_markValue, r_X_secondImage_markTrips, r_X_secondImage_undoDay, r_X_secondImage_undoEvent) v_X_firstKept v_X_secondKept v_X_text_length r_X_text_bytes v_X_above v_X_below ov_X_refusedBad v_X_refusedNo v_X_refusedFull r_M_now r_M_kept r_M_isKept or_M_refused v_M_above v_M_below r_M_bytes v_M_bytesLong := by
  have hR0 := hR
  obtain ⟨hO, hrest⟩ := hR
  obtain ⟨lw, ni, nm, nu, q1, q2, q3, q4, h⟩ := hO
  have q2 : v_X_now_inspectors = nI ni := q2
  subst q2
  have hf0 := h.2.1.1
  have hn := h.2.1.2
  have hk : ∀ i, i < ni → r_M_now (14 + i) = r_X_now_kind i ∧ r_M_now (10 + i) = r_X_now_trips i := h.2.2.2.2.2.1
  have B1 : f_X4_of_J17 v_X_refusedBad = some (ngI 2, v_X_refusedBad + 1) := rfl
  have B2 : f_X5_of_J18 r_M_refused = some (ngI 2, upd r_M_refused 0 (r_M_refused 0 + 1)) := rfl
  rcases rng x1 ni (by omega) with ⟨i, hi, rfl, hz⟩ | hz
  · have g := hk i hi
    rcases rng x2 2 (by omega) with ⟨j, hj, rfl, hy⟩ | hy
    · have hin : f_X5_in (Int32.toInt64 (nI j)) 0 1 = nI 1 := in_t (lo := 0) (hi := 1) rfl rfl (by omega) (by omega)
      rcases (show j = 0 ∨ j = 1 by omega) with rfl | rfl
      · refine ⟨r_X_now_kind i, v_X_refusedBad, r_M_refused, ?_, ?_, hR0⟩
        · rw [f_X4_of, xone_t hi hn, if_n1, if_neg (by decide), if_pos (by decide), if_n0, ckI_n (by omega) (by omega), n_cl (by omega)]
        · rw [f_X5_of, mone_t hf0 hi hn, if_n1, hin, if_n1, if_n0]
          simp (disch := omega) only [↓n_neg1, ↓n_neg2, ↓n_neg3, ↓n_neg4, ↓n_neg5, ↓n_neg10, n_lit, n_le, n_lt, n_eq, n_cl, n_add, n_mul, n_sub, ckI_n, n_shl1, n_shr, n_and, n_or, bd1_n, n_ng, ng_n, ng_ng, g.1]
      · refine ⟨r_X_now_trips i, v_X_refusedBad, r_M_refused, ?_, ?_, hR0⟩
        · rw [f_X4_of, xone_t hi hn, if_n1, if_neg (by decide), if_pos (by decide), if_n1, ckI_n (by omega) (by omega), n_cl (by omega)]
        · rw [f_X5_of, mone_t hf0 hi hn, if_n1, hin, if_n1, if_n1]
          simp (disch := omega) only [↓n_neg1, ↓n_neg2, ↓n_neg3, ↓n_neg4, ↓n_neg5, ↓n_neg10, n_lit, n_le, n_lt, n_eq, n_cl, n_add, n_mul, n_sub, ckI_n, n_shl1, n_shr, n_and, n_or, bd1_n, n_ng, ng_n, ng_ng, g.2]
    · have hin : f_X5_in (Int32.toInt64 x2) 0 1 = nI 0 := in_f (lo := 0) (hi := 1) rfl rfl (by omega)
      refine ⟨ngI 2, v_X_refusedBad + 1, upd r_M_refused 0 (r_M_refused 0 + 1), ?_, ?_, hR0.bad⟩
      · rw [f_X4_of, xone_t hi hn, if_n1, B1]
        by_cases c : x2 < 0
        · rw [if_pos c]
        · rw [if_neg c, if_neg (fun q => ?_)]
          rw [i_lt, t0] at c
          rw [i_le] at q
          have e1' : (1 : Int32).toInt = 1 := rfl
          rw [e1'] at q
          omega
      · rw [f_X5_of, mone_t hf0 hi hn, if_n1, hin, if_n0, B2]
  · refine ⟨ngI 2, v_X_refusedBad + 1, upd r_M_refused 0 (r_M_refused 0 + 1), ?_, ?_, hR0.bad⟩
    · rw [f_X4_of, xone_f hn hz, if_n0, B1]
    · rw [f_X5_of, mone_f hf0 hn hz, if_n0, B2]
theorem st_type (v_X_firstKept : Int32) (v_X_secondKept : Int32) (v_X_above : Int64) (v_X_below : Int64) (v_X_refusedBad : Int32) (v_X_refusedNo : Int32) (v_X_refusedFull : Int32) (v_X_now_laws : Int32) (v_X_now_inspectors : Int32) (v_X_now_marks : Int32) (v_X_now_undos : Int32) (r_X_now_knownEvent : Nat → Int32) (r_X_now_kind : Nat → Int32) (r_X_now_trips : Nat → Int32) (r_X_now_markInspector : Nat → Int32) (r_X_now_markDay : Nat → Int32) (r_X_now_markEvents : Nat → Int32) (r_X_now_markValue : Nat → Int32) (r_X_now_markTrips : Nat → Int32) (r_X_now_undoDay : Nat → Int32) (r_X_now_undoEvent : Nat → Int32) (v_X_firstImage_laws : Int32) (v_X_firstImage_inspectors : Int32) (v_X_firstImage_marks : Int32) (v_X_firstImage_undos : Int32) (r_X_firstImage_knownEvent : Nat → Int32) (r_X_firstImage_kind : Nat → Int32) (r_X_firstImage_trips : Nat → Int32) (r_X_firstImage_markInspector : Nat → Int32) (r_X_firstImage_markDay : Nat → Int32) (r_X_firstImage_markEvents : Nat → Int32) (r_X_firstImage_markValue : Nat → Int32) (r_X_firstImage_markTrips : Nat → Int32) (r_X_firstImage_undoDay : Nat → Int32) (r_X_firstImage_undoEvent : Nat → Int32) (v_X_secondImage_laws : Int32) (v_X_secondImage_inspectors : Int32) (v_X_secondImage_marks : Int32) (v_X_secondImage_undos : Int32) (r_X_secondImage_knownEvent : Nat → Int32) (r_X_secondImage_kind : Nat → Int32) (r_X_secondImage_trips : Nat → Int32) (r_X_secondImage_markInspector : Nat → Int32) (r_X_secondImage_markDay : Nat → Int32) (r_X_secondImage_markEvents : Nat → Int32) (r_X_secondImage_markValue : Nat → Int32) (r_X_secondImage_markTrips : Nat → Int32) (r_X_secondImage_undoDay : Nat → Int32) (r_X_secondImage_undoEvent : Nat → Int32) (v_X_text_length : Int32) (r_X_text_bytes : Nat → Int32) (v_M_above : Int64) (v_M_below : Int64) (v_M_bytesLong : Int32) (r_M_now : Nat → Int32) (r_M_kept : Nat → Int32) (r_M_isKept : Nat → Int32) (r_M_refused : Nat → Int32) (r_M_bytes : Nat → Int32) (x1 : Int32) (hR : Rel (v_X_now_laws, v_X_now_inspectors, v_X_now_marks, v_X_now_undos, r_X_now_knownEvent, r_X_now_kind, r_X_now_trips, r_X_now_markInspector, r_X_now_markDay, r_X_now_markEvents, r_X_now_markValue, r_X_now_markTrips, r_X_now_undoDay, r_X_now_undoEvent) (v_X_firstImage_laws, v_X_firstImage_inspectors, v_X_firstImage_marks, v_X_firstImage_undos, r_X_firstImage_knownEvent, r_X_firstImage_kind, r_X_firstImage_trips, r_X_firstImage_markInspector, r_X_firstImage_markDay, r_X_firstImage_markEvents, r_X_firstImage_markValue, r_X_firstImage_markTrips, r_X_firstImage_undoDay, r_X_firstImage_undoEvent) (v_X_secondImage_laws, v_X_secondImage_inspectors, v_X_secondImage_marks, v_X_secondImage_undos, r_X_secondImage_knownEvent, r_X_secondImage_kind, r_X_secondImage_trips, r_X_secondImage_markInspector, r_X_secondImage_markDay, r_X_secondImage_markEvents, r_X_secondImage_markValue, r_X_secondImage_markTrips, r_X_secondImage_undoDay, r_X_secondImage_undoEvent) v_X_firstKept v_X_secondKept v_X_text_length r_X_text_bytes v_X_above v_X_below v_X_refusedBad v_X_refusedNo v_X_refusedFull r_M_now r_M_kept r_M_isKept r_M_refused v_M_above v_M_below r_M_bytes v_M_bytesLong) : ∃ (r : Int32) (ov_X_refusedBad : Int32) (ov_X_refusedFull : Int32) (ov_X_text_length : Int32) (or_X_text_bytes : Nat → Int32) (ov_M_bytesLong : Int32) (or_M_refused : Nat → Int32) (or_M_bytes : Nat → Int32), f_X4_type x1 v_X_refusedBad v_X_refusedFull v_X_text_length r_X_text_bytes = some (r, ov_X_refusedBad, ov_X_refusedFull, ov_X_text_length, or_X_text_bytes) ∧ f_X5_type x1 v_M_bytesLong r_M_refused r_M_bytes = some (r, ov_M_bytesLong, or_M_refused, or_M_bytes) ∧ Rel (v_X_now_laws, v_X_now_inspectors, v_X_now_marks, v_X_now_undos, r_X_now_knownEvent, r_X_now_kind, r_X_now_trips, r_X_now_markInspector, r_X_now_markDay, r_X_now_markEvents, r_X_now_markValue, r_X_now_markTrips, r_X_now_undoDay, r_X_now_undoEvent) (v_X_firstImage_laws, v_X_firstImage_inspectors, v_X_firstImage_marks, v_X_firstImage_undos, r_X_firstImage_knownEvent, r_X_firstImage_kind, r_X_firstImage_trips, r_X_firstImage_markInspector, r_X_firstImage_markDay, r_X_firstImage_markEvents, r_X_firstImage_markValue, r_X_firstImage_markTrips, r_X_firstImage_undoDay, r_X_firstImage_undoEvent) (v_X_secondImage_laws, v_X_secondImage_inspectors, v_X_secondImage_marks, v_X_secondImage_undos, r_X_secondImage_knownEvent, r_X_secondImage_kind, r_X_secondImage_trips, r_X_secondImage_markInspector, r_X_secondImage_markDay, r_X_secondImage_markEvents, r_X_secondImage_markValue, r_X_secondImage_markTrips, r_X_secondImage_undoDay, r_X_secondImage_undoEvent) v_X_firstKept v_X_secondKept ov_X_text_length or_X_text_bytes v_X_above v_X_below ov_X_refusedBad v_X_refusedNo ov_X_refusedFull r_M_now r_M_kept r_M_isKept or_M_refused v_M_above v_M_below or_M_bytes ov_M_bytesLong := by
  have hR0 := hR
  obtain ⟨hO, h0, h1, ⟨n, hn, e1, e2, hb⟩, hrest⟩ := hR
  subst e1 e2
  have B1 : ∀ (a b c : _) (d : Nat → Int32), f_X4_type_J10 a b c d = some (ngI 2, a + 1, b, c, d) := fun _ _ _ _ => rfl
  rcases rng x1 128 (by omega) with ⟨j, hj, rfl, hz⟩ | hz
  · have hin : f_X5_in (Int32.toInt64 (nI j)) 0 127 = nI 1 := in_t (lo := 0) (hi := 127) rfl rfl (by omega) (by omega)
    by_cases c : n < 150
    · refine ⟨nI (n + 1), v_X_refusedBad, v_X_refusedFull, nI (n + 1), upd r_X_text_bytes n (nI j), nI (n + 1), r_M_refused, upd r_M_bytes n (nI j), ?_, ?_, hO, h0, h1, ⟨n + 1, by omega, rfl, rfl, fun i hi => ?_⟩, hrest⟩
      · simp (disch := omega) only [f_X4_type, f_X2_append, ↓n_neg1, ↓n_neg2, ↓n_neg3, ↓n_neg4, ↓n_neg5, ↓n_neg10, n_lit, n_le, n_lt, n_eq, n_cl, n_add, n_mul, n_sub, ckI_n, n_shl1, n_shr, n_and, n_or, bd1_n, n_ng, ng_n, ng_ng]
        rw [if_neg (by omega), if_pos (by omega), if_pos c, if_neg (by omega)]
        rfl
      · simp (disch := omega) only [f_X5_type, hin, if_n1, ↓n_neg1, ↓n_neg2, ↓n_neg3, ↓n_neg4, ↓n_neg5, ↓n_neg10, n_lit, n_le, n_lt, n_eq, n_cl, n_add, n_mul, n_sub, ckI_n, n_shl1, n_shr, n_and, n_or, bd1_n, n_ng, ng_n, ng_ng]
        rw [if_neg (by decide), if_neg (by omega)]
      · unfold upd
        by_cases q : i = n
        · rw [if_pos q, if_pos q]; exact ⟨rfl, j, hj, rfl⟩
        · rw [if_neg q, if_neg q]; exact hb i (by omega)
    · refine ⟨ngI 4, v_X_refusedBad, v_X_refusedFull + 1, nI n, r_X_text_bytes, nI n, upd r_M_refused 2 (r_M_refused 2 + 1), r_M_bytes, ?_, ?_, hR0.full⟩
      · simp (disch := omega) only [f_X4_type, x_full, ↓n_neg1, ↓n_neg2, ↓n_neg3, ↓n_neg4, ↓n_neg5, ↓n_neg10, n_lit, n_le, n_lt, n_eq, n_cl, n_add, n_mul, n_sub, ckI_n, n_shl1, n_shr, n_and, n_or, bd1_n, n_ng, ng_n, ng_ng]
        rw [if_neg (by omega), if_pos (by omega), if_neg c]
        rfl
      · simp (disch := omega) only [f_X5_type, hin, m_full, ↓n_neg1, ↓n_neg2, ↓n_neg3, ↓n_neg4, ↓n_neg5, ↓n_neg10, n_lit, n_le, n_lt, n_eq, n_cl, n_add, n_mul, n_sub, ckI_n, n_shl1, n_shr, n_and, n_or, bd1_n, n_ng, ng_n, ng_ng]
        rw [if_neg (by decide), if_pos (by omega)]
        rfl
  · have hin : f_X5_in (Int32.toInt64 x1) 0 127 = nI 0 := in_f (lo := 0) (hi := 127) rfl rfl (by omega)
    refine ⟨ngI 2, v_X_refusedBad + 1, v_X_refusedFull, nI n, r_X_text_bytes, nI n, upd r_M_refused 0 (r_M_refused 0 + 1), r_M_bytes, ?_, ?_, hR0.bad⟩
    · rw [f_X4_type, B1]
      by_cases c : x1 < 0
      · rw [if_pos c]
      · rw [if_neg c, if_neg (fun q => ?_)]
        rw [i_lt, t0] at c
        rw [i_le] at q
        have e1' : (127 : Int32).toInt = 127 := rfl
        rw [e1'] at q
        omega
    · rw [f_X5_type, hin, if_n0]; rfl
