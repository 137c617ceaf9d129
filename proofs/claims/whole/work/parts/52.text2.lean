/-- the reference's token at q: 0 none, 1 a word, 2 a number, 3 ;, 4 another -/
def Kn (b : Nat → Nat) (n q : Nat) : Nat := if q < n then (if inR b 97 122 q then 1 else if inR b 48 57 q then (if en b n q - q ≤ 2 then 2 else 4) else if b q = 59 then 3 else 4) else 0
def Vn (b : Nat → Nat) (n q : Nat) : Nat := if q < n then (if inR b 97 122 q then 0 else if inR b 48 57 q then nv b q (en b n q - q) else 0) else 0
theorem m_tok {n q tk : Nat} {mb : Nat → Int32} (ht : tk = 3 ∨ tk = 4) : lq5 (f_X5_lookAt_B136 (nI n) mb) FU (0 : Int32) (nI q) (1 : Int32) (nI tk) (0 : Int32) = some (nI q, nI 1, nI tk, nI 0) := by
  refine (lq5_run (fun _ => (0 : Int32)) (fun _ => nI q) (fun _ => (1 : Int32)) (fun _ => nI tk) (fun _ => (0 : Int32)) 0 (out := lq5 (f_X5_lookAt_B218 mb) FU (0 : Int32) (nI q) (1 : Int32) (nI tk) (0 : Int32)) (fun k i hi => by omega) (fun k => ?_) (by have := fu; omega)).trans (m_look1 (l := 1) (by omega) (by omega) (by omega) (by omega))
  unfold f_X5_lookAt_B136
  rw [if_pos rfl]
theorem m_J43 {n q : Nat} {t1 t2 t3 : Int32} {bb mb : Nat → Int32} {b : Nat → Nat} (h : TXB n bb mb b) (hq : q ≤ n) : f_X5_lookAt_J43 (nI n) mb (nI q) t1 t2 t3 = some (nI q, nI (en b n q - q), nI (Kn b n q), nI (Vn b n q)) := by
  have h150 := h.1
  unfold f_X5_lookAt_J43
  by_cases c : q < n
  · have hb := h.2 q c
    have hen := en_b (b := b) c
    rw [if_neg (by rw [n_eq (by omega) (by omega)]; omega), ckI_n (by omega) (by omega), n_cl (by omega), hb.2.1, m_small hb.2.2, m_figure hb.2.2]
    unfold Kn Vn
    rw [if_pos c, if_pos c]
    cases h1 : inR b 97 122 q with
    | true =>
      rw [if_pos rfl, if_n1, if_neg (by decide), if_pos rfl, if_pos rfl]
      have e := m_runL (q := q) (lo := 97) (hi := 122) (tk := (1 : Int32)) h (fun j hj k a l v => by rw [if_pos rfl, m_small (h.2 j hj).2.2]) (n - (q + 1)) 1 FU (by omega) (by have := fu; omega)
      refine e.trans ?_
      rw [show fF (fun j => !(inR b 97 122 j)) (n - (q + 1)) (q + 1) = en b n q from (en_a c h1).symm ▸ (rn_s c h1).symm]
      exact m_look1 (tk := 1) (by omega) (by omega) (by omega) (by omega)
    | false =>
      rw [if_neg Bool.false_ne_true, if_n0, if_neg Bool.false_ne_true, if_neg Bool.false_ne_true]
      cases h2 : inR b 48 57 q with
      | true =>
        rw [if_pos rfl, if_n1, if_neg (by decide), if_pos rfl, if_pos rfl]
        have e := m_runL (q := q) (lo := 48) (hi := 57) (tk := (2 : Int32)) h (fun j hj k a l v => by rw [if_neg (by decide), m_figure (h.2 j hj).2.2]) (n - (q + 1)) 1 FU (by omega) (by have := fu; omega)
        refine e.trans ?_
        rw [show fF (fun j => !(inR b 48 57 j)) (n - (q + 1)) (q + 1) = en b n q from (en_f c h1 h2).symm ▸ (rn_s c h2).symm]
        exact m_look2 h (by omega) (by omega) (fun j j1 j2 => rn_in (q := q) (n := n) j1 (by rw [← en_f c h1 h2]; omega))
      | false =>
        rw [if_neg Bool.false_ne_true, if_n0, if_neg Bool.false_ne_true, if_neg Bool.false_ne_true, en_o c h1 h2, show q + 1 - q = 1 by omega]
        by_cases c3 : b q = 59
        · rw [if_pos (show nI (b q) = (59 : Int32) by rw [c3]; rfl), if_pos (by decide), if_pos c3]
          exact m_tok (Or.inl rfl)
        · rw [if_neg (show ¬ nI (b q) = (59 : Int32) from fun z => c3 ((n_eq (b := 59) (by omega) (by omega)).mp z)), if_pos (by decide), if_neg c3]
          exact m_tok (Or.inr rfl)
  · have e : q = n := by omega
    subst e
    rw [if_pos rfl, en_n c, Nat.sub_self]
    unfold Kn Vn
    rw [if_neg c, if_neg c]
    rfl
theorem m_look {n p : Nat} {t0 t1 t2 t3 : Int32} {bb mb : Nat → Int32} {b : Nat → Nat} (h : TXB n bb mb b) (hp : p ≤ n) : f_X5_lookAt (nI p) (nI n) t0 t1 t2 t3 mb = some (nI (rn b n 32 32 p), nI (en b n (rn b n 32 32 p) - rn b n 32 32 p), nI (Kn b n (rn b n 32 32 p)), nI (Vn b n (rn b n 32 32 p))) := by
  have h150 := h.1
  rw [← m_J43 (t1 := t1) (t2 := t2) (t3 := t3) h (rn_le hp)]
  refine lq4_seek (p := fun j => !(inR b 32 32 j)) t1 t2 t3 (fun i => f_X5_lookAt_J43 (nI n) mb (nI i) t1 t2 t3) (n - p) p FU (fun k i h1 h2 hh => ?_) (fun k i h1 h2 hh => ?_) (fun k => ?_) (by have := fu; omega)
  · have hb := h.2 i (by omega)
    have hh : inR b 32 32 i = true := by simpa using hh
    rw [inR_t] at hh
    unfold f_X5_lookAt_B5
    rw [if_neg (by rw [n_le (by omega) (by omega)]; omega), ckI_n (by omega) (by omega), n_cl (by omega), hb.2.1, if_pos (show nI (b i) = (32 : Int32) by rw [show b i = 32 by omega]; rfl), show nI i + 1 = nI (i + 1) from n_add i 1]
  · have hb := h.2 i (by omega)
    have hh : inR b 32 32 i = false := by simpa using hh
    rw [inR_f] at hh
    unfold f_X5_lookAt_B5
    rw [if_neg (by rw [n_le (by omega) (by omega)]; omega), ckI_n (by omega) (by omega), n_cl (by omega), hb.2.1, if_neg (show ¬ nI (b i) = (32 : Int32) from fun z => hh (by have := (n_eq (b := 32) (by omega) (by omega)).mp z; omega))]
  · unfold f_X5_lookAt_B5
    rw [if_pos (by rw [n_le (by omega) (by omega)]; omega)]
def nx (b : Nat → Nat) (n q : Nat) : Nat := rn b n 32 32 (en b n q)
theorem m_behind {n q : Nat} {k v : Int32} {bb mb : Nat → Int32} {b : Nat → Nat} (h : TXB n bb mb b) (hq : q ≤ n) : f_X5_goBehind (nI n) (nI q) (nI (en b n q - q)) k v mb = some (nI (nx b n q), nI (en b n (nx b n q) - nx b n q), nI (Kn b n (nx b n q)), nI (Vn b n (nx b n q))) := by
  have h2 : q ≤ en b n q := by
    by_cases c : q < n
    · have := en_b (b := b) c; omega
    · rw [en_n c]; exact Nat.le_refl _
  unfold f_X5_goBehind
  rw [n_add, show q + (en b n q - q) = en b n q by omega, m_look h (en_le hq)]
  rfl
/-! words -/
def chN (w k : Nat) : Nat := Int32.toNatClampNeg ((SB.getD w []).getD k 0)
theorem sch_n : ∀ w, w < 5 → ∀ k, k < 6 → sch w (nI k) = nI (chN w k) := by decide +kernel
theorem chN_lt : ∀ w, w < 5 → ∀ k, k < 6 → chN w k < 128 := by decide +kernel
theorem SL_b : ∀ w, w < 5 → 1 ≤ SL.getD w 0 ∧ SL.getD w 0 ≤ 6 := by decide +kernel
theorem SL_un : ∀ u, u < 5 → ∀ w, w < 5 → SL.getD u 0 = SL.getD w 0 → chN u 0 = chN w 0 → u = w := by decide +kernel
def wd (b : Nat → Nat) (q e w : Nat) : Bool := decide (e - q = SL.getD w 0) && allB (fun k => decide (b (q + k) = chN w k)) (SL.getD w 0)
theorem wd_ex {b : Nat → Nat} {q e u w : Nat} (hu : u < 5) (hw : w < 5) (hne : ¬ u = w) : (wd b q e u && wd b q e w) = false := by
  cases h1 : wd b q e u with
  | false => rfl
  | true =>
    cases h2 : wd b q e w with
    | false => rfl
    | true =>
      unfold wd at h1 h2
      rw [Bool.and_eq_true, decide_eq_true_eq] at h1 h2
      have s1 := SL_b u hu
      have s2 := SL_b w hw
      have g1 := allB_iff.mp h1.2 0 (by omega)
      have g2 := allB_iff.mp h2.2 0 (by omega)
      rw [decide_eq_true_eq] at g1 g2
      exact absurd (SL_un u hu w hw (by rw [← h1.1, ← h2.1]) (by rw [← g1, ← g2])) hne
theorem x_spells {n q e w : Nat} {bb mb : Nat → Int32} {b : Nat → Nat} (h : TXB n bb mb b) (hw : w < 5) (hq : q ≤ e) (he : e ≤ n) : f_X2_spells (nI q) (nI e) w (nI n) bb = some (nI (if wd b q e w then 1 else 0)) := by
  have h150 := h.1
  have hs := SL_b w hw
  unfold f_X2_spells
  rw [n_sub hq]
  by_cases c : e - q = SL.getD w 0
  · rw [if_pos (show nI (e - q) = slen w by unfold slen; rw [c])]
    have e2 : wd b q e w = allB (fun k => decide (b (q + k) = chN w k)) (SL.getD w 0) := by
      unfold wd; rw [decide_eq_true c, Bool.true_and]
    rw [e2]
    have stp1 : ∀ (k : Int32 → Option Int32) (i : Nat), i < SL.getD w 0 → f_X2_spells_B15 (nI q) w (nI n) bb k (nI i) = if nI (b (q + i)) = nI (chN w i) then k (nI (i + 1)) else some (0 : Int32) := by
      intro k i hi
      unfold f_X2_spells_B15
      rw [if_neg (show ¬ slen w ≤ nI i by unfold slen; rw [n_le (by omega) (by omega)]; omega), n_add, x_byteAt h (by omega), bd1_n, ckI_n hi (by omega), sch_n w hw i (by omega), show nI i + 1 = nI (i + 1) from n_add i 1]
    refine lq1_stop (fun k => decide (b (q + k) = chN w k)) (SL.getD w 0) (fun k i hi hc => ?_) (fun k i hi hc => ?_) (fun k => ?_) (by have := fu; omega)
    · rw [decide_eq_true_eq] at hc
      rw [stp1 k i hi, if_pos (by rw [hc])]
    · rw [decide_eq_false_iff_not] at hc
      have b1 := (h.2 (q + i) (by omega)).2.2
      have b2 := chN_lt w hw i (by omega)
      rw [stp1 k i hi, if_neg (by rw [n_eq (by omega) (by omega)]; exact hc)]; rfl
    · unfold f_X2_spells_B15
      rw [if_pos (show slen w ≤ nI (SL.getD w 0) by unfold slen; rw [n_le (by omega) (by omega)]; omega)]; rfl
  · rw [if_neg (show ¬ nI (e - q) = slen w by unfold slen; rw [n_eq (by omega) (by omega)]; exact c)]
    unfold wd
    rw [decide_eq_false c]; rfl
def wcB (a0 a1 a2 a3 a4 : Bool) : Nat := if a0 then 4 else if a1 then 5 else if a2 then 6 else if a3 then 7 else if a4 then 8 else 1
def wc (b : Nat → Nat) (q e : Nat) : Nat := wcB (wd b q e 0) (wd b q e 1) (wd b q e 2) (wd b q e 3) (wd b q e 4)
theorem wcB_iff : ∀ a0 a1 a2 a3 a4 : Bool, (a0 && a1) = false → (a0 && a2) = false → (a0 && a3) = false → (a0 && a4) = false → (a1 && a2) = false → (a1 && a3) = false → (a1 && a4) = false → (a2 && a3) = false → (a2 && a4) = false → (a3 && a4) = false → a0 = decide (wcB a0 a1 a2 a3 a4 = 4) ∧ a1 = decide (wcB a0 a1 a2 a3 a4 = 5) ∧ a2 = decide (wcB a0 a1 a2 a3 a4 = 6) ∧ a3 = decide (wcB a0 a1 a2 a3 a4 = 7) ∧ a4 = decide (wcB a0 a1 a2 a3 a4 = 8) := by decide
theorem wcB_v : ∀ a0 a1 a2 a3 a4 : Bool, wcB a0 a1 a2 a3 a4 < 9 ∧ ¬ wcB a0 a1 a2 a3 a4 = 0 ∧ ¬ wcB a0 a1 a2 a3 a4 = 2 ∧ ¬ wcB a0 a1 a2 a3 a4 = 3 := by decide
theorem wc_w {b : Nat → Nat} {q e w : Nat} (hw : w < 5) : wd b q e w = decide (wc b q e = w + 4) := by
  have k := wcB_iff (wd b q e 0) (wd b q e 1) (wd b q e 2) (wd b q e 3) (wd b q e 4) (wd_ex (by omega) (by omega) (by omega)) (wd_ex (by omega) (by omega) (by omega)) (wd_ex (by omega) (by omega) (by omega)) (wd_ex (by omega) (by omega) (by omega)) (wd_ex (by omega) (by omega) (by omega)) (wd_ex (by omega) (by omega) (by omega)) (wd_ex (by omega) (by omega) (by omega)) (wd_ex (by omega) (by omega) (by omega)) (wd_ex (by omega) (by omega) (by omega)) (wd_ex (by omega) (by omega) (by omega))
  obtain ⟨k0, k1, k2, k3, k4⟩ := k
  rcases (show w = 0 ∨ w = 1 ∨ w = 2 ∨ w = 3 ∨ w = 4 by omega) with rfl | rfl | rfl | rfl | rfl
  · exact k0
  · exact k1
  · exact k2
  · exact k3
  · exact k4
theorem x_word {n q e : Nat} {bb mb : Nat → Int32} {b : Nat → Nat} (h : TXB n bb mb b) (hq : q ≤ e) (he : e ≤ n) : f_X2_wordToken (nI q) (nI e) (nI n) bb = some (nI (wc b q e)) := by
  unfold f_X2_wordToken wc
  rw [x_spells h (by omega) hq he, x_spells h (by omega) hq he, x_spells h (by omega) hq he, x_spells h (by omega) hq he, x_spells h (by omega) hq he]
  cases wd b q e 0 <;> cases wd b q e 1 <;> cases wd b q e 2 <;> cases wd b q e 3 <;> cases wd b q e 4 <;> rfl
/-- the class's token at q -/
def Cn (b : Nat → Nat) (n q : Nat) : Nat := if q < n then (if inR b 97 122 q then wc b q (en b n q) else if inR b 48 57 q then (if en b n q - q ≤ 2 then 3 else 1) else if b q = 59 then 2 else 1) else 0
def Vc (b : Nat → Nat) (n q : Nat) : Nat := if q < n then (if inR b 97 122 q then 0 else if inR b 48 57 q then (if en b n q - q ≤ 2 then nv b q (en b n q - q) else 0) else 0) else 0
theorem x_put {T : Nat} {a c v : Int32} {tok st va : Nat → Int32} (hT : T ≤ 150) : f_X2_put a c v (nI T) tok st va = some (nI (T + 1), upd tok T c, upd st T a, upd va T v) := by
  unfold f_X2_put
  rw [if_neg (show ¬ (150 : Int32) < nI T from show ¬ nI 150 < nI T by rw [n_lt (by omega) (by omega)]; omega), ckI_n (by omega) (by omega), n_cl (by omega), show nI T + 1 = nI (T + 1) from n_add T 1]
theorem x_number {n q l : Nat} {bb mb : Nat → Int32} {b : Nat → Nat} (h : TXB n bb mb b) (hl : 1 ≤ l) (hl2 : l ≤ 2) (hq : q + l ≤ n) (hf : ∀ j, q ≤ j → j < q + l → inR b 48 57 j = true) : f_X2_number (nI q) (nI (q + l)) (nI n) bb = some (nI (nv b q l)) := by
  have h150 := h.1
  have e : nv b q l = vw b q l := by unfold vw; rw [if_neg (by omega)]
  rw [e]
  have main : lq2 (f_X2_number_B5 (nI (q + l)) (nI n) bb) FU (nI (vw b q 0)) (nI (q + 0)) = some (nI (vw b q l)) := by
    refine lq2_run (fun i => nI (vw b q i)) (fun i => nI (q + i)) l (fun k i hi => ?_) (fun k => ?_) (by have := fu; omega)
    · have hb := h.2 (q + i) (by omega)
      have g0 := inR_t.mp (hf q (by omega) (by omega))
      have gi := inR_t.mp (hf (q + i) (by omega) (by omega))
      unfold f_X2_number_B5
      rw [if_neg (by rw [n_le (by omega) (by omega)]; omega), x_byteAt h (by omega), bd1_n, step10 gi.1, vw_s (by omega) g0.1 (fun e => by rw [← e]; exact gi.1), show nI (q + i) + 1 = nI (q + (i + 1)) from n_add (q + i) 1]
    · unfold f_X2_number_B5
      rw [if_pos (by rw [n_le (by omega) (by omega)]; omega)]
  exact main
theorem x_add {n q T : Nat} {bb mb tok st va : Nat → Int32} {b : Nat → Nat} (h : TXB n bb mb b) (hq : q < n) (hT : T ≤ 150) : f_X2_addToken (nI q) (nI n) (nI T) bb tok st va = some (nI (en b n q), nI (T + 1), upd tok T (nI (Cn b n q)), upd st T (nI q), upd va T (nI (Vc b n q))) := by
  have h150 := h.1
  have hb := (h.2 q hq).2.2
  have hen := en_b (b := b) hq
  unfold f_X2_addToken
  rw [x_byteAt h hq, bd1_n, x_letter hb, x_figure hb]
  unfold Cn Vc
  rw [if_pos hq, if_pos hq]
  cases h1 : inR b 97 122 q with
  | true =>
    rw [if_pos rfl, if_n1, if_pos rfl, if_pos rfl, show f_X2_behindRun (nI q) (97 : Int32) (122 : Int32) (nI n) bb = some (nI (en b n q)) from (x_run (lo := 97) (hi := 122) h (by omega) (by omega) (by omega)).trans (by rw [en_a hq h1]), bd1_n, x_word h (by omega) hen.2, bd1_n, x_put hT, bd4_n]
    rfl
  | false =>
    rw [if_neg Bool.false_ne_true, if_n0, if_neg Bool.false_ne_true, if_neg Bool.false_ne_true]
    cases h2 : inR b 48 57 q with
    | true =>
      rw [if_pos rfl, if_n1, if_pos rfl, if_pos rfl, show f_X2_behindRun (nI q) (48 : Int32) (57 : Int32) (nI n) bb = some (nI (en b n q)) from (x_run (lo := 48) (hi := 57) h (by omega) (by omega) (by omega)).trans (by rw [en_f hq h1 h2]), bd1_n, n_sub (by omega)]
      unfold f_X2_addToken_J66
      by_cases c : en b n q - q ≤ 2
      · have e2 := x_number (l := en b n q - q) h (by omega) c (by omega) (fun j j1 j2 => rn_in (q := q) (n := n) j1 (by rw [← en_f hq h1 h2]; omega))
        rw [show q + (en b n q - q) = en b n q by omega] at e2
        rw [if_pos (show nI (en b n q - q) ≤ (2 : Int32) from show nI (en b n q - q) ≤ nI 2 by rw [n_le (by omega) (by omega)]; omega), if_pos rfl, if_pos rfl, e2, bd1_n, x_put hT, bd4_n, if_pos c, if_pos c]
        rfl
      · rw [if_neg (show ¬ nI (en b n q - q) ≤ (2 : Int32) from show ¬ nI (en b n q - q) ≤ nI 2 by rw [n_le (by omega) (by omega)]; omega), if_neg (by decide), if_neg (by decide), x_put hT, bd4_n, if_neg c, if_neg c]
        rfl
    | false =>
      rw [if_neg Bool.false_ne_true, if_n0, if_neg Bool.false_ne_true, if_neg Bool.false_ne_true, x_put hT, x_put hT, bd4_n, bd4_n, en_o hq h1 h2, show nI q + 1 = nI (q + 1) from n_add q 1]
      by_cases c3 : b q = 59
      · rw [if_pos (show nI (b q) = (59 : Int32) by rw [c3]; rfl), if_pos c3]; rfl
      · rw [if_neg (show ¬ nI (b q) = (59 : Int32) from fun z => c3 ((n_eq (b := 59) (by omega) (by omega)).mp z)), if_neg c3]; rfl
/-! the reference's words -/
def c6 (c0 c1 c2 c3 c4 c5 k : Nat) : Nat := if k = 0 then c0 else if k = 1 then c1 else if k = 2 then c2 else if k = 3 then c3 else if k = 4 then c4 else c5
theorem m_spells {n q w c0 c1 c2 c3 c4 c5 : Nat} {bb mb : Nat → Int32} {b : Nat → Nat} (h : TXB n bb mb b) (hq : q ≤ n) (hw : w < 5) (hc : ∀ k, k < SL.getD w 0 → chN w k = c6 c0 c1 c2 c3 c4 c5 k) : f_X5_spells (nI (SL.getD w 0)) (nI c0) (nI c1) (nI c2) (nI c3) (nI c4) (nI c5) (nI q) (nI (en b n q - q)) (nI (Kn b n q)) mb = some (nI (if Cn b n q = w + 4 then 1 else 0)) := by
  have h150 := h.1
  have hs := SL_b w hw
  have hen := en_le (b := b) hq
  have no : ∀ (k : Int32 → Int32 → Option Int32) (i : Nat), f_X5_spells_B26 (nI (SL.getD w 0)) (nI c0) (nI c1) (nI c2) (nI c3) (nI c4) (nI c5) (nI q) mb k (nI 0) (nI i) = some (nI 0) := by
    intro k i
    unfold f_X5_spells_B26
    rw [if_n0, ckB_0, ite_self]
  have zero : lq2 (f_X5_spells_B26 (nI (SL.getD w 0)) (nI c0) (nI c1) (nI c2) (nI c3) (nI c4) (nI c5) (nI q) mb) FU (0 : Int32) (0 : Int32) = some (nI 0) :=
    lq2_run (fun _ => nI 0) (fun _ => nI 0) 0 (fun k i hi => by omega) (fun k => no k 0) (by have := fu; omega)
  have hK : Kn b n q = 1 ↔ (q < n ∧ inR b 97 122 q = true) := by
    unfold Kn
    by_cases c : q < n
    · rw [if_pos c]
      cases h1 : inR b 97 122 q with
      | true => exact ⟨fun _ => ⟨c, rfl⟩, fun _ => rfl⟩
      | false =>
        rw [if_neg Bool.false_ne_true]
        refine ⟨fun z => ?_, fun z => by cases z.2⟩
        exfalso
        revert z
        split
        · split <;> omega
        · split <;> omega
    · rw [if_neg c]
      exact ⟨fun z => by omega, fun z => absurd z.1 c⟩
  have hK5 : Kn b n q < 5 := by
    unfold Kn
    repeat' split
    all_goals omega
  unfold f_X5_spells
  by_cases c : q < n ∧ inR b 97 122 q = true
  · obtain ⟨c1', c2'⟩ := c
    have hC : Cn b n q = wc b q (en b n q) := by unfold Cn; rw [if_pos c1', if_pos c2']
    have hC2 : (if Cn b n q = w + 4 then 1 else 0) = if wd b q (en b n q) w then 1 else 0 := by
      rw [wc_w hw, hC]
      by_cases z : wc b q (en b n q) = w + 4
      · rw [if_pos z, decide_eq_true z]; rfl
      · rw [if_neg z, decide_eq_false z]; rfl
    rw [hC2, hK.mpr ⟨c1', c2'⟩, if_pos (show nI 1 = (1 : Int32) from rfl)]
    unfold wd
    by_cases c3' : en b n q - q = SL.getD w 0
    · rw [if_pos (by rw [c3']), decide_eq_true c3', Bool.true_and]
      refine lq2_stop (fun k => decide (b (q + k) = chN w k)) (SL.getD w 0) (fun k i hi => ?_) (fun k => ?_) (fun k i hi => no k i) (by have := fu; omega)
      · have b1 := h.2 (q + i) (by omega)
        have b2 := chN_lt w hw i (by omega)
        have hci := hc i hi
        have hJ : ∀ c, c < 128 → f_X5_spells_J103 k (nI i) (nI (b (q + i))) (nI c) = k (nI (if decide (b (q + i) = c) then 1 else 0)) (nI (i + 1)) := by
          intro c hcb
          unfold f_X5_spells_J103
          rw [show nI i + 1 = nI (i + 1) from n_add i 1]
          by_cases z : b (q + i) = c
          · rw [if_pos (by rw [z]), decide_eq_true z]; rfl
          · rw [if_neg (by rw [n_eq (by omega) (by omega)]; exact z), decide_eq_false z]; rfl
        show _ = k (nI (if decide (b (q + i) = chN w i) then 1 else 0)) (nI (i + 1))
        rw [← hJ _ b2]
        unfold f_X5_spells_B26
        rw [if_neg (by rw [n_le (by omega) (by omega)]; omega), if_n1, n_add, ckI_n (by omega) (by omega), n_cl (by omega), b1.2.1, hci]
        rcases (show i = 0 ∨ i = 1 ∨ i = 2 ∨ i = 3 ∨ i = 4 ∨ i = 5 by omega) with rfl | rfl | rfl | rfl | rfl | rfl <;> rfl
      · unfold f_X5_spells_B26
        rw [if_pos (by rw [n_le (by omega) (by omega)]; omega), ckB_1]
    · rw [if_neg (by rw [n_eq (by omega) (by omega)]; exact c3'), decide_eq_false c3', zero]; rfl
  · rw [if_neg (show ¬ nI (Kn b n q) = (1 : Int32) from fun z => c (hK.mp ((n_eq (b := 1) (by omega) (by omega)).mp z))), zero]
    have hC : ¬ Cn b n q = w + 4 := by
      unfold Cn
      by_cases c1' : q < n
      · have c2' : inR b 97 122 q = false := by
          cases h1 : inR b 97 122 q with
          | false => rfl
          | true => exact absurd ⟨c1', h1⟩ c
        rw [if_pos c1', c2', if_neg Bool.false_ne_true]
        split
        · split <;> omega
        · split <;> omega
      · rw [if_neg c1']; omega
    rw [if_neg hC]
