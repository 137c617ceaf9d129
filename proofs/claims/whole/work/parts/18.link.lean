/-! both countings are one -/
def b2n (b : Bool) : Nat := if b then 1 else 0
theorem b2n_mul (a b : Bool) : b2n a * b2n b = b2n (a && b) := by cases a <;> cases b <;> rfl
theorem pre5 (wt tr : Nat → Nat → Nat) (w : Nat) : pre wt tr 5 w = wt 0 (dg w 0) * (tr (dg w 0) (dg w 1) * wt 1 (dg w 1)) * (tr (dg w 1) (dg w 2) * wt 2 (dg w 2)) * (tr (dg w 2) (dg w 3) * wt 3 (dg w 3)) * (tr (dg w 3) (dg w 4) * wt 4 (dg w 4)) * (tr (dg w 4) (dg w 5) * wt 5 (dg w 5)) := by
  simp only [pre, dg, Nat.div_div_eq_div_mul, Nat.reduceMul, Nat.reducePow, Nat.reduceSub, Nat.div_one, Nat.reduceAdd]
def Gw (lw nm lost : Nat) (kn kd mi md me mv mt : Nat → Int32) (w : Nat) : Bool := isW lw kn w && allB (fun j => !(wrB kd mi md me mv mt w j) || lost.testBit j) nm
theorem days_marks {nm : Nat} {kd mi md me mv mt : Nat → Int32} (hM : MO nm mi md me) (lost w : Nat) : allB (fun d => allB (fun j => !(mis kd mi md me mv mt d (dg w d) j) || lost.testBit j) nm) 6 = allB (fun j => !(wrB kd mi md me mv mt w j) || lost.testBit j) nm := by
  rw [Bool.eq_iff_iff, allB_iff, allB_iff]
  constructor
  · intro h j hj
    obtain ⟨-, ⟨d, hd, ed⟩, -⟩ := hM.2 j hj
    have h1 := allB_iff.mp (h d hd) j hj
    unfold mis at h1
    rw [ed, decide_eq_true rfl, Bool.true_and] at h1
    unfold wrB dyj
    rw [ed, n_cl (by omega)]
    exact h1
  · intro h d hd
    rw [allB_iff]
    intro j hj
    have h1 := h j hj
    by_cases e : md j = nI d
    · unfold mis
      rw [decide_eq_true e, Bool.true_and]
      unfold wrB dyj at h1
      rw [e, n_cl (by omega)] at h1
      exact h1
    · unfold mis
      rw [decide_eq_false e]; rfl
theorem pre_G {lw nm lost : Nat} {kn kd mi md me mv mt : Nat → Int32} (hM : MO nm mi md me) (w : Nat) : pre (wfN kd mi md me mv mt kn nm lost) (trN lw) 5 w = b2n (Gw lw nm lost kn kd mi md me mv mt w) := by
  have h1 : ∀ d e, wfN kd mi md me mv mt kn nm lost d e = b2n (okd kn d e && allB (fun j => !(mis kd mi md me mv mt d e j) || lost.testBit j) nm) := fun _ _ => rfl
  have h2 : ∀ a b, trN lw a b = b2n (!(lwB lw a b)) := by
    intro a b; unfold trN b2n
    cases lwB lw a b <;> rfl
  rw [pre5]
  simp only [h1, h2, b2n_mul]
  unfold Gw
  rw [← days_marks hM lost w]
  congr 1
  simp only [isW, allB, cW, Bool.true_and, decide_true, Bool.true_or]
  simp only [show decide (0 = 0) = true from rfl, show decide (1 = 0) = false from rfl, show decide (2 = 0) = false from rfl, show decide (3 = 0) = false from rfl, show decide (4 = 0) = false from rfl, show decide (5 = 0) = false from rfl, Bool.true_or, Bool.false_or, Bool.true_and, Nat.reduceSub, decide_true]
  ac_rfl
theorem G_0 {lw nm : Nat} {kn kd mi md me mv mt : Nat → Int32} (w : Nat) : Gw lw nm 0 kn kd mi md me mv mt w = Fw lw nm kn kd mi md me mv mt w := by
  unfold Gw Fw
  congr 1
  rw [Bool.eq_iff_iff, allB_iff, beq_iff_eq, sB_zero]
  simp only [Nat.zero_testBit, Bool.or_false]
  exact ⟨fun h j hj => by simpa using h j hj, fun h j hj => by simpa using h j hj⟩
theorem sum_G {wt tr : Nat → Nat → Nat} {G : Nat → Bool} (h : ∀ w, pre wt tr 5 w = b2n (G w)) : Uw wt tr 5 0 + Uw wt tr 5 1 + Uw wt tr 5 2 + Uw wt tr 5 3 = cF G 4096 := by
  rw [← ways_all]
  exact sN_congr (fun w _ => h w)
theorem have_G {wt tr : Nat → Nat → Nat} {G : Nat → Bool} (h : ∀ w, pre wt tr 5 w = b2n (G w)) {d e : Nat} (hd : d < 6) (he : e < 4) : Uw wt tr d e * Bw wt tr (5 - d) e = hF G 4096 d e := by
  rw [← ways_have hd he]
  apply sN_congr
  intro w _
  rw [h w]
  unfold b2n dg
  by_cases q : w / 4 ^ (5 - d) % 4 = e
  · rw [if_pos q, q]; simp
  · rw [if_neg q]; simp [q]
/-- weights, then sums: all that the class asks of them -/
theorem x_fits {lw nm lost : Nat} {kn kd mi md me mv mt : Nat → Int32} {g u b : Nat → Int64} (hl : lw < 65536) (hM : MO nm mi md me) : ∃ w' u' b', f_X3_weighFits (nI lost) g (nI nm) kn kd mi md me mv mt = some w' ∧ f_X3_sum w' u b (nI lw) = some (u', b') ∧ f_X3_all u' = some (lN (cF (Gw lw nm lost kn kd mi md me mv mt) 4096)) ∧ (∀ d e, d < 6 → e < 4 → f_X3_having (nI d) (nI e) u' b' = some (lN (hF (Gw lw nm lost kn kd mi md me mv mt) 4096 d e))) ∧ ∀ d e, d < 6 → e < 4 → w' (4 * d + e) = lN (wfN kd mi md me mv mt kn nm lost d e) := by
  have hw : ∀ d e, d < 6 → e < 4 → fillL (rowL (wfN kd mi md me mv mt kn nm lost)) g 24 (4 * d + e) = lN (wfN kd mi md me mv mt kn nm lost d e) := fun d e hd he => by
    rw [fillL_in (by omega)]; exact rowL_at he
  obtain ⟨u', b', e1, e2, e3⟩ := x_sum (u := u) (b := b) hl hw
  have hp : ∀ w, pre (wfN kd mi md me mv mt kn nm lost) (trN lw) 5 w = b2n (Gw lw nm lost kn kd mi md me mv mt w) := fun w => pre_G hM w
  refine ⟨_, u', b', x_weighFits hM, e1, ?_, fun d e hd he => ?_, hw⟩
  · rw [x_all (F := fun a => Uw (wfN kd mi md me mv mt kn nm lost) (trN lw) 5 a) (fun a ha => e2 5 a (by omega) ha), sum_G hp]
  · rw [x_having hd he (e2 d e hd he) (e3 d e hd he), have_G hp hd he]
theorem x_sumFits {lw nm : Nat} {kn kd mi md me mv mt : Nat → Int32} {g u b : Nat → Int64} (hl : lw < 65536) (hM : MO nm mi md me) : ∃ w' u' b', f_X4_sumFits (nI lw) (nI nm) kn kd mi md me mv mt g u b = some (w', u', b') ∧ f_X3_all u' = some (lN (cF (Fw lw nm kn kd mi md me mv mt) 4096)) ∧ (∀ d e, d < 6 → e < 4 → f_X3_having (nI d) (nI e) u' b' = some (lN (hF (Fw lw nm kn kd mi md me mv mt) 4096 d e))) ∧ ∀ d, d < 6 → f_X3_eventsOn (nI d) u' b' = some (nI (sB (fun e => decide (0 < hF (Fw lw nm kn kd mi md me mv mt) 4096 d e)) 4)) := by
  have eG : Gw lw nm 0 kn kd mi md me mv mt = Fw lw nm kn kd mi md me mv mt := funext (fun w => G_0 w)
  obtain ⟨w', u', b', e1, e2, e3, e4, -⟩ := x_fits (lost := 0) (g := g) (u := u) (b := b) (kn := kn) (kd := kd) (mv := mv) (mt := mt) hl hM
  rw [eG] at e3 e4
  refine ⟨w', u', b', ?_, e3, e4, fun d hd => x_eventsOn hd (fun e he => by have := hF_le (Fw lw nm kn kd mi md me mv mt) 4096 d e; omega) (fun e he => e4 d e hd he)⟩
  unfold f_X4_sumFits
  rw [show (0 : Int32) = nI 0 from rfl, e1]
  show bd2 (f_X3_sum w' u b (nI lw)) _ = _
  rw [e2]
  rfl
/-- the same for the class's kinds and the reference's -/
theorem wrB_congr {nm w : Nat} {kd kd' mi md me mv mt : Nat → Int32} (h : ∀ j, j < nm → kd (Int32.toNatClampNeg (mi j)) = kd' (Int32.toNatClampNeg (mi j))) : ∀ j, j < nm → wrB kd mi md me mv mt w j = wrB kd' mi md me mv mt w j := by
  intro j hj
  unfold wrB bdj
  rw [h j hj]
theorem Fw_congr {lw nm : Nat} {kn kd kd' mi md me mv mt : Nat → Int32} (h : ∀ j, j < nm → kd (Int32.toNatClampNeg (mi j)) = kd' (Int32.toNatClampNeg (mi j))) : Fw lw nm kn kd mi md me mv mt = Fw lw nm kn kd' mi md me mv mt := by
  funext w
  unfold Fw
  rw [sB_congr (wrB_congr h)]
