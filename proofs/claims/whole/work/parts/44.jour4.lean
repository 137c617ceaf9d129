theorem one_day {kd mi md me mv mt : Nat → Int32} {w j d0 : Nat} (hd : d0 < 6) (e : md j = nI d0) (Q : Nat → Bool) : (if (decide (md j = nI 0) && Q 0) = true then 1 else 0) + (if (decide (md j = nI 1) && Q 1) = true then 1 else 0) + (if (decide (md j = nI 2) && Q 2) = true then 1 else 0) + (if (decide (md j = nI 3) && Q 3) = true then 1 else 0) + (if (decide (md j = nI 4) && Q 4) = true then 1 else 0) + (if (decide (md j = nI 5) && Q 5) = true then 1 else 0) = if Q d0 = true then 1 else 0 := by
  have hq : ∀ d, d < 6 → decide (md j = nI d) = decide (d0 = d) := fun d hd' => by
    rw [e]
    by_cases z : d0 = d
    · rw [z]; simp
    · rw [decide_eq_false z, decide_eq_false (by rw [n_eq (by omega) (by omega)]; exact z)]
  rw [hq 0 (by omega), hq 1 (by omega), hq 2 (by omega), hq 3 (by omega), hq 4 (by omega), hq 5 (by omega)]
  rcases (show d0 = 0 ∨ d0 = 1 ∨ d0 = 2 ∨ d0 = 3 ∨ d0 = 4 ∨ d0 = 5 by omega) with rfl | rfl | rfl | rfl | rfl | rfl <;> simp
theorem sum_mis {nm w : Nat} {kd mi md me mv mt : Nat → Int32} (hM : MO nm mi md me) : ∀ n, n ≤ nm → ctN (mis kd mi md me mv mt 0 (dg w 0)) n + ctN (mis kd mi md me mv mt 1 (dg w 1)) n + ctN (mis kd mi md me mv mt 2 (dg w 2)) n + ctN (mis kd mi md me mv mt 3 (dg w 3)) n + ctN (mis kd mi md me mv mt 4 (dg w 4)) n + ctN (mis kd mi md me mv mt 5 (dg w 5)) n = ctN (wrB kd mi md me mv mt w) n
  | 0, _ => rfl
  | n + 1, h => by
    have ih := sum_mis (w := w) (kd := kd) (mv := mv) (mt := mt) hM n (by omega)
    obtain ⟨-, ⟨d0, hd, e⟩, -⟩ := hM.2 n (by omega)
    have := one_day (kd := kd) (mi := mi) (me := me) (mv := mv) (mt := mt) (w := w) hd e (fun d => bdj kd mi md me mv mt n (dg w d))
    have ew : wrB kd mi md me mv mt w n = bdj kd mi md me mv mt n (dg w d0) := by
      unfold wrB dyj; rw [e, n_cl (by omega)]
    simp only [ctN]
    rw [ew]
    unfold mis at ih ⊢
    omega
theorem sum_md {nm : Nat} {mi md me : Nat → Int32} (hM : MO nm mi md me) : ∀ n, n ≤ nm → ctN (mdB md 0) n + ctN (mdB md 1) n + ctN (mdB md 2) n + ctN (mdB md 3) n + ctN (mdB md 4) n + ctN (mdB md 5) n = n
  | 0, _ => rfl
  | n + 1, h => by
    have ih := sum_md hM n (by omega)
    obtain ⟨-, ⟨d0, hd, e⟩, -⟩ := hM.2 n (by omega)
    have := one_day (kd := md) (mi := md) (me := md) (mv := md) (mt := md) (w := 0) hd e (fun _ => true)
    simp only [ctN]
    unfold mdB at ih ⊢
    simp only [Bool.and_true, if_true] at this
    omega
theorem pow6 (c a0 a1 a2 a3 a4 a5 b0 b1 b2 b3 b4 b5 : Nat) (h0 : a0 ≤ b0) (h1 : a1 ≤ b1) (h2 : a2 ≤ b2) (h3 : a3 ≤ b3) (h4 : a4 ≤ b4) (h5 : a5 ≤ b5) : c ^ a0 * 10 ^ (b0 - a0) * (c ^ a1 * 10 ^ (b1 - a1)) * (c ^ a2 * 10 ^ (b2 - a2)) * (c ^ a3 * 10 ^ (b3 - a3)) * (c ^ a4 * 10 ^ (b4 - a4)) * (c ^ a5 * 10 ^ (b5 - a5)) = c ^ (a0 + a1 + a2 + a3 + a4 + a5) * 10 ^ (b0 + b1 + b2 + b3 + b4 + b5 - (a0 + a1 + a2 + a3 + a4 + a5)) := by
  rw [show b0 + b1 + b2 + b3 + b4 + b5 - (a0 + a1 + a2 + a3 + a4 + a5) = (b0 - a0) + (b1 - a1) + (b2 - a2) + (b3 - a3) + (b4 - a4) + (b5 - a5) by omega]
  simp only [Nat.pow_add]
  ac_rfl
theorem mis_md {nm d e : Nat} {kd mi md me mv mt : Nat → Int32} : ctN (mis kd mi md me mv mt d e) nm ≤ ctN (mdB md d) nm := ctN_sub (fun j hj => by
  unfold mis at hj
  unfold mdB
  cases hq : decide (md j = nI d) with
  | true => rfl
  | false => rw [hq, Bool.false_and] at hj; exact absurd hj (by decide)) nm
theorem pre_J {lw nm c : Nat} {kn kd mi md me mv mt : Nat → Int32} (hM : MO nm mi md me) (w : Nat) : pre (woN c kd mi md me mv mt kn nm) (trN lw) 5 w = jW lw nm c kn kd mi md me mv mt w := by
  have h1 : ∀ d e, woN c kd mi md me mv mt kn nm d e = b2n (okd kn d e) * (c ^ ctN (mis kd mi md me mv mt d e) nm * 10 ^ (ctN (mdB md d) nm - ctN (mis kd mi md me mv mt d e) nm)) := fun d e => by
    unfold woN b2n
    cases okd kn d e
    · rw [if_neg Bool.false_ne_true, if_neg Bool.false_ne_true, Nat.zero_mul]
    · rw [if_pos rfl, if_pos rfl, Nat.one_mul]
  have h2 : ∀ a b, trN lw a b = b2n (!(lwB lw a b)) := by
    intro a b; unfold trN b2n
    cases lwB lw a b <;> rfl
  have hs := sum_mis (w := w) (kd := kd) (mv := mv) (mt := mt) hM nm (Nat.le_refl _)
  have hk := sum_md hM nm (Nat.le_refl _)
  have hp := pow6 c _ _ _ _ _ _ _ _ _ _ _ _ (mis_md (nm := nm) (d := 0) (e := dg w 0) (kd := kd) (mi := mi) (md := md) (me := me) (mv := mv) (mt := mt)) (mis_md (nm := nm) (d := 1) (e := dg w 1) (kd := kd) (mi := mi) (md := md) (me := me) (mv := mv) (mt := mt)) (mis_md (nm := nm) (d := 2) (e := dg w 2) (kd := kd) (mi := mi) (md := md) (me := me) (mv := mv) (mt := mt)) (mis_md (nm := nm) (d := 3) (e := dg w 3) (kd := kd) (mi := mi) (md := md) (me := me) (mv := mv) (mt := mt)) (mis_md (nm := nm) (d := 4) (e := dg w 4) (kd := kd) (mi := mi) (md := md) (me := me) (mv := mv) (mt := mt)) (mis_md (nm := nm) (d := 5) (e := dg w 5) (kd := kd) (mi := mi) (md := md) (me := me) (mv := mv) (mt := mt))
  rw [hs, hk] at hp
  have hj : jW lw nm c kn kd mi md me mv mt w = b2n (isW lw kn w) * jvN c nm (ctN (wrB kd mi md me mv mt w) nm) := by
    unfold jW b2n
    cases isW lw kn w
    · rw [if_neg Bool.false_ne_true, if_neg Bool.false_ne_true, Nat.zero_mul]
    · rw [if_pos rfl, if_pos rfl, Nat.one_mul]
  have hi : b2n (isW lw kn w) = b2n (okd kn 0 (dg w 0)) * (b2n (!(lwB lw (dg w 0) (dg w 1))) * b2n (okd kn 1 (dg w 1))) * (b2n (!(lwB lw (dg w 1) (dg w 2))) * b2n (okd kn 2 (dg w 2))) * (b2n (!(lwB lw (dg w 2) (dg w 3))) * b2n (okd kn 3 (dg w 3))) * (b2n (!(lwB lw (dg w 3) (dg w 4))) * b2n (okd kn 4 (dg w 4))) * (b2n (!(lwB lw (dg w 4) (dg w 5))) * b2n (okd kn 5 (dg w 5))) := by
    simp only [b2n_mul]
    congr 1
  rw [pre5, hj, hi, jvN, ← hp]
  simp only [h1, h2]
  ac_rfl
