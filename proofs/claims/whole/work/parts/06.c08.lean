theorem hd_X5_from : yX5_from.cls ≠ "java/lang/invoke/MethodHandle" ∧ yX5_from.cls ≠ "java/lang/invoke/VarHandle" ∧ (parseMethodDescriptor yX5_from.desc).map (fun d => d.parameters.length) = some 1 := by decide +kernel
set_option maxHeartbeats 4000000 in
set_option maxRecDepth 100000 in
theorem C_X5_from (l : Launch) (D : va_G) (cI cJ cZ : ClassId) (adK adV : Nat → Nat) (a_t a_t_now a_t_kept a_t_isKept a_t_refused a_t_kinds a_t_have a_t_bytes a_t_anew a_t_values : Nat) (sz : Nat) (v_t_above : Int64) (v_t_below : Int64) (v_t_manyFit : Int32) (v_t_solved : Int32) (v_t_bytesLong : Int32) (v_t_tokenAt : Int32) (v_t_tokenLong : Int32) (v_t_token : Int32) (v_t_value : Int32) (r_t_now : Nat → Int32) (r_t_kept : Nat → Int32) (r_t_isKept : Nat → Int32) (r_t_refused : Nat → Int32) (x1 : Int32) (r : Int32) (o_r_t_now : Nat → Int32) (o_r_t_refused : Nat → Int32) (h : f_X5_from x1 r_t_now r_t_kept r_t_isKept r_t_refused = some (r, o_r_t_now, o_r_t_refused)) : Met l yX5_from (Cond.code yX5_from cX5_from 3 (some .int) :: GW) ({ frames := 1, cells := 0, slots := 0, locals := 25 }) (Pre D cI cJ cZ adK adV [.ref a_t, .int x1] sz [(a_t, .inr (5, [.ref a_t_now, .ref a_t_kept, .ref a_t_isKept, .ref a_t_refused, .long v_t_above, .long v_t_below, .ref a_t_kinds, .int v_t_manyFit, .ref a_t_have, .int v_t_solved, .ref a_t_bytes, .int v_t_bytesLong, .int v_t_tokenAt, .int v_t_tokenLong, .int v_t_token, .int v_t_value, .ref a_t_anew, .ref a_t_values])), (a_t_now, .inl (cI, 146, .inl r_t_now)), (a_t_kept, .inl (cI, 292, .inl r_t_kept)), (a_t_isKept, .inl (cZ, 2, .inl r_t_isKept)), (a_t_refused, .inl (cI, 3, .inl r_t_refused))]) (PI D (va_A [(a_t, .inr (5, [.ref a_t_now, .ref a_t_kept, .ref a_t_isKept, .ref a_t_refused, .long v_t_above, .long v_t_below, .ref a_t_kinds, .int v_t_manyFit, .ref a_t_have, .int v_t_solved, .ref a_t_bytes, .int v_t_bytesLong, .int v_t_tokenAt, .int v_t_tokenLong, .int v_t_token, .int v_t_value, .ref a_t_anew, .ref a_t_values])), (a_t_now, .inl (cI, 146, .inl r_t_now)), (a_t_kept, .inl (cI, 292, .inl r_t_kept)), (a_t_isKept, .inl (cZ, 2, .inl r_t_isKept)), (a_t_refused, .inl (cI, 3, .inl r_t_refused))] sz) r [(a_t, .inr (5, [.ref a_t_now, .ref a_t_kept, .ref a_t_isKept, .ref a_t_refused, .long v_t_above, .long v_t_below, .ref a_t_kinds, .int v_t_manyFit, .ref a_t_have, .int v_t_solved, .ref a_t_bytes, .int v_t_bytesLong, .int v_t_tokenAt, .int v_t_tokenLong, .int v_t_token, .int v_t_value, .ref a_t_anew, .ref a_t_values])), (a_t_now, .inl (cI, 146, .inl o_r_t_now)), (a_t_kept, .inl (cI, 292, .inl r_t_kept)), (a_t_isKept, .inl (cZ, 2, .inl r_t_isKept)), (a_t_refused, .inl (cI, 3, .inl o_r_t_refused))]) 0 0 (va_A [(a_t, .inr (5, [.ref a_t_now, .ref a_t_kept, .ref a_t_isKept, .ref a_t_refused, .long v_t_above, .long v_t_below, .ref a_t_kinds, .int v_t_manyFit, .ref a_t_have, .int v_t_solved, .ref a_t_bytes, .int v_t_bytesLong, .int v_t_tokenAt, .int v_t_tokenLong, .int v_t_token, .int v_t_value, .ref a_t_anew, .ref a_t_values])), (a_t_now, .inl (cI, 146, .inl r_t_now)), (a_t_kept, .inl (cI, 292, .inl r_t_kept)), (a_t_isKept, .inl (cZ, 2, .inl r_t_isKept)), (a_t_refused, .inl (cI, 3, .inl r_t_refused))] sz) := by
  refine enter (QF := (fun A => PI D A r [(a_t, .inr (5, [.ref a_t_now, .ref a_t_kept, .ref a_t_isKept, .ref a_t_refused, .long v_t_above, .long v_t_below, .ref a_t_kinds, .int v_t_manyFit, .ref a_t_have, .int v_t_solved, .ref a_t_bytes, .int v_t_bytesLong, .int v_t_tokenAt, .int v_t_tokenLong, .int v_t_token, .int v_t_value, .ref a_t_anew, .ref a_t_values])), (a_t_now, .inl (cI, 146, .inl o_r_t_now)), (a_t_kept, .inl (cI, 292, .inl r_t_kept)), (a_t_isKept, .inl (cZ, 2, .inl r_t_isKept)), (a_t_refused, .inl (cI, 3, .inl o_r_t_refused))])) (by decide) (Nat.le_of_ble_eq_true rfl) ?_
  intro p e s m below meth c ls A hx hb hr hml hown hts hlocks hin hA hK hP hD hS hl
  have hl : lv_has ls 3 [(0, .ref a_t), (1, .int x1)] := hl
  have hL33 : ∀ (n : Nat), ∀ (y2 : Int32), ∀ (r_t_now : Nat → Int32), ∀ (r_t_refused : Nat → Int32), ∀ (H : Heap) (locs : List Loc) (ls : Array Slot), lq3 (f_X5_from_B33 x1 r_t_kept) n y2 r_t_now r_t_refused = some (r, o_r_t_now, o_r_t_refused) → va_P D CL [(a_t, .inr (5, [.ref a_t_now, .ref a_t_kept, .ref a_t_isKept, .ref a_t_refused, .long v_t_above, .long v_t_below, .ref a_t_kinds, .int v_t_manyFit, .ref a_t_have, .int v_t_solved, .ref a_t_bytes, .int v_t_bytesLong, .int v_t_tokenAt, .int v_t_tokenLong, .int v_t_token, .int v_t_value, .ref a_t_anew, .ref a_t_values])), (a_t_now, .inl (cI, 146, .inl r_t_now)), (a_t_kept, .inl (cI, 292, .inl r_t_kept)), (a_t_isKept, .inl (cZ, 2, .inl r_t_isKept)), (a_t_refused, .inl (cI, 3, .inl r_t_refused))] H → va_D A [(a_t, .inr (5, [.ref a_t_now, .ref a_t_kept, .ref a_t_isKept, .ref a_t_refused, .long v_t_above, .long v_t_below, .ref a_t_kinds, .int v_t_manyFit, .ref a_t_have, .int v_t_solved, .ref a_t_bytes, .int v_t_bytesLong, .int v_t_tokenAt, .int v_t_tokenLong, .int v_t_token, .int v_t_value, .ref a_t_anew, .ref a_t_values])), (a_t_now, .inl (cI, 146, .inl r_t_now)), (a_t_kept, .inl (cI, 292, .inl r_t_kept)), (a_t_isKept, .inl (cZ, 2, .inl r_t_isKept)), (a_t_refused, .inl (cI, 3, .inl r_t_refused))] → va_S A s.heap H locs → lv_has ls 3 [(0, .ref a_t), (1, .int x1), (2, .int y2)] → W p l e ({ frames := 1, cells := 0, slots := 0, locals := 25 }) s m [.ref a_t, .int x1].toArray below meth c H locs 0 0 (MQ below (PI D A r [(a_t, .inr (5, [.ref a_t_now, .ref a_t_kept, .ref a_t_isKept, .ref a_t_refused, .long v_t_above, .long v_t_below, .ref a_t_kinds, .int v_t_manyFit, .ref a_t_have, .int v_t_solved, .ref a_t_bytes, .int v_t_bytesLong, .int v_t_tokenAt, .int v_t_tokenLong, .int v_t_token, .int v_t_value, .ref a_t_anew, .ref a_t_values])), (a_t_now, .inl (cI, 146, .inl o_r_t_now)), (a_t_kept, .inl (cI, 292, .inl r_t_kept)), (a_t_isKept, .inl (cZ, 2, .inl r_t_isKept)), (a_t_refused, .inl (cI, 3, .inl o_r_t_refused))]) [.ref a_t, .int x1].toArray s 0 0 A) (F0 m 33 ls []) := by
    intro n
    induction n with
    | zero => intro y2 r_t_now r_t_refused H locs ls h; exact lq3_0 h
    | succ n hk33 =>
      intro y2 r_t_now r_t_refused H locs ls h hP hD hS hl
      have h : f_X5_from_B33 x1 r_t_kept (lq3 (f_X5_from_B33 x1 r_t_kept) n) y2 r_t_now r_t_refused = some (r, o_r_t_now, o_r_t_refused) := h
      refine lv_iload_n (pc := 33) hx hb dX5_from_33 rfl (lv_at hl 2 rfl) ?_
      refine lv_sipush (pc := 34) (v := 146) hx hb dX5_from_34 (by decide) ?_
      refine lv_icmp_ge (pc := 37) (tgt := 64) hx hb dX5_from_37 (by decide) (fun c4 => ?_) (fun c4 => ?_)
      · replace h := it_t c4 h
        refine lv_iconst (pc := 64) (v := 1) hx hb dX5_from_64 (by decide) ?_
        cases h
        exact retI (pc := 65) hx hb hr hlocks hP hD hS dX5_from_65
      · replace h := it_f c4 h
        refine lv_aload_n (pc := 40) hx hb dX5_from_40 rfl (lv_at hl 0 rfl) ?_
        refine g5_0 (pc := 41) hx hb hts hown hK hP 0 rfl qw713 dX5_from_41 ?_
        refine lv_iload_n (pc := 44) hx hb dX5_from_44 rfl (lv_at hl 2 rfl) ?_
        refine lv_aload_n (pc := 45) hx hb dX5_from_45 rfl (lv_at hl 0 rfl) ?_
        refine g5_1 (pc := 46) hx hb hts hown hK hP 0 rfl qw714 dX5_from_46 ?_
        refine lv_sipush (pc := 49) (v := 146) hx hb dX5_from_49 (by decide) ?_
        refine lv_iload_n (pc := 52) hx hb dX5_from_52 rfl (lv_at hl 1 rfl) ?_
        refine lv_imul (pc := 53) hx hb dX5_from_53 ?_
        refine lv_iload_n (pc := 54) hx hb dX5_from_54 rfl (lv_at hl 2 rfl) ?_
        refine lv_iadd (pc := 55) hx hb dX5_from_55 ?_
        replace h := ckI_s h
        have hi5 := h.1
        replace h := h.2
        refine rIald (pc := 56) hx hb hK hP 2 rfl hi5 dX5_from_56 ?_
        replace h := ckI_s h
        have hi6 := h.1
        replace h := h.2
        refine rIast (pc := 57) hx hb hK hP hD hS 1 rfl hi6 dX5_from_57 [(a_t, .inr (5, [.ref a_t_now, .ref a_t_kept, .ref a_t_isKept, .ref a_t_refused, .long v_t_above, .long v_t_below, .ref a_t_kinds, .int v_t_manyFit, .ref a_t_have, .int v_t_solved, .ref a_t_bytes, .int v_t_bytesLong, .int v_t_tokenAt, .int v_t_tokenLong, .int v_t_token, .int v_t_value, .ref a_t_anew, .ref a_t_values])), (a_t_now, .inl (cI, 146, .inl (upd r_t_now (Int32.toNatClampNeg y2) (r_t_kept (Int32.toNatClampNeg (((146 : Int32) * x1) + y2)))))), (a_t_kept, .inl (cI, 292, .inl r_t_kept)), (a_t_isKept, .inl (cZ, 2, .inl r_t_isKept)), (a_t_refused, .inl (cI, 3, .inl r_t_refused))] rfl (fun H locs hP hD hS => ?_)
        refine lv_iinc (pc := 58) (v := (y2 + (1 : Int32))) (lv' := [(2, .int (y2 + (1 : Int32))), (0, .ref a_t), (1, .int x1)]) hx hb dX5_from_58 hl (k := 2) rfl rfl (by decide) rfl (fun ls hl => ?_)
        refine lv_goto (pc := 61) (tgt := 33) hx hb dX5_from_61 (by decide) ?_
        exact hk33 (y2 + (1 : Int32)) (upd r_t_now (Int32.toNatClampNeg y2) (r_t_kept (Int32.toNatClampNeg (((146 : Int32) * x1) + y2)))) r_t_refused _ _ _ h hP hD hS (lv_sub hl [1, 2, 0] rfl)
  refine lv_iload_n (pc := 0) hx hb dX5_from_0 rfl (lv_at hl 1 rfl) ?_
  refine lv_i2l (pc := 1) hx hb dX5_from_1 rfl ?_
  refine lv_lconst (pc := 2) (v := 0) hx hb dX5_from_2 (by decide) ?_
  refine lv_lconst (pc := 3) (v := 1) hx hb dX5_from_3 (by decide) ?_
  refine callSI (pc := 4) (As := [.long (Int32.toInt64 x1), .long (0 : Int64), .long (1 : Int64)]) (wc := []) (wr := [(a_t, .inr (5, [.ref a_t_now, .ref a_t_kept, .ref a_t_isKept, .ref a_t_refused, .long v_t_above, .long v_t_below, .ref a_t_kinds, .int v_t_manyFit, .ref a_t_have, .int v_t_solved, .ref a_t_bytes, .int v_t_bytesLong, .int v_t_tokenAt, .int v_t_tokenLong, .int v_t_token, .int v_t_value, .ref a_t_anew, .ref a_t_values])), (a_t_now, .inl (cI, 146, .inl r_t_now)), (a_t_kept, .inl (cI, 292, .inl r_t_kept)), (a_t_isKept, .inl (cZ, 2, .inl r_t_isKept)), (a_t_refused, .inl (cI, 3, .inl r_t_refused))]) (w1 := []) hx hb hml hts hown hK hA hP hD hS [] [0, 1, 2, 3, 4] [0, 1, 2, 3, 4] [(a_t, .inr (5, [.ref a_t_now, .ref a_t_kept, .ref a_t_isKept, .ref a_t_refused, .long v_t_above, .long v_t_below, .ref a_t_kinds, .int v_t_manyFit, .ref a_t_have, .int v_t_solved, .ref a_t_bytes, .int v_t_bytesLong, .int v_t_tokenAt, .int v_t_tokenLong, .int v_t_token, .int v_t_value, .ref a_t_anew, .ref a_t_values])), (a_t_now, .inl (cI, 146, .inl r_t_now)), (a_t_kept, .inl (cI, 292, .inl r_t_kept)), (a_t_isKept, .inl (cZ, 2, .inl r_t_isKept)), (a_t_refused, .inl (cI, 3, .inl r_t_refused))] rfl rfl rfl rfl (by decide) rfl rfl (C_X5_in l D cI cJ cZ adK adV  _  (Int32.toInt64 x1) (0 : Int64) (1 : Int64) (f_X5_in (Int32.toInt64 x1) (0 : Int64) (1 : Int64)) rfl) qw787 qw785 qw786 qw6 hd_X5_in rfl rfl ⟨Nat.le_of_ble_eq_true rfl, Nat.le_of_ble_eq_true rfl⟩ rfl hl.1 [] rfl (Nat.le_of_ble_eq_true rfl) ⟨Nat.zero_le _, Nat.zero_le _⟩ dX5_from_4 (fun H locs hP hD hS => ?_)
  refine lv_if_ne (pc := 7) (tgt := 17) hx hb dX5_from_7 (by decide) (fun c1 => ?_) (fun c1 => ?_)
  · replace h := it_f c1 h
    refine lv_aload_n (pc := 17) hx hb dX5_from_17 rfl (lv_at hl 0 rfl) ?_
    refine g5_2 (pc := 18) hx hb hts hown hK hP 0 rfl qw715 dX5_from_18 ?_
    refine lv_iload_n (pc := 21) hx hb dX5_from_21 rfl (lv_at hl 1 rfl) ?_
    replace h := ckI_s h
    have hi2 := h.1
    replace h := h.2
    refine rZald (pc := 22) hx hb hK hP 3 rfl hi2 dX5_from_22 ?_
    refine lv_if_ne (pc := 23) (tgt := 31) hx hb dX5_from_23 (by decide) (fun c3 => ?_) (fun c3 => ?_)
    · replace h := it_f c3 h
      refine lv_iconst (pc := 31) (v := 0) hx hb dX5_from_31 (by decide) ?_
      refine lv_istore_n (pc := 32) (lv' := [(2, .int (0 : Int32)), (0, .ref a_t), (1, .int x1)]) hx hb dX5_from_32 rfl hl (by decide) rfl (fun ls hl => ?_)
      exact hL33  FU (0 : Int32) r_t_now r_t_refused _ _ _ h hP hD hS (lv_sub hl [1, 2, 0] rfl)
    · replace h := it_t c3 h
      refine lv_aload_n (pc := 26) hx hb dX5_from_26 rfl (lv_at hl 0 rfl) ?_
      replace h := bd2_s h
      obtain ⟨z7, u8, e9, h⟩ := h
      refine callVI (pc := 27) (As := []) (wc := [(a_t, .inr (5, [.ref a_t_now, .ref a_t_kept, .ref a_t_isKept, .ref a_t_refused, .long v_t_above, .long v_t_below, .ref a_t_kinds, .int v_t_manyFit, .ref a_t_have, .int v_t_solved, .ref a_t_bytes, .int v_t_bytesLong, .int v_t_tokenAt, .int v_t_tokenLong, .int v_t_token, .int v_t_value, .ref a_t_anew, .ref a_t_values])), (a_t_refused, .inl (cI, 3, .inl r_t_refused))]) (wr := [(a_t_now, .inl (cI, 146, .inl r_t_now)), (a_t_kept, .inl (cI, 292, .inl r_t_kept)), (a_t_isKept, .inl (cZ, 2, .inl r_t_isKept))]) (w1 := [(a_t, .inr (5, [.ref a_t_now, .ref a_t_kept, .ref a_t_isKept, .ref a_t_refused, .long v_t_above, .long v_t_below, .ref a_t_kinds, .int v_t_manyFit, .ref a_t_have, .int v_t_solved, .ref a_t_bytes, .int v_t_bytesLong, .int v_t_tokenAt, .int v_t_tokenLong, .int v_t_token, .int v_t_value, .ref a_t_anew, .ref a_t_values])), (a_t_refused, .inl (cI, 3, .inl u8))]) hx hb hml hts hown hK hA hP hD hS [0, 4] [1, 2, 3] [3, 0, 1, 2, 4] [(a_t, .inr (5, [.ref a_t_now, .ref a_t_kept, .ref a_t_isKept, .ref a_t_refused, .long v_t_above, .long v_t_below, .ref a_t_kinds, .int v_t_manyFit, .ref a_t_have, .int v_t_solved, .ref a_t_bytes, .int v_t_bytesLong, .int v_t_tokenAt, .int v_t_tokenLong, .int v_t_token, .int v_t_value, .ref a_t_anew, .ref a_t_values])), (a_t_now, .inl (cI, 146, .inl r_t_now)), (a_t_kept, .inl (cI, 292, .inl r_t_kept)), (a_t_isKept, .inl (cZ, 2, .inl r_t_isKept)), (a_t_refused, .inl (cI, 3, .inl u8))] rfl rfl rfl rfl (by decide) rfl rfl (C_X5_no l D cI cJ cZ adK adV a_t a_t_now a_t_kept a_t_isKept a_t_refused a_t_kinds a_t_have a_t_bytes a_t_anew a_t_values _ v_t_above v_t_below v_t_manyFit v_t_solved v_t_bytesLong v_t_tokenAt v_t_tokenLong v_t_token v_t_value r_t_refused  z7 u8 e9) qw847 qw844 qw846 qs40 qw6 hd_X5_no rfl rfl rfl rfl ⟨Nat.le_of_ble_eq_true rfl, Nat.le_of_ble_eq_true rfl⟩ rfl hl.1 [] rfl (Nat.le_of_ble_eq_true rfl) ⟨Nat.zero_le _, Nat.zero_le _⟩ dX5_from_27 (fun H locs hP hD hS => ?_)
      cases h
      exact retI (pc := 30) hx hb hr hlocks hP hD hS dX5_from_30
  · replace h := it_t c1 h
    refine lv_aload_n (pc := 10) hx hb dX5_from_10 rfl (lv_at hl 0 rfl) ?_
    refine lv_bipush (pc := 11) (v := -2) hx hb dX5_from_11 (by decide) ?_
    replace h := bd2_s h
    obtain ⟨z10, u11, e12, h⟩ := h
    refine callVI (pc := 13) (As := [.int (-2 : Int32)]) (wc := [(a_t, .inr (5, [.ref a_t_now, .ref a_t_kept, .ref a_t_isKept, .ref a_t_refused, .long v_t_above, .long v_t_below, .ref a_t_kinds, .int v_t_manyFit, .ref a_t_have, .int v_t_solved, .ref a_t_bytes, .int v_t_bytesLong, .int v_t_tokenAt, .int v_t_tokenLong, .int v_t_token, .int v_t_value, .ref a_t_anew, .ref a_t_values])), (a_t_refused, .inl (cI, 3, .inl r_t_refused))]) (wr := [(a_t_now, .inl (cI, 146, .inl r_t_now)), (a_t_kept, .inl (cI, 292, .inl r_t_kept)), (a_t_isKept, .inl (cZ, 2, .inl r_t_isKept))]) (w1 := [(a_t, .inr (5, [.ref a_t_now, .ref a_t_kept, .ref a_t_isKept, .ref a_t_refused, .long v_t_above, .long v_t_below, .ref a_t_kinds, .int v_t_manyFit, .ref a_t_have, .int v_t_solved, .ref a_t_bytes, .int v_t_bytesLong, .int v_t_tokenAt, .int v_t_tokenLong, .int v_t_token, .int v_t_value, .ref a_t_anew, .ref a_t_values])), (a_t_refused, .inl (cI, 3, .inl u11))]) hx hb hml hts hown hK hA hP hD hS [0, 4] [1, 2, 3] [3, 0, 1, 2, 4] [(a_t, .inr (5, [.ref a_t_now, .ref a_t_kept, .ref a_t_isKept, .ref a_t_refused, .long v_t_above, .long v_t_below, .ref a_t_kinds, .int v_t_manyFit, .ref a_t_have, .int v_t_solved, .ref a_t_bytes, .int v_t_bytesLong, .int v_t_tokenAt, .int v_t_tokenLong, .int v_t_token, .int v_t_value, .ref a_t_anew, .ref a_t_values])), (a_t_now, .inl (cI, 146, .inl r_t_now)), (a_t_kept, .inl (cI, 292, .inl r_t_kept)), (a_t_isKept, .inl (cZ, 2, .inl r_t_isKept)), (a_t_refused, .inl (cI, 3, .inl u11))] rfl rfl rfl rfl (by decide) rfl rfl (C_X5_bad l D cI cJ cZ adK adV a_t a_t_now a_t_kept a_t_isKept a_t_refused a_t_kinds a_t_have a_t_bytes a_t_anew a_t_values _ v_t_above v_t_below v_t_manyFit v_t_solved v_t_bytesLong v_t_tokenAt v_t_tokenLong v_t_token v_t_value r_t_refused (-2 : Int32) z10 u11 e12) qw791 qw788 qw790 qs35 qw6 hd_X5_bad rfl rfl rfl rfl ⟨Nat.le_of_ble_eq_true rfl, Nat.le_of_ble_eq_true rfl⟩ rfl hl.1 [] rfl (Nat.le_of_ble_eq_true rfl) ⟨Nat.zero_le _, Nat.zero_le _⟩ dX5_from_13 (fun H locs hP hD hS => ?_)
    cases h
    exact retI (pc := 16) hx hb hr hlocks hP hD hS dX5_from_16
theorem hd_X5_status : yX5_status.cls ≠ "java/lang/invoke/MethodHandle" ∧ yX5_status.cls ≠ "java/lang/invoke/VarHandle" ∧ (parseMethodDescriptor yX5_status.desc).map (fun d => d.parameters.length) = some 1 := by decide +kernel
set_option maxHeartbeats 4000000 in
set_option maxRecDepth 100000 in
theorem C_X5_status (l : Launch) (D : va_G) (cI cJ cZ : ClassId) (adK adV : Nat → Nat) (a_t a_t_now a_t_kept a_t_isKept a_t_refused a_t_kinds a_t_have a_t_bytes a_t_anew a_t_values : Nat) (sz : Nat) (v_t_above : Int64) (v_t_below : Int64) (v_t_manyFit : Int32) (v_t_solved : Int32) (v_t_bytesLong : Int32) (v_t_tokenAt : Int32) (v_t_tokenLong : Int32) (v_t_token : Int32) (v_t_value : Int32) (r_t_refused : Nat → Int32) (x1 : Int32) (r : Int32) (o_r_t_refused : Nat → Int32) (h : f_X5_status x1 r_t_refused = some (r, o_r_t_refused)) : Met l yX5_status (Cond.code yX5_status cX5_status 2 (some .int) :: GW) ({ frames := 1, cells := 0, slots := 0, locals := 25 }) (Pre D cI cJ cZ adK adV [.ref a_t, .int x1] sz [(a_t, .inr (5, [.ref a_t_now, .ref a_t_kept, .ref a_t_isKept, .ref a_t_refused, .long v_t_above, .long v_t_below, .ref a_t_kinds, .int v_t_manyFit, .ref a_t_have, .int v_t_solved, .ref a_t_bytes, .int v_t_bytesLong, .int v_t_tokenAt, .int v_t_tokenLong, .int v_t_token, .int v_t_value, .ref a_t_anew, .ref a_t_values])), (a_t_refused, .inl (cI, 3, .inl r_t_refused))]) (PI D (va_A [(a_t, .inr (5, [.ref a_t_now, .ref a_t_kept, .ref a_t_isKept, .ref a_t_refused, .long v_t_above, .long v_t_below, .ref a_t_kinds, .int v_t_manyFit, .ref a_t_have, .int v_t_solved, .ref a_t_bytes, .int v_t_bytesLong, .int v_t_tokenAt, .int v_t_tokenLong, .int v_t_token, .int v_t_value, .ref a_t_anew, .ref a_t_values])), (a_t_refused, .inl (cI, 3, .inl r_t_refused))] sz) r [(a_t, .inr (5, [.ref a_t_now, .ref a_t_kept, .ref a_t_isKept, .ref a_t_refused, .long v_t_above, .long v_t_below, .ref a_t_kinds, .int v_t_manyFit, .ref a_t_have, .int v_t_solved, .ref a_t_bytes, .int v_t_bytesLong, .int v_t_tokenAt, .int v_t_tokenLong, .int v_t_token, .int v_t_value, .ref a_t_anew, .ref a_t_values])), (a_t_refused, .inl (cI, 3, .inl o_r_t_refused))]) 0 0 (va_A [(a_t, .inr (5, [.ref a_t_now, .ref a_t_kept, .ref a_t_isKept, .ref a_t_refused, .long v_t_above, .long v_t_below, .ref a_t_kinds, .int v_t_manyFit, .ref a_t_have, .int v_t_solved, .ref a_t_bytes, .int v_t_bytesLong, .int v_t_tokenAt, .int v_t_tokenLong, .int v_t_token, .int v_t_value, .ref a_t_anew, .ref a_t_values])), (a_t_refused, .inl (cI, 3, .inl r_t_refused))] sz) := by
  refine enter (QF := (fun A => PI D A r [(a_t, .inr (5, [.ref a_t_now, .ref a_t_kept, .ref a_t_isKept, .ref a_t_refused, .long v_t_above, .long v_t_below, .ref a_t_kinds, .int v_t_manyFit, .ref a_t_have, .int v_t_solved, .ref a_t_bytes, .int v_t_bytesLong, .int v_t_tokenAt, .int v_t_tokenLong, .int v_t_token, .int v_t_value, .ref a_t_anew, .ref a_t_values])), (a_t_refused, .inl (cI, 3, .inl o_r_t_refused))])) (by decide) (Nat.le_of_ble_eq_true rfl) ?_
  intro p e s m below meth c ls A hx hb hr hml hown hts hlocks hin hA hK hP hD hS hl
  have hl : lv_has ls 2 [(0, .ref a_t), (1, .int x1)] := hl
  refine lv_iload_n (pc := 0) hx hb dX5_status_0 rfl (lv_at hl 1 rfl) ?_
  refine lv_i2l (pc := 1) hx hb dX5_status_1 rfl ?_
  refine lv_lconst (pc := 2) (v := 0) hx hb dX5_status_2 (by decide) ?_
  refine lv_ldc2 (pc := 3) (v := 2) hx hb hown (hts _ (List.mem_cons_of_mem _ qw823)) dX5_status_3 ?_
  refine callSI (pc := 6) (As := [.long (Int32.toInt64 x1), .long (0 : Int64), .long (2 : Int64)]) (wc := []) (wr := [(a_t, .inr (5, [.ref a_t_now, .ref a_t_kept, .ref a_t_isKept, .ref a_t_refused, .long v_t_above, .long v_t_below, .ref a_t_kinds, .int v_t_manyFit, .ref a_t_have, .int v_t_solved, .ref a_t_bytes, .int v_t_bytesLong, .int v_t_tokenAt, .int v_t_tokenLong, .int v_t_token, .int v_t_value, .ref a_t_anew, .ref a_t_values])), (a_t_refused, .inl (cI, 3, .inl r_t_refused))]) (w1 := []) hx hb hml hts hown hK hA hP hD hS [] [0, 1] [0, 1] [(a_t, .inr (5, [.ref a_t_now, .ref a_t_kept, .ref a_t_isKept, .ref a_t_refused, .long v_t_above, .long v_t_below, .ref a_t_kinds, .int v_t_manyFit, .ref a_t_have, .int v_t_solved, .ref a_t_bytes, .int v_t_bytesLong, .int v_t_tokenAt, .int v_t_tokenLong, .int v_t_token, .int v_t_value, .ref a_t_anew, .ref a_t_values])), (a_t_refused, .inl (cI, 3, .inl r_t_refused))] rfl rfl rfl rfl (by decide) rfl rfl (C_X5_in l D cI cJ cZ adK adV  _  (Int32.toInt64 x1) (0 : Int64) (2 : Int64) (f_X5_in (Int32.toInt64 x1) (0 : Int64) (2 : Int64)) rfl) qw787 qw785 qw786 qw6 hd_X5_in rfl rfl ⟨Nat.le_of_ble_eq_true rfl, Nat.le_of_ble_eq_true rfl⟩ rfl hl.1 [] rfl (Nat.le_of_ble_eq_true rfl) ⟨Nat.zero_le _, Nat.zero_le _⟩ dX5_status_6 (fun H locs hP hD hS => ?_)
  refine lv_if_eq (pc := 9) (tgt := 21) hx hb dX5_status_9 (by decide) (fun c1 => ?_) (fun c1 => ?_)
  · replace h := it_t c1 h
    refine lv_aload_n (pc := 21) hx hb dX5_status_21 rfl (lv_at hl 0 rfl) ?_
    refine lv_iconst (pc := 22) (v := -1) hx hb dX5_status_22 (by decide) ?_
    replace h := bd2_s h
    obtain ⟨z2, u3, e4, h⟩ := h
    refine callVI (pc := 23) (As := [.int (-1 : Int32)]) (wc := [(a_t, .inr (5, [.ref a_t_now, .ref a_t_kept, .ref a_t_isKept, .ref a_t_refused, .long v_t_above, .long v_t_below, .ref a_t_kinds, .int v_t_manyFit, .ref a_t_have, .int v_t_solved, .ref a_t_bytes, .int v_t_bytesLong, .int v_t_tokenAt, .int v_t_tokenLong, .int v_t_token, .int v_t_value, .ref a_t_anew, .ref a_t_values])), (a_t_refused, .inl (cI, 3, .inl r_t_refused))]) (wr := []) (w1 := [(a_t, .inr (5, [.ref a_t_now, .ref a_t_kept, .ref a_t_isKept, .ref a_t_refused, .long v_t_above, .long v_t_below, .ref a_t_kinds, .int v_t_manyFit, .ref a_t_have, .int v_t_solved, .ref a_t_bytes, .int v_t_bytesLong, .int v_t_tokenAt, .int v_t_tokenLong, .int v_t_token, .int v_t_value, .ref a_t_anew, .ref a_t_values])), (a_t_refused, .inl (cI, 3, .inl u3))]) hx hb hml hts hown hK hA hP hD hS [0, 1] [] [0, 1] [(a_t, .inr (5, [.ref a_t_now, .ref a_t_kept, .ref a_t_isKept, .ref a_t_refused, .long v_t_above, .long v_t_below, .ref a_t_kinds, .int v_t_manyFit, .ref a_t_have, .int v_t_solved, .ref a_t_bytes, .int v_t_bytesLong, .int v_t_tokenAt, .int v_t_tokenLong, .int v_t_token, .int v_t_value, .ref a_t_anew, .ref a_t_values])), (a_t_refused, .inl (cI, 3, .inl u3))] rfl rfl rfl rfl (by decide) rfl rfl (C_X5_bad l D cI cJ cZ adK adV a_t a_t_now a_t_kept a_t_isKept a_t_refused a_t_kinds a_t_have a_t_bytes a_t_anew a_t_values _ v_t_above v_t_below v_t_manyFit v_t_solved v_t_bytesLong v_t_tokenAt v_t_tokenLong v_t_token v_t_value r_t_refused (-1 : Int32) z2 u3 e4) qw791 qw788 qw790 qs35 qw6 hd_X5_bad rfl rfl rfl rfl ⟨Nat.le_of_ble_eq_true rfl, Nat.le_of_ble_eq_true rfl⟩ rfl hl.1 [] rfl (Nat.le_of_ble_eq_true rfl) ⟨Nat.zero_le _, Nat.zero_le _⟩ dX5_status_23 (fun H locs hP hD hS => ?_)
    cases h
    exact retI (pc := 26) hx hb hr hlocks hP hD hS dX5_status_26
  · replace h := it_f c1 h
    refine lv_aload_n (pc := 12) hx hb dX5_status_12 rfl (lv_at hl 0 rfl) ?_
    refine g5_3 (pc := 13) hx hb hts hown hK hP 0 rfl qw716 dX5_status_13 ?_
    refine lv_iload_n (pc := 16) hx hb dX5_status_16 rfl (lv_at hl 1 rfl) ?_
    replace h := ckI_s h
    have hi5 := h.1
    replace h := h.2
    refine rIald (pc := 17) hx hb hK hP 1 rfl hi5 dX5_status_17 ?_
    refine lv_goto (pc := 18) (tgt := 26) hx hb dX5_status_18 (by decide) ?_
    cases h
    exact retI (pc := 26) hx hb hr hlocks hP hD hS dX5_status_26
theorem hd_X5_manyKnown : yX5_manyKnown.cls ≠ "java/lang/invoke/MethodHandle" ∧ yX5_manyKnown.cls ≠ "java/lang/invoke/VarHandle" ∧ (parseMethodDescriptor yX5_manyKnown.desc).map (fun d => d.parameters.length) = some 0 := by decide +kernel
set_option maxHeartbeats 4000000 in
set_option maxRecDepth 100000 in
theorem C_X5_manyKnown (l : Launch) (D : va_G) (cI cJ cZ : ClassId) (adK adV : Nat → Nat) (a_t a_t_now a_t_kept a_t_isKept a_t_refused a_t_kinds a_t_have a_t_bytes a_t_anew a_t_values : Nat) (sz : Nat) (v_t_above : Int64) (v_t_below : Int64) (v_t_manyFit : Int32) (v_t_solved : Int32) (v_t_bytesLong : Int32) (v_t_tokenAt : Int32) (v_t_tokenLong : Int32) (v_t_token : Int32) (v_t_value : Int32) (r_t_now : Nat → Int32) (r : Int32) (h : f_X5_manyKnown r_t_now = some r) : Met l yX5_manyKnown (Cond.code yX5_manyKnown cX5_manyKnown 3 (some .int) :: GW) ({ frames := 0, cells := 0, slots := 0, locals := 0 }) (Pre D cI cJ cZ adK adV [.ref a_t] sz [(a_t, .inr (5, [.ref a_t_now, .ref a_t_kept, .ref a_t_isKept, .ref a_t_refused, .long v_t_above, .long v_t_below, .ref a_t_kinds, .int v_t_manyFit, .ref a_t_have, .int v_t_solved, .ref a_t_bytes, .int v_t_bytesLong, .int v_t_tokenAt, .int v_t_tokenLong, .int v_t_token, .int v_t_value, .ref a_t_anew, .ref a_t_values])), (a_t_now, .inl (cI, 146, .inl r_t_now))]) (PI D (va_A [(a_t, .inr (5, [.ref a_t_now, .ref a_t_kept, .ref a_t_isKept, .ref a_t_refused, .long v_t_above, .long v_t_below, .ref a_t_kinds, .int v_t_manyFit, .ref a_t_have, .int v_t_solved, .ref a_t_bytes, .int v_t_bytesLong, .int v_t_tokenAt, .int v_t_tokenLong, .int v_t_token, .int v_t_value, .ref a_t_anew, .ref a_t_values])), (a_t_now, .inl (cI, 146, .inl r_t_now))] sz) r [(a_t, .inr (5, [.ref a_t_now, .ref a_t_kept, .ref a_t_isKept, .ref a_t_refused, .long v_t_above, .long v_t_below, .ref a_t_kinds, .int v_t_manyFit, .ref a_t_have, .int v_t_solved, .ref a_t_bytes, .int v_t_bytesLong, .int v_t_tokenAt, .int v_t_tokenLong, .int v_t_token, .int v_t_value, .ref a_t_anew, .ref a_t_values])), (a_t_now, .inl (cI, 146, .inl r_t_now))]) 0 0 (va_A [(a_t, .inr (5, [.ref a_t_now, .ref a_t_kept, .ref a_t_isKept, .ref a_t_refused, .long v_t_above, .long v_t_below, .ref a_t_kinds, .int v_t_manyFit, .ref a_t_have, .int v_t_solved, .ref a_t_bytes, .int v_t_bytesLong, .int v_t_tokenAt, .int v_t_tokenLong, .int v_t_token, .int v_t_value, .ref a_t_anew, .ref a_t_values])), (a_t_now, .inl (cI, 146, .inl r_t_now))] sz) := by
  refine enter (QF := (fun A => PI D A r [(a_t, .inr (5, [.ref a_t_now, .ref a_t_kept, .ref a_t_isKept, .ref a_t_refused, .long v_t_above, .long v_t_below, .ref a_t_kinds, .int v_t_manyFit, .ref a_t_have, .int v_t_solved, .ref a_t_bytes, .int v_t_bytesLong, .int v_t_tokenAt, .int v_t_tokenLong, .int v_t_token, .int v_t_value, .ref a_t_anew, .ref a_t_values])), (a_t_now, .inl (cI, 146, .inl r_t_now))])) (by decide) (Nat.le_of_ble_eq_true rfl) ?_
  intro p e s m below meth c ls A hx hb hr hml hown hts hlocks hin hA hK hP hD hS hl
  have hl : lv_has ls 3 [(0, .ref a_t)] := hl
  have hL4 : ∀ (n : Nat), ∀ (y1 : Int32), ∀ (y2 : Int32), ∀ (H : Heap) (locs : List Loc) (ls : Array Slot), lq2 (f_X5_manyKnown_B4 r_t_now) n y1 y2 = some r → va_P D CL [(a_t, .inr (5, [.ref a_t_now, .ref a_t_kept, .ref a_t_isKept, .ref a_t_refused, .long v_t_above, .long v_t_below, .ref a_t_kinds, .int v_t_manyFit, .ref a_t_have, .int v_t_solved, .ref a_t_bytes, .int v_t_bytesLong, .int v_t_tokenAt, .int v_t_tokenLong, .int v_t_token, .int v_t_value, .ref a_t_anew, .ref a_t_values])), (a_t_now, .inl (cI, 146, .inl r_t_now))] H → va_D A [(a_t, .inr (5, [.ref a_t_now, .ref a_t_kept, .ref a_t_isKept, .ref a_t_refused, .long v_t_above, .long v_t_below, .ref a_t_kinds, .int v_t_manyFit, .ref a_t_have, .int v_t_solved, .ref a_t_bytes, .int v_t_bytesLong, .int v_t_tokenAt, .int v_t_tokenLong, .int v_t_token, .int v_t_value, .ref a_t_anew, .ref a_t_values])), (a_t_now, .inl (cI, 146, .inl r_t_now))] → va_S A s.heap H locs → lv_has ls 3 [(0, .ref a_t), (1, .int y1), (2, .int y2)] → W p l e ({ frames := 0, cells := 0, slots := 0, locals := 0 }) s m [.ref a_t].toArray below meth c H locs 0 0 (MQ below (PI D A r [(a_t, .inr (5, [.ref a_t_now, .ref a_t_kept, .ref a_t_isKept, .ref a_t_refused, .long v_t_above, .long v_t_below, .ref a_t_kinds, .int v_t_manyFit, .ref a_t_have, .int v_t_solved, .ref a_t_bytes, .int v_t_bytesLong, .int v_t_tokenAt, .int v_t_tokenLong, .int v_t_token, .int v_t_value, .ref a_t_anew, .ref a_t_values])), (a_t_now, .inl (cI, 146, .inl r_t_now))]) [.ref a_t].toArray s 0 0 A) (F0 m 4 ls []) := by
    intro n
    induction n with
    | zero => intro y1 y2 H locs ls h; exact lq2_0 h
    | succ n hk4 =>
      intro y1 y2 H locs ls h hP hD hS hl
      have h : f_X5_manyKnown_B4 r_t_now (lq2 (f_X5_manyKnown_B4 r_t_now) n) y1 y2 = some r := h
      refine lv_iload_n (pc := 4) hx hb dX5_manyKnown_4 rfl (lv_at hl 2 rfl) ?_
      refine lv_bipush (pc := 5) (v := 6) hx hb dX5_manyKnown_5 (by decide) ?_
      refine lv_icmp_ge (pc := 7) (tgt := 36) hx hb dX5_manyKnown_7 (by decide) (fun c1 => ?_) (fun c1 => ?_)
      · replace h := it_t c1 h
        refine lv_iload_n (pc := 36) hx hb dX5_manyKnown_36 rfl (lv_at hl 1 rfl) ?_
        cases h
        exact retI (pc := 37) hx hb hr hlocks hP hD hS dX5_manyKnown_37
      · replace h := it_f c1 h
        refine lv_iload_n (pc := 10) hx hb dX5_manyKnown_10 rfl (lv_at hl 1 rfl) ?_
        refine lv_aload_n (pc := 11) hx hb dX5_manyKnown_11 rfl (lv_at hl 0 rfl) ?_
        refine g5_0 (pc := 12) hx hb hts hown hK hP 0 rfl qw713 dX5_manyKnown_12 ?_
        refine lv_iconst (pc := 15) (v := 4) hx hb dX5_manyKnown_15 (by decide) ?_
        refine lv_iload_n (pc := 16) hx hb dX5_manyKnown_16 rfl (lv_at hl 2 rfl) ?_
        refine lv_iadd (pc := 17) hx hb dX5_manyKnown_17 ?_
        replace h := ckI_s h
        have hi2 := h.1
        replace h := h.2
        refine rIald (pc := 18) hx hb hK hP 1 rfl hi2 dX5_manyKnown_18 ?_
        refine lv_iconst (pc := 19) (v := -1) hx hb dX5_manyKnown_19 (by decide) ?_
        refine lv_icmp_ne (pc := 20) (tgt := 27) hx hb dX5_manyKnown_20 (by decide) (fun c3 => ?_) (fun c3 => ?_)
        · replace h := it_f c3 h
          refine lv_iconst (pc := 27) (v := 1) hx hb dX5_manyKnown_27 (by decide) ?_
          refine lv_iadd (pc := 28) hx hb dX5_manyKnown_28 ?_
          refine lv_istore_n (pc := 29) (lv' := [(1, .int (y1 + (1 : Int32))), (0, .ref a_t), (2, .int y2)]) hx hb dX5_manyKnown_29 rfl hl (by decide) rfl (fun ls hl => ?_)
          refine lv_iinc (pc := 30) (v := (y2 + (1 : Int32))) (lv' := [(2, .int (y2 + (1 : Int32))), (1, .int (y1 + (1 : Int32))), (0, .ref a_t)]) hx hb dX5_manyKnown_30 hl (k := 2) rfl rfl (by decide) rfl (fun ls hl => ?_)
          refine lv_goto (pc := 33) (tgt := 4) hx hb dX5_manyKnown_33 (by decide) ?_
          exact hk4 (y1 + (1 : Int32)) (y2 + (1 : Int32)) _ _ _ h hP hD hS (lv_sub hl [2, 1, 0] rfl)
        · replace h := it_t c3 h
          refine lv_iconst (pc := 23) (v := 0) hx hb dX5_manyKnown_23 (by decide) ?_
          refine lv_goto (pc := 24) (tgt := 28) hx hb dX5_manyKnown_24 (by decide) ?_
          refine lv_iadd (pc := 28) hx hb dX5_manyKnown_28 ?_
          refine lv_istore_n (pc := 29) (lv' := [(1, .int (y1 + (0 : Int32))), (0, .ref a_t), (2, .int y2)]) hx hb dX5_manyKnown_29 rfl hl (by decide) rfl (fun ls hl => ?_)
          refine lv_iinc (pc := 30) (v := (y2 + (1 : Int32))) (lv' := [(2, .int (y2 + (1 : Int32))), (1, .int (y1 + (0 : Int32))), (0, .ref a_t)]) hx hb dX5_manyKnown_30 hl (k := 2) rfl rfl (by decide) rfl (fun ls hl => ?_)
          refine lv_goto (pc := 33) (tgt := 4) hx hb dX5_manyKnown_33 (by decide) ?_
          exact hk4 (y1 + (0 : Int32)) (y2 + (1 : Int32)) _ _ _ h hP hD hS (lv_sub hl [2, 1, 0] rfl)
  refine lv_iconst (pc := 0) (v := 0) hx hb dX5_manyKnown_0 (by decide) ?_
  refine lv_istore_n (pc := 1) (lv' := [(1, .int (0 : Int32)), (0, .ref a_t)]) hx hb dX5_manyKnown_1 rfl hl (by decide) rfl (fun ls hl => ?_)
  refine lv_iconst (pc := 2) (v := 0) hx hb dX5_manyKnown_2 (by decide) ?_
  refine lv_istore_n (pc := 3) (lv' := [(2, .int (0 : Int32)), (1, .int (0 : Int32)), (0, .ref a_t)]) hx hb dX5_manyKnown_3 rfl hl (by decide) rfl (fun ls hl => ?_)
  exact hL4  FU (0 : Int32) (0 : Int32) _ _ _ h hP hD hS (lv_sub hl [2, 1, 0] rfl)
theorem hd_X5_counted : yX5_counted.cls ≠ "java/lang/invoke/MethodHandle" ∧ yX5_counted.cls ≠ "java/lang/invoke/VarHandle" ∧ (parseMethodDescriptor yX5_counted.desc).map (fun d => d.parameters.length) = some 1 := by decide +kernel
set_option maxHeartbeats 4000000 in
set_option maxRecDepth 100000 in
theorem C_X5_counted (l : Launch) (D : va_G) (cI cJ cZ : ClassId) (adK adV : Nat → Nat) (a_t a_t_now a_t_kept a_t_isKept a_t_refused a_t_kinds a_t_have a_t_bytes a_t_anew a_t_values : Nat) (sz : Nat) (v_t_above : Int64) (v_t_below : Int64) (v_t_manyFit : Int32) (v_t_solved : Int32) (v_t_bytesLong : Int32) (v_t_tokenAt : Int32) (v_t_tokenLong : Int32) (v_t_token : Int32) (v_t_value : Int32) (r_t_now : Nat → Int32) (x1 : Int32) (r : Int32) (h : f_X5_counted x1 v_t_bytesLong r_t_now = some r) : Met l yX5_counted (Cond.code yX5_counted cX5_counted 2 (some .int) :: GW) ({ frames := 1, cells := 0, slots := 0, locals := 22 }) (Pre D cI cJ cZ adK adV [.ref a_t, .int x1] sz [(a_t, .inr (5, [.ref a_t_now, .ref a_t_kept, .ref a_t_isKept, .ref a_t_refused, .long v_t_above, .long v_t_below, .ref a_t_kinds, .int v_t_manyFit, .ref a_t_have, .int v_t_solved, .ref a_t_bytes, .int v_t_bytesLong, .int v_t_tokenAt, .int v_t_tokenLong, .int v_t_token, .int v_t_value, .ref a_t_anew, .ref a_t_values])), (a_t_now, .inl (cI, 146, .inl r_t_now))]) (PI D (va_A [(a_t, .inr (5, [.ref a_t_now, .ref a_t_kept, .ref a_t_isKept, .ref a_t_refused, .long v_t_above, .long v_t_below, .ref a_t_kinds, .int v_t_manyFit, .ref a_t_have, .int v_t_solved, .ref a_t_bytes, .int v_t_bytesLong, .int v_t_tokenAt, .int v_t_tokenLong, .int v_t_token, .int v_t_value, .ref a_t_anew, .ref a_t_values])), (a_t_now, .inl (cI, 146, .inl r_t_now))] sz) r [(a_t, .inr (5, [.ref a_t_now, .ref a_t_kept, .ref a_t_isKept, .ref a_t_refused, .long v_t_above, .long v_t_below, .ref a_t_kinds, .int v_t_manyFit, .ref a_t_have, .int v_t_solved, .ref a_t_bytes, .int v_t_bytesLong, .int v_t_tokenAt, .int v_t_tokenLong, .int v_t_token, .int v_t_value, .ref a_t_anew, .ref a_t_values])), (a_t_now, .inl (cI, 146, .inl r_t_now))]) 0 0 (va_A [(a_t, .inr (5, [.ref a_t_now, .ref a_t_kept, .ref a_t_isKept, .ref a_t_refused, .long v_t_above, .long v_t_below, .ref a_t_kinds, .int v_t_manyFit, .ref a_t_have, .int v_t_solved, .ref a_t_bytes, .int v_t_bytesLong, .int v_t_tokenAt, .int v_t_tokenLong, .int v_t_token, .int v_t_value, .ref a_t_anew, .ref a_t_values])), (a_t_now, .inl (cI, 146, .inl r_t_now))] sz) := by
  refine enter (QF := (fun A => PI D A r [(a_t, .inr (5, [.ref a_t_now, .ref a_t_kept, .ref a_t_isKept, .ref a_t_refused, .long v_t_above, .long v_t_below, .ref a_t_kinds, .int v_t_manyFit, .ref a_t_have, .int v_t_solved, .ref a_t_bytes, .int v_t_bytesLong, .int v_t_tokenAt, .int v_t_tokenLong, .int v_t_token, .int v_t_value, .ref a_t_anew, .ref a_t_values])), (a_t_now, .inl (cI, 146, .inl r_t_now))])) (by decide) (Nat.le_of_ble_eq_true rfl) ?_
  intro p e s m below meth c ls A hx hb hr hml hown hts hlocks hin hA hK hP hD hS hl
  have hl : lv_has ls 2 [(0, .ref a_t), (1, .int x1)] := hl
  refine lv_iload_n (pc := 0) hx hb dX5_counted_0 rfl (lv_at hl 1 rfl) ?_
  by_cases c1 : x1 = (0 : Int32)
  · replace h := it_t c1 h
    refine lv_tableIn (pc := 1) (off := 35) (tgt := 36) hx hb dX5_counted_1 (by rw [c1]; decide) (by rw [c1]; decide) (by rw [c1]; rfl) (by decide) ?_
    refine lv_aload_n (pc := 36) hx hb dX5_counted_36 rfl (lv_at hl 0 rfl) ?_
    refine callVI (pc := 37) (As := []) (wc := [(a_t, .inr (5, [.ref a_t_now, .ref a_t_kept, .ref a_t_isKept, .ref a_t_refused, .long v_t_above, .long v_t_below, .ref a_t_kinds, .int v_t_manyFit, .ref a_t_have, .int v_t_solved, .ref a_t_bytes, .int v_t_bytesLong, .int v_t_tokenAt, .int v_t_tokenLong, .int v_t_token, .int v_t_value, .ref a_t_anew, .ref a_t_values])), (a_t_now, .inl (cI, 146, .inl r_t_now))]) (wr := []) (w1 := [(a_t, .inr (5, [.ref a_t_now, .ref a_t_kept, .ref a_t_isKept, .ref a_t_refused, .long v_t_above, .long v_t_below, .ref a_t_kinds, .int v_t_manyFit, .ref a_t_have, .int v_t_solved, .ref a_t_bytes, .int v_t_bytesLong, .int v_t_tokenAt, .int v_t_tokenLong, .int v_t_token, .int v_t_value, .ref a_t_anew, .ref a_t_values])), (a_t_now, .inl (cI, 146, .inl r_t_now))]) hx hb hml hts hown hK hA hP hD hS [0, 1] [] [0, 1] [(a_t, .inr (5, [.ref a_t_now, .ref a_t_kept, .ref a_t_isKept, .ref a_t_refused, .long v_t_above, .long v_t_below, .ref a_t_kinds, .int v_t_manyFit, .ref a_t_have, .int v_t_solved, .ref a_t_bytes, .int v_t_bytesLong, .int v_t_tokenAt, .int v_t_tokenLong, .int v_t_token, .int v_t_value, .ref a_t_anew, .ref a_t_values])), (a_t_now, .inl (cI, 146, .inl r_t_now))] rfl rfl rfl rfl (by decide) rfl rfl (C_X5_many l D cI cJ cZ adK adV a_t a_t_now a_t_kept a_t_isKept a_t_refused a_t_kinds a_t_have a_t_bytes a_t_anew a_t_values _ v_t_above v_t_below v_t_manyFit v_t_solved v_t_bytesLong v_t_tokenAt v_t_tokenLong v_t_token v_t_value r_t_now  (f_X5_many r_t_now) rfl) qw776 qw773 qw775 qs34 qw6 hd_X5_many rfl rfl rfl rfl ⟨Nat.le_of_ble_eq_true rfl, Nat.le_of_ble_eq_true rfl⟩ rfl hl.1 [] rfl (Nat.le_of_ble_eq_true rfl) ⟨Nat.zero_le _, Nat.zero_le _⟩ dX5_counted_37 (fun H locs hP hD hS => ?_)
    cases h
    exact retI (pc := 40) hx hb hr hlocks hP hD hS dX5_counted_40
  · replace h := it_f c1 h
    by_cases c2 : x1 = (1 : Int32)
    · replace h := it_t c2 h
      refine lv_tableIn (pc := 1) (off := 40) (tgt := 41) hx hb dX5_counted_1 (by rw [c2]; decide) (by rw [c2]; decide) (by rw [c2]; rfl) (by decide) ?_
      refine lv_aload_n (pc := 41) hx hb dX5_counted_41 rfl (lv_at hl 0 rfl) ?_
      refine g5_0 (pc := 42) hx hb hts hown hK hP 0 rfl qw713 dX5_counted_42 ?_
      refine lv_iconst (pc := 45) (v := 1) hx hb dX5_counted_45 (by decide) ?_
      refine rIald (pc := 46) hx hb hK hP 1 rfl (by decide) dX5_counted_46 ?_
      replace h := bd1_s h
      obtain ⟨z8, e9, h⟩ := h
      refine callSI (pc := 47) (As := [.int (r_t_now (Int32.toNatClampNeg (1 : Int32)))]) (wc := []) (wr := [(a_t, .inr (5, [.ref a_t_now, .ref a_t_kept, .ref a_t_isKept, .ref a_t_refused, .long v_t_above, .long v_t_below, .ref a_t_kinds, .int v_t_manyFit, .ref a_t_have, .int v_t_solved, .ref a_t_bytes, .int v_t_bytesLong, .int v_t_tokenAt, .int v_t_tokenLong, .int v_t_token, .int v_t_value, .ref a_t_anew, .ref a_t_values])), (a_t_now, .inl (cI, 146, .inl r_t_now))]) (w1 := []) hx hb hml hts hown hK hA hP hD hS [] [0, 1] [0, 1] [(a_t, .inr (5, [.ref a_t_now, .ref a_t_kept, .ref a_t_isKept, .ref a_t_refused, .long v_t_above, .long v_t_below, .ref a_t_kinds, .int v_t_manyFit, .ref a_t_have, .int v_t_solved, .ref a_t_bytes, .int v_t_bytesLong, .int v_t_tokenAt, .int v_t_tokenLong, .int v_t_token, .int v_t_value, .ref a_t_anew, .ref a_t_values])), (a_t_now, .inl (cI, 146, .inl r_t_now))] rfl rfl rfl rfl (by decide) rfl rfl (C_X5_bits l D cI cJ cZ adK adV  _  (r_t_now (Int32.toNatClampNeg (1 : Int32))) z8 e9) qw794 qw792 qw793 qw6 hd_X5_bits rfl rfl ⟨Nat.le_of_ble_eq_true rfl, Nat.le_of_ble_eq_true rfl⟩ rfl hl.1 [] rfl (Nat.le_of_ble_eq_true rfl) ⟨Nat.zero_le _, Nat.zero_le _⟩ dX5_counted_47 (fun H locs hP hD hS => ?_)
      cases h
      exact retI (pc := 50) hx hb hr hlocks hP hD hS dX5_counted_50
    · replace h := it_f c2 h
      by_cases c3 : x1 = (2 : Int32)
      · replace h := it_t c3 h
        refine lv_tableIn (pc := 1) (off := 50) (tgt := 51) hx hb dX5_counted_1 (by rw [c3]; decide) (by rw [c3]; decide) (by rw [c3]; rfl) (by decide) ?_
        refine lv_aload_n (pc := 51) hx hb dX5_counted_51 rfl (lv_at hl 0 rfl) ?_
        refine callVI (pc := 52) (As := []) (wc := [(a_t, .inr (5, [.ref a_t_now, .ref a_t_kept, .ref a_t_isKept, .ref a_t_refused, .long v_t_above, .long v_t_below, .ref a_t_kinds, .int v_t_manyFit, .ref a_t_have, .int v_t_solved, .ref a_t_bytes, .int v_t_bytesLong, .int v_t_tokenAt, .int v_t_tokenLong, .int v_t_token, .int v_t_value, .ref a_t_anew, .ref a_t_values])), (a_t_now, .inl (cI, 146, .inl r_t_now))]) (wr := []) (w1 := [(a_t, .inr (5, [.ref a_t_now, .ref a_t_kept, .ref a_t_isKept, .ref a_t_refused, .long v_t_above, .long v_t_below, .ref a_t_kinds, .int v_t_manyFit, .ref a_t_have, .int v_t_solved, .ref a_t_bytes, .int v_t_bytesLong, .int v_t_tokenAt, .int v_t_tokenLong, .int v_t_token, .int v_t_value, .ref a_t_anew, .ref a_t_values])), (a_t_now, .inl (cI, 146, .inl r_t_now))]) hx hb hml hts hown hK hA hP hD hS [0, 1] [] [0, 1] [(a_t, .inr (5, [.ref a_t_now, .ref a_t_kept, .ref a_t_isKept, .ref a_t_refused, .long v_t_above, .long v_t_below, .ref a_t_kinds, .int v_t_manyFit, .ref a_t_have, .int v_t_solved, .ref a_t_bytes, .int v_t_bytesLong, .int v_t_tokenAt, .int v_t_tokenLong, .int v_t_token, .int v_t_value, .ref a_t_anew, .ref a_t_values])), (a_t_now, .inl (cI, 146, .inl r_t_now))] rfl rfl rfl rfl (by decide) rfl rfl (C_X5_marks l D cI cJ cZ adK adV a_t a_t_now a_t_kept a_t_isKept a_t_refused a_t_kinds a_t_have a_t_bytes a_t_anew a_t_values _ v_t_above v_t_below v_t_manyFit v_t_solved v_t_bytesLong v_t_tokenAt v_t_tokenLong v_t_token v_t_value r_t_now  (f_X5_marks r_t_now) rfl) qw827 qw824 qw826 qs38 qw6 hd_X5_marks rfl rfl rfl rfl ⟨Nat.le_of_ble_eq_true rfl, Nat.le_of_ble_eq_true rfl⟩ rfl hl.1 [] rfl (Nat.le_of_ble_eq_true rfl) ⟨Nat.zero_le _, Nat.zero_le _⟩ dX5_counted_52 (fun H locs hP hD hS => ?_)
        cases h
        exact retI (pc := 55) hx hb hr hlocks hP hD hS dX5_counted_55
      · replace h := it_f c3 h
        by_cases c4 : x1 = (3 : Int32)
        · replace h := it_t c4 h
          refine lv_tableIn (pc := 1) (off := 55) (tgt := 56) hx hb dX5_counted_1 (by rw [c4]; decide) (by rw [c4]; decide) (by rw [c4]; rfl) (by decide) ?_
          refine lv_aload_n (pc := 56) hx hb dX5_counted_56 rfl (lv_at hl 0 rfl) ?_
          replace h := bd1_s h
          obtain ⟨z6, e7, h⟩ := h
          refine callVI (pc := 57) (As := []) (wc := [(a_t, .inr (5, [.ref a_t_now, .ref a_t_kept, .ref a_t_isKept, .ref a_t_refused, .long v_t_above, .long v_t_below, .ref a_t_kinds, .int v_t_manyFit, .ref a_t_have, .int v_t_solved, .ref a_t_bytes, .int v_t_bytesLong, .int v_t_tokenAt, .int v_t_tokenLong, .int v_t_token, .int v_t_value, .ref a_t_anew, .ref a_t_values])), (a_t_now, .inl (cI, 146, .inl r_t_now))]) (wr := []) (w1 := [(a_t, .inr (5, [.ref a_t_now, .ref a_t_kept, .ref a_t_isKept, .ref a_t_refused, .long v_t_above, .long v_t_below, .ref a_t_kinds, .int v_t_manyFit, .ref a_t_have, .int v_t_solved, .ref a_t_bytes, .int v_t_bytesLong, .int v_t_tokenAt, .int v_t_tokenLong, .int v_t_token, .int v_t_value, .ref a_t_anew, .ref a_t_values])), (a_t_now, .inl (cI, 146, .inl r_t_now))]) hx hb hml hts hown hK hA hP hD hS [0, 1] [] [0, 1] [(a_t, .inr (5, [.ref a_t_now, .ref a_t_kept, .ref a_t_isKept, .ref a_t_refused, .long v_t_above, .long v_t_below, .ref a_t_kinds, .int v_t_manyFit, .ref a_t_have, .int v_t_solved, .ref a_t_bytes, .int v_t_bytesLong, .int v_t_tokenAt, .int v_t_tokenLong, .int v_t_token, .int v_t_value, .ref a_t_anew, .ref a_t_values])), (a_t_now, .inl (cI, 146, .inl r_t_now))] rfl rfl rfl rfl (by decide) rfl rfl (C_X5_manyKnown l D cI cJ cZ adK adV a_t a_t_now a_t_kept a_t_isKept a_t_refused a_t_kinds a_t_have a_t_bytes a_t_anew a_t_values _ v_t_above v_t_below v_t_manyFit v_t_solved v_t_bytesLong v_t_tokenAt v_t_tokenLong v_t_token v_t_value r_t_now  z6 e7) qw1072 qw1069 qw1071 qs66 qw6 hd_X5_manyKnown rfl rfl rfl rfl ⟨Nat.le_of_ble_eq_true rfl, Nat.le_of_ble_eq_true rfl⟩ rfl hl.1 [] rfl (Nat.le_of_ble_eq_true rfl) ⟨Nat.zero_le _, Nat.zero_le _⟩ dX5_counted_57 (fun H locs hP hD hS => ?_)
          cases h
          exact retI (pc := 60) hx hb hr hlocks hP hD hS dX5_counted_60
        · replace h := it_f c4 h
          by_cases c5 : x1 = (4 : Int32)
          · replace h := it_t c5 h
            refine lv_tableIn (pc := 1) (off := 60) (tgt := 61) hx hb dX5_counted_1 (by rw [c5]; decide) (by rw [c5]; decide) (by rw [c5]; rfl) (by decide) ?_
            refine lv_aload_n (pc := 61) hx hb dX5_counted_61 rfl (lv_at hl 0 rfl) ?_
            refine g5_0 (pc := 62) hx hb hts hown hK hP 0 rfl qw713 dX5_counted_62 ?_
            refine lv_iconst (pc := 65) (v := 2) hx hb dX5_counted_65 (by decide) ?_
            refine rIald (pc := 66) hx hb hK hP 1 rfl (by decide) dX5_counted_66 ?_
            cases h
            exact retI (pc := 67) hx hb hr hlocks hP hD hS dX5_counted_67
          · replace h := it_f c5 h
            refine lv_tableOut (pc := 1) (tgt := 68) hx hb dX5_counted_1 (by have e0 := lv_neT (a := 0) c1 (by decide); have e1 := lv_neT (a := 1) c2 (by decide); have e2 := lv_neT (a := 2) c3 (by decide); have e3 := lv_neT (a := 3) c4 (by decide); have e4 := lv_neT (a := 4) c5 (by decide); omega) (by decide) ?_
            refine lv_aload_n (pc := 68) hx hb dX5_counted_68 rfl (lv_at hl 0 rfl) ?_
            refine g5_11 (pc := 69) hx hb hts hown hK hP 0 rfl qw724 dX5_counted_69 ?_
            cases h
            exact retI (pc := 72) hx hb hr hlocks hP hD hS dX5_counted_72
theorem hd_X5_count : yX5_count.cls ≠ "java/lang/invoke/MethodHandle" ∧ yX5_count.cls ≠ "java/lang/invoke/VarHandle" ∧ (parseMethodDescriptor yX5_count.desc).map (fun d => d.parameters.length) = some 1 := by decide +kernel
set_option maxHeartbeats 4000000 in
set_option maxRecDepth 100000 in
theorem C_X5_count (l : Launch) (D : va_G) (cI cJ cZ : ClassId) (adK adV : Nat → Nat) (a_t a_t_now a_t_kept a_t_isKept a_t_refused a_t_kinds a_t_have a_t_bytes a_t_anew a_t_values : Nat) (sz : Nat) (v_t_above : Int64) (v_t_below : Int64) (v_t_manyFit : Int32) (v_t_solved : Int32) (v_t_bytesLong : Int32) (v_t_tokenAt : Int32) (v_t_tokenLong : Int32) (v_t_token : Int32) (v_t_value : Int32) (r_t_now : Nat → Int32) (r_t_refused : Nat → Int32) (x1 : Int32) (r : Int32) (o_r_t_refused : Nat → Int32) (h : f_X5_count x1 v_t_bytesLong r_t_now r_t_refused = some (r, o_r_t_refused)) : Met l yX5_count (Cond.code yX5_count cX5_count 2 (some .int) :: GW) ({ frames := 2, cells := 0, slots := 0, locals := 43 }) (Pre D cI cJ cZ adK adV [.ref a_t, .int x1] sz [(a_t, .inr (5, [.ref a_t_now, .ref a_t_kept, .ref a_t_isKept, .ref a_t_refused, .long v_t_above, .long v_t_below, .ref a_t_kinds, .int v_t_manyFit, .ref a_t_have, .int v_t_solved, .ref a_t_bytes, .int v_t_bytesLong, .int v_t_tokenAt, .int v_t_tokenLong, .int v_t_token, .int v_t_value, .ref a_t_anew, .ref a_t_values])), (a_t_now, .inl (cI, 146, .inl r_t_now)), (a_t_refused, .inl (cI, 3, .inl r_t_refused))]) (PI D (va_A [(a_t, .inr (5, [.ref a_t_now, .ref a_t_kept, .ref a_t_isKept, .ref a_t_refused, .long v_t_above, .long v_t_below, .ref a_t_kinds, .int v_t_manyFit, .ref a_t_have, .int v_t_solved, .ref a_t_bytes, .int v_t_bytesLong, .int v_t_tokenAt, .int v_t_tokenLong, .int v_t_token, .int v_t_value, .ref a_t_anew, .ref a_t_values])), (a_t_now, .inl (cI, 146, .inl r_t_now)), (a_t_refused, .inl (cI, 3, .inl r_t_refused))] sz) r [(a_t, .inr (5, [.ref a_t_now, .ref a_t_kept, .ref a_t_isKept, .ref a_t_refused, .long v_t_above, .long v_t_below, .ref a_t_kinds, .int v_t_manyFit, .ref a_t_have, .int v_t_solved, .ref a_t_bytes, .int v_t_bytesLong, .int v_t_tokenAt, .int v_t_tokenLong, .int v_t_token, .int v_t_value, .ref a_t_anew, .ref a_t_values])), (a_t_now, .inl (cI, 146, .inl r_t_now)), (a_t_refused, .inl (cI, 3, .inl o_r_t_refused))]) 0 0 (va_A [(a_t, .inr (5, [.ref a_t_now, .ref a_t_kept, .ref a_t_isKept, .ref a_t_refused, .long v_t_above, .long v_t_below, .ref a_t_kinds, .int v_t_manyFit, .ref a_t_have, .int v_t_solved, .ref a_t_bytes, .int v_t_bytesLong, .int v_t_tokenAt, .int v_t_tokenLong, .int v_t_token, .int v_t_value, .ref a_t_anew, .ref a_t_values])), (a_t_now, .inl (cI, 146, .inl r_t_now)), (a_t_refused, .inl (cI, 3, .inl r_t_refused))] sz) := by
  refine enter (QF := (fun A => PI D A r [(a_t, .inr (5, [.ref a_t_now, .ref a_t_kept, .ref a_t_isKept, .ref a_t_refused, .long v_t_above, .long v_t_below, .ref a_t_kinds, .int v_t_manyFit, .ref a_t_have, .int v_t_solved, .ref a_t_bytes, .int v_t_bytesLong, .int v_t_tokenAt, .int v_t_tokenLong, .int v_t_token, .int v_t_value, .ref a_t_anew, .ref a_t_values])), (a_t_now, .inl (cI, 146, .inl r_t_now)), (a_t_refused, .inl (cI, 3, .inl o_r_t_refused))])) (by decide) (Nat.le_of_ble_eq_true rfl) ?_
  intro p e s m below meth c ls A hx hb hr hml hown hts hlocks hin hA hK hP hD hS hl
  have hl : lv_has ls 2 [(0, .ref a_t), (1, .int x1)] := hl
  refine lv_iload_n (pc := 0) hx hb dX5_count_0 rfl (lv_at hl 1 rfl) ?_
  refine lv_i2l (pc := 1) hx hb dX5_count_1 rfl ?_
  refine lv_lconst (pc := 2) (v := 0) hx hb dX5_count_2 (by decide) ?_
  refine lv_ldc2 (pc := 3) (v := 5) hx hb hown (hts _ (List.mem_cons_of_mem _ qw799)) dX5_count_3 ?_
  refine callSI (pc := 6) (As := [.long (Int32.toInt64 x1), .long (0 : Int64), .long (5 : Int64)]) (wc := []) (wr := [(a_t, .inr (5, [.ref a_t_now, .ref a_t_kept, .ref a_t_isKept, .ref a_t_refused, .long v_t_above, .long v_t_below, .ref a_t_kinds, .int v_t_manyFit, .ref a_t_have, .int v_t_solved, .ref a_t_bytes, .int v_t_bytesLong, .int v_t_tokenAt, .int v_t_tokenLong, .int v_t_token, .int v_t_value, .ref a_t_anew, .ref a_t_values])), (a_t_now, .inl (cI, 146, .inl r_t_now)), (a_t_refused, .inl (cI, 3, .inl r_t_refused))]) (w1 := []) hx hb hml hts hown hK hA hP hD hS [] [0, 1, 2] [0, 1, 2] [(a_t, .inr (5, [.ref a_t_now, .ref a_t_kept, .ref a_t_isKept, .ref a_t_refused, .long v_t_above, .long v_t_below, .ref a_t_kinds, .int v_t_manyFit, .ref a_t_have, .int v_t_solved, .ref a_t_bytes, .int v_t_bytesLong, .int v_t_tokenAt, .int v_t_tokenLong, .int v_t_token, .int v_t_value, .ref a_t_anew, .ref a_t_values])), (a_t_now, .inl (cI, 146, .inl r_t_now)), (a_t_refused, .inl (cI, 3, .inl r_t_refused))] rfl rfl rfl rfl (by decide) rfl rfl (C_X5_in l D cI cJ cZ adK adV  _  (Int32.toInt64 x1) (0 : Int64) (5 : Int64) (f_X5_in (Int32.toInt64 x1) (0 : Int64) (5 : Int64)) rfl) qw787 qw785 qw786 qw6 hd_X5_in rfl rfl ⟨Nat.le_of_ble_eq_true rfl, Nat.le_of_ble_eq_true rfl⟩ rfl hl.1 [] rfl (Nat.le_of_ble_eq_true rfl) ⟨Nat.zero_le _, Nat.zero_le _⟩ dX5_count_6 (fun H locs hP hD hS => ?_)
  refine lv_if_eq (pc := 9) (tgt := 20) hx hb dX5_count_9 (by decide) (fun c1 => ?_) (fun c1 => ?_)
  · replace h := it_t c1 h
    refine lv_aload_n (pc := 20) hx hb dX5_count_20 rfl (lv_at hl 0 rfl) ?_
    refine lv_bipush (pc := 21) (v := -2) hx hb dX5_count_21 (by decide) ?_
    replace h := bd2_s h
    obtain ⟨z2, u3, e4, h⟩ := h
    refine callVI (pc := 23) (As := [.int (-2 : Int32)]) (wc := [(a_t, .inr (5, [.ref a_t_now, .ref a_t_kept, .ref a_t_isKept, .ref a_t_refused, .long v_t_above, .long v_t_below, .ref a_t_kinds, .int v_t_manyFit, .ref a_t_have, .int v_t_solved, .ref a_t_bytes, .int v_t_bytesLong, .int v_t_tokenAt, .int v_t_tokenLong, .int v_t_token, .int v_t_value, .ref a_t_anew, .ref a_t_values])), (a_t_refused, .inl (cI, 3, .inl r_t_refused))]) (wr := [(a_t_now, .inl (cI, 146, .inl r_t_now))]) (w1 := [(a_t, .inr (5, [.ref a_t_now, .ref a_t_kept, .ref a_t_isKept, .ref a_t_refused, .long v_t_above, .long v_t_below, .ref a_t_kinds, .int v_t_manyFit, .ref a_t_have, .int v_t_solved, .ref a_t_bytes, .int v_t_bytesLong, .int v_t_tokenAt, .int v_t_tokenLong, .int v_t_token, .int v_t_value, .ref a_t_anew, .ref a_t_values])), (a_t_refused, .inl (cI, 3, .inl u3))]) hx hb hml hts hown hK hA hP hD hS [0, 2] [1] [1, 0, 2] [(a_t, .inr (5, [.ref a_t_now, .ref a_t_kept, .ref a_t_isKept, .ref a_t_refused, .long v_t_above, .long v_t_below, .ref a_t_kinds, .int v_t_manyFit, .ref a_t_have, .int v_t_solved, .ref a_t_bytes, .int v_t_bytesLong, .int v_t_tokenAt, .int v_t_tokenLong, .int v_t_token, .int v_t_value, .ref a_t_anew, .ref a_t_values])), (a_t_now, .inl (cI, 146, .inl r_t_now)), (a_t_refused, .inl (cI, 3, .inl u3))] rfl rfl rfl rfl (by decide) rfl rfl (C_X5_bad l D cI cJ cZ adK adV a_t a_t_now a_t_kept a_t_isKept a_t_refused a_t_kinds a_t_have a_t_bytes a_t_anew a_t_values _ v_t_above v_t_below v_t_manyFit v_t_solved v_t_bytesLong v_t_tokenAt v_t_tokenLong v_t_token v_t_value r_t_refused (-2 : Int32) z2 u3 e4) qw791 qw788 qw790 qs35 qw6 hd_X5_bad rfl rfl rfl rfl ⟨Nat.le_of_ble_eq_true rfl, Nat.le_of_ble_eq_true rfl⟩ rfl hl.1 [] rfl (Nat.le_of_ble_eq_true rfl) ⟨Nat.zero_le _, Nat.zero_le _⟩ dX5_count_23 (fun H locs hP hD hS => ?_)
    cases h
    exact retI (pc := 26) hx hb hr hlocks hP hD hS dX5_count_26
  · replace h := it_f c1 h
    refine lv_aload_n (pc := 12) hx hb dX5_count_12 rfl (lv_at hl 0 rfl) ?_
    refine lv_iload_n (pc := 13) hx hb dX5_count_13 rfl (lv_at hl 1 rfl) ?_
    replace h := bd1_s h
    obtain ⟨z5, e6, h⟩ := h
    refine callVI (pc := 14) (As := [.int x1]) (wc := [(a_t, .inr (5, [.ref a_t_now, .ref a_t_kept, .ref a_t_isKept, .ref a_t_refused, .long v_t_above, .long v_t_below, .ref a_t_kinds, .int v_t_manyFit, .ref a_t_have, .int v_t_solved, .ref a_t_bytes, .int v_t_bytesLong, .int v_t_tokenAt, .int v_t_tokenLong, .int v_t_token, .int v_t_value, .ref a_t_anew, .ref a_t_values])), (a_t_now, .inl (cI, 146, .inl r_t_now))]) (wr := [(a_t_refused, .inl (cI, 3, .inl r_t_refused))]) (w1 := [(a_t, .inr (5, [.ref a_t_now, .ref a_t_kept, .ref a_t_isKept, .ref a_t_refused, .long v_t_above, .long v_t_below, .ref a_t_kinds, .int v_t_manyFit, .ref a_t_have, .int v_t_solved, .ref a_t_bytes, .int v_t_bytesLong, .int v_t_tokenAt, .int v_t_tokenLong, .int v_t_token, .int v_t_value, .ref a_t_anew, .ref a_t_values])), (a_t_now, .inl (cI, 146, .inl r_t_now))]) hx hb hml hts hown hK hA hP hD hS [0, 1] [2] [1, 2, 0] [(a_t, .inr (5, [.ref a_t_now, .ref a_t_kept, .ref a_t_isKept, .ref a_t_refused, .long v_t_above, .long v_t_below, .ref a_t_kinds, .int v_t_manyFit, .ref a_t_have, .int v_t_solved, .ref a_t_bytes, .int v_t_bytesLong, .int v_t_tokenAt, .int v_t_tokenLong, .int v_t_token, .int v_t_value, .ref a_t_anew, .ref a_t_values])), (a_t_now, .inl (cI, 146, .inl r_t_now)), (a_t_refused, .inl (cI, 3, .inl r_t_refused))] rfl rfl rfl rfl (by decide) rfl rfl (C_X5_counted l D cI cJ cZ adK adV a_t a_t_now a_t_kept a_t_isKept a_t_refused a_t_kinds a_t_have a_t_bytes a_t_anew a_t_values _ v_t_above v_t_below v_t_manyFit v_t_solved v_t_bytesLong v_t_tokenAt v_t_tokenLong v_t_token v_t_value r_t_now x1 z5 e6) qw1068 qw1065 qw1067 qs65 qw6 hd_X5_counted rfl rfl rfl rfl ⟨Nat.le_of_ble_eq_true rfl, Nat.le_of_ble_eq_true rfl⟩ rfl hl.1 [] rfl (Nat.le_of_ble_eq_true rfl) ⟨Nat.zero_le _, Nat.zero_le _⟩ dX5_count_14 (fun H locs hP hD hS => ?_)
    refine lv_goto (pc := 17) (tgt := 26) hx hb dX5_count_17 (by decide) ?_
    cases h
    exact retI (pc := 26) hx hb hr hlocks hP hD hS dX5_count_26
theorem hd_X5_sums : yX5_sums.cls ≠ "java/lang/invoke/MethodHandle" ∧ yX5_sums.cls ≠ "java/lang/invoke/VarHandle" ∧ (parseMethodDescriptor yX5_sums.desc).map (fun d => d.parameters.length) = some 3 := by decide +kernel
set_option maxHeartbeats 4000000 in
set_option maxRecDepth 100000 in
theorem C_X5_sums (l : Launch) (D : va_G) (cI cJ cZ : ClassId) (adK adV : Nat → Nat) (a_t a_t_now a_t_kept a_t_isKept a_t_refused a_t_kinds a_t_have a_t_bytes a_t_anew a_t_values : Nat) (sz : Nat) (v_t_above : Int64) (v_t_below : Int64) (v_t_manyFit : Int32) (v_t_solved : Int32) (v_t_bytesLong : Int32) (v_t_tokenAt : Int32) (v_t_tokenLong : Int32) (v_t_token : Int32) (v_t_value : Int32) (r_t_now : Nat → Int32) (x1 : Int64) (x3 : Int32) (x4 : Int32) (r : Int64) (h : f_X5_sums x1 x3 x4 r_t_now = some r) : Met l yX5_sums (Cond.code yX5_sums cX5_sums 8 (some .long) :: GW) ({ frames := 0, cells := 0, slots := 0, locals := 0 }) (Pre D cI cJ cZ adK adV [.ref a_t, .long x1, .int x3, .int x4] sz [(a_t, .inr (5, [.ref a_t_now, .ref a_t_kept, .ref a_t_isKept, .ref a_t_refused, .long v_t_above, .long v_t_below, .ref a_t_kinds, .int v_t_manyFit, .ref a_t_have, .int v_t_solved, .ref a_t_bytes, .int v_t_bytesLong, .int v_t_tokenAt, .int v_t_tokenLong, .int v_t_token, .int v_t_value, .ref a_t_anew, .ref a_t_values])), (a_t_now, .inl (cI, 146, .inl r_t_now))]) (PL D (va_A [(a_t, .inr (5, [.ref a_t_now, .ref a_t_kept, .ref a_t_isKept, .ref a_t_refused, .long v_t_above, .long v_t_below, .ref a_t_kinds, .int v_t_manyFit, .ref a_t_have, .int v_t_solved, .ref a_t_bytes, .int v_t_bytesLong, .int v_t_tokenAt, .int v_t_tokenLong, .int v_t_token, .int v_t_value, .ref a_t_anew, .ref a_t_values])), (a_t_now, .inl (cI, 146, .inl r_t_now))] sz) r [(a_t, .inr (5, [.ref a_t_now, .ref a_t_kept, .ref a_t_isKept, .ref a_t_refused, .long v_t_above, .long v_t_below, .ref a_t_kinds, .int v_t_manyFit, .ref a_t_have, .int v_t_solved, .ref a_t_bytes, .int v_t_bytesLong, .int v_t_tokenAt, .int v_t_tokenLong, .int v_t_token, .int v_t_value, .ref a_t_anew, .ref a_t_values])), (a_t_now, .inl (cI, 146, .inl r_t_now))]) 0 0 (va_A [(a_t, .inr (5, [.ref a_t_now, .ref a_t_kept, .ref a_t_isKept, .ref a_t_refused, .long v_t_above, .long v_t_below, .ref a_t_kinds, .int v_t_manyFit, .ref a_t_have, .int v_t_solved, .ref a_t_bytes, .int v_t_bytesLong, .int v_t_tokenAt, .int v_t_tokenLong, .int v_t_token, .int v_t_value, .ref a_t_anew, .ref a_t_values])), (a_t_now, .inl (cI, 146, .inl r_t_now))] sz) := by
  refine enter (QF := (fun A => PL D A r [(a_t, .inr (5, [.ref a_t_now, .ref a_t_kept, .ref a_t_isKept, .ref a_t_refused, .long v_t_above, .long v_t_below, .ref a_t_kinds, .int v_t_manyFit, .ref a_t_have, .int v_t_solved, .ref a_t_bytes, .int v_t_bytesLong, .int v_t_tokenAt, .int v_t_tokenLong, .int v_t_token, .int v_t_value, .ref a_t_anew, .ref a_t_values])), (a_t_now, .inl (cI, 146, .inl r_t_now))])) (by decide) (Nat.le_of_ble_eq_true rfl) ?_
  intro p e s m below meth c ls A hx hb hr hml hown hts hlocks hin hA hK hP hD hS hl
  have hl : lv_has ls 8 [(0, .ref a_t), (1, .long x1), (3, .int x3), (4, .int x4)] := hl
  have hL6 : ∀ (n : Nat), ∀ (y5 : Int64), ∀ (y7 : Int32), ∀ (H : Heap) (locs : List Loc) (ls : Array Slot), lq2 (f_X5_sums_B6 x3 x4 r_t_now) n y5 y7 = some r → va_P D CL [(a_t, .inr (5, [.ref a_t_now, .ref a_t_kept, .ref a_t_isKept, .ref a_t_refused, .long v_t_above, .long v_t_below, .ref a_t_kinds, .int v_t_manyFit, .ref a_t_have, .int v_t_solved, .ref a_t_bytes, .int v_t_bytesLong, .int v_t_tokenAt, .int v_t_tokenLong, .int v_t_token, .int v_t_value, .ref a_t_anew, .ref a_t_values])), (a_t_now, .inl (cI, 146, .inl r_t_now))] H → va_D A [(a_t, .inr (5, [.ref a_t_now, .ref a_t_kept, .ref a_t_isKept, .ref a_t_refused, .long v_t_above, .long v_t_below, .ref a_t_kinds, .int v_t_manyFit, .ref a_t_have, .int v_t_solved, .ref a_t_bytes, .int v_t_bytesLong, .int v_t_tokenAt, .int v_t_tokenLong, .int v_t_token, .int v_t_value, .ref a_t_anew, .ref a_t_values])), (a_t_now, .inl (cI, 146, .inl r_t_now))] → va_S A s.heap H locs → lv_has ls 8 [(0, .ref a_t), (3, .int x3), (4, .int x4), (5, .long y5), (7, .int y7)] → W p l e ({ frames := 0, cells := 0, slots := 0, locals := 0 }) s m [.ref a_t, .long x1, .int x3, .int x4].toArray below meth c H locs 0 0 (MQ below (PL D A r [(a_t, .inr (5, [.ref a_t_now, .ref a_t_kept, .ref a_t_isKept, .ref a_t_refused, .long v_t_above, .long v_t_below, .ref a_t_kinds, .int v_t_manyFit, .ref a_t_have, .int v_t_solved, .ref a_t_bytes, .int v_t_bytesLong, .int v_t_tokenAt, .int v_t_tokenLong, .int v_t_token, .int v_t_value, .ref a_t_anew, .ref a_t_values])), (a_t_now, .inl (cI, 146, .inl r_t_now))]) [.ref a_t, .long x1, .int x3, .int x4].toArray s 0 0 A) (F0 m 6 ls []) := by
    intro n
    induction n with
    | zero => intro y5 y7 H locs ls h; exact lq2_0 h
    | succ n hk6 =>
      intro y5 y7 H locs ls h hP hD hS hl
      have h : f_X5_sums_B6 x3 x4 r_t_now (lq2 (f_X5_sums_B6 x3 x4 r_t_now) n) y5 y7 = some r := h
      refine lv_iload (pc := 6) hx hb dX5_sums_6 (lv_at hl 4 rfl) ?_
      refine lv_iload (pc := 8) hx hb dX5_sums_8 (lv_at hl 2 rfl) ?_
      refine lv_icmp_ge (pc := 10) (tgt := 38) hx hb dX5_sums_10 (by decide) (fun c1 => ?_) (fun c1 => ?_)
      · replace h := it_t c1 h
        refine lv_lload (pc := 38) hx hb dX5_sums_38 (lv_at hl 3 rfl) ?_
        cases h
        exact retL (pc := 40) hx hb hr hlocks hP hD hS dX5_sums_40
      · replace h := it_f c1 h
        refine lv_ldc2 (pc := 13) (v := 31) hx hb hown (hts _ (List.mem_cons_of_mem _ qw1078)) dX5_sums_13 ?_
        refine lv_lload (pc := 16) hx hb dX5_sums_16 (lv_at hl 3 rfl) ?_
        refine lv_lmul (pc := 18) hx hb dX5_sums_18 ?_
        refine lv_aload_n (pc := 19) hx hb dX5_sums_19 rfl (lv_at hl 0 rfl) ?_
        refine g5_0 (pc := 20) hx hb hts hown hK hP 0 rfl qw713 dX5_sums_20 ?_
        refine lv_iload_n (pc := 23) hx hb dX5_sums_23 rfl (lv_at hl 1 rfl) ?_
        refine lv_iload (pc := 24) hx hb dX5_sums_24 (lv_at hl 4 rfl) ?_
        refine lv_iadd (pc := 26) hx hb dX5_sums_26 ?_
        replace h := ckI_s h
        have hi2 := h.1
        replace h := h.2
        refine rIald (pc := 27) hx hb hK hP 1 rfl hi2 dX5_sums_27 ?_
        refine lv_i2l (pc := 28) hx hb dX5_sums_28 rfl ?_
        refine lv_ladd (pc := 29) hx hb dX5_sums_29 ?_
        refine lv_lstore (pc := 30) (lv' := [(5, .long (((31 : Int64) * y5) + (Int32.toInt64 (r_t_now (Int32.toNatClampNeg (x3 + y7)))))), (0, .ref a_t), (3, .int x3), (4, .int x4), (7, .int y7)]) hx hb dX5_sums_30 hl (by decide) rfl (fun ls hl => ?_)
        refine lv_iinc (pc := 32) (v := (y7 + (1 : Int32))) (lv' := [(7, .int (y7 + (1 : Int32))), (5, .long (((31 : Int64) * y5) + (Int32.toInt64 (r_t_now (Int32.toNatClampNeg (x3 + y7)))))), (0, .ref a_t), (3, .int x3), (4, .int x4)]) hx hb dX5_sums_32 hl (k := 4) rfl rfl (by decide) rfl (fun ls hl => ?_)
        refine lv_goto (pc := 35) (tgt := 6) hx hb dX5_sums_35 (by decide) ?_
        exact hk6 (((31 : Int64) * y5) + (Int32.toInt64 (r_t_now (Int32.toNatClampNeg (x3 + y7))))) (y7 + (1 : Int32)) _ _ _ h hP hD hS (lv_sub hl [2, 3, 4, 1, 0] rfl)
  refine lv_lload_n (pc := 0) hx hb dX5_sums_0 rfl (lv_at hl 1 rfl) ?_
  refine lv_lstore (pc := 1) (lv' := [(5, .long x1), (0, .ref a_t), (1, .long x1), (3, .int x3), (4, .int x4)]) hx hb dX5_sums_1 hl (by decide) rfl (fun ls hl => ?_)
  refine lv_iconst (pc := 3) (v := 0) hx hb dX5_sums_3 (by decide) ?_
  refine lv_istore (pc := 4) (lv' := [(7, .int (0 : Int32)), (5, .long x1), (0, .ref a_t), (1, .long x1), (3, .int x3), (4, .int x4)]) hx hb dX5_sums_4 hl (by decide) rfl (fun ls hl => ?_)
  exact hL6  FU x1 (0 : Int32) _ _ _ h hP hD hS (lv_sub hl [2, 4, 5, 1, 0] rfl)
theorem hd_X5_digest : yX5_digest.cls ≠ "java/lang/invoke/MethodHandle" ∧ yX5_digest.cls ≠ "java/lang/invoke/VarHandle" ∧ (parseMethodDescriptor yX5_digest.desc).map (fun d => d.parameters.length) = some 0 := by decide +kernel
set_option maxHeartbeats 4000000 in
set_option maxRecDepth 100000 in
theorem C_X5_digest (l : Launch) (D : va_G) (cI cJ cZ : ClassId) (adK adV : Nat → Nat) (a_t a_t_now a_t_kept a_t_isKept a_t_refused a_t_kinds a_t_have a_t_bytes a_t_anew a_t_values : Nat) (sz : Nat) (v_t_above : Int64) (v_t_below : Int64) (v_t_manyFit : Int32) (v_t_solved : Int32) (v_t_bytesLong : Int32) (v_t_tokenAt : Int32) (v_t_tokenLong : Int32) (v_t_token : Int32) (v_t_value : Int32) (r_t_now : Nat → Int32) (r : Int64) (h : f_X5_digest v_t_above v_t_below v_t_bytesLong r_t_now = some r) : Met l yX5_digest (Cond.code yX5_digest cX5_digest 4 (some .long) :: GW) ({ frames := 2, cells := 0, slots := 0, locals := 43 }) (Pre D cI cJ cZ adK adV [.ref a_t] sz [(a_t, .inr (5, [.ref a_t_now, .ref a_t_kept, .ref a_t_isKept, .ref a_t_refused, .long v_t_above, .long v_t_below, .ref a_t_kinds, .int v_t_manyFit, .ref a_t_have, .int v_t_solved, .ref a_t_bytes, .int v_t_bytesLong, .int v_t_tokenAt, .int v_t_tokenLong, .int v_t_token, .int v_t_value, .ref a_t_anew, .ref a_t_values])), (a_t_now, .inl (cI, 146, .inl r_t_now))]) (PL D (va_A [(a_t, .inr (5, [.ref a_t_now, .ref a_t_kept, .ref a_t_isKept, .ref a_t_refused, .long v_t_above, .long v_t_below, .ref a_t_kinds, .int v_t_manyFit, .ref a_t_have, .int v_t_solved, .ref a_t_bytes, .int v_t_bytesLong, .int v_t_tokenAt, .int v_t_tokenLong, .int v_t_token, .int v_t_value, .ref a_t_anew, .ref a_t_values])), (a_t_now, .inl (cI, 146, .inl r_t_now))] sz) r [(a_t, .inr (5, [.ref a_t_now, .ref a_t_kept, .ref a_t_isKept, .ref a_t_refused, .long v_t_above, .long v_t_below, .ref a_t_kinds, .int v_t_manyFit, .ref a_t_have, .int v_t_solved, .ref a_t_bytes, .int v_t_bytesLong, .int v_t_tokenAt, .int v_t_tokenLong, .int v_t_token, .int v_t_value, .ref a_t_anew, .ref a_t_values])), (a_t_now, .inl (cI, 146, .inl r_t_now))]) 0 0 (va_A [(a_t, .inr (5, [.ref a_t_now, .ref a_t_kept, .ref a_t_isKept, .ref a_t_refused, .long v_t_above, .long v_t_below, .ref a_t_kinds, .int v_t_manyFit, .ref a_t_have, .int v_t_solved, .ref a_t_bytes, .int v_t_bytesLong, .int v_t_tokenAt, .int v_t_tokenLong, .int v_t_token, .int v_t_value, .ref a_t_anew, .ref a_t_values])), (a_t_now, .inl (cI, 146, .inl r_t_now))] sz) := by
  refine enter (QF := (fun A => PL D A r [(a_t, .inr (5, [.ref a_t_now, .ref a_t_kept, .ref a_t_isKept, .ref a_t_refused, .long v_t_above, .long v_t_below, .ref a_t_kinds, .int v_t_manyFit, .ref a_t_have, .int v_t_solved, .ref a_t_bytes, .int v_t_bytesLong, .int v_t_tokenAt, .int v_t_tokenLong, .int v_t_token, .int v_t_value, .ref a_t_anew, .ref a_t_values])), (a_t_now, .inl (cI, 146, .inl r_t_now))])) (by decide) (Nat.le_of_ble_eq_true rfl) ?_
  intro p e s m below meth c ls A hx hb hr hml hown hts hlocks hin hA hK hP hD hS hl
  have hl : lv_has ls 4 [(0, .ref a_t)] := hl
  have hL74 : ∀ (n : Nat), ∀ (y1 : Int64), ∀ (y3 : Int32), ∀ (H : Heap) (locs : List Loc) (ls : Array Slot), lq2 (f_X5_digest_B74 v_t_above v_t_below r_t_now) n y1 y3 = some r → va_P D CL [(a_t, .inr (5, [.ref a_t_now, .ref a_t_kept, .ref a_t_isKept, .ref a_t_refused, .long v_t_above, .long v_t_below, .ref a_t_kinds, .int v_t_manyFit, .ref a_t_have, .int v_t_solved, .ref a_t_bytes, .int v_t_bytesLong, .int v_t_tokenAt, .int v_t_tokenLong, .int v_t_token, .int v_t_value, .ref a_t_anew, .ref a_t_values])), (a_t_now, .inl (cI, 146, .inl r_t_now))] H → va_D A [(a_t, .inr (5, [.ref a_t_now, .ref a_t_kept, .ref a_t_isKept, .ref a_t_refused, .long v_t_above, .long v_t_below, .ref a_t_kinds, .int v_t_manyFit, .ref a_t_have, .int v_t_solved, .ref a_t_bytes, .int v_t_bytesLong, .int v_t_tokenAt, .int v_t_tokenLong, .int v_t_token, .int v_t_value, .ref a_t_anew, .ref a_t_values])), (a_t_now, .inl (cI, 146, .inl r_t_now))] → va_S A s.heap H locs → lv_has ls 4 [(0, .ref a_t), (1, .long y1), (3, .int y3)] → W p l e ({ frames := 2, cells := 0, slots := 0, locals := 43 }) s m [.ref a_t].toArray below meth c H locs 0 0 (MQ below (PL D A r [(a_t, .inr (5, [.ref a_t_now, .ref a_t_kept, .ref a_t_isKept, .ref a_t_refused, .long v_t_above, .long v_t_below, .ref a_t_kinds, .int v_t_manyFit, .ref a_t_have, .int v_t_solved, .ref a_t_bytes, .int v_t_bytesLong, .int v_t_tokenAt, .int v_t_tokenLong, .int v_t_token, .int v_t_value, .ref a_t_anew, .ref a_t_values])), (a_t_now, .inl (cI, 146, .inl r_t_now))]) [.ref a_t].toArray s 0 0 A) (F0 m 74 ls []) := by
    intro n
    induction n with
    | zero => intro y1 y3 H locs ls h; exact lq2_0 h
    | succ n hk74 =>
      intro y1 y3 H locs ls h hP hD hS hl
      have h : f_X5_digest_B74 v_t_above v_t_below r_t_now (lq2 (f_X5_digest_B74 v_t_above v_t_below r_t_now) n) y1 y3 = some r := h
      refine lv_iload_n (pc := 74) hx hb dX5_digest_74 rfl (lv_at hl 2 rfl) ?_
      refine lv_aload_n (pc := 75) hx hb dX5_digest_75 rfl (lv_at hl 0 rfl) ?_
      refine callVI (pc := 76) (As := []) (wc := [(a_t, .inr (5, [.ref a_t_now, .ref a_t_kept, .ref a_t_isKept, .ref a_t_refused, .long v_t_above, .long v_t_below, .ref a_t_kinds, .int v_t_manyFit, .ref a_t_have, .int v_t_solved, .ref a_t_bytes, .int v_t_bytesLong, .int v_t_tokenAt, .int v_t_tokenLong, .int v_t_token, .int v_t_value, .ref a_t_anew, .ref a_t_values])), (a_t_now, .inl (cI, 146, .inl r_t_now))]) (wr := []) (w1 := [(a_t, .inr (5, [.ref a_t_now, .ref a_t_kept, .ref a_t_isKept, .ref a_t_refused, .long v_t_above, .long v_t_below, .ref a_t_kinds, .int v_t_manyFit, .ref a_t_have, .int v_t_solved, .ref a_t_bytes, .int v_t_bytesLong, .int v_t_tokenAt, .int v_t_tokenLong, .int v_t_token, .int v_t_value, .ref a_t_anew, .ref a_t_values])), (a_t_now, .inl (cI, 146, .inl r_t_now))]) hx hb hml hts hown hK hA hP hD hS [0, 1] [] [0, 1] [(a_t, .inr (5, [.ref a_t_now, .ref a_t_kept, .ref a_t_isKept, .ref a_t_refused, .long v_t_above, .long v_t_below, .ref a_t_kinds, .int v_t_manyFit, .ref a_t_have, .int v_t_solved, .ref a_t_bytes, .int v_t_bytesLong, .int v_t_tokenAt, .int v_t_tokenLong, .int v_t_token, .int v_t_value, .ref a_t_anew, .ref a_t_values])), (a_t_now, .inl (cI, 146, .inl r_t_now))] rfl rfl rfl rfl (by decide) rfl rfl (C_X5_many l D cI cJ cZ adK adV a_t a_t_now a_t_kept a_t_isKept a_t_refused a_t_kinds a_t_have a_t_bytes a_t_anew a_t_values _ v_t_above v_t_below v_t_manyFit v_t_solved v_t_bytesLong v_t_tokenAt v_t_tokenLong v_t_token v_t_value r_t_now  (f_X5_many r_t_now) rfl) qw776 qw773 qw775 qs34 qw6 hd_X5_many rfl rfl rfl rfl ⟨Nat.le_of_ble_eq_true rfl, Nat.le_of_ble_eq_true rfl⟩ rfl hl.1 [.int y3] rfl (Nat.le_of_ble_eq_true rfl) ⟨Nat.zero_le _, Nat.zero_le _⟩ dX5_digest_76 (fun H locs hP hD hS => ?_)
      refine lv_icmp_ge (pc := 79) (tgt := 120) hx hb dX5_digest_79 (by decide) (fun c5 => ?_) (fun c5 => ?_)
      · replace h := it_t c5 h
        refine lv_aload_n (pc := 120) hx hb dX5_digest_120 rfl (lv_at hl 0 rfl) ?_
        refine lv_lload_n (pc := 121) hx hb dX5_digest_121 rfl (lv_at hl 1 rfl) ?_
        refine lv_bipush (pc := 122) (v := 18) hx hb dX5_digest_122 (by decide) ?_
        refine lv_iconst (pc := 124) (v := 5) hx hb dX5_digest_124 (by decide) ?_
        refine lv_aload_n (pc := 125) hx hb dX5_digest_125 rfl (lv_at hl 0 rfl) ?_
        refine callVI (pc := 126) (As := []) (wc := [(a_t, .inr (5, [.ref a_t_now, .ref a_t_kept, .ref a_t_isKept, .ref a_t_refused, .long v_t_above, .long v_t_below, .ref a_t_kinds, .int v_t_manyFit, .ref a_t_have, .int v_t_solved, .ref a_t_bytes, .int v_t_bytesLong, .int v_t_tokenAt, .int v_t_tokenLong, .int v_t_token, .int v_t_value, .ref a_t_anew, .ref a_t_values])), (a_t_now, .inl (cI, 146, .inl r_t_now))]) (wr := []) (w1 := [(a_t, .inr (5, [.ref a_t_now, .ref a_t_kept, .ref a_t_isKept, .ref a_t_refused, .long v_t_above, .long v_t_below, .ref a_t_kinds, .int v_t_manyFit, .ref a_t_have, .int v_t_solved, .ref a_t_bytes, .int v_t_bytesLong, .int v_t_tokenAt, .int v_t_tokenLong, .int v_t_token, .int v_t_value, .ref a_t_anew, .ref a_t_values])), (a_t_now, .inl (cI, 146, .inl r_t_now))]) hx hb hml hts hown hK hA hP hD hS [0, 1] [] [0, 1] [(a_t, .inr (5, [.ref a_t_now, .ref a_t_kept, .ref a_t_isKept, .ref a_t_refused, .long v_t_above, .long v_t_below, .ref a_t_kinds, .int v_t_manyFit, .ref a_t_have, .int v_t_solved, .ref a_t_bytes, .int v_t_bytesLong, .int v_t_tokenAt, .int v_t_tokenLong, .int v_t_token, .int v_t_value, .ref a_t_anew, .ref a_t_values])), (a_t_now, .inl (cI, 146, .inl r_t_now))] rfl rfl rfl rfl (by decide) rfl rfl (C_X5_marks l D cI cJ cZ adK adV a_t a_t_now a_t_kept a_t_isKept a_t_refused a_t_kinds a_t_have a_t_bytes a_t_anew a_t_values _ v_t_above v_t_below v_t_manyFit v_t_solved v_t_bytesLong v_t_tokenAt v_t_tokenLong v_t_token v_t_value r_t_now  (f_X5_marks r_t_now) rfl) qw827 qw824 qw826 qs38 qw6 hd_X5_marks rfl rfl rfl rfl ⟨Nat.le_of_ble_eq_true rfl, Nat.le_of_ble_eq_true rfl⟩ rfl hl.1 [.int (5 : Int32), .int (18 : Int32), .long y1, .ref a_t] rfl (Nat.le_of_ble_eq_true rfl) ⟨Nat.zero_le _, Nat.zero_le _⟩ dX5_digest_126 (fun H locs hP hD hS => ?_)
        refine lv_imul (pc := 129) hx hb dX5_digest_129 ?_
        replace h := bd1_s h
        obtain ⟨z6, e7, h⟩ := h
        refine callVL (pc := 130) (As := [.long y1, .int (18 : Int32), .int ((5 : Int32) * (f_X5_marks r_t_now))]) (wc := [(a_t, .inr (5, [.ref a_t_now, .ref a_t_kept, .ref a_t_isKept, .ref a_t_refused, .long v_t_above, .long v_t_below, .ref a_t_kinds, .int v_t_manyFit, .ref a_t_have, .int v_t_solved, .ref a_t_bytes, .int v_t_bytesLong, .int v_t_tokenAt, .int v_t_tokenLong, .int v_t_token, .int v_t_value, .ref a_t_anew, .ref a_t_values])), (a_t_now, .inl (cI, 146, .inl r_t_now))]) (wr := []) (w1 := [(a_t, .inr (5, [.ref a_t_now, .ref a_t_kept, .ref a_t_isKept, .ref a_t_refused, .long v_t_above, .long v_t_below, .ref a_t_kinds, .int v_t_manyFit, .ref a_t_have, .int v_t_solved, .ref a_t_bytes, .int v_t_bytesLong, .int v_t_tokenAt, .int v_t_tokenLong, .int v_t_token, .int v_t_value, .ref a_t_anew, .ref a_t_values])), (a_t_now, .inl (cI, 146, .inl r_t_now))]) hx hb hml hts hown hK hA hP hD hS [0, 1] [] [0, 1] [(a_t, .inr (5, [.ref a_t_now, .ref a_t_kept, .ref a_t_isKept, .ref a_t_refused, .long v_t_above, .long v_t_below, .ref a_t_kinds, .int v_t_manyFit, .ref a_t_have, .int v_t_solved, .ref a_t_bytes, .int v_t_bytesLong, .int v_t_tokenAt, .int v_t_tokenLong, .int v_t_token, .int v_t_value, .ref a_t_anew, .ref a_t_values])), (a_t_now, .inl (cI, 146, .inl r_t_now))] rfl rfl rfl rfl (by decide) rfl rfl (C_X5_sums l D cI cJ cZ adK adV a_t a_t_now a_t_kept a_t_isKept a_t_refused a_t_kinds a_t_have a_t_bytes a_t_anew a_t_values _ v_t_above v_t_below v_t_manyFit v_t_solved v_t_bytesLong v_t_tokenAt v_t_tokenLong v_t_token v_t_value r_t_now y1 (18 : Int32) ((5 : Int32) * (f_X5_marks r_t_now)) z6 e7) qw1082 qw1079 qw1081 qs67 qw6 hd_X5_sums rfl rfl rfl rfl ⟨Nat.le_of_ble_eq_true rfl, Nat.le_of_ble_eq_true rfl⟩ rfl hl.1 [] rfl (Nat.le_of_ble_eq_true rfl) ⟨Nat.zero_le _, Nat.zero_le _⟩ dX5_digest_130 (fun H locs hP hD hS => ?_)
        refine lv_lstore_n (pc := 133) (lv' := [(1, .long z6), (0, .ref a_t), (3, .int y3)]) hx hb dX5_digest_133 rfl hl (by decide) rfl (fun ls hl => ?_)
        refine lv_ldc2 (pc := 134) (v := 31) hx hb hown (hts _ (List.mem_cons_of_mem _ qw1078)) dX5_digest_134 ?_
        refine lv_ldc2 (pc := 137) (v := 31) hx hb hown (hts _ (List.mem_cons_of_mem _ qw1078)) dX5_digest_137 ?_
        refine lv_lload_n (pc := 140) hx hb dX5_digest_140 rfl (lv_at hl 0 rfl) ?_
        refine lv_lmul (pc := 141) hx hb dX5_digest_141 ?_
        refine lv_aload_n (pc := 142) hx hb dX5_digest_142 rfl (lv_at hl 1 rfl) ?_
        refine g5_4 (pc := 143) hx hb hts hown hK hP 0 rfl qw717 dX5_digest_143 ?_
        refine lv_ladd (pc := 146) hx hb dX5_digest_146 ?_
        refine lv_lmul (pc := 147) hx hb dX5_digest_147 ?_
        refine lv_aload_n (pc := 148) hx hb dX5_digest_148 rfl (lv_at hl 1 rfl) ?_
        refine g5_5 (pc := 149) hx hb hts hown hK hP 0 rfl qw718 dX5_digest_149 ?_
        refine lv_ladd (pc := 152) hx hb dX5_digest_152 ?_
        cases h
        exact retL (pc := 153) hx hb hr hlocks hP hD hS dX5_digest_153
      · replace h := it_f c5 h
        refine lv_ldc2 (pc := 82) (v := 31) hx hb hown (hts _ (List.mem_cons_of_mem _ qw1078)) dX5_digest_82 ?_
        refine lv_ldc2 (pc := 85) (v := 31) hx hb hown (hts _ (List.mem_cons_of_mem _ qw1078)) dX5_digest_85 ?_
        refine lv_lload_n (pc := 88) hx hb dX5_digest_88 rfl (lv_at hl 1 rfl) ?_
        refine lv_lmul (pc := 89) hx hb dX5_digest_89 ?_
        refine lv_aload_n (pc := 90) hx hb dX5_digest_90 rfl (lv_at hl 0 rfl) ?_
        refine g5_0 (pc := 91) hx hb hts hown hK hP 0 rfl qw713 dX5_digest_91 ?_
        refine lv_bipush (pc := 94) (v := 14) hx hb dX5_digest_94 (by decide) ?_
        refine lv_iload_n (pc := 96) hx hb dX5_digest_96 rfl (lv_at hl 2 rfl) ?_
        refine lv_iadd (pc := 97) hx hb dX5_digest_97 ?_
        replace h := ckI_s h
        have hi8 := h.1
        replace h := h.2
        refine rIald (pc := 98) hx hb hK hP 1 rfl hi8 dX5_digest_98 ?_
        refine lv_i2l (pc := 99) hx hb dX5_digest_99 rfl ?_
        refine lv_ladd (pc := 100) hx hb dX5_digest_100 ?_
        refine lv_lmul (pc := 101) hx hb dX5_digest_101 ?_
        refine lv_aload_n (pc := 102) hx hb dX5_digest_102 rfl (lv_at hl 0 rfl) ?_
        refine g5_0 (pc := 103) hx hb hts hown hK hP 0 rfl qw713 dX5_digest_103 ?_
        refine lv_bipush (pc := 106) (v := 10) hx hb dX5_digest_106 (by decide) ?_
        refine lv_iload_n (pc := 108) hx hb dX5_digest_108 rfl (lv_at hl 2 rfl) ?_
        refine lv_iadd (pc := 109) hx hb dX5_digest_109 ?_
        replace h := ckI_s h
        have hi9 := h.1
        replace h := h.2
        refine rIald (pc := 110) hx hb hK hP 1 rfl hi9 dX5_digest_110 ?_
        refine lv_i2l (pc := 111) hx hb dX5_digest_111 rfl ?_
        refine lv_ladd (pc := 112) hx hb dX5_digest_112 ?_
        refine lv_lstore_n (pc := 113) (lv' := [(1, .long (((31 : Int64) * (((31 : Int64) * y1) + (Int32.toInt64 (r_t_now (Int32.toNatClampNeg ((14 : Int32) + y3)))))) + (Int32.toInt64 (r_t_now (Int32.toNatClampNeg ((10 : Int32) + y3)))))), (0, .ref a_t), (3, .int y3)]) hx hb dX5_digest_113 rfl hl (by decide) rfl (fun ls hl => ?_)
        refine lv_iinc (pc := 114) (v := (y3 + (1 : Int32))) (lv' := [(3, .int (y3 + (1 : Int32))), (1, .long (((31 : Int64) * (((31 : Int64) * y1) + (Int32.toInt64 (r_t_now (Int32.toNatClampNeg ((14 : Int32) + y3)))))) + (Int32.toInt64 (r_t_now (Int32.toNatClampNeg ((10 : Int32) + y3)))))), (0, .ref a_t)]) hx hb dX5_digest_114 hl (k := 2) rfl rfl (by decide) rfl (fun ls hl => ?_)
        refine lv_goto (pc := 117) (tgt := 74) hx hb dX5_digest_117 (by decide) ?_
        exact hk74 (((31 : Int64) * (((31 : Int64) * y1) + (Int32.toInt64 (r_t_now (Int32.toNatClampNeg ((14 : Int32) + y3)))))) + (Int32.toInt64 (r_t_now (Int32.toNatClampNeg ((10 : Int32) + y3))))) (y3 + (1 : Int32)) _ _ _ h hP hD hS (lv_sub hl [2, 1, 0] rfl)
  have hL33 : ∀ (n : Nat), ∀ (y1 : Int64), ∀ (y3 : Int32), ∀ (H : Heap) (locs : List Loc) (ls : Array Slot), lq2 (f_X5_digest_B33 v_t_above v_t_below r_t_now) n y1 y3 = some r → va_P D CL [(a_t, .inr (5, [.ref a_t_now, .ref a_t_kept, .ref a_t_isKept, .ref a_t_refused, .long v_t_above, .long v_t_below, .ref a_t_kinds, .int v_t_manyFit, .ref a_t_have, .int v_t_solved, .ref a_t_bytes, .int v_t_bytesLong, .int v_t_tokenAt, .int v_t_tokenLong, .int v_t_token, .int v_t_value, .ref a_t_anew, .ref a_t_values])), (a_t_now, .inl (cI, 146, .inl r_t_now))] H → va_D A [(a_t, .inr (5, [.ref a_t_now, .ref a_t_kept, .ref a_t_isKept, .ref a_t_refused, .long v_t_above, .long v_t_below, .ref a_t_kinds, .int v_t_manyFit, .ref a_t_have, .int v_t_solved, .ref a_t_bytes, .int v_t_bytesLong, .int v_t_tokenAt, .int v_t_tokenLong, .int v_t_token, .int v_t_value, .ref a_t_anew, .ref a_t_values])), (a_t_now, .inl (cI, 146, .inl r_t_now))] → va_S A s.heap H locs → lv_has ls 4 [(0, .ref a_t), (1, .long y1), (3, .int y3)] → W p l e ({ frames := 2, cells := 0, slots := 0, locals := 43 }) s m [.ref a_t].toArray below meth c H locs 0 0 (MQ below (PL D A r [(a_t, .inr (5, [.ref a_t_now, .ref a_t_kept, .ref a_t_isKept, .ref a_t_refused, .long v_t_above, .long v_t_below, .ref a_t_kinds, .int v_t_manyFit, .ref a_t_have, .int v_t_solved, .ref a_t_bytes, .int v_t_bytesLong, .int v_t_tokenAt, .int v_t_tokenLong, .int v_t_token, .int v_t_value, .ref a_t_anew, .ref a_t_values])), (a_t_now, .inl (cI, 146, .inl r_t_now))]) [.ref a_t].toArray s 0 0 A) (F0 m 33 ls []) := by
    intro n
    induction n with
    | zero => intro y1 y3 H locs ls h; exact lq2_0 h
    | succ n hk33 =>
      intro y1 y3 H locs ls h hP hD hS hl
      have h : f_X5_digest_B33 v_t_above v_t_below r_t_now (lq2 (f_X5_digest_B33 v_t_above v_t_below r_t_now) n) y1 y3 = some r := h
      refine lv_iload_n (pc := 33) hx hb dX5_digest_33 rfl (lv_at hl 2 rfl) ?_
      refine lv_bipush (pc := 34) (v := 16) hx hb dX5_digest_34 (by decide) ?_
      refine lv_icmp_ge (pc := 36) (tgt := 63) hx hb dX5_digest_36 (by decide) (fun c2 => ?_) (fun c2 => ?_)
      · replace h := it_t c2 h
        refine lv_aload_n (pc := 63) hx hb dX5_digest_63 rfl (lv_at hl 0 rfl) ?_
        refine lv_lload_n (pc := 64) hx hb dX5_digest_64 rfl (lv_at hl 1 rfl) ?_
        refine lv_iconst (pc := 65) (v := 4) hx hb dX5_digest_65 (by decide) ?_
        refine lv_bipush (pc := 66) (v := 6) hx hb dX5_digest_66 (by decide) ?_
        replace h := bd1_s h
        obtain ⟨z3, e4, h⟩ := h
        refine callVL (pc := 68) (As := [.long y1, .int (4 : Int32), .int (6 : Int32)]) (wc := [(a_t, .inr (5, [.ref a_t_now, .ref a_t_kept, .ref a_t_isKept, .ref a_t_refused, .long v_t_above, .long v_t_below, .ref a_t_kinds, .int v_t_manyFit, .ref a_t_have, .int v_t_solved, .ref a_t_bytes, .int v_t_bytesLong, .int v_t_tokenAt, .int v_t_tokenLong, .int v_t_token, .int v_t_value, .ref a_t_anew, .ref a_t_values])), (a_t_now, .inl (cI, 146, .inl r_t_now))]) (wr := []) (w1 := [(a_t, .inr (5, [.ref a_t_now, .ref a_t_kept, .ref a_t_isKept, .ref a_t_refused, .long v_t_above, .long v_t_below, .ref a_t_kinds, .int v_t_manyFit, .ref a_t_have, .int v_t_solved, .ref a_t_bytes, .int v_t_bytesLong, .int v_t_tokenAt, .int v_t_tokenLong, .int v_t_token, .int v_t_value, .ref a_t_anew, .ref a_t_values])), (a_t_now, .inl (cI, 146, .inl r_t_now))]) hx hb hml hts hown hK hA hP hD hS [0, 1] [] [0, 1] [(a_t, .inr (5, [.ref a_t_now, .ref a_t_kept, .ref a_t_isKept, .ref a_t_refused, .long v_t_above, .long v_t_below, .ref a_t_kinds, .int v_t_manyFit, .ref a_t_have, .int v_t_solved, .ref a_t_bytes, .int v_t_bytesLong, .int v_t_tokenAt, .int v_t_tokenLong, .int v_t_token, .int v_t_value, .ref a_t_anew, .ref a_t_values])), (a_t_now, .inl (cI, 146, .inl r_t_now))] rfl rfl rfl rfl (by decide) rfl rfl (C_X5_sums l D cI cJ cZ adK adV a_t a_t_now a_t_kept a_t_isKept a_t_refused a_t_kinds a_t_have a_t_bytes a_t_anew a_t_values _ v_t_above v_t_below v_t_manyFit v_t_solved v_t_bytesLong v_t_tokenAt v_t_tokenLong v_t_token v_t_value r_t_now y1 (4 : Int32) (6 : Int32) z3 e4) qw1082 qw1079 qw1081 qs67 qw6 hd_X5_sums rfl rfl rfl rfl ⟨Nat.le_of_ble_eq_true rfl, Nat.le_of_ble_eq_true rfl⟩ rfl hl.1 [] rfl (Nat.le_of_ble_eq_true rfl) ⟨Nat.zero_le _, Nat.zero_le _⟩ dX5_digest_68 (fun H locs hP hD hS => ?_)
        refine lv_lstore_n (pc := 71) (lv' := [(1, .long z3), (0, .ref a_t), (3, .int y3)]) hx hb dX5_digest_71 rfl hl (by decide) rfl (fun ls hl => ?_)
        refine lv_iconst (pc := 72) (v := 0) hx hb dX5_digest_72 (by decide) ?_
        refine lv_istore_n (pc := 73) (lv' := [(3, .int (0 : Int32)), (1, .long z3), (0, .ref a_t)]) hx hb dX5_digest_73 rfl hl (by decide) rfl (fun ls hl => ?_)
        exact hL74  FU z3 (0 : Int32) _ _ _ h hP hD hS (lv_sub hl [2, 1, 0] rfl)
      · replace h := it_f c2 h
        refine lv_ldc2 (pc := 39) (v := 31) hx hb hown (hts _ (List.mem_cons_of_mem _ qw1078)) dX5_digest_39 ?_
        refine lv_lload_n (pc := 42) hx hb dX5_digest_42 rfl (lv_at hl 1 rfl) ?_
        refine lv_lmul (pc := 43) hx hb dX5_digest_43 ?_
        refine lv_aload_n (pc := 44) hx hb dX5_digest_44 rfl (lv_at hl 0 rfl) ?_
        refine g5_0 (pc := 45) hx hb hts hown hK hP 0 rfl qw713 dX5_digest_45 ?_
        refine lv_iconst (pc := 48) (v := 1) hx hb dX5_digest_48 (by decide) ?_
        refine rIald (pc := 49) hx hb hK hP 1 rfl (by decide) dX5_digest_49 ?_
        refine lv_iload_n (pc := 50) hx hb dX5_digest_50 rfl (lv_at hl 2 rfl) ?_
        refine lv_ishr (pc := 51) hx hb dX5_digest_51 ?_
        refine lv_iconst (pc := 52) (v := 1) hx hb dX5_digest_52 (by decide) ?_
        refine lv_iand (pc := 53) hx hb dX5_digest_53 ?_
        refine lv_i2l (pc := 54) hx hb dX5_digest_54 rfl ?_
        refine lv_ladd (pc := 55) hx hb dX5_digest_55 ?_
        refine lv_lstore_n (pc := 56) (lv' := [(1, .long (((31 : Int64) * y1) + (Int32.toInt64 (((r_t_now (Int32.toNatClampNeg (1 : Int32))) >>> (y3 &&& 31)) &&& (1 : Int32))))), (0, .ref a_t), (3, .int y3)]) hx hb dX5_digest_56 rfl hl (by decide) rfl (fun ls hl => ?_)
        refine lv_iinc (pc := 57) (v := (y3 + (1 : Int32))) (lv' := [(3, .int (y3 + (1 : Int32))), (1, .long (((31 : Int64) * y1) + (Int32.toInt64 (((r_t_now (Int32.toNatClampNeg (1 : Int32))) >>> (y3 &&& 31)) &&& (1 : Int32))))), (0, .ref a_t)]) hx hb dX5_digest_57 hl (k := 2) rfl rfl (by decide) rfl (fun ls hl => ?_)
        refine lv_goto (pc := 60) (tgt := 33) hx hb dX5_digest_60 (by decide) ?_
        exact hk33 (((31 : Int64) * y1) + (Int32.toInt64 (((r_t_now (Int32.toNatClampNeg (1 : Int32))) >>> (y3 &&& 31)) &&& (1 : Int32)))) (y3 + (1 : Int32)) _ _ _ h hP hD hS (lv_sub hl [2, 1, 0] rfl)
  have hL6 : ∀ (n : Nat), ∀ (y1 : Int64), ∀ (y3 : Int32), ∀ (H : Heap) (locs : List Loc) (ls : Array Slot), lq2 (f_X5_digest_B6 v_t_above v_t_below v_t_bytesLong r_t_now) n y1 y3 = some r → va_P D CL [(a_t, .inr (5, [.ref a_t_now, .ref a_t_kept, .ref a_t_isKept, .ref a_t_refused, .long v_t_above, .long v_t_below, .ref a_t_kinds, .int v_t_manyFit, .ref a_t_have, .int v_t_solved, .ref a_t_bytes, .int v_t_bytesLong, .int v_t_tokenAt, .int v_t_tokenLong, .int v_t_token, .int v_t_value, .ref a_t_anew, .ref a_t_values])), (a_t_now, .inl (cI, 146, .inl r_t_now))] H → va_D A [(a_t, .inr (5, [.ref a_t_now, .ref a_t_kept, .ref a_t_isKept, .ref a_t_refused, .long v_t_above, .long v_t_below, .ref a_t_kinds, .int v_t_manyFit, .ref a_t_have, .int v_t_solved, .ref a_t_bytes, .int v_t_bytesLong, .int v_t_tokenAt, .int v_t_tokenLong, .int v_t_token, .int v_t_value, .ref a_t_anew, .ref a_t_values])), (a_t_now, .inl (cI, 146, .inl r_t_now))] → va_S A s.heap H locs → lv_has ls 4 [(0, .ref a_t), (1, .long y1), (3, .int y3)] → W p l e ({ frames := 2, cells := 0, slots := 0, locals := 43 }) s m [.ref a_t].toArray below meth c H locs 0 0 (MQ below (PL D A r [(a_t, .inr (5, [.ref a_t_now, .ref a_t_kept, .ref a_t_isKept, .ref a_t_refused, .long v_t_above, .long v_t_below, .ref a_t_kinds, .int v_t_manyFit, .ref a_t_have, .int v_t_solved, .ref a_t_bytes, .int v_t_bytesLong, .int v_t_tokenAt, .int v_t_tokenLong, .int v_t_token, .int v_t_value, .ref a_t_anew, .ref a_t_values])), (a_t_now, .inl (cI, 146, .inl r_t_now))]) [.ref a_t].toArray s 0 0 A) (F0 m 6 ls []) := by
    intro n
    induction n with
    | zero => intro y1 y3 H locs ls h; exact lq2_0 h
    | succ n hk6 =>
      intro y1 y3 H locs ls h hP hD hS hl
      have h : f_X5_digest_B6 v_t_above v_t_below v_t_bytesLong r_t_now (lq2 (f_X5_digest_B6 v_t_above v_t_below v_t_bytesLong r_t_now) n) y1 y3 = some r := h
      refine lv_iload_n (pc := 6) hx hb dX5_digest_6 rfl (lv_at hl 2 rfl) ?_
      refine lv_bipush (pc := 7) (v := 6) hx hb dX5_digest_7 (by decide) ?_
      refine lv_icmp_ge (pc := 9) (tgt := 31) hx hb dX5_digest_9 (by decide) (fun c1 => ?_) (fun c1 => ?_)
      · replace h := it_t c1 h
        refine lv_iconst (pc := 31) (v := 0) hx hb dX5_digest_31 (by decide) ?_
        refine lv_istore_n (pc := 32) (lv' := [(3, .int (0 : Int32)), (0, .ref a_t), (1, .long y1)]) hx hb dX5_digest_32 rfl hl (by decide) rfl (fun ls hl => ?_)
        exact hL33  FU y1 (0 : Int32) _ _ _ h hP hD hS (lv_sub hl [1, 2, 0] rfl)
      · replace h := it_f c1 h
        refine lv_ldc2 (pc := 12) (v := 31) hx hb hown (hts _ (List.mem_cons_of_mem _ qw1078)) dX5_digest_12 ?_
        refine lv_lload_n (pc := 15) hx hb dX5_digest_15 rfl (lv_at hl 1 rfl) ?_
        refine lv_lmul (pc := 16) hx hb dX5_digest_16 ?_
        refine lv_aload_n (pc := 17) hx hb dX5_digest_17 rfl (lv_at hl 0 rfl) ?_
        refine lv_iload_n (pc := 18) hx hb dX5_digest_18 rfl (lv_at hl 2 rfl) ?_
        replace h := bd1_s h
        obtain ⟨z10, e11, h⟩ := h
        refine callVI (pc := 19) (As := [.int y3]) (wc := [(a_t, .inr (5, [.ref a_t_now, .ref a_t_kept, .ref a_t_isKept, .ref a_t_refused, .long v_t_above, .long v_t_below, .ref a_t_kinds, .int v_t_manyFit, .ref a_t_have, .int v_t_solved, .ref a_t_bytes, .int v_t_bytesLong, .int v_t_tokenAt, .int v_t_tokenLong, .int v_t_token, .int v_t_value, .ref a_t_anew, .ref a_t_values])), (a_t_now, .inl (cI, 146, .inl r_t_now))]) (wr := []) (w1 := [(a_t, .inr (5, [.ref a_t_now, .ref a_t_kept, .ref a_t_isKept, .ref a_t_refused, .long v_t_above, .long v_t_below, .ref a_t_kinds, .int v_t_manyFit, .ref a_t_have, .int v_t_solved, .ref a_t_bytes, .int v_t_bytesLong, .int v_t_tokenAt, .int v_t_tokenLong, .int v_t_token, .int v_t_value, .ref a_t_anew, .ref a_t_values])), (a_t_now, .inl (cI, 146, .inl r_t_now))]) hx hb hml hts hown hK hA hP hD hS [0, 1] [] [0, 1] [(a_t, .inr (5, [.ref a_t_now, .ref a_t_kept, .ref a_t_isKept, .ref a_t_refused, .long v_t_above, .long v_t_below, .ref a_t_kinds, .int v_t_manyFit, .ref a_t_have, .int v_t_solved, .ref a_t_bytes, .int v_t_bytesLong, .int v_t_tokenAt, .int v_t_tokenLong, .int v_t_token, .int v_t_value, .ref a_t_anew, .ref a_t_values])), (a_t_now, .inl (cI, 146, .inl r_t_now))] rfl rfl rfl rfl (by decide) rfl rfl (C_X5_counted l D cI cJ cZ adK adV a_t a_t_now a_t_kept a_t_isKept a_t_refused a_t_kinds a_t_have a_t_bytes a_t_anew a_t_values _ v_t_above v_t_below v_t_manyFit v_t_solved v_t_bytesLong v_t_tokenAt v_t_tokenLong v_t_token v_t_value r_t_now y3 z10 e11) qw1068 qw1065 qw1067 qs65 qw6 hd_X5_counted rfl rfl rfl rfl ⟨Nat.le_of_ble_eq_true rfl, Nat.le_of_ble_eq_true rfl⟩ rfl hl.1 [.long ((31 : Int64) * y1)] rfl (Nat.le_of_ble_eq_true rfl) ⟨Nat.zero_le _, Nat.zero_le _⟩ dX5_digest_19 (fun H locs hP hD hS => ?_)
        refine lv_i2l (pc := 22) hx hb dX5_digest_22 rfl ?_
        refine lv_ladd (pc := 23) hx hb dX5_digest_23 ?_
        refine lv_lstore_n (pc := 24) (lv' := [(1, .long (((31 : Int64) * y1) + (Int32.toInt64 z10))), (0, .ref a_t), (3, .int y3)]) hx hb dX5_digest_24 rfl hl (by decide) rfl (fun ls hl => ?_)
        refine lv_iinc (pc := 25) (v := (y3 + (1 : Int32))) (lv' := [(3, .int (y3 + (1 : Int32))), (1, .long (((31 : Int64) * y1) + (Int32.toInt64 z10))), (0, .ref a_t)]) hx hb dX5_digest_25 hl (k := 2) rfl rfl (by decide) rfl (fun ls hl => ?_)
        refine lv_goto (pc := 28) (tgt := 6) hx hb dX5_digest_28 (by decide) ?_
        exact hk6 (((31 : Int64) * y1) + (Int32.toInt64 z10)) (y3 + (1 : Int32)) _ _ _ h hP hD hS (lv_sub hl [2, 1, 0] rfl)
  refine lv_ldc2 (pc := 0) (v := 1291) hx hb hown (hts _ (List.mem_cons_of_mem _ qw1077)) dX5_digest_0 ?_
  refine lv_lstore_n (pc := 3) (lv' := [(1, .long (1291 : Int64)), (0, .ref a_t)]) hx hb dX5_digest_3 rfl hl (by decide) rfl (fun ls hl => ?_)
  refine lv_iconst (pc := 4) (v := 0) hx hb dX5_digest_4 (by decide) ?_
  refine lv_istore_n (pc := 5) (lv' := [(3, .int (0 : Int32)), (1, .long (1291 : Int64)), (0, .ref a_t)]) hx hb dX5_digest_5 rfl hl (by decide) rfl (fun ls hl => ?_)
  exact hL6  FU (1291 : Int64) (0 : Int32) _ _ _ h hP hD hS (lv_sub hl [2, 1, 0] rfl)
