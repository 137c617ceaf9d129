section KJ
variable {p : Program} {l : Launch} {e : Env} {R : Room} {s : State} {m : MethodId} {args : Array Value} {below : List Frame} {meth : Method} {c : Code} {H : Heap} {locs : List Loc} {cells slots : Nat} {Q : State → Prop}
variable {cc : ByteArray} {pc : Nat} {ls : Array Slot} {rest : List Value} {D : va_G} {cI cJ cZ : ClassId} {adK adV : Nat → Nat} {A : Nat → Prop} {a : Nat} {ws : va_W} {c0 : Cond} {own : String} {index : Nat}
theorem callRI {y : MethodName} {bytes : ByteArray} {nL maxL n : Nat} {ret : Option FieldType} {rm : Room} {b : Nat} {r : Int32} {As st : List Value} (hx : p.tables.exec = Jvm.exec) (hb : c.code = cc) (hml : c.maxLocals = nL) (hts : ∀ w ∈ c0 :: GW, w.before args s = true) (hown : s.vm.findClass own = some m.cls) (hK : KK D cI cJ cZ adK adV A s)
    (hA : ∀ q : Nat, s.heap.size ≤ q → A q) (hP : va_P D CL ws H) (hD : va_D A ws) (hS : va_S A s.heap H locs)
    (isC isR pm : List Nat) {wc wr w1 : va_W} (ws' : va_W) (hC : isC.map (fun i => ws[i]?) = wc.map some) (hnc : va_nd isC = true) (hR : isR.map (fun i => ws[i]?) = wr.map some) (hnd : va_nd isR = true) (hdis : ∀ i ∈ isR, i ∉ isC) (hpm : pm.map (fun i => (wr ++ w1)[i]?) = ws'.map some) (hpn : va_nd pm = true)
    (hM : Met l y (Cond.code y bytes maxL ret :: GW) rm (Pre D cI cJ cZ adK adV (.ref b :: As) H.size wc) (PI D (va_A wc H.size) r w1) 0 0 (va_A wc H.size))
    (qc : Cond.code y bytes maxL ret ∈ GW) (ql : Cond.methodLink own index y ∈ GW) (qi : Cond.instanceMethod y ∈ GW) (qs : Cond.selects y.cls y y ∈ GW) (qn : Cond.initialized y.cls ∈ GW) (hd : y.cls ≠ "java/lang/invoke/MethodHandle" ∧ y.cls ≠ "java/lang/invoke/VarHandle" ∧ (parseMethodDescriptor y.desc).map (fun d => d.parameters.length) = some n) (hrcv : ∃ cell : Cell, H[b]? = some cell ∧ cell.vm.isStatics = false ∧ s.vm.findClass y.cls = some cell.cls)
    (hrc : rm.cells = 0) (hrs : rm.slots = 0) (hRm : rm.frames + 1 ≤ R.frames ∧ 8 + (maxL + 11) + rm.locals ≤ R.locals) (hn : As.length = n) (hsz : ls.size = nL) (rs : List Value) (hst : st = As.reverse ++ .ref b :: rs) (hW : (rs.map fun v => v.category).sum ≤ 8) (hcl : cells ≤ R.cells ∧ slots ≤ R.slots) (hdg : decode cc pc = .ok (.invokevirtual index, 3))
    (kk : ∀ (H1 : Heap) (locs1 : List Loc), va_P D CL ws' H1 → va_D A ws' → va_S A s.heap H1 locs1 → W p l e R s m args below meth c H1 locs1 cells slots Q (F0 m (pc + 3) ls (.int r :: rs))) : W p l e R s m args below meth c H locs cells slots Q (F0 m pc ls st) := by
  have hFc := va_free (wc := wc) hD hS hA isC hC
  have hpre : ∀ U : State, U.heap = H → s.WarmedH U.vm → Pre D cI cJ cZ adK adV (.ref b :: As) H.size wc (.ref b :: As).toArray U := fun U hU hW => ⟨rfl, by rw [hU], by rw [hU]; exact hP.sub isC (fm_of_map hC), hK.call hS hFc hU hW, (hD.sub isC hnc hC).weaken (fun _ _ _ _ => trivial)⟩
  refine va_calli (va_runV (C := y.cls) (n := n) (As := As) (rest := rs) ⟨hx, hb, hml, hown, hts⟩ hM (cwV n hts (gw_callV qc ql qi qs qn) rfl hrc hrs ⟨rfl, hd⟩ hRm) ⟨Pre.blind, hrcv, hpre⟩ rfl hn hsz hst (lv_room hW) hdg ⟨hcl.1, hcl.2⟩) hS (fun q _ h => hFc q h) hFc (fun r2 u t H1 locs1 ht hvm hw hB hz1 hk1 hS1 => ?_)
  obtain ⟨hP1, hD1⟩ := hB
  rw [ht] at hP1
  obtain ⟨hP2, hD2⟩ := va_join hP hD isC isR hC hR hnd hdis hk1 hFc hP1 hD1
  subst hw
  exact kk H1 locs1 (hP2.sub pm (fm_of_map hpm)) (hD2.sub pm hpn hpm) hS1
end KJ
def slen (w : Nat) : Int32 := nI (SL.getD w 0)
def sch (w : Nat) (i : Int32) : Int32 := ((((SB.getD w []).getD i.toNatClampNeg 0) &&& 255).toUInt32 % 65536).toInt32
theorem hd_J0_coder_7d493 : yJ0_coder_7d493.cls ≠ "java/lang/invoke/MethodHandle" ∧ yJ0_coder_7d493.cls ≠ "java/lang/invoke/VarHandle" ∧ (parseMethodDescriptor yJ0_coder_7d493.desc).map (fun d => d.parameters.length) = some 0 := by decide +kernel
set_option maxHeartbeats 4000000 in
set_option maxRecDepth 100000 in
theorem C_J0_coder_7d493 (l : Launch) (D : va_G) (cI cJ cZ : ClassId) (adK adV : Nat → Nat) (sz : Nat) (w : Nat) (hw : w < 5) : Met l yJ0_coder_7d493 (Cond.code yJ0_coder_7d493 cJ0_coder_7d493 1 (some .byte) :: GW) ({ frames := 0, cells := 0, slots := 0, locals := 0 }) (Pre D cI cJ cZ adK adV [.ref (adK w)] sz []) (PI D (va_A [] sz) 0 []) 0 0 (va_A [] sz) := by
  refine enter (y := yJ0_coder_7d493) (cc := cJ0_coder_7d493) (maxL := 1) (ret := (some .byte)) (rm := { frames := 0, cells := 0, slots := 0, locals := 0 }) (av := [.ref (adK w)]) (sz := sz) (ws := []) (D := D) (cI := cI) (cJ := cJ) (cZ := cZ) (adK := adK) (adV := adV) (mc := 0) (ms := 0) (QF := fun A => PI D A 0 []) (by decide) (Nat.le_of_ble_eq_true rfl) ?_
  intro p e s m below meth c ls A hx hb hr hml hown hts hlocks hin hA hK hP hD hS hl
  have hl : lv_has ls 1 [(0, .ref (adK w))] := hl
  refine va_gets (pc := 0) hx hb hK.2.2.2.2.1 hS hown (hts _ (List.mem_cons_of_mem _ qw285)) (fun _ h9 => h9) dJ0_coder_7d493_0 ?_
  refine lv_if_eq (pc := 3) (tgt := 13) hx hb dJ0_coder_7d493_3 (by decide) (fun c1 => absurd c1 (by decide)) (fun _ => ?_)
  refine lv_aload_n (pc := 6) hx hb dJ0_coder_7d493_6 rfl (lv_at hl 0 rfl) ?_
  refine vk_getf (pc := 7) hx hb (hK.2.2.2.1.1 w hw).2.1 hS hown (hts _ (List.mem_cons_of_mem _ qw1084)) (fun _ h9 => h9) dJ0_coder_7d493_7 ?_
  refine lv_goto (pc := 10) (tgt := 14) hx hb dJ0_coder_7d493_10 (by decide) ?_
  exact retZ (pc := 14) hx hb hr hlocks hP hD hS (by decide) dJ0_coder_7d493_14
theorem hd_J0_isLatin1_aae02 : yJ0_isLatin1_aae02.cls ≠ "java/lang/invoke/MethodHandle" ∧ yJ0_isLatin1_aae02.cls ≠ "java/lang/invoke/VarHandle" ∧ (parseMethodDescriptor yJ0_isLatin1_aae02.desc).map (fun d => d.parameters.length) = some 0 := by decide +kernel
set_option maxHeartbeats 4000000 in
set_option maxRecDepth 100000 in
theorem C_J0_isLatin1_aae02 (l : Launch) (D : va_G) (cI cJ cZ : ClassId) (adK adV : Nat → Nat) (sz : Nat) (w : Nat) (hw : w < 5) : Met l yJ0_isLatin1_aae02 (Cond.code yJ0_isLatin1_aae02 cJ0_isLatin1_aae02 1 (some .boolean) :: GW) ({ frames := 0, cells := 0, slots := 0, locals := 0 }) (Pre D cI cJ cZ adK adV [.ref (adK w)] sz []) (PI D (va_A [] sz) 1 []) 0 0 (va_A [] sz) := by
  refine enter (y := yJ0_isLatin1_aae02) (cc := cJ0_isLatin1_aae02) (maxL := 1) (ret := (some .boolean)) (rm := { frames := 0, cells := 0, slots := 0, locals := 0 }) (av := [.ref (adK w)]) (sz := sz) (ws := []) (D := D) (cI := cI) (cJ := cJ) (cZ := cZ) (adK := adK) (adV := adV) (mc := 0) (ms := 0) (QF := fun A => PI D A 1 []) (by decide) (Nat.le_of_ble_eq_true rfl) ?_
  intro p e s m below meth c ls A hx hb hr hml hown hts hlocks hin hA hK hP hD hS hl
  have hl : lv_has ls 1 [(0, .ref (adK w))] := hl
  refine va_gets (pc := 0) hx hb hK.2.2.2.2.1 hS hown (hts _ (List.mem_cons_of_mem _ qw285)) (fun _ h9 => h9) dJ0_isLatin1_aae02_0 ?_
  refine lv_if_eq (pc := 3) (tgt := 17) hx hb dJ0_isLatin1_aae02_3 (by decide) (fun c1 => absurd c1 (by decide)) (fun _ => ?_)
  refine lv_aload_n (pc := 6) hx hb dJ0_isLatin1_aae02_6 rfl (lv_at hl 0 rfl) ?_
  refine vk_getf (pc := 7) hx hb (hK.2.2.2.1.1 w hw).2.1 hS hown (hts _ (List.mem_cons_of_mem _ qw1084)) (fun _ h9 => h9) dJ0_isLatin1_aae02_7 ?_
  refine lv_if_ne (pc := 10) (tgt := 17) hx hb dJ0_isLatin1_aae02_10 (by decide) (fun c1 => absurd rfl c1) (fun _ => ?_)
  refine lv_iconst (pc := 13) (v := 1) hx hb dJ0_isLatin1_aae02_13 (by decide) ?_
  refine lv_goto (pc := 14) (tgt := 18) hx hb dJ0_isLatin1_aae02_14 (by decide) ?_
  exact retZ (pc := 18) hx hb hr hlocks hP hD hS (by decide) dJ0_isLatin1_aae02_18
theorem hd_J0_length_8abf5 : yJ0_length_8abf5.cls ≠ "java/lang/invoke/MethodHandle" ∧ yJ0_length_8abf5.cls ≠ "java/lang/invoke/VarHandle" ∧ (parseMethodDescriptor yJ0_length_8abf5.desc).map (fun d => d.parameters.length) = some 0 := by decide +kernel
set_option maxHeartbeats 4000000 in
set_option maxRecDepth 100000 in
theorem C_J0_length_8abf5 (l : Launch) (D : va_G) (cI cJ cZ : ClassId) (adK adV : Nat → Nat) (sz : Nat) (w : Nat) (hw : w < 5) : Met l yJ0_length_8abf5 (Cond.code yJ0_length_8abf5 cJ0_length_8abf5 1 (some .int) :: GW) ({ frames := 1, cells := 0, slots := 0, locals := 20 }) (Pre D cI cJ cZ adK adV [.ref (adK w)] sz []) (PI D (va_A [] sz) (slen w) []) 0 0 (va_A [] sz) := by
  refine enter (y := yJ0_length_8abf5) (cc := cJ0_length_8abf5) (maxL := 1) (ret := (some .int)) (rm := { frames := 1, cells := 0, slots := 0, locals := 20 }) (av := [.ref (adK w)]) (sz := sz) (ws := []) (D := D) (cI := cI) (cJ := cJ) (cZ := cZ) (adK := adK) (adV := adV) (mc := 0) (ms := 0) (QF := fun A => PI D A (slen w) []) (by decide) (Nat.le_of_ble_eq_true rfl) ?_
  intro p e s m below meth c ls A hx hb hr hml hown hts hlocks hin hA hK hP hD hS hl
  have hl : lv_has ls 1 [(0, .ref (adK w))] := hl
  refine lv_aload_n (pc := 0) hx hb dJ0_length_8abf5_0 rfl (lv_at hl 0 rfl) ?_
  refine vk_getf (pc := 1) hx hb (hK.2.2.2.1.1 w hw).2.2.1 hS hown (hts _ (List.mem_cons_of_mem _ qw1083)) (fun _ h9 => h9) dJ0_length_8abf5_1 ?_
  refine va_tlen (pc := 4) (v := slen w) hx hb (hK.2.2.2.1.1 w hw).2.2.2 hS rfl dJ0_length_8abf5_4 ?_
  refine lv_aload_n (pc := 5) hx hb dJ0_length_8abf5_5 rfl (lv_at hl 0 rfl) ?_
  refine callRI (pc := 6) (As := []) (wc := []) (wr := []) (w1 := []) hx hb hml hts hown hK hA hP hD hS [] [] [] [] rfl rfl rfl rfl (by decide) rfl rfl (C_J0_coder_7d493 l D cI cJ cZ adK adV _ w hw) qw284 qw281 qw282 qw283 qw8 hd_J0_coder_7d493 (vk_recv hK.2.2.2.1 hw hS) rfl rfl ⟨Nat.le_of_ble_eq_true rfl, Nat.le_of_ble_eq_true rfl⟩ rfl hl.1 [.int (slen w)] rfl (Nat.le_of_ble_eq_true rfl) ⟨Nat.zero_le _, Nat.zero_le _⟩ dJ0_length_8abf5_6 (fun H locs hP hD hS => ?_)
  refine lv_ishr (pc := 9) hx hb dJ0_length_8abf5_9 ?_
  have e0 : slen w >>> ((0 : Int32) &&& 31) = slen w := sb_shr0 _
  rw [e0]
  exact retI (pc := 10) hx hb hr hlocks hP hD hS dJ0_length_8abf5_10
theorem hd_J3_checkIndex_8e157 : yJ3_checkIndex_8e157.cls ≠ "java/lang/invoke/MethodHandle" ∧ yJ3_checkIndex_8e157.cls ≠ "java/lang/invoke/VarHandle" ∧ (parseMethodDescriptor yJ3_checkIndex_8e157.desc).map (fun d => d.parameters.length) = some 3 := by decide +kernel
set_option maxHeartbeats 4000000 in
set_option maxRecDepth 100000 in
theorem C_J3_checkIndex_8e157 (l : Launch) (D : va_G) (cI cJ cZ : ClassId) (adK adV : Nat → Nat) (sz : Nat) (x0 x1 : Int32) (v : Value) (hv : v.category = 1) (h0 : ¬ x0 < 0) (h1 : x0 < x1) : Met l yJ3_checkIndex_8e157 (Cond.code yJ3_checkIndex_8e157 cJ3_checkIndex_8e157 3 (some .int) :: GW) ({ frames := 0, cells := 0, slots := 0, locals := 0 }) (Pre D cI cJ cZ adK adV [.int x0, .int x1, v] sz []) (PI D (va_A [] sz) x0 []) 0 0 (va_A [] sz) := by
  refine enter (y := yJ3_checkIndex_8e157) (cc := cJ3_checkIndex_8e157) (maxL := 3) (ret := (some .int)) (rm := { frames := 0, cells := 0, slots := 0, locals := 0 }) (av := [.int x0, .int x1, v]) (sz := sz) (ws := []) (D := D) (cI := cI) (cJ := cJ) (cZ := cZ) (adK := adK) (adV := adV) (mc := 0) (ms := 0) (QF := fun A => PI D A x0 []) (by decide) (by cases v <;> first | exact Nat.le_of_ble_eq_true rfl | cases hv | simp [Value.category] at hv) ?_
  intro p e s m below meth c ls A hx hb hr hml hown hts hlocks hin hA hK hP hD hS hl
  have hl : lv_has ls 3 [(0, .int x0), (1, .int x1)] := ⟨hl.1, hl.2.1, fun q hq => hl.2.2 q (by simp [lv_args, Value.category] at hq ⊢; rcases hq with rfl | rfl <;> simp)⟩
  refine lv_iload_n (pc := 0) hx hb dJ3_checkIndex_8e157_0 rfl (lv_at hl 0 rfl) ?_
  refine lv_if_lt (pc := 1) (tgt := 9) hx hb dJ3_checkIndex_8e157_1 (by decide) (fun c1 => absurd c1 h0) (fun _ => ?_)
  refine lv_iload_n (pc := 4) hx hb dJ3_checkIndex_8e157_4 rfl (lv_at hl 0 rfl) ?_
  refine lv_iload_n (pc := 5) hx hb dJ3_checkIndex_8e157_5 rfl (lv_at hl 1 rfl) ?_
  refine lv_icmp_lt (pc := 6) (tgt := 16) hx hb dJ3_checkIndex_8e157_6 (by decide) (fun _ => ?_) (fun c1 => absurd h1 c1)
  refine lv_iload_n (pc := 16) hx hb dJ3_checkIndex_8e157_16 rfl (lv_at hl 0 rfl) ?_
  exact retI (pc := 17) hx hb hr hlocks hP hD hS dJ3_checkIndex_8e157_17
theorem hd_J0_checkIndex_df160 : yJ0_checkIndex_df160.cls ≠ "java/lang/invoke/MethodHandle" ∧ yJ0_checkIndex_df160.cls ≠ "java/lang/invoke/VarHandle" ∧ (parseMethodDescriptor yJ0_checkIndex_df160.desc).map (fun d => d.parameters.length) = some 2 := by decide +kernel
set_option maxHeartbeats 4000000 in
set_option maxRecDepth 100000 in
theorem C_J0_checkIndex_df160 (l : Launch) (D : va_G) (cI cJ cZ : ClassId) (adK adV : Nat → Nat) (sz : Nat) (x0 x1 : Int32) (h0 : ¬ x0 < 0) (h1 : x0 < x1) : Met l yJ0_checkIndex_df160 (Cond.code yJ0_checkIndex_df160 cJ0_checkIndex_df160 2 none :: GW) ({ frames := 1, cells := 0, slots := 0, locals := 22 }) (Pre D cI cJ cZ adK adV [.int x0, .int x1] sz []) (PV D (va_A [] sz) []) 0 0 (va_A [] sz) := by
  refine enter (y := yJ0_checkIndex_df160) (cc := cJ0_checkIndex_df160) (maxL := 2) (ret := none) (rm := { frames := 1, cells := 0, slots := 0, locals := 22 }) (av := [.int x0, .int x1]) (sz := sz) (ws := []) (D := D) (cI := cI) (cJ := cJ) (cZ := cZ) (adK := adK) (adV := adV) (mc := 0) (ms := 0) (QF := fun A => PV D A []) (by decide) (Nat.le_of_ble_eq_true rfl) ?_
  intro p e s m below meth c ls A hx hb hr hml hown hts hlocks hin hA hK hP hD hS hl
  have hl : lv_has ls 2 [(0, .int x0), (1, .int x1)] := hl
  refine lv_iload_n (pc := 0) hx hb dJ0_checkIndex_df160_0 rfl (lv_at hl 0 rfl) ?_
  refine lv_iload_n (pc := 1) hx hb dJ0_checkIndex_df160_1 rfl (lv_at hl 1 rfl) ?_
  rcases hK.2.2.2.2.2 with hz | ⟨tz, hz⟩
  · refine va_gets (pc := 2) hx hb hz hS hown (hts _ (List.mem_cons_of_mem _ qw301)) (fun _ h9 => h9) dJ0_checkIndex_df160_2 ?_
    refine callSI (pc := 5) (As := [.int x0, .int x1, .null]) (wc := []) (wr := []) (w1 := []) hx hb hml hts hown hK hA hP hD hS [] [] [] [] rfl rfl rfl rfl (by decide) rfl rfl (C_J3_checkIndex_8e157 l D cI cJ cZ adK adV _ x0 x1 .null rfl h0 h1) qw305 qw303 qw304 qw10 hd_J3_checkIndex_8e157 rfl rfl ⟨Nat.le_of_ble_eq_true rfl, Nat.le_of_ble_eq_true rfl⟩ rfl hl.1 [] rfl (Nat.le_of_ble_eq_true rfl) ⟨Nat.zero_le _, Nat.zero_le _⟩ dJ0_checkIndex_df160_5 (fun H locs hP hD hS => ?_)
    refine lv_pop (pc := 8) hx hb dJ0_checkIndex_df160_8 rfl ?_
    exact retV (pc := 9) hx hb hr hlocks hP hD hS dJ0_checkIndex_df160_9
  · refine va_gets (pc := 2) hx hb hz hS hown (hts _ (List.mem_cons_of_mem _ qw301)) (fun _ h9 => h9) dJ0_checkIndex_df160_2 ?_
    refine callSI (pc := 5) (As := [.int x0, .int x1, (.ref tz)]) (wc := []) (wr := []) (w1 := []) hx hb hml hts hown hK hA hP hD hS [] [] [] [] rfl rfl rfl rfl (by decide) rfl rfl (C_J3_checkIndex_8e157 l D cI cJ cZ adK adV _ x0 x1 (.ref tz) rfl h0 h1) qw305 qw303 qw304 qw10 hd_J3_checkIndex_8e157 rfl rfl ⟨Nat.le_of_ble_eq_true rfl, Nat.le_of_ble_eq_true rfl⟩ rfl hl.1 [] rfl (Nat.le_of_ble_eq_true rfl) ⟨Nat.zero_le _, Nat.zero_le _⟩ dJ0_checkIndex_df160_5 (fun H locs hP hD hS => ?_)
    refine lv_pop (pc := 8) hx hb dJ0_checkIndex_df160_8 rfl ?_
    exact retV (pc := 9) hx hb hr hlocks hP hD hS dJ0_checkIndex_df160_9
theorem hd_J1_charAt_3b067 : yJ1_charAt_3b067.cls ≠ "java/lang/invoke/MethodHandle" ∧ yJ1_charAt_3b067.cls ≠ "java/lang/invoke/VarHandle" ∧ (parseMethodDescriptor yJ1_charAt_3b067.desc).map (fun d => d.parameters.length) = some 2 := by decide +kernel
set_option maxHeartbeats 4000000 in
set_option maxRecDepth 100000 in
theorem C_J1_charAt_3b067 (l : Launch) (D : va_G) (cI cJ cZ : ClassId) (adK adV : Nat → Nat) (sz : Nat) (w : Nat) (hw : w < 5) (x1 : Int32) (hi : vp_in x1 (SL.getD w 0)) : Met l yJ1_charAt_3b067 (Cond.code yJ1_charAt_3b067 cJ1_charAt_3b067 2 (some .char) :: GW) ({ frames := 2, cells := 0, slots := 0, locals := 43 }) (Pre D cI cJ cZ adK adV [.ref (adV w), .int x1] sz []) (PI D (va_A [] sz) (sch w x1) []) 0 0 (va_A [] sz) := by
  refine enter (y := yJ1_charAt_3b067) (cc := cJ1_charAt_3b067) (maxL := 2) (ret := (some .char)) (rm := { frames := 2, cells := 0, slots := 0, locals := 43 }) (av := [.ref (adV w), .int x1]) (sz := sz) (ws := []) (D := D) (cI := cI) (cJ := cJ) (cZ := cZ) (adK := adK) (adV := adV) (mc := 0) (ms := 0) (QF := fun A => PI D A (sch w x1) []) (by decide) (Nat.le_of_ble_eq_true rfl) ?_
  intro p e s m below meth c ls A hx hb hr hml hown hts hlocks hin hA hK hP hD hS hl
  have hl : lv_has ls 2 [(0, .ref (adV w)), (1, .int x1)] := hl
  have hl5 : SL.getD w 0 < 2 ^ 31 := by match w, hw with | 0, _ => decide | 1, _ => decide | 2, _ => decide | 3, _ => decide | 4, _ => decide | k + 5, h => exact absurd h (by omega)
  obtain ⟨jx, hj, ex⟩ := vp_in_of hi hl5
  refine lv_iload_n (pc := 0) hx hb dJ1_charAt_3b067_0 rfl (lv_at hl 1 rfl) ?_
  refine lv_aload_n (pc := 1) hx hb dJ1_charAt_3b067_1 rfl (lv_at hl 0 rfl) ?_
  refine va_tlen (pc := 2) (v := slen w) hx hb (hK.2.2.2.1.1 w hw).2.2.2 hS rfl dJ1_charAt_3b067_2 ?_
  refine callSV (pc := 3) (As := [.int x1, .int (slen w)]) (wc := []) (wr := []) (w1 := []) hx hb hml hts hown hK hA hP hD hS [] [] [] [] rfl rfl rfl rfl (by decide) rfl rfl (C_J0_checkIndex_df160 l D cI cJ cZ adK adV _ x1 (slen w) (by rw [ex]; exact nI_pos (by omega)) (by rw [ex]; exact nI_lt hj hl5)) qw300 qw298 qw299 qw8 hd_J0_checkIndex_df160 rfl rfl ⟨Nat.le_of_ble_eq_true rfl, Nat.le_of_ble_eq_true rfl⟩ rfl hl.1 [] rfl (Nat.le_of_ble_eq_true rfl) ⟨Nat.zero_le _, Nat.zero_le _⟩ dJ1_charAt_3b067_3 (fun H locs hP hD hS => ?_)
  refine lv_aload_n (pc := 6) hx hb dJ1_charAt_3b067_6 rfl (lv_at hl 0 rfl) ?_
  refine lv_iload_n (pc := 7) hx hb dJ1_charAt_3b067_7 rfl (lv_at hl 1 rfl) ?_
  refine va_tb (pc := 8) hx hb (hK.2.2.2.1.1 w hw).2.2.2 hS hi rfl dJ1_charAt_3b067_8 ?_
  refine lv_sipush (pc := 9) (v := 255) hx hb dJ1_charAt_3b067_9 (by decide) ?_
  refine lv_iand (pc := 12) hx hb dJ1_charAt_3b067_12 ?_
  refine lv_i2c (pc := 13) (v := sch w x1) hx hb dJ1_charAt_3b067_13 rfl ?_
  exact retZ (pc := 14) hx hb hr hlocks hP hD hS (pk_nc _) dJ1_charAt_3b067_14
theorem hd_J0_charAt_5068e : yJ0_charAt_5068e.cls ≠ "java/lang/invoke/MethodHandle" ∧ yJ0_charAt_5068e.cls ≠ "java/lang/invoke/VarHandle" ∧ (parseMethodDescriptor yJ0_charAt_5068e.desc).map (fun d => d.parameters.length) = some 1 := by decide +kernel
set_option maxHeartbeats 4000000 in
set_option maxRecDepth 100000 in
theorem C_J0_charAt_5068e (l : Launch) (D : va_G) (cI cJ cZ : ClassId) (adK adV : Nat → Nat) (sz : Nat) (w : Nat) (hw : w < 5) (x1 : Int32) (hi : vp_in x1 (SL.getD w 0)) : Met l yJ0_charAt_5068e (Cond.code yJ0_charAt_5068e cJ0_charAt_5068e 2 (some .char) :: GW) ({ frames := 3, cells := 0, slots := 0, locals := 64 }) (Pre D cI cJ cZ adK adV [.ref (adK w), .int x1] sz []) (PI D (va_A [] sz) (sch w x1) []) 0 0 (va_A [] sz) := by
  refine enter (y := yJ0_charAt_5068e) (cc := cJ0_charAt_5068e) (maxL := 2) (ret := (some .char)) (rm := { frames := 3, cells := 0, slots := 0, locals := 64 }) (av := [.ref (adK w), .int x1]) (sz := sz) (ws := []) (D := D) (cI := cI) (cJ := cJ) (cZ := cZ) (adK := adK) (adV := adV) (mc := 0) (ms := 0) (QF := fun A => PI D A (sch w x1) []) (by decide) (Nat.le_of_ble_eq_true rfl) ?_
  intro p e s m below meth c ls A hx hb hr hml hown hts hlocks hin hA hK hP hD hS hl
  have hl : lv_has ls 2 [(0, .ref (adK w)), (1, .int x1)] := hl
  refine lv_aload_n (pc := 0) hx hb dJ0_charAt_5068e_0 rfl (lv_at hl 0 rfl) ?_
  refine callRI (pc := 1) (As := []) (wc := []) (wr := []) (w1 := []) hx hb hml hts hown hK hA hP hD hS [] [] [] [] rfl rfl rfl rfl (by decide) rfl rfl (C_J0_isLatin1_aae02 l D cI cJ cZ adK adV _ w hw) qw294 qw291 qw292 qw293 qw8 hd_J0_isLatin1_aae02 (vk_recv hK.2.2.2.1 hw hS) rfl rfl ⟨Nat.le_of_ble_eq_true rfl, Nat.le_of_ble_eq_true rfl⟩ rfl hl.1 [] rfl (Nat.le_of_ble_eq_true rfl) ⟨Nat.zero_le _, Nat.zero_le _⟩ dJ0_charAt_5068e_1 (fun H locs hP hD hS => ?_)
  refine lv_if_eq (pc := 4) (tgt := 16) hx hb dJ0_charAt_5068e_4 (by decide) (fun c1 => absurd c1 (by decide)) (fun _ => ?_)
  refine lv_aload_n (pc := 7) hx hb dJ0_charAt_5068e_7 rfl (lv_at hl 0 rfl) ?_
  refine vk_getf (pc := 8) hx hb (hK.2.2.2.1.1 w hw).2.2.1 hS hown (hts _ (List.mem_cons_of_mem _ qw1083)) (fun _ h9 => h9) dJ0_charAt_5068e_8 ?_
  refine lv_iload_n (pc := 11) hx hb dJ0_charAt_5068e_11 rfl (lv_at hl 1 rfl) ?_
  refine callSI (pc := 12) (As := [.ref (adV w), .int x1]) (wc := []) (wr := []) (w1 := []) hx hb hml hts hown hK hA hP hD hS [] [] [] [] rfl rfl rfl rfl (by decide) rfl rfl (C_J1_charAt_3b067 l D cI cJ cZ adK adV _ w hw x1 hi) qw297 qw295 qw296 qw9 hd_J1_charAt_3b067 rfl rfl ⟨Nat.le_of_ble_eq_true rfl, Nat.le_of_ble_eq_true rfl⟩ rfl hl.1 [] rfl (Nat.le_of_ble_eq_true rfl) ⟨Nat.zero_le _, Nat.zero_le _⟩ dJ0_charAt_5068e_12 (fun H locs hP hD hS => ?_)
  exact retZ (pc := 15) hx hb hr hlocks hP hD hS (pk_nc _) dJ0_charAt_5068e_15
theorem ss36 {A0 A1 A2 A3 A4 A5 A6 A7 A8 A9 A10 A11 A12 A13 A14 A15 A16 A17 A18 A19 A20 A21 A22 A23 A24 A25 A26 A27 A28 A29 A30 A31 A32 A33 A34 A35 : Type} {a0 b0 : A0} {a1 b1 : A1} {a2 b2 : A2} {a3 b3 : A3} {a4 b4 : A4} {a5 b5 : A5} {a6 b6 : A6} {a7 b7 : A7} {a8 b8 : A8} {a9 b9 : A9} {a10 b10 : A10} {a11 b11 : A11} {a12 b12 : A12} {a13 b13 : A13} {a14 b14 : A14} {a15 b15 : A15} {a16 b16 : A16} {a17 b17 : A17} {a18 b18 : A18} {a19 b19 : A19} {a20 b20 : A20} {a21 b21 : A21} {a22 b22 : A22} {a23 b23 : A23} {a24 b24 : A24} {a25 b25 : A25} {a26 b26 : A26} {a27 b27 : A27} {a28 b28 : A28} {a29 b29 : A29} {a30 b30 : A30} {a31 b31 : A31} {a32 b32 : A32} {a33 b33 : A33} {a34 b34 : A34} {a35 b35 : A35} (h : some (a0, a1, a2, a3, a4, a5, a6, a7, a8, a9, a10, a11, a12, a13, a14, a15, a16, a17, a18, a19, a20, a21, a22, a23, a24, a25, a26, a27, a28, a29, a30, a31, a32, a33, a34, a35) = some (b0, b1, b2, b3, b4, b5, b6, b7, b8, b9, b10, b11, b12, b13, b14, b15, b16, b17, b18, b19, b20, b21, b22, b23, b24, b25, b26, b27, b28, b29, b30, b31, b32, b33, b34, b35)) : a0 = b0 ∧ a1 = b1 ∧ a2 = b2 ∧ a3 = b3 ∧ a4 = b4 ∧ a5 = b5 ∧ a6 = b6 ∧ a7 = b7 ∧ a8 = b8 ∧ a9 = b9 ∧ a10 = b10 ∧ a11 = b11 ∧ a12 = b12 ∧ a13 = b13 ∧ a14 = b14 ∧ a15 = b15 ∧ a16 = b16 ∧ a17 = b17 ∧ a18 = b18 ∧ a19 = b19 ∧ a20 = b20 ∧ a21 = b21 ∧ a22 = b22 ∧ a23 = b23 ∧ a24 = b24 ∧ a25 = b25 ∧ a26 = b26 ∧ a27 = b27 ∧ a28 = b28 ∧ a29 = b29 ∧ a30 = b30 ∧ a31 = b31 ∧ a32 = b32 ∧ a33 = b33 ∧ a34 = b34 ∧ a35 = b35 := by cases h; exact ⟨rfl, rfl, rfl, rfl, rfl, rfl, rfl, rfl, rfl, rfl, rfl, rfl, rfl, rfl, rfl, rfl, rfl, rfl, rfl, rfl, rfl, rfl, rfl, rfl, rfl, rfl, rfl, rfl, rfl, rfl, rfl, rfl, rfl, rfl, rfl, rfl⟩
