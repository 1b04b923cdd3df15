abbrev jn_isLatin1 : MethodName := ⟨"java/lang/String", "isLatin1", "()Z"⟩
theorem jd_isLatin1_0 : decode prog_17_method_154_code 0 = .ok (.getstatic 38, 3) := by decide +kernel
theorem jd_isLatin1_3 : decode prog_17_method_154_code 3 = .ok (.ifCond .eq 14, 3) := by decide +kernel
theorem jd_isLatin1_6 : decode prog_17_method_154_code 6 = .ok (.aload_n 0, 1) := by decide +kernel
theorem jd_isLatin1_7 : decode prog_17_method_154_code 7 = .ok (.getfield 15, 3) := by decide +kernel
theorem jd_isLatin1_10 : decode prog_17_method_154_code 10 = .ok (.ifCond .ne 7, 3) := by decide +kernel
theorem jd_isLatin1_13 : decode prog_17_method_154_code 13 = .ok (.iconst 1, 1) := by decide +kernel
theorem jd_isLatin1_14 : decode prog_17_method_154_code 14 = .ok (.goto 4, 3) := by decide +kernel
theorem jd_isLatin1_17 : decode prog_17_method_154_code 17 = .ok (.iconst 0, 1) := by decide +kernel
theorem jd_isLatin1_18 : decode prog_17_method_154_code 18 = .ok (.ireturn, 1) := by decide +kernel
abbrev jn_coder : MethodName := ⟨"java/lang/String", "coder", "()B"⟩
theorem jd_coder_0 : decode prog_17_method_152_code 0 = .ok (.getstatic 38, 3) := by decide +kernel
theorem jd_coder_3 : decode prog_17_method_152_code 3 = .ok (.ifCond .eq 10, 3) := by decide +kernel
theorem jd_coder_6 : decode prog_17_method_152_code 6 = .ok (.aload_n 0, 1) := by decide +kernel
theorem jd_coder_7 : decode prog_17_method_152_code 7 = .ok (.getfield 15, 3) := by decide +kernel
theorem jd_coder_10 : decode prog_17_method_152_code 10 = .ok (.goto 4, 3) := by decide +kernel
theorem jd_coder_13 : decode prog_17_method_152_code 13 = .ok (.iconst 1, 1) := by decide +kernel
theorem jd_coder_14 : decode prog_17_method_152_code 14 = .ok (.ireturn, 1) := by decide +kernel
abbrev jn_length : MethodName := ⟨"java/lang/String", "length", "()I"⟩
theorem jd_length_0 : decode prog_17_method_54_code 0 = .ok (.aload_n 0, 1) := by decide +kernel
theorem jd_length_1 : decode prog_17_method_54_code 1 = .ok (.getfield 9, 3) := by decide +kernel
theorem jd_length_4 : decode prog_17_method_54_code 4 = .ok (.arraylength, 1) := by decide +kernel
theorem jd_length_5 : decode prog_17_method_54_code 5 = .ok (.aload_n 0, 1) := by decide +kernel
theorem jd_length_6 : decode prog_17_method_54_code 6 = .ok (.invokevirtual 335, 3) := by decide +kernel
theorem jd_length_9 : decode prog_17_method_54_code 9 = .ok (.ishr, 1) := by decide +kernel
theorem jd_length_10 : decode prog_17_method_54_code 10 = .ok (.ireturn, 1) := by decide +kernel
abbrev jn_charAt : MethodName := ⟨"java/lang/String", "charAt", "(I)C"⟩
theorem jd_charAt_0 : decode prog_17_method_56_code 0 = .ok (.aload_n 0, 1) := by decide +kernel
theorem jd_charAt_1 : decode prog_17_method_56_code 1 = .ok (.invokevirtual 492, 3) := by decide +kernel
theorem jd_charAt_4 : decode prog_17_method_56_code 4 = .ok (.ifCond .eq 12, 3) := by decide +kernel
theorem jd_charAt_7 : decode prog_17_method_56_code 7 = .ok (.aload_n 0, 1) := by decide +kernel
theorem jd_charAt_8 : decode prog_17_method_56_code 8 = .ok (.getfield 9, 3) := by decide +kernel
theorem jd_charAt_11 : decode prog_17_method_56_code 11 = .ok (.iload_n 1, 1) := by decide +kernel
theorem jd_charAt_12 : decode prog_17_method_56_code 12 = .ok (.invokestatic 495, 3) := by decide +kernel
theorem jd_charAt_15 : decode prog_17_method_56_code 15 = .ok (.ireturn, 1) := by decide +kernel
abbrev jn_lat : MethodName := ⟨"java/lang/StringLatin1", "charAt", "([BI)C"⟩
theorem jd_lat_0 : decode prog_18_method_2_code 0 = .ok (.iload_n 1, 1) := by decide +kernel
theorem jd_lat_1 : decode prog_18_method_2_code 1 = .ok (.aload_n 0, 1) := by decide +kernel
theorem jd_lat_2 : decode prog_18_method_2_code 2 = .ok (.arraylength, 1) := by decide +kernel
theorem jd_lat_3 : decode prog_18_method_2_code 3 = .ok (.invokestatic 9, 3) := by decide +kernel
theorem jd_lat_6 : decode prog_18_method_2_code 6 = .ok (.aload_n 0, 1) := by decide +kernel
theorem jd_lat_7 : decode prog_18_method_2_code 7 = .ok (.iload_n 1, 1) := by decide +kernel
theorem jd_lat_8 : decode prog_18_method_2_code 8 = .ok (.baload, 1) := by decide +kernel
theorem jd_lat_9 : decode prog_18_method_2_code 9 = .ok (.sipush 255, 3) := by decide +kernel
theorem jd_lat_12 : decode prog_18_method_2_code 12 = .ok (.iand, 1) := by decide +kernel
theorem jd_lat_13 : decode prog_18_method_2_code 13 = .ok (.i2c, 1) := by decide +kernel
theorem jd_lat_14 : decode prog_18_method_2_code 14 = .ok (.ireturn, 1) := by decide +kernel
abbrev jn_ckI : MethodName := ⟨"java/lang/String", "checkIndex", "(II)V"⟩
theorem jd_ckI_0 : decode prog_17_method_155_code 0 = .ok (.iload_n 0, 1) := by decide +kernel
theorem jd_ckI_1 : decode prog_17_method_155_code 1 = .ok (.iload_n 1, 1) := by decide +kernel
theorem jd_ckI_2 : decode prog_17_method_155_code 2 = .ok (.getstatic 1053, 3) := by decide +kernel
theorem jd_ckI_5 : decode prog_17_method_155_code 5 = .ok (.invokestatic 1059, 3) := by decide +kernel
theorem jd_ckI_8 : decode prog_17_method_155_code 8 = .ok (.pop, 1) := by decide +kernel
theorem jd_ckI_9 : decode prog_17_method_155_code 9 = .ok (.return_, 1) := by decide +kernel
abbrev jn_pre : MethodName := ⟨"jdk/internal/util/Preconditions", "checkIndex", "(IILjava/util/function/BiFunction;)I"⟩
theorem jd_pre_0 : decode prog_21_method_11_code 0 = .ok (.iload_n 0, 1) := by decide +kernel
theorem jd_pre_1 : decode prog_21_method_11_code 1 = .ok (.ifCond .lt 8, 3) := by decide +kernel
theorem jd_pre_4 : decode prog_21_method_11_code 4 = .ok (.iload_n 0, 1) := by decide +kernel
theorem jd_pre_5 : decode prog_21_method_11_code 5 = .ok (.iload_n 1, 1) := by decide +kernel
theorem jd_pre_6 : decode prog_21_method_11_code 6 = .ok (.if_icmp .lt 10, 3) := by decide +kernel
theorem jd_pre_16 : decode prog_21_method_11_code 16 = .ok (.iload_n 0, 1) := by decide +kernel
theorem jd_pre_17 : decode prog_21_method_11_code 17 = .ok (.ireturn, 1) := by decide +kernel
/-- what these methods find: the tables, the text and its bytes -/
def js_B (G : tp_G) (adv : Nat) (U : State) : Prop := tp_K G U U.heap ∧ va_T .byte adv 126 (fun j => .int (tp_wb.getD j 0)) (tp_A G) U U.heap ∧ va_OF "java/lang/String" "value" "[B" (.ref adv) (tp_Gs G 8) (tp_A G) U U.heap
def js_rm (dd : Nat) : Room := { frames := dd, cells := 0, slots := 0, locals := 39 * dd }
def js_Q (Res : Option Value) : Array Value → State → Outcome → State → Prop := fun _ st o t => o = .returned Res ∧ t.heap = st.heap
def js_M (G : tp_G) (adv : Nat) (y : MethodName) (code : ByteArray) (nL : Nat) (ret : Option FieldType) (dd : Nat) (as : List Value) (Res : Option Value) : Prop :=
  Met (tp_Gl G) y (Cond.code y code nL ret :: tp_big) (js_rm dd) (va_Pc as (js_B G adv)) (js_Q Res) 0 0 (fun _ => False)
theorem js_blind {G : tp_G} {adv : Nat} {as : List Value} : FrameBlind (va_Pc as (js_B G adv)) := by
  intro a U g mk h
  obtain ⟨h1, h2, h3, h4⟩ := h
  exact ⟨h1, tp_K_same (u := U) rfl h2, va_T.moved (u := U) (Vm.Alike.refl _) h3, va_OF.moved (u := U) (Vm.Alike.refl _) h4⟩
theorem js_warm {G : tp_G} {adv : Nat} {s U : State} (hW : s.WarmedH U.vm) (hh : U.heap = s.heap) (h : js_B G adv s) : js_B G adv U := by
  obtain ⟨h2, h3, h4⟩ := h
  refine ⟨tp_K_warm hW (fun a _ _ => by rw [hh]) h2, ?_, ?_⟩
  · rw [hh]; exact va_T.moved hW.alike h3
  · rw [hh]; exact va_OF.moved hW.alike h4
def js_W (G : tp_G) (adv : Nat) (y : MethodName) (code : ByteArray) (nL : Nat) (ret : Option FieldType) (dd : Nat) (as : List Value) (Res : Option Value) : Prop :=
  ∀ (p : Program) (e : Env) (s : State) (m : MethodId) (below : List Frame) (meth : Method) (c : Code) (lsA : Array Slot), p.tables.exec = Jvm.exec → c.code = code → c.maxLocals = nL → meth.sig.returnType = ret → meth.locks = false → s.vm.findClass y.cls = some m.cls → (∀ w ∈ tp_big, w.before as.toArray s = true) → js_B G adv s → lv_has lsA nL (lv_args 0 as) →
    W p (tp_Gl G) e (js_rm dd) s m as.toArray below meth c s.heap [] 0 0 (MQ below (js_Q Res) as.toArray s 0 0 (fun _ => False)) (F0 m 0 lsA [])
theorem js_of {G : tp_G} {adv : Nat} {y : MethodName} {code : ByteArray} {nL : Nat} {ret : Option FieldType} {dd : Nat} {as : List Value} {Res : Option Value} (hy : plainName y.cls = true) (hn : (lg_sl as).length ≤ nL) (h : js_W G adv y code nL ret dd as Res) : js_M G adv y code nL ret dd as Res := by
  refine Met.ofW (cc := code) (maxL := nL) (ret := ret) hy rfl ?_
  intro p e s m args below meth c s₁ B hml hv
  obtain ⟨rfl, hB⟩ := hv
  have hts : ∀ w ∈ tp_big, w.before as.toArray s = true := fun w hw => atoms_spec (ws := Cond.code y code nL ret :: tp_big) B.pre w (List.mem_cons_of_mem _ hw)
  have hown : s.vm.findClass y.cls = some m.cls := findClass_of_methodNamed B.named
  have hl := lv_entry as (n := nL) hn
  rw [lg_entry_eq]
  generalize (lg_sl as ++ List.replicate (nL - (lg_sl as).length) Slot.unset).toArray = lsA at hl ⊢
  exact h p e s m below meth c lsA B.exec B.bytes hml B.returns B.notSynchronized hown hts hB hl
theorem js_after {p : Program} {l : Launch} {e : Env} {R : Room} {s : State} {m : MethodId} {args : Array Value} {below : List Frame} {meth : Method} {c : Code} {H : Heap} {locs : List Loc} {cells slots pc : Nat} {lsA : Array Slot} {st0 rest : List Value} {Res : Option Value} {av : Array Value} {Q : State → Prop}
    (hr : va_Run p l e R s m args below meth c H locs cells slots 0 0 (F0 m pc lsA st0) rest (js_Q Res av) (fun _ => False)) (k : W p l e R s m args below meth c H locs cells slots Q (F0 m (pc + 3) lsA (Res.toList ++ rest))) : W p l e R s m args below meth c H locs cells slots Q (F0 m pc lsA st0) := by
  intro T hT X
  obtain ⟨v, st₀, t, T', L, h0, X', hL, e1, e2, ⟨hv, hh⟩, stp⟩ := hr T hT X
  have hv2 : v = Res := by injection hv
  subst hv2
  have hL0 : L = [] := by
    cases L with
    | nil => rfl
    | cons q L => exact (hL q List.mem_cons_self).elim
  subst hL0
  rw [List.append_nil, Nat.add_zero, Nat.add_zero] at X'
  obtain ⟨t2, a1, b1⟩ := k T' (by rw [e1, hh, h0]) X'
  exact ⟨t2, stp t2 a1, b1⟩
theorem js_gws {y : MethodName} {code : ByteArray} {nL : Nat} {ret : Option FieldType} (h : Cond.code y code nL ret ∈ tp_big) : GoodIn tp_big (Cond.code y code nL ret :: tp_big) := fun w hw => by
  rcases List.mem_cons.mp hw with rfl | h1
  · exact tp_goodIn _ h
  · exact tp_goodIn w h1
/-- a call of a method of the text -/
theorem js_V {G : tp_G} {adv : Nat} {p : Program} {e : Env} {R : Room} {s : State} {m : MethodId} {args : Array Value} {below : List Frame} {meth : Method} {c : Code} {H : Heap} {locs : List Loc} {cells slots pc index : Nat} {lsA : Array Slot} {As rest : List Value} {Res : Option Value} {Q : State → Prop} {own : String} {y : MethodName} {code cc : ByteArray} {nL nC dd : Nat} {ret : Option FieldType}
    (hM : js_M G adv y code nL ret dd (.ref (tp_Gs G 8) :: As) Res) (hx : p.tables.exec = Jvm.exec) (hb : c.code = cc) (hml : c.maxLocals = nC) (hown : s.vm.findClass own = some m.cls) (hts : ∀ w ∈ tp_big, w.before args s = true) (hB : js_B G adv s) (hH : va_S (tp_A G) s.heap H locs) (hpre : ∀ U : State, U.heap = H → s.WarmedH U.vm → js_B G adv U) (hlk : Cond.methodLink own index y ∈ tp_big) (hin : Cond.instanceMethod y ∈ tp_big) (hse : Cond.selects y.cls y y ∈ tp_big) (hini : Cond.initialized y.cls ∈ tp_big) (hco : Cond.code y code nL ret ∈ tp_big) (hyc : y.cls = "java/lang/String") (hd : (parseMethodDescriptor y.desc).map (fun d => d.parameters.length) = some As.length)
    (hR : dd + 1 ≤ R.frames ∧ 8 + (nL + 11) + 39 * dd ≤ R.locals) (hC : cells ≤ R.cells ∧ slots ≤ R.slots) (hls : lsA.size = nC) (hw : (rest.map fun v => v.category).sum ≤ 8) (hdg : decode cc pc = .ok (.invokevirtual index, 3)) (k : W p (tp_Gl G) e R s m args below meth c H locs cells slots Q (F0 m (pc + 3) lsA (Res.toList ++ rest))) : W p (tp_Gl G) e R s m args below meth c H locs cells slots Q (F0 m pc lsA (As.reverse ++ .ref (tp_Gs G 8) :: rest)) := by
  obtain ⟨aV, hS8⟩ := hB.1.2.2.2.2.2.2.2.1
  have hrc := vk_recv hS8 (i := 0) (by decide) hH
  rw [← hyc] at hrc
  refine js_after (av := (Value.ref (tp_Gs G 8) :: As).toArray) (rest := rest) ?_ k
  exact va_runV (n := As.length) ⟨hx, hb, hml, hown, hts⟩ hM (cwV As.length hts (goodIn_app0 hlk hin hse hini (js_gws hco)) rfl rfl rfl ⟨rfl, by rw [hyc]; decide, by rw [hyc]; decide, hd⟩ hR) ⟨js_blind, hrc, fun U h1 h2 => ⟨rfl, hpre U h1 h2⟩⟩ rfl rfl hls rfl (lv_room hw) hdg hC
/-- a call of a static one -/
theorem js_S {G : tp_G} {adv : Nat} {p : Program} {e : Env} {R : Room} {s : State} {m : MethodId} {args : Array Value} {below : List Frame} {meth : Method} {c : Code} {H : Heap} {locs : List Loc} {cells slots pc index : Nat} {lsA : Array Slot} {As rest : List Value} {Res : Option Value} {Q : State → Prop} {own : String} {y : MethodName} {code cc : ByteArray} {nL nC dd : Nat} {ret : Option FieldType}
    (hM : js_M G adv y code nL ret dd As Res) (hx : p.tables.exec = Jvm.exec) (hb : c.code = cc) (hml : c.maxLocals = nC) (hown : s.vm.findClass own = some m.cls) (hts : ∀ w ∈ tp_big, w.before args s = true) (hpre : ∀ U : State, U.heap = H → s.WarmedH U.vm → js_B G adv U) (hlk : Cond.methodLink own index y ∈ tp_big) (hst : Cond.static y ∈ tp_big) (hini : Cond.initialized y.cls ∈ tp_big) (hco : Cond.code y code nL ret ∈ tp_big) (hyn : y.cls ≠ "java/lang/invoke/MethodHandle" ∧ y.cls ≠ "java/lang/invoke/VarHandle" ∧ (parseMethodDescriptor y.desc).map (fun d => d.parameters.length) = some As.length)
    (hR : dd + 1 ≤ R.frames ∧ 8 + (nL + 11) + 39 * dd ≤ R.locals) (hC : cells ≤ R.cells ∧ slots ≤ R.slots) (hls : lsA.size = nC) (hw : (rest.map fun v => v.category).sum ≤ 8) (hdg : decode cc pc = .ok (.invokestatic index, 3)) {st0 : List Value} (hst0 : st0 = As.reverse ++ rest) (k : W p (tp_Gl G) e R s m args below meth c H locs cells slots Q (F0 m (pc + 3) lsA (Res.toList ++ rest))) : W p (tp_Gl G) e R s m args below meth c H locs cells slots Q (F0 m pc lsA st0) := by
  refine js_after (av := As.toArray) (rest := rest) ?_ k
  exact va_runS (n := As.length) ⟨hx, hb, hml, hown, hts⟩ hM (va_cwS As.length hts (goodIn_app1 hlk hst hini (js_gws hco)) rfl rfl rfl hyn hR) ⟨js_blind, fun U h1 h2 => ⟨rfl, hpre U h1 h2⟩⟩ rfl rfl hls hst0 (lv_room hw) hdg hC
set_option maxHeartbeats 4000000 in
set_option maxRecDepth 100000 in
theorem js_isLatin1 {G : tp_G} {adv : Nat} : js_M G adv jn_isLatin1 prog_17_method_154_code 1 (some .boolean) 1 [.ref (tp_Gs G 8)] (some (.int 1)) := by
  refine js_of (by decide) (by exact Nat.le_refl 1) ?_
  intro p e s m below meth c lsA hx hb hml hret hlk hown hts hB hl
  have hS : va_S (tp_A G) s.heap s.heap [] := va_S.rf
  have hpre : ∀ U : State, U.heap = s.heap → s.WarmedH U.vm → js_B G adv U := fun U h1 h2 => js_warm h2 h1 hB
  obtain ⟨hK, hV, hF⟩ := id hB
  obtain ⟨aV, hS8⟩ := hK.2.2.2.2.2.2.2.1
  have hZ := hK.2.2.2.2.2.2.2.2.1
  have hZq := hK.2.2.2.2.2.2.2.2.2
  have hcod := (hS8.1 0 (by decide)).2.1
  refine va_gets (own := "java/lang/String") hx hb hZ hS hown (hts _ (tp_in 665 (by decide +kernel) rfl)) (fun x h => h) jd_isLatin1_0 ?_
  refine lv_if_eq (tgt := 17) hx hb jd_isLatin1_3 (by decide) (fun h => absurd h (by decide)) (fun _ => ?_)
  refine lv_aload_n hx hb jd_isLatin1_6 rfl (lv_at hl 0 rfl) ?_
  refine vk_getf (own := "java/lang/String") hx hb hcod hS hown (hts _ (tp_in 2004 (by decide +kernel) rfl)) (fun x h => h) jd_isLatin1_7 ?_
  refine lv_if_ne (tgt := 17) hx hb jd_isLatin1_10 (by decide) (fun h => absurd rfl h) (fun _ => ?_)
  refine lv_iconst (v := 1) hx hb jd_isLatin1_13 rfl ?_
  refine lv_goto (tgt := 18) hx hb jd_isLatin1_14 (by decide) ?_
  exact W.zret (v := 1) (ty := .boolean) hx hb hret rfl (fun t ht hW => ⟨rfl, ht⟩) (fun q hq => by cases hq) jd_isLatin1_18 hlk

set_option maxHeartbeats 4000000 in
set_option maxRecDepth 100000 in
theorem js_coder {G : tp_G} {adv : Nat} : js_M G adv jn_coder prog_17_method_152_code 1 (some .byte) 1 [.ref (tp_Gs G 8)] (some (.int 0)) := by
  refine js_of (by decide) (by exact Nat.le_refl 1) ?_
  intro p e s m below meth c lsA hx hb hml hret hlk hown hts hB hl
  have hS : va_S (tp_A G) s.heap s.heap [] := va_S.rf
  have hpre : ∀ U : State, U.heap = s.heap → s.WarmedH U.vm → js_B G adv U := fun U h1 h2 => js_warm h2 h1 hB
  obtain ⟨hK, hV, hF⟩ := id hB
  obtain ⟨aV, hS8⟩ := hK.2.2.2.2.2.2.2.1
  have hZ := hK.2.2.2.2.2.2.2.2.1
  have hZq := hK.2.2.2.2.2.2.2.2.2
  have hcod := (hS8.1 0 (by decide)).2.1
  refine va_gets (own := "java/lang/String") hx hb hZ hS hown (hts _ (tp_in 665 (by decide +kernel) rfl)) (fun x h => h) jd_coder_0 ?_
  refine lv_if_eq (tgt := 13) hx hb jd_coder_3 (by decide) (fun h => absurd h (by decide)) (fun _ => ?_)
  refine lv_aload_n hx hb jd_coder_6 rfl (lv_at hl 0 rfl) ?_
  refine vk_getf (own := "java/lang/String") hx hb hcod hS hown (hts _ (tp_in 2004 (by decide +kernel) rfl)) (fun x h => h) jd_coder_7 ?_
  refine lv_goto (tgt := 14) hx hb jd_coder_10 (by decide) ?_
  exact W.zret (v := 0) (ty := .byte) hx hb hret rfl (fun t ht hW => ⟨rfl, ht⟩) (fun q hq => by cases hq) jd_coder_14 hlk

set_option maxHeartbeats 4000000 in
set_option maxRecDepth 100000 in
theorem js_length {G : tp_G} {adv : Nat} : js_M G adv jn_length prog_17_method_54_code 1 (some .int) 2 [.ref (tp_Gs G 8)] (some (.int 126)) := by
  refine js_of (by decide) (by exact Nat.le_refl 1) ?_
  intro p e s m below meth c lsA hx hb hml hret hlk hown hts hB hl
  have hS : va_S (tp_A G) s.heap s.heap [] := va_S.rf
  have hpre : ∀ U : State, U.heap = s.heap → s.WarmedH U.vm → js_B G adv U := fun U h1 h2 => js_warm h2 h1 hB
  obtain ⟨hK, hV, hF⟩ := id hB
  obtain ⟨aV, hS8⟩ := hK.2.2.2.2.2.2.2.1
  have hZ := hK.2.2.2.2.2.2.2.2.1
  have hZq := hK.2.2.2.2.2.2.2.2.2
  have hcod := (hS8.1 0 (by decide)).2.1
  refine lv_aload_n hx hb jd_length_0 rfl (lv_at hl 0 rfl) ?_
  refine vk_getf (own := "java/lang/String") hx hb hF hS hown (hts _ (tp_in 2003 (by decide +kernel) rfl)) (fun x h => h) jd_length_1 ?_
  refine va_tlen (v := 126) hx hb hV hS rfl jd_length_4 ?_
  refine lv_aload_n hx hb jd_length_5 rfl (lv_at hl 0 rfl) ?_
  refine js_V (As := []) (rest := [.int 126]) js_coder hx hb hml hown hts hB hS hpre (tp_in 661 (by decide +kernel) rfl) (tp_in 662 (by decide +kernel) rfl) (tp_in 663 (by decide +kernel) rfl) (tp_in 150 (by decide +kernel) rfl) (tp_in 664 (by decide +kernel) rfl) rfl (by decide) ⟨by decide, by decide⟩ ⟨by decide, by decide⟩ hl.1 (by decide) jd_length_6 ?_
  refine lv_ishr hx hb jd_length_9 ?_
  exact W.iret (v := 126) hx hb hret (fun t ht hW => ⟨rfl, ht⟩) (fun q hq => by cases hq) jd_length_10 hlk

set_option maxHeartbeats 4000000 in
set_option maxRecDepth 100000 in
theorem js_pre {G : tp_G} {adv : Nat} {a : Int} (h0 : 0 ≤ a) (h1 : a < 126) {v9 : Value} (hv9 : v9 = .null ∨ ∃ t, v9 = .ref t) : js_M G adv jn_pre prog_21_method_11_code 3 (some .int) 1 [.int (Int32.ofInt a), .int (Int32.ofInt 126), v9] (some (.int (Int32.ofInt a))) := by
  refine js_of (by decide) (by rcases hv9 with rfl | ⟨t, rfl⟩ <;> exact Nat.le_refl 3) ?_
  intro p e s m below meth c lsA hx hb hml hret hlk hown hts hB hl
  have ra : tp_r32 a := ⟨by omega, by omega⟩
  have r6 : tp_r32 126 := ⟨by decide, by decide⟩
  have e0 : lsA[0]? = some (.val (.int (Int32.ofInt a))) := lv_at hl 0 rfl
  have e1 : lsA[1]? = some (.val (.int (Int32.ofInt 126))) := by rcases hv9 with rfl | ⟨t, rfl⟩ <;> exact lv_at hl 1 rfl
  refine lv_iload_n hx hb jd_pre_0 rfl e0 ?_
  refine lv_if_lt (tgt := 9) hx hb jd_pre_1 (by decide) (fun h => absurd ((tp_lt ra tp_r0).mp h) (by omega)) (fun _ => ?_)
  refine lv_iload_n hx hb jd_pre_4 rfl e0 ?_
  refine lv_iload_n hx hb jd_pre_5 rfl e1 ?_
  refine lv_icmp_lt (tgt := 16) hx hb jd_pre_6 (by decide) (fun _ => ?_) (fun h => absurd ((tp_lt ra r6).mpr (by omega)) h)
  refine lv_iload_n hx hb jd_pre_16 rfl e0 ?_
  exact W.iret hx hb hret (fun t ht hW => ⟨rfl, ht⟩) (fun q hq => by cases hq) jd_pre_17 hlk
set_option maxHeartbeats 4000000 in
set_option maxRecDepth 100000 in
theorem js_ckI {G : tp_G} {adv : Nat} {a : Int} (h0 : 0 ≤ a) (h1 : a < 126) : js_M G adv jn_ckI prog_17_method_155_code 2 none 2 [.int (Int32.ofInt a), .int (Int32.ofInt 126)] none := by
  refine js_of (by decide) (by exact Nat.le_refl 2) ?_
  intro p e s m below meth c lsA hx hb hml hret hlk hown hts hB hl
  have hS : va_S (tp_A G) s.heap s.heap [] := va_S.rf
  have hpre : ∀ U : State, U.heap = s.heap → s.WarmedH U.vm → js_B G adv U := fun U h1 h2 => js_warm h2 h1 hB
  obtain ⟨hK, hV, hF⟩ := id hB
  obtain ⟨aV, hS8⟩ := hK.2.2.2.2.2.2.2.1
  have hZ := hK.2.2.2.2.2.2.2.2.1
  have hZq := hK.2.2.2.2.2.2.2.2.2
  have hcod := (hS8.1 0 (by decide)).2.1
  have hz9 : ∃ v9, (v9 = .null ∨ ∃ t, v9 = .ref t) ∧ va_Z "jdk/internal/util/Preconditions" "SIOOBE_FORMATTER" "Ljava/util/function/BiFunction;" v9 (tp_A G) s s.heap := by
    rcases hZq with h | ⟨t, h⟩
    · exact ⟨.null, Or.inl rfl, h⟩
    · exact ⟨.ref t, Or.inr ⟨t, rfl⟩, h⟩
  obtain ⟨v9, hv9, hz⟩ := hz9
  refine lv_iload_n hx hb jd_ckI_0 rfl (lv_at hl 0 rfl) ?_
  refine lv_iload_n hx hb jd_ckI_1 rfl (lv_at hl 1 rfl) ?_
  refine va_gets (own := "java/lang/String") hx hb hz hS hown (hts _ (tp_in 681 (by decide +kernel) rfl)) (fun x h => h) jd_ckI_2 ?_
  refine js_S (As := [.int (Int32.ofInt a), .int (Int32.ofInt 126), v9]) (rest := []) (js_pre h0 h1 hv9) hx hb hml hown hts hpre (tp_in 683 (by decide +kernel) rfl) (tp_in 684 (by decide +kernel) rfl) (tp_in 152 (by decide +kernel) rfl) (tp_in 685 (by decide +kernel) rfl) ⟨by decide, by decide, (show _ = some 3 by decide)⟩ ⟨by decide, by decide⟩ ⟨by decide, by decide⟩ hl.1 (by decide) jd_ckI_5 rfl ?_
  refine lv_pop hx hb jd_ckI_8 rfl ?_
  exact W.vret hx hb hret (fun t ht hW => ⟨rfl, ht⟩) (fun q hq => by cases hq) jd_ckI_9 hlk
theorem js_ch0 : ∀ i : Fin 126, (((tp_wb.getD i.val 0) &&& 255).toUInt32 % 65536).toInt32 = tp_wb.getD i.val 0 ∧ narrow .char (.int (tp_wb.getD i.val 0)) = .int (tp_wb.getD i.val 0) := by decide +kernel
set_option maxHeartbeats 4000000 in
set_option maxRecDepth 100000 in
theorem js_lat {G : tp_G} {adv : Nat} {a : Int} (h0 : 0 ≤ a) (h1 : a < 126) : js_M G adv jn_lat prog_18_method_2_code 2 (some .char) 3 [.ref adv, .int (Int32.ofInt a)] (some (.int (tp_wb.getD a.toNat 0))) := by
  refine js_of (by decide) (by exact Nat.le_refl 2) ?_
  intro p e s m below meth c lsA hx hb hml hret hlk hown hts hB hl
  have hS : va_S (tp_A G) s.heap s.heap [] := va_S.rf
  have hpre : ∀ U : State, U.heap = s.heap → s.WarmedH U.vm → js_B G adv U := fun U h1 h2 => js_warm h2 h1 hB
  obtain ⟨hK, hV, hF⟩ := id hB
  obtain ⟨aV, hS8⟩ := hK.2.2.2.2.2.2.2.1
  have hZ := hK.2.2.2.2.2.2.2.2.1
  have hZq := hK.2.2.2.2.2.2.2.2.2
  have hcod := (hS8.1 0 (by decide)).2.1
  have ra : tp_r32 a := ⟨by omega, by omega⟩
  have r6 : tp_r32 126 := ⟨by decide, by decide⟩
  have hch := js_ch0 ⟨a.toNat, by omega⟩
  have hnr := hch.2
  obtain ⟨hin, hq⟩ := tp_ix (len := 126) h0 (by omega) ra
  have hq2 : (Int32.ofInt a).toNatClampNeg = a.toNat := by omega
  refine lv_iload_n hx hb jd_lat_0 rfl (lv_at hl 1 rfl) ?_
  refine lv_aload_n hx hb jd_lat_1 rfl (lv_at hl 0 rfl) ?_
  refine va_tlen (v := Int32.ofInt 126) hx hb hV hS rfl jd_lat_2 ?_
  refine js_S (As := [.int (Int32.ofInt a), .int (Int32.ofInt 126)]) (rest := []) (js_ckI h0 h1) hx hb hml hown hts hpre (tp_in 678 (by decide +kernel) rfl) (tp_in 679 (by decide +kernel) rfl) (tp_in 150 (by decide +kernel) rfl) (tp_in 680 (by decide +kernel) rfl) ⟨by decide, by decide, (show _ = some 2 by decide)⟩ ⟨by decide, by decide⟩ ⟨by decide, by decide⟩ hl.1 (by decide) jd_lat_3 rfl ?_
  refine lv_aload_n hx hb jd_lat_6 rfl (lv_at hl 0 rfl) ?_
  refine lv_iload_n hx hb jd_lat_7 rfl (lv_at hl 1 rfl) ?_
  refine va_tb hx hb hV hS hin rfl jd_lat_8 ?_
  rw [hq2]
  refine lv_sipush (v := 255) hx hb jd_lat_9 rfl ?_
  refine lv_iand hx hb jd_lat_12 ?_
  refine lv_i2c hx hb jd_lat_13 hch.1 ?_
  exact W.zret (ty := .char) hx hb hret hnr (fun t ht hW => ⟨rfl, ht⟩) (fun q hq => by cases hq) jd_lat_14 hlk
set_option maxHeartbeats 4000000 in
set_option maxRecDepth 100000 in
theorem js_charAt {G : tp_G} {adv : Nat} {a : Int} (h0 : 0 ≤ a) (h1 : a < 126) : js_M G adv jn_charAt prog_17_method_56_code 2 (some .char) 4 [.ref (tp_Gs G 8), .int (Int32.ofInt a)] (some (.int (tp_wb.getD a.toNat 0))) := by
  refine js_of (by decide) (by exact Nat.le_refl 2) ?_
  intro p e s m below meth c lsA hx hb hml hret hlk hown hts hB hl
  have hS : va_S (tp_A G) s.heap s.heap [] := va_S.rf
  have hpre : ∀ U : State, U.heap = s.heap → s.WarmedH U.vm → js_B G adv U := fun U h1 h2 => js_warm h2 h1 hB
  obtain ⟨hK, hV, hF⟩ := id hB
  obtain ⟨aV, hS8⟩ := hK.2.2.2.2.2.2.2.1
  have hZ := hK.2.2.2.2.2.2.2.2.1
  have hZq := hK.2.2.2.2.2.2.2.2.2
  have hcod := (hS8.1 0 (by decide)).2.1
  have hch := js_ch0 ⟨a.toNat, by omega⟩
  have hnr := hch.2
  refine lv_aload_n hx hb jd_charAt_0 rfl (lv_at hl 0 rfl) ?_
  refine js_V (As := []) (rest := []) js_isLatin1 hx hb hml hown hts hB hS hpre (tp_in 671 (by decide +kernel) rfl) (tp_in 672 (by decide +kernel) rfl) (tp_in 673 (by decide +kernel) rfl) (tp_in 150 (by decide +kernel) rfl) (tp_in 674 (by decide +kernel) rfl) rfl (by decide) ⟨by decide, by decide⟩ ⟨by decide, by decide⟩ hl.1 (by decide) jd_charAt_1 ?_
  refine lv_if_eq (tgt := 16) hx hb jd_charAt_4 (by decide) (fun h => absurd h (by decide)) (fun _ => ?_)
  refine lv_aload_n hx hb jd_charAt_7 rfl (lv_at hl 0 rfl) ?_
  refine vk_getf (own := "java/lang/String") hx hb hF hS hown (hts _ (tp_in 2003 (by decide +kernel) rfl)) (fun x h => h) jd_charAt_8 ?_
  refine lv_iload_n hx hb jd_charAt_11 rfl (lv_at hl 1 rfl) ?_
  refine js_S (As := [.ref adv, .int (Int32.ofInt a)]) (rest := []) (js_lat h0 h1) hx hb hml hown hts hpre (tp_in 675 (by decide +kernel) rfl) (tp_in 676 (by decide +kernel) rfl) (tp_in 151 (by decide +kernel) rfl) (tp_in 677 (by decide +kernel) rfl) ⟨by decide, by decide, (show _ = some 2 by decide)⟩ ⟨by decide, by decide⟩ ⟨by decide, by decide⟩ hl.1 (by decide) jd_charAt_12 rfl ?_
  exact W.zret (ty := .char) hx hb hret hnr (fun t ht hW => ⟨rfl, ht⟩) (fun q hq => by cases hq) jd_charAt_15 hlk
/-- the characters of the text -/
def tp_sc (a : Int) : Int := (tp_wb.getD a.toNat 0).toInt
theorem tp_Bof {G : tp_G} {U : State} (hK : tp_K G U U.heap) : ∃ adv, js_B G adv U := by
  obtain ⟨aV, hS8⟩ := hK.2.2.2.2.2.2.2.1
  have h := hS8.1 0 (by decide)
  exact ⟨aV 0, hK, h.2.2.2, h.2.2.1⟩
theorem tp_r126 : tp_r32 126 := ⟨by decide, by decide⟩
set_option maxHeartbeats 4000000 in
set_option maxRecDepth 100000 in
theorem g_slen2 {G : tp_G} {d : tp_D} {pc : Nat} {ls : List (Option tp_V)} {st : List tp_V} {μ : tp_M} {n n' bs : Nat} {Φ : Option tp_V → tp_M → Prop} {index pos : Nat} (hf : tp_at d pc = some (.invokevirtual index, 3, pos, 284, 0)) (hdep : Nat.ble 3 (tp_dd d) = true) (hw : Nat.ble (tp_rw st) 8 = true) (k : tp_go G d (pc + 3) ls (tI 126 :: st) μ n n' bs Φ) : tp_go G d pc ls (tR (some 5008) :: st) μ n n' bs Φ := by
  intro p e s m args below meth c H locs cells slots lsA mc ms Z
  have Z2 := Z
  obtain ⟨C, hS, hR, hl, hBd, hm, hs, hv⟩ := Z
  have hd := tp_dec C.1 hf
  have hts := C.2.2.2.2.2.2.2.2.1
  have hK := C.2.2.2.2.2.2.2.2.2.1
  have hlk := tp_lk0 (y := jn_length) (by exact tp_lnk C.1 hf) (by decide +kernel)
  have hdd : 3 ≤ tp_dd d := Nat.le_of_ble_eq_true hdep
  have hrw : ((st.map (tp_v G)).map fun v => v.category).sum ≤ 8 := by rw [tp_rw_eq]; exact Nat.le_of_ble_eq_true hw
  obtain ⟨adv, hB⟩ := tp_Bof hK
  have hz := k p e s m args below meth c H locs cells slots lsA mc ms ⟨C, hS, hR, hl, hBd, hm, tp_fc tp_r126 (tp_f1 hs), hv⟩
  have hr8 : tp_v G (tR (some 5008)) = .ref (tp_Gs G 8) := by
    show Value.ref (tp_ad G 5008) = _
    rw [tp_ad, if_neg (by omega)]
  rw [List.map_cons, hr8]
  refine js_V (As := []) (rest := st.map (tp_v G)) (own := (tp_dn d).cls) (js_length) C.2.1 C.2.2.1 C.2.2.2.1 C.2.2.2.2.2.2.2.1 hts hB hS (fun U h1 h2 => ?_) hlk (tp_in 658 (by decide +kernel) rfl) (tp_in 659 (by decide +kernel) rfl) (tp_in 150 (by decide +kernel) rfl) (tp_in 660 (by decide +kernel) rfl) rfl (show _ = some 0 by decide) ⟨by show 2 + 1 ≤ tp_dd d; omega, by show 8 + (1 + 11) + 39 * 2 ≤ 39 * tp_dd d; omega⟩ ⟨by show cells ≤ mc; omega, by show slots ≤ ms; omega⟩ hl.2.1 hrw hd ?_
  · have hq : ∀ a : Nat, a < s.heap.size → ¬ tp_A G a → U.heap[a]? = s.heap[a]? := fun a h3 h4 => by rw [h1]; exact hS.2.1 a h3 h4
    exact ⟨tp_K_warm h2 hq hK, (va_T.moved h2.alike hB.2.1).kept hq, (va_OF.moved h2.alike hB.2.2).kept hq⟩
  · exact hz
set_option maxHeartbeats 4000000 in
set_option maxRecDepth 100000 in
theorem g_schar {G : tp_G} {d : tp_D} {pc : Nat} {ls : List (Option tp_V)} {st : List tp_V} {μ : tp_M} {n n' bs : Nat} {Φ : Option tp_V → tp_M → Prop} {index pos : Nat} {a : Int} (h0 : 0 ≤ a) (h1 : a < 126) (hf : tp_at d pc = some (.invokevirtual index, 3, pos, 285, 0)) (hdep : Nat.ble 5 (tp_dd d) = true) (hw : Nat.ble (tp_rw st) 8 = true) (k : tp_go G d (pc + 3) ls (tI (tp_sc a) :: st) μ n n' bs Φ) : tp_go G d pc ls (tI a :: tR (some 5008) :: st) μ n n' bs Φ := by
  intro p e s m args below meth c H locs cells slots lsA mc ms Z
  have Z2 := Z
  obtain ⟨C, hS, hR, hl, hBd, hm, hs, hv⟩ := Z
  have hd := tp_dec C.1 hf
  have hts := C.2.2.2.2.2.2.2.2.1
  have hK := C.2.2.2.2.2.2.2.2.2.1
  have hlk := tp_lk0 (y := jn_charAt) (by exact tp_lnk C.1 hf) (by decide +kernel)
  have hdd : 5 ≤ tp_dd d := Nat.le_of_ble_eq_true hdep
  have hrw : ((st.map (tp_v G)).map fun v => v.category).sum ≤ 8 := by rw [tp_rw_eq]; exact Nat.le_of_ble_eq_true hw
  obtain ⟨adv, hB⟩ := tp_Bof hK
  have hz := k p e s m args below meth c H locs cells slots lsA mc ms ⟨C, hS, hR, hl, hBd, hm, tp_fc (tp_w_r _) (tp_f1 (tp_f1 hs)), hv⟩
  have hr8 : tp_v G (tR (some 5008)) = .ref (tp_Gs G 8) := by
    show Value.ref (tp_ad G 5008) = _
    rw [tp_ad, if_neg (by omega)]
  rw [List.map_cons, List.map_cons, hr8]
  refine js_V (As := [.int (Int32.ofInt a)]) (rest := st.map (tp_v G)) (own := (tp_dn d).cls) (js_charAt h0 h1) C.2.1 C.2.2.1 C.2.2.2.1 C.2.2.2.2.2.2.2.1 hts hB hS (fun U h1 h2 => ?_) hlk (tp_in 668 (by decide +kernel) rfl) (tp_in 669 (by decide +kernel) rfl) (tp_in 150 (by decide +kernel) rfl) (tp_in 670 (by decide +kernel) rfl) rfl (show _ = some 1 by decide) ⟨by show 4 + 1 ≤ tp_dd d; omega, by show 8 + (2 + 11) + 39 * 4 ≤ 39 * tp_dd d; omega⟩ ⟨by show cells ≤ mc; omega, by show slots ≤ ms; omega⟩ hl.2.1 hrw hd ?_
  · have hq : ∀ a : Nat, a < s.heap.size → ¬ tp_A G a → U.heap[a]? = s.heap[a]? := fun a h3 h4 => by rw [h1]; exact hS.2.1 a h3 h4
    exact ⟨tp_K_warm h2 hq hK, (va_T.moved h2.alike hB.2.1).kept hq, (va_OF.moved h2.alike hB.2.2).kept hq⟩
  · have e9 : tp_v G (tI (tp_sc a)) = .int (tp_wb.getD a.toNat 0) := by
      show Value.int (Int32.ofInt (tp_wb.getD a.toNat 0).toInt) = _
      rw [Int32.ofInt_toInt]
    rw [List.map_cons, e9] at hz
    exact hz
set_option maxHeartbeats 4000000 in
set_option maxRecDepth 100000 in
theorem g_ldcs {G : tp_G} {d : tp_D} {pc : Nat} {ls : List (Option tp_V)} {st : List tp_V} {μ : tp_M} {n n' bs : Nat} {Φ : Option tp_V → tp_M → Prop} {pos a : Nat} (hf : tp_at d pc = some (.ldc 131, 2, pos, a, 1)) (k : tp_go G d (pc + 2) ls (tR (some 5008) :: st) μ n n' bs Φ) : tp_go G d pc ls st μ n n' bs Φ := by
  intro p e s m args below meth c H locs cells slots lsA mc ms Z
  obtain ⟨C, hS, hR, hl, hBd, hm, hs, hv⟩ := Z
  have hd := tp_dec C.1 hf
  have hK := C.2.2.2.2.2.2.2.2.2.1
  have h1 := tp_lnk C.1 hf
  have h2 : (tp_dn d).cls = "TracePackets$Reader" := by
    simp only [tp_entlink, if_true, decide_eq_true_eq] at h1
    exact h1.1
  have hown := C.2.2.2.2.2.2.2.1
  rw [h2] at hown
  have hz := k p e s m args below meth c H locs cells slots lsA mc ms ⟨C, hS, hR, hl, hBd, hm, tp_fc trivial hs, hv⟩
  have hr8 : tp_v G (tR (some 5008)) = .ref (tp_Gs G 8) := by
    show Value.ref (tp_ad G 5008) = _
    rw [tp_ad, if_neg (by omega)]
  rw [List.map_cons, hr8] at hz
  exact va_ldcS C.2.1 C.2.2.1 hown hK.2.2.2.2.2.2.1 hd hz
