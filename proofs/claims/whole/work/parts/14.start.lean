/-! THE CLAIM OUT OF ONE WALK OF THE LAW'S BODY. Your part is whole_start (and what it stands on); all else here is the same for every law, but numbers. -/
def R_law : String := "TracePacketsLaw"
def lw_P (b : Addr) (xs : List Int32) (args : Array Value) (s : State) : Prop := args = #[.ref b] ∧ s.IntsAt b xs ∧ xs.length ≤ 3072 ∧ (Jvm.Cond.and given_1 narrow_1).before args s = true
def lw_Q (_ : Array Value) (s : State) (o : Outcome) (t : State) : Prop := o = .returned (some (.int 1)) ∧ Framed s o t [] 600000 7302250
def lw_Z (below : List Frame) (a : Array Value) (s : State) : State → Prop := fun t => ∃ o, t.status = .running ∧ Ended t below o ∧ lw_Q a s o t
/-- the law's own end, with 1 on the stack, nothing written that was there before, its room as the claim has it -/
theorem lw_ret {p : Program} {l : Launch} {e : Env} {s : State} {m : MethodId} {below : List Frame} {meth : Method} {c : Code} {b : Nat} (hx : p.tables.exec = Jvm.exec) (hb : c.code = code) (hr : meth.sig.returnType = ret) (hlocks : meth.locks = false) {pc : Nat} {H : Heap} {ls : Array Slot} (hdg : decode code pc = .ok (.ireturn, 1)) : W p l e room_1 s m #[Value.ref b] below meth c H [] 600000 7302250 (lw_Z below #[Value.ref b] s) (F0 m pc ls [.int 1]) := by
  intro T hT X
  obtain ⟨fs, hret, hrun, hended, hW, hframe⟩ := X.leave (v := some (.int 1)) (hlocks := hlocks) (fun h => by rw [hr] at h; cases h)
  have hmeth' : T.vm.method? m = some meth := X.method'
  refine ⟨T.setFrames fs, ?_, .returned (some (.int 1)), hrun, hended, rfl, ⟨_, rfl⟩, hW, hframe⟩
  jvm_step X.here [X.here.top, hx, hb, hdg, hmeth', hr, ret, narrow_b1]
  (try refine ⟨rfl, ?_⟩); (try refine ⟨rfl, ?_⟩)
  first | (intro acts; rw [hret _ acts rfl rfl rfl]) | rw [hret _ _ rfl rfl rfl]
  exact Steps.refl _
/-- what holds at the law's entry: the machine, the code, the tables' words (any of lw_tbl by 'hts w (by decide +kernel)'), the script of L ints xs at the cell b, what the Statement gives of the start (any of its parts by flat_of_before) -/
def lw_At (p : Program) (s : State) (m : MethodId) (meth : Method) (c : Code) (b L : Nat) (xs : Nat → Int32) : Prop :=
  p.tables.exec = Jvm.exec ∧ c.code = code ∧ meth.sig.returnType = ret ∧ c.maxLocals = 4 ∧ s.vm.findClass R_law = some m.cls ∧ (∀ w ∈ lw_tbl, w.before #[Value.ref b] s = true) ∧ va_X b L xs s s.heap ∧ b < s.heap.size ∧ meth.locks = false ∧ (Jvm.Cond.and given_1 narrow_1).before #[Value.ref b] s = true
/-! from the law's entry to tp_K -/
theorem tp_nest_in : tp_nl.map (fun q => some (Cond.methodLinkNest q.1 q.2.1 q.2.2 "TracePackets")) = [174, 251, 256, 302, 359, 365, 391, 456, 461, 498, 519, 889, 945].map (fun i => lw_tbl[i]?) := by decide +kernel
theorem tp_ao_in : tp_ao.map (fun C => some (Cond.arrayOver (.object C))) = [170, 172, 248].map (fun i => lw_tbl[i]?) := by decide +kernel
theorem tp_inL {α : Type} {f : α → Cond} {xs : List α} {ps : List Nat} (h : xs.map (fun x => some (f x)) = ps.map (fun i => lw_tbl[i]?)) : ∀ x ∈ xs, f x ∈ lw_tbl := by
  intro x hx
  have h1 : some (f x) ∈ xs.map (fun x => some (f x)) := List.mem_map.mpr ⟨x, hx, rfl⟩
  rw [h] at h1
  obtain ⟨i, -, hi⟩ := List.mem_map.mp h1
  exact List.mem_of_getElem? hi
def tp_stT (i : Nat) : Term := .static (tp_stn i).1 (tp_stn i).2 "[I"
def tp_fl1 : List Cond := flatC (Jvm.Cond.and given_1 narrow_1)
set_option maxRecDepth 100000 in
theorem tp_s0_a : tp_fl1[5]? = some (Cond.arrayOf (tp_stT 0) .int) ∧ tp_fl1[6]? = some (Cond.eq (.length (tp_stT 0)) (.int (Int32.ofNat 4))) := by decide +kernel
set_option maxRecDepth 100000 in
theorem tp_s0_e : ∀ j, j < 4 → tp_fl1[([7, 8, 9, 10] : List Nat).getD j 0]? = some (Cond.eq (.elem (tp_stT 0) (.int (Int32.ofNat j))) (.int (Int32.ofInt (((tp_stl.getD 0 ("", "", [])).2.2).getD j 0)))) := by decide +kernel
theorem tp_s0_z : Cond.laysStatic (tp_stn 0).1 (tp_stn 0).2 "[I" ∈ lw_tbl ∧ Cond.initialized (tp_stn 0).1 ∈ lw_tbl := ⟨List.mem_of_getElem? (i := 199) (by decide +kernel), List.mem_of_getElem? (i := 136) (by decide +kernel)⟩
set_option maxRecDepth 100000 in
theorem tp_s1_a : tp_fl1[12]? = some (Cond.arrayOf (tp_stT 1) .int) ∧ tp_fl1[13]? = some (Cond.eq (.length (tp_stT 1)) (.int (Int32.ofNat 8))) := by decide +kernel
set_option maxRecDepth 100000 in
theorem tp_s1_e : ∀ j, j < 8 → tp_fl1[([14, 15, 16, 17, 18, 19, 20, 21] : List Nat).getD j 0]? = some (Cond.eq (.elem (tp_stT 1) (.int (Int32.ofNat j))) (.int (Int32.ofInt (((tp_stl.getD 1 ("", "", [])).2.2).getD j 0)))) := by decide +kernel
theorem tp_s1_z : Cond.laysStatic (tp_stn 1).1 (tp_stn 1).2 "[I" ∈ lw_tbl ∧ Cond.initialized (tp_stn 1).1 ∈ lw_tbl := ⟨List.mem_of_getElem? (i := 605) (by decide +kernel), List.mem_of_getElem? (i := 137) (by decide +kernel)⟩
set_option maxRecDepth 100000 in
theorem tp_s2_a : tp_fl1[23]? = some (Cond.arrayOf (tp_stT 2) .int) ∧ tp_fl1[24]? = some (Cond.eq (.length (tp_stT 2)) (.int (Int32.ofNat 5))) := by decide +kernel
set_option maxRecDepth 100000 in
theorem tp_s2_e : ∀ j, j < 5 → tp_fl1[([25, 26, 27, 28, 29] : List Nat).getD j 0]? = some (Cond.eq (.elem (tp_stT 2) (.int (Int32.ofNat j))) (.int (Int32.ofInt (((tp_stl.getD 2 ("", "", [])).2.2).getD j 0)))) := by decide +kernel
theorem tp_s2_z : Cond.laysStatic (tp_stn 2).1 (tp_stn 2).2 "[I" ∈ lw_tbl ∧ Cond.initialized (tp_stn 2).1 ∈ lw_tbl := ⟨List.mem_of_getElem? (i := 651) (by decide +kernel), List.mem_of_getElem? (i := 140) (by decide +kernel)⟩
set_option maxRecDepth 100000 in
theorem tp_s3_a : tp_fl1[43]? = some (Cond.arrayOf (tp_stT 3) .int) ∧ tp_fl1[44]? = some (Cond.eq (.length (tp_stT 3)) (.int (Int32.ofNat 21))) := by decide +kernel
set_option maxRecDepth 100000 in
theorem tp_s3_e : ∀ j, j < 21 → tp_fl1[([45, 46, 47, 48, 49, 50, 51, 52, 53, 54, 55, 56, 57, 58, 59, 60, 61, 62, 63, 64, 65] : List Nat).getD j 0]? = some (Cond.eq (.elem (tp_stT 3) (.int (Int32.ofNat j))) (.int (Int32.ofInt (((tp_stl.getD 3 ("", "", [])).2.2).getD j 0)))) := by decide +kernel
theorem tp_s3_z : Cond.laysStatic (tp_stn 3).1 (tp_stn 3).2 "[I" ∈ lw_tbl ∧ Cond.initialized (tp_stn 3).1 ∈ lw_tbl := ⟨List.mem_of_getElem? (i := 716) (by decide +kernel), List.mem_of_getElem? (i := 140) (by decide +kernel)⟩
set_option maxRecDepth 100000 in
theorem tp_s4_a : tp_fl1[67]? = some (Cond.arrayOf (tp_stT 4) .int) ∧ tp_fl1[68]? = some (Cond.eq (.length (tp_stT 4)) (.int (Int32.ofNat 21))) := by decide +kernel
set_option maxRecDepth 100000 in
theorem tp_s4_e : ∀ j, j < 21 → tp_fl1[([69, 70, 71, 72, 73, 74, 75, 76, 77, 78, 79, 80, 81, 82, 83, 84, 85, 86, 87, 88, 89] : List Nat).getD j 0]? = some (Cond.eq (.elem (tp_stT 4) (.int (Int32.ofNat j))) (.int (Int32.ofInt (((tp_stl.getD 4 ("", "", [])).2.2).getD j 0)))) := by decide +kernel
theorem tp_s4_z : Cond.laysStatic (tp_stn 4).1 (tp_stn 4).2 "[I" ∈ lw_tbl ∧ Cond.initialized (tp_stn 4).1 ∈ lw_tbl := ⟨List.mem_of_getElem? (i := 722) (by decide +kernel), List.mem_of_getElem? (i := 140) (by decide +kernel)⟩
set_option maxRecDepth 100000 in
theorem tp_s5_a : tp_fl1[91]? = some (Cond.arrayOf (tp_stT 5) .int) ∧ tp_fl1[92]? = some (Cond.eq (.length (tp_stT 5)) (.int (Int32.ofNat 21))) := by decide +kernel
set_option maxRecDepth 100000 in
theorem tp_s5_e : ∀ j, j < 21 → tp_fl1[([93, 94, 95, 96, 97, 98, 99, 100, 101, 102, 103, 104, 105, 106, 107, 108, 109, 110, 111, 112, 113] : List Nat).getD j 0]? = some (Cond.eq (.elem (tp_stT 5) (.int (Int32.ofNat j))) (.int (Int32.ofInt (((tp_stl.getD 5 ("", "", [])).2.2).getD j 0)))) := by decide +kernel
theorem tp_s5_z : Cond.laysStatic (tp_stn 5).1 (tp_stn 5).2 "[I" ∈ lw_tbl ∧ Cond.initialized (tp_stn 5).1 ∈ lw_tbl := ⟨List.mem_of_getElem? (i := 724) (by decide +kernel), List.mem_of_getElem? (i := 140) (by decide +kernel)⟩
set_option maxRecDepth 100000 in
theorem tp_s6_a : tp_fl1[36]? = some (Cond.arrayOf (tp_stT 6) .int) ∧ tp_fl1[37]? = some (Cond.eq (.length (tp_stT 6)) (.int (Int32.ofNat 4))) := by decide +kernel
set_option maxRecDepth 100000 in
theorem tp_s6_e : ∀ j, j < 4 → tp_fl1[([38, 39, 40, 41] : List Nat).getD j 0]? = some (Cond.eq (.elem (tp_stT 6) (.int (Int32.ofNat j))) (.int (Int32.ofInt (((tp_stl.getD 6 ("", "", [])).2.2).getD j 0)))) := by decide +kernel
theorem tp_s6_z : Cond.laysStatic (tp_stn 6).1 (tp_stn 6).2 "[I" ∈ lw_tbl ∧ Cond.initialized (tp_stn 6).1 ∈ lw_tbl := ⟨List.mem_of_getElem? (i := 710) (by decide +kernel), List.mem_of_getElem? (i := 140) (by decide +kernel)⟩
def tp_sT : Term := .string "TracePackets$Reader" 131
def tp_sV : Term := .field tp_sT "java/lang/String" "value" "[B"
set_option maxRecDepth 100000 in
theorem tp_w_a : tp_fl1[153]? = some (Cond.exactly tp_sT "java/lang/String") ∧ tp_fl1[154]? = some (Cond.eq (.field tp_sT "java/lang/String" "coder" "B") (.int 0)) := by decide +kernel
set_option maxRecDepth 100000 in
theorem tp_w_b : tp_fl1[155]? = some (Cond.arrayOf tp_sV .byte) ∧ tp_fl1[156]? = some (Cond.eq (.length tp_sV) (.int (Int32.ofNat 126))) := by decide +kernel
set_option maxRecDepth 100000 in
theorem tp_w_e : ∀ j, j < 126 → tp_fl1[([157, 158, 159, 160, 161, 162, 163, 164, 165, 166, 167, 168, 169, 170, 171, 172, 173, 174, 175, 176, 177, 178, 179, 180, 181, 182, 183, 184, 185, 186, 187, 188, 189, 190, 191, 192, 193, 194, 195, 196, 197, 198, 199, 200, 201, 202, 203, 204, 205, 206, 207, 208, 209, 210, 211, 212, 213, 214, 215, 216, 217, 218, 219, 220, 221, 222, 223, 224, 225, 226, 227, 228, 229, 230, 231, 232, 233, 234, 235, 236, 237, 238, 239, 240, 241, 242, 243, 244, 245, 246, 247, 248, 249, 250, 251, 252, 253, 254, 255, 256, 257, 258, 259, 260, 261, 262, 263, 264, 265, 266, 267, 268, 269, 270, 271, 272, 273, 274, 275, 276, 277, 278, 279, 280, 281, 282] : List Nat).getD j 0]? = some (Cond.eq (.elem tp_sV (.int (Int32.ofNat j))) (.int (tp_wb.getD j 0))) := by decide +kernel
set_option maxRecDepth 100000 in
theorem tp_w_c : tp_fl1[30]? = some (Cond.eq (.static "java/lang/String" "COMPACT_STRINGS" "Z") (.int 1)) ∧ tp_fl1[31]? = some (Cond.isRef (.static "jdk/internal/util/Preconditions" "SIOOBE_FORMATTER" "Ljava/util/function/BiFunction;")) := by decide +kernel
theorem tp_w_t : Cond.laysStatic "java/lang/String" "COMPACT_STRINGS" "Z" ∈ lw_tbl ∧ Cond.initialized "java/lang/String" ∈ lw_tbl ∧ Cond.laysStatic "jdk/internal/util/Preconditions" "SIOOBE_FORMATTER" "Ljava/util/function/BiFunction;" ∈ lw_tbl ∧ Cond.initialized "jdk/internal/util/Preconditions" ∈ lw_tbl ∧ Cond.stringRef "TracePackets$Reader" 131 tp_words ∈ lw_tbl := ⟨List.mem_of_getElem? (i := 666) (by decide +kernel), List.mem_of_getElem? (i := 150) (by decide +kernel), List.mem_of_getElem? (i := 682) (by decide +kernel), List.mem_of_getElem? (i := 152) (by decide +kernel), List.mem_of_getElem? (i := 656) (by decide +kernel)⟩
theorem tp_static {s : State} {args : Array Value} {A : Nat → Prop} {i N : Nat} {vs : List Int} {pa pl : Nat} {pe : List Nat} (hA : ∀ a : Nat, a < s.heap.size → ¬ A a) (hts : ∀ w ∈ lw_tbl, w.before args s = true) (hs : ∀ w ∈ tp_fl1, w.before args s = true) (hN : N < 2 ^ 31)
    (h1 : tp_fl1[pa]? = some (Cond.arrayOf (tp_stT i) .int) ∧ tp_fl1[pl]? = some (Cond.eq (.length (tp_stT i)) (.int (Int32.ofNat N)))) (h2 : ∀ j, j < N → tp_fl1[pe.getD j 0]? = some (Cond.eq (.elem (tp_stT i) (.int (Int32.ofNat j))) (.int (Int32.ofInt (vs.getD j 0)))))
    (h3 : Cond.laysStatic (tp_stn i).1 (tp_stn i).2 "[I" ∈ lw_tbl ∧ Cond.initialized (tp_stn i).1 ∈ lw_tbl) : ∃ t : Nat, va_T .int t N (fun j => .int (Int32.ofInt (vs.getD j 0))) A s s.heap ∧ va_Z (tp_stn i).1 (tp_stn i).2 "[I" (.ref t) A s s.heap := by
  obtain ⟨t, ht, hT⟩ := va_Tof (tm := tp_stT i) (ty := .int) (f := fun j => .int (Int32.ofInt (vs.getD j 0))) hN (hs _ (List.mem_of_getElem? h1.1)) (va_eqt (hs _ (List.mem_of_getElem? h1.2))) (fun j hj => va_eqt (hs _ (List.mem_of_getElem? (h2 j hj)))) hA
  exact ⟨t, hT, va_Zof (hts _ h3.1) (hts _ h3.2) ht hA⟩
theorem tp_getD {α : Type} (P : α → Prop) {l : List α} {d : α} (h : ∀ v ∈ l, P v) (hd : P d) (j : Nat) : P (l.getD j d) := by
  rw [List.getD_eq_getElem?_getD]
  cases hj : l[j]? with
  | none => exact hd
  | some v => exact h v (List.mem_of_getElem? hj)
theorem tp_r32v (i j : Nat) : tp_r32 (((tp_stl.getD i ("", "", [])).2.2).getD j 0) := by
  have h : ∀ q ∈ tp_stl, ∀ v ∈ q.2.2, -100 ≤ v ∧ v ≤ 100 := by decide +kernel
  exact tp_getD tp_r32 (fun v hv => tp_getD (fun q : String × String × List Int => ∀ v ∈ q.2.2, tp_r32 v) (fun q hq v hv => by have := h q hq v hv; exact ⟨by omega, by omega⟩) (fun v hv => by cases hv) i v hv) tp_r0 j
set_option maxHeartbeats 4000000 in
/-- the world at the law's entry -/
theorem tp_init {p : Program} {s : State} {m : MethodId} {meth : Method} {c : Code} {b L : Nat} {xs : Nat → Int32} (l : Launch) (C0 : lw_At p s m meth c b L xs) : ∃ (st : Nat → Nat) (D : va_G) (ca : FieldType → ClassId), st 0 = b ∧ ∀ f : Bool, tp_K (l, s.heap.size, st, D, ca, f, L, fun j => (xs j).toInt) s s.heap := by
  obtain ⟨-, -, -, -, -, hts, hX, hbl, -, hgv⟩ := C0
  have hs : ∀ w ∈ tp_fl1, w.before #[Value.ref b] s = true := flat_of_before _ hgv
  have htb : ∀ w ∈ tp_big, w.before #[Value.ref b] s = true := fun w hw => hts w (List.mem_filter.mp hw).1
  have hA : ∀ a : Nat, a < s.heap.size → ¬ (fun q => s.heap.size ≤ q) a := fun a h1 h2 => Nat.not_le.mpr h1 h2
  have hcl : ∀ ci : Nat, ∃ q : ClassId × (Nat → Nat), ci < 13 → u_Kn s (tp_C ci) (tp_T ci) (tp_cn ci) q.1 q.2 := fun ci => by
    by_cases h : ci < 13
    · obtain ⟨cC, iS, hk⟩ := u_known htb (tp_cl_in ci h) (htb _ (tp_cl_is ci h))
      exact ⟨(cC, iS), fun _ => hk⟩
    · exact ⟨(0, fun _ => 0), fun h2 => absurd h2 h⟩
  obtain ⟨fD, hfD⟩ := Classical.axiomOfChoice hcl
  have har : ∀ ty : FieldType, ∃ cA : ClassId, ty ∈ tp_tyl → ArrOfT s cA ty ∧ va_RA s cA ty := fun ty => by
    by_cases h : ty ∈ tp_tyl
    · have prim : (Cond.arrayClass ty).before #[Value.ref b] s = true → (∀ C, ty ≠ .object C) → ∃ cA : ClassId, ty ∈ tp_tyl → ArrOfT s cA ty ∧ va_RA s cA ty := fun hc hno => by
        obtain ⟨cA, k, comp, g1, g2, g3⟩ := Cond.arrayClass_spec hc
        refine ⟨cA, fun _ => ⟨fun n z => ⟨fun k h => (by cases h), k, g2, comp, g3⟩, ?_⟩⟩
        cases ty <;> first | exact g1 | exact absurd rfl (hno _)
      have obj : ∀ C, ty = .object C → C ∈ tp_ao → ∃ cA : ClassId, ty ∈ tp_tyl → ArrOfT s cA ty ∧ va_RA s cA ty := fun C hC hin => by
        subst hC
        obtain ⟨comp, cA, k, g1, g2, g3, g4, g5⟩ := Cond.arrayOver_spec (hts _ (tp_inL tp_ao_in C hin))
        exact ⟨cA, fun _ => ⟨fun n z => ⟨fun k h => (by cases h), k, g3, comp, g4⟩, k, comp, g3, g4, g1, g5⟩⟩
      have h2 := h
      simp only [tp_tyl, List.mem_cons, List.not_mem_nil, or_false] at h2
      rcases h2 with h2 | h2 | h2 | h2 | h2 | h2 | h2
      · exact prim (by rw [h2]; exact htb _ (tp_ar _ (Or.inl rfl))) (fun C q => by rw [h2] at q; cases q)
      · exact prim (by rw [h2]; exact htb _ (tp_ar _ (Or.inr (Or.inl rfl)))) (fun C q => by rw [h2] at q; cases q)
      · exact prim (by rw [h2]; exact htb _ (tp_ar _ (Or.inr (Or.inr (Or.inl rfl))))) (fun C q => by rw [h2] at q; cases q)
      · exact prim (by rw [h2]; exact htb _ (tp_ar _ (Or.inr (Or.inr (Or.inr rfl))))) (fun C q => by rw [h2] at q; cases q)
      · exact obj _ h2 (by decide)
      · exact obj _ h2 (by decide)
      · exact obj _ h2 (by decide)
    · exact ⟨0, fun h2 => absurd h2 h⟩
  obtain ⟨ca, hca⟩ := Classical.axiomOfChoice har
  obtain ⟨t0, hT0, hZ0⟩ := tp_static (i := 0) (vs := (tp_stl.getD 0 ("", "", [])).2.2) hA hts hs (by decide) tp_s0_a tp_s0_e tp_s0_z
  obtain ⟨t1, hT1, hZ1⟩ := tp_static (i := 1) (vs := (tp_stl.getD 1 ("", "", [])).2.2) hA hts hs (by decide) tp_s1_a tp_s1_e tp_s1_z
  obtain ⟨t2, hT2, hZ2⟩ := tp_static (i := 2) (vs := (tp_stl.getD 2 ("", "", [])).2.2) hA hts hs (by decide) tp_s2_a tp_s2_e tp_s2_z
  obtain ⟨t3, hT3, hZ3⟩ := tp_static (i := 3) (vs := (tp_stl.getD 3 ("", "", [])).2.2) hA hts hs (by decide) tp_s3_a tp_s3_e tp_s3_z
  obtain ⟨t4, hT4, hZ4⟩ := tp_static (i := 4) (vs := (tp_stl.getD 4 ("", "", [])).2.2) hA hts hs (by decide) tp_s4_a tp_s4_e tp_s4_z
  obtain ⟨t5, hT5, hZ5⟩ := tp_static (i := 5) (vs := (tp_stl.getD 5 ("", "", [])).2.2) hA hts hs (by decide) tp_s5_a tp_s5_e tp_s5_z
  obtain ⟨t6, hT6, hZ6⟩ := tp_static (i := 6) (vs := (tp_stl.getD 6 ("", "", [])).2.2) hA hts hs (by decide) tp_s6_a tp_s6_e tp_s6_z
  obtain ⟨adK, adV, hSS, hev⟩ := vk_Sof (N := 1) (tm := fun _ => tp_sT) (len := [126]) (byt := [tp_wb]) (fun i hi => by rw [show i = 0 by omega]; decide) (fun i hi => hs _ (List.mem_of_getElem? tp_w_a.1)) (fun i hi => hs _ (List.mem_of_getElem? tp_w_a.2)) (fun i hi => hs _ (List.mem_of_getElem? tp_w_b.1)) (fun i hi => by rw [show i = 0 by omega]; exact hs _ (List.mem_of_getElem? tp_w_b.2)) (fun i hi j hj => by
    rw [show i = 0 by omega] at hj ⊢
    exact hs _ (List.mem_of_getElem? (tp_w_e j hj))) (fun i j h1 h2 h3 => absurd (by omega : i = j) h3) hA
  have hev0 := hev 0 (by decide)
  refine ⟨fun i => match i with
    | 0 => b
    | 1 => t0
    | 2 => t1
    | 3 => t2
    | 4 => t3
    | 5 => t4
    | 6 => t5
    | 7 => t6
    | _ => adK 0, (fun ci => (fD ci).1, fun ci => (fD ci).2), ca, rfl, fun f => ⟨⟨fun ci q hq => ?_, fun k q hq => ?_⟩, fun q hq => va_Nw.of rfl (hts _ (tp_inL tp_nest_in q hq)), fun C hC => va_AO.of (hts _ (tp_inL tp_ao_in C hC)), fun i hi => ?_, fun i hi => ?_, fun i j => ?_, ?_⟩⟩
  · have hl : ci < 13 := by have := (List.getElem?_eq_some_iff.mp hq).1; simpa [tp_cl] using this
    rw [tp_cl_at ci hl] at hq
    cases hq
    exact hfD ci hl
  · rw [tp_tys, List.getElem?_map] at hq
    cases hk : tp_tyl[k]? with
    | none => rw [hk] at hq; cases hq
    | some ty =>
      rw [hk] at hq
      cases hq
      exact hca ty (List.mem_of_getElem? hk)
  · match i, hi with
    | 0, _ =>
      obtain ⟨scr, h1, h2, h3, h4, h5⟩ := hX
      exact ⟨scr, h1, h2, h3, by rw [h4]; exact Nat.le_refl _, by rw [h4]; rfl, fun j hj => by rw [h5 j hj]; show _ = some (Value.int (Int32.ofInt (xs j).toInt)); rw [Int32.ofInt_toInt], fun q => Nat.not_le.mpr hbl q⟩
    | 1, _ => exact hT0
    | 2, _ => exact hT1
    | 3, _ => exact hT2
    | 4, _ => exact hT3
    | 5, _ => exact hT4
    | 6, _ => exact hT5
    | 7, _ => exact hT6
  · match i, hi with
    | 0, _ => exact hZ0
    | 1, _ => exact hZ1
    | 2, _ => exact hZ2
    | 3, _ => exact hZ3
    | 4, _ => exact hZ4
    | 5, _ => exact hZ5
    | 6, _ => exact hZ6
  · match i with
    | 0 => exact tp_w_r (xs j)
    | k + 1 => exact tp_r32v k j
  · refine ⟨vk_R.of (hts _ tp_w_t.2.2.2.2) hev0, ⟨adV, ?_⟩, va_Zof (hts _ tp_w_t.1) (hts _ tp_w_t.2.1) (va_eqi (hs _ (List.mem_of_getElem? tp_w_c.1))) hA, va_Zqof (hts _ tp_w_t.2.2.1) (hts _ tp_w_t.2.2.2.1) (hs _ (List.mem_of_getElem? tp_w_c.2)) hA⟩
    obtain ⟨hS1, hS2⟩ := hSS
    exact ⟨fun i hi => by rw [show i = 0 by omega]; exact hS1 0 (by decide), fun i j h1 h2 _ => by omega⟩
