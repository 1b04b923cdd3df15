/-! methods as data; the judgements tp_go (from a place in a method to its end) and tp_ok (a method's contract) -/
/-- an instruction: place, instruction, length; then the place of its word in the tables, and two numbers that the word stands for -/
abbrev tp_E : Type := Nat × Instr × Nat × Nat × Nat × Nat
/-- number, name, bytes, locals, answer, depth of calls, parameters, places of its own words (code, kind, selects, initialized, sort), instructions -/
abbrev tp_D : Type := Nat × MethodName × ByteArray × Nat × Option FieldType × Nat × Nat × (Nat × Nat × Nat × Nat × Nat) × List tp_E
abbrev tp_dx (d : tp_D) : Nat := d.1
abbrev tp_dn (d : tp_D) : MethodName := d.2.1
abbrev tp_db (d : tp_D) : ByteArray := d.2.2.1
abbrev tp_dl (d : tp_D) : Nat := d.2.2.2.1
abbrev tp_dr (d : tp_D) : Option FieldType := d.2.2.2.2.1
abbrev tp_dd (d : tp_D) : Nat := d.2.2.2.2.2.1
abbrev tp_da (d : tp_D) : Nat := d.2.2.2.2.2.2.1
abbrev tp_dp (d : tp_D) : Nat × Nat × Nat × Nat × Nat := d.2.2.2.2.2.2.2.1
abbrev tp_de (d : tp_D) : List tp_E := d.2.2.2.2.2.2.2.2
def tp_find : List tp_E → Nat → Option (Instr × Nat × Nat × Nat × Nat)
  | [], _ => none
  | e :: es, pc => bif Nat.beq e.1 pc then some e.2 else tp_find es pc
def tp_at (d : tp_D) (pc : Nat) : Option (Instr × Nat × Nat × Nat × Nat) := tp_find (tp_de d) pc
theorem tp_find_mem {pc : Nat} {r : Instr × Nat × Nat × Nat × Nat} : ∀ {es : List tp_E}, tp_find es pc = some r → (pc, r) ∈ es := by
  intro es
  induction es with
  | nil => intro h; cases h
  | cons a es ih =>
    intro h
    unfold tp_find at h
    cases hb : Nat.beq a.1 pc with
    | true =>
      rw [hb] at h
      have h2 : a.2 = r := Option.some.inj h
      have h3 : a.1 = pc := Nat.eq_of_beq_eq_true hb
      subst h2; subst h3
      exact List.mem_cons_self
    | false =>
      rw [hb] at h
      exact List.mem_cons_of_mem _ (ih h)
def tp_lk (own : String) (idx pos a b : Nat) : Bool := if b = 1 then decide (tp_nl[pos]? = (tp_mn[a]?).map (fun y => (own, idx, y))) else decide (lw_tbl[pos]? = (tp_mn[a]?).map (fun y => Cond.methodLink own idx y))
def tp_lf (own : String) (idx pos a b : Nat) : Bool := decide (lw_tbl[pos]? = some (.fieldLink own idx (tp_T a b).1 (tp_T a b).2.1 (tp_T a b).2.2.1)) && (Nat.ble (b + 1) (tp_cn a) && Nat.ble (a + 1) 13)
def tp_entlink (own : String) (i : Instr) (pos a b : Nat) : Bool := match i with
  | .getfield idx => tp_lf own idx pos a b
  | .putfield idx => tp_lf own idx pos a b
  | .getstatic idx => decide (lw_tbl[pos]? = some (.fieldLink own idx (tp_stn a).1 (tp_stn a).2 "[I")) && Nat.ble (a + 1) 7
  | .invokevirtual idx => tp_lk own idx pos a b
  | .invokestatic idx => tp_lk own idx pos a b
  | .invokespecial idx => tp_lk own idx pos a b
  | .ldc idx => if b = 1 then decide (own = "TracePackets$Reader" ∧ idx = 131) else decide (lw_tbl[pos]? = some (.constant own idx (Int32.ofNat a)))
  | .ldc_w idx => decide (lw_tbl[pos]? = some (.constant own idx (Int32.ofNat a)))
  | .ldc2_w idx => decide (lw_tbl[pos]? = some (.constantLong own idx (if b = 1 then Int64.ofInt (-(a : Int)) else Int64.ofInt (a : Int))))
  | .new idx => decide (lw_tbl[pos]? = some (.classLink own idx (tp_C a))) && Nat.ble (a + 1) 13
  | .anewarray idx => decide (lw_tbl[pos]? = some (.classLink own idx (tp_C a))) && decide (tp_C a ∈ tp_ao)
  | _ => true
def tp_entdec (bt : ByteArray) (e : tp_E) : Bool := match decode bt e.1 with
  | .ok (i, k) => decide (i = e.2.1) && decide (k = e.2.2.1)
  | .error _ => false
def tp_entok (own : String) (bt : ByteArray) (e : tp_E) : Bool := tp_entdec bt e && tp_entlink own e.2.1 e.2.2.2.1 e.2.2.2.2.1 e.2.2.2.2.2
def tp_kindok (d : tp_D) : Bool := if (tp_dp d).2.2.2.2 = 1 then decide (lw_tbl[(tp_dp d).2.1]? = some (.static (tp_dn d))) else
  (decide (lw_tbl[(tp_dp d).2.1]? = some (.instanceMethod (tp_dn d))) && (if (tp_dp d).2.2.2.2 = 2 then decide ((tp_dn d).name = "<init>") else decide (lw_tbl[(tp_dp d).2.2.1]? = some (.selects (tp_dn d).cls (tp_dn d) (tp_dn d)))))
/-- every instruction decodes, every link is in the tables -/
def tp_goode (d : tp_D) : Bool := (tp_de d).all (tp_entok (tp_dn d).cls (tp_db d)) && Nat.ble 1 (tp_dd d)
def tp_good (d : tp_D) : Bool := (plainName (tp_dn d).cls && (decide (tp_mn[tp_dx d]? = some (tp_dn d)) && (decide (lw_tbl[(tp_dp d).1]? = some (.code (tp_dn d) (tp_db d) (tp_dl d) (tp_dr d))) && decide ((tp_dn d).cls ≠ "java/lang/invoke/MethodHandle" ∧ (tp_dn d).cls ≠ "java/lang/invoke/VarHandle" ∧ (parseMethodDescriptor (tp_dn d).desc).map (fun d => d.parameters.length) = some (tp_da d))))) &&
  ((decide (lw_tbl[(tp_dp d).2.2.2.1]? = some (.initialized (tp_dn d).cls)) && Nat.ble (tp_dl d) 20) && (tp_kindok d && tp_goode d))
theorem tp_g_e {d : tp_D} (h : tp_good d = true) : tp_goode d = true := by
  simp only [tp_good, Bool.and_eq_true] at h
  exact h.2.2.2
theorem tp_ge1 {d : tp_D} (h : tp_goode d = true) : 1 ≤ tp_dd d := by
  simp only [tp_goode, Bool.and_eq_true] at h
  exact Nat.le_of_ble_eq_true h.2
theorem tp_g_ent {d : tp_D} (h : tp_goode d = true) {pc : Nat} {r : Instr × Nat × Nat × Nat × Nat} (hf : tp_at d pc = some r) : tp_entok (tp_dn d).cls (tp_db d) (pc, r) = true := by
  simp only [tp_goode, Bool.and_eq_true] at h
  exact List.all_eq_true.mp h.1 _ (tp_find_mem hf)
theorem tp_dec {d : tp_D} (h : tp_goode d = true) {pc len : Nat} {i : Instr} {x : Nat × Nat × Nat} (hf : tp_at d pc = some (i, len, x)) : decode (tp_db d) pc = .ok (i, len) := by
  have h1 := tp_g_ent h hf
  simp only [tp_entok, Bool.and_eq_true] at h1
  have h2 := h1.1
  unfold tp_entdec at h2
  split at h2
  next i' k' heq =>
    simp only [Bool.and_eq_true, decide_eq_true_eq] at h2
    rw [heq, h2.1, h2.2]
  next => cases h2
theorem tp_lnk {d : tp_D} (h : tp_goode d = true) {pc len pos a b : Nat} {i : Instr} (hf : tp_at d pc = some (i, len, pos, a, b)) : tp_entlink (tp_dn d).cls i pos a b = true := by
  have h1 := tp_g_ent h hf
  simp only [tp_entok, Bool.and_eq_true] at h1
  exact h1.2
theorem tp_lf_spec {own : String} {idx pos a b : Nat} (h : tp_lf own idx pos a b = true) : Cond.fieldLink own idx (tp_T a b).1 (tp_T a b).2.1 (tp_T a b).2.2.1 ∈ tp_big ∧ b < tp_cn a ∧ a < 13 := by
  simp only [tp_lf, Bool.and_eq_true, decide_eq_true_eq] at h
  exact ⟨tp_in pos h.1 rfl, Nat.le_of_ble_eq_true h.2.1, Nat.le_of_ble_eq_true h.2.2⟩
/-! what holds in every state of the run: tables, links, what was there before -/
def tp_KS (G : tp_G) (U : State) (H : Heap) : Prop := vk_R "TracePackets$Reader" 131 tp_words (tp_Gs G 8) U ∧ (∃ adV : Nat → Nat, vk_S 1 [126] [tp_wb] (fun _ => tp_Gs G 8) adV (tp_A G) U H) ∧ va_Z "java/lang/String" "COMPACT_STRINGS" "Z" (.int 1) (tp_A G) U H ∧ va_Zq "jdk/internal/util/Preconditions" "SIOOBE_FORMATTER" "Ljava/util/function/BiFunction;" (tp_A G) U H
def tp_K (G : tp_G) (U : State) (H : Heap) : Prop := va_K (tp_GD G) tp_cl (tp_tys G) U ∧ (∀ q ∈ tp_nl, va_Nw (.methodLinkNest q.1 q.2.1 q.2.2 "TracePackets") U) ∧ (∀ C ∈ tp_ao, va_AO C U) ∧
  (∀ i, i < 8 → va_T .int (tp_Gs G i) (tp_sl G i) (fun j => .int (Int32.ofInt (tp_sv G i j))) (tp_A G) U H) ∧ (∀ i, i < 7 → va_Z (tp_stn i).1 (tp_stn i).2 "[I" (.ref (tp_Gs G (i + 1))) (tp_A G) U H) ∧ (∀ i j, tp_r32 (tp_sv G i j)) ∧ tp_KS G U H
theorem tp_K_same {G : tp_G} {u U : State} {H : Heap} (hv : u.vm = U.vm) (h : tp_K G u H) : tp_K G U H := by
  have ha : u.vm.Alike U.vm := by rw [hv]; exact Vm.Alike.refl _
  obtain ⟨h1, h2, h3, h4, h5, h6, h7, ⟨aV, h8⟩, h9, h10⟩ := h
  exact ⟨va_K.moved ha h1, fun q hq => va_Nw.same rfl hv (h2 q hq), fun C hC => va_AO.moved ha (h3 C hC), fun i hi => (h4 i hi).moved ha, fun i hi => (h5 i hi).moved ha, h6, vk_R.same hv.symm h7, ⟨aV, h8.moved ha⟩, h9.moved ha, h10.moved ha⟩
theorem tp_K_warm {G : tp_G} {s U : State} {H H1 : Heap} (hW : s.WarmedH U.vm) (hq : ∀ a : Nat, a < H.size → ¬ tp_A G a → H1[a]? = H[a]?) (h : tp_K G s H) : tp_K G U H1 := by
  have ha := hW.alike
  obtain ⟨h1, h2, h3, h4, h5, h6, h7, ⟨aV, h8⟩, h9, h10⟩ := h
  exact ⟨va_K.moved ha h1, fun q hq => va_Nw.warmM hW (h2 q hq), fun C hC => va_AO.moved ha (h3 C hC), fun i hi => ((h4 i hi).moved ha).kept hq, fun i hi => ((h5 i hi).moved ha).kept hq, h6, vk_R.warm hW h7, ⟨aV, (h8.moved ha).kept hq⟩, (h9.moved ha).kept hq, (h10.moved ha).kept hq⟩
def tp_cx (G : tp_G) (d : tp_D) (p : Program) (s : State) (m : MethodId) (args : Array Value) (meth : Method) (c : Code) : Prop :=
  tp_goode d = true ∧ p.tables.exec = Jvm.exec ∧ c.code = tp_db d ∧ c.maxLocals = tp_dl d ∧ meth.sig.returnType = tp_dr d ∧ meth.locks = false ∧ ((tp_dn d).name = "<init>" → meth.name = "<init>") ∧ s.vm.findClass (tp_dn d).cls = some m.cls ∧ (∀ w ∈ tp_big, w.before args s = true) ∧ tp_K G s s.heap ∧ tp_Gb G ≤ s.heap.size
/-- the locals -/
def tp_lr (G : tp_G) (d : tp_D) (ls : List (Option tp_V)) (lsA : Array Slot) : Prop := ls.length = tp_dl d ∧ lsA.size = tp_dl d ∧ lv_wf lsA ∧ ∀ (i : Nat) (v : tp_V), ls[i]? = some (some v) → lsA[i]? = some (.val (tp_v G v))
def tp_pt (G : tp_G) (d : tp_D) (ls : List (Option tp_V)) (st : List tp_V) (μ : tp_M) (n n' bs : Nat) (p : Program) (s : State) (m : MethodId) (args : Array Value) (meth : Method) (c : Code) (H : Heap) (locs : List Loc) (cells slots : Nat) (lsA : Array Slot) (mc ms : Nat) : Prop :=
  tp_cx G d p s m args meth c ∧ va_S (tp_A G) s.heap H locs ∧ tp_rep G μ n H ∧ tp_lr G d ls lsA ∧ (n ≤ n' ∧ cells + (n' - n) ≤ mc ∧ slots + bs ≤ ms ∧ s.heap.size + cells = tp_Gb G + n) ∧ tp_mok μ ∧ (∀ v ∈ st, tp_fit v) ∧ (∀ v, some v ∈ ls → tp_fit v)
def tp_rm (d : tp_D) (mc ms : Nat) : Room := { frames := tp_dd d, cells := mc, slots := ms, locals := 39 * tp_dd d }
def tp_wsm (d : tp_D) : List Cond := Cond.code (tp_dn d) (tp_db d) (tp_dl d) (tp_dr d) :: tp_big
def tp_Q (G : tp_G) (n' : Nat) (Φ : Option tp_V → tp_M → Prop) : Array Value → State → Outcome → State → Prop := fun _ st o t =>
  ∃ (r : Option tp_V) (μ' : tp_M), o = .returned (r.map (tp_v G)) ∧ tp_rep G μ' n' t.heap ∧ tp_mok μ' ∧ (∀ v, r = some v → tp_fit v) ∧ Φ r μ' ∧ va_F (tp_A G) st t
def tp_go (G : tp_G) (d : tp_D) (pc : Nat) (ls : List (Option tp_V)) (st : List tp_V) (μ : tp_M) (n n' bs : Nat) (Φ : Option tp_V → tp_M → Prop) : Prop :=
  ∀ (p : Program) (e : Env) (s : State) (m : MethodId) (args : Array Value) (below : List Frame) (meth : Method) (c : Code) (H : Heap) (locs : List Loc) (cells slots : Nat) (lsA : Array Slot) (mc ms : Nat),
    tp_pt G d ls st μ n n' bs p s m args meth c H locs cells slots lsA mc ms →
    W p (tp_Gl G) e (tp_rm d mc ms) s m args below meth c H locs cells slots (MQ below (tp_Q G n' Φ) args s mc ms (tp_A G)) (F0 m pc lsA (st.map (tp_v G)))
def tp_Pc (G : tp_G) (as : List tp_V) (μ : tp_M) (n : Nat) : Array Value → State → Prop := va_Pc (as.map (tp_v G)) (fun U => tp_K G U U.heap ∧ tp_rep G μ n U.heap ∧ U.heap.size = tp_Gb G + n)
def tp_ok (G : tp_G) (d : tp_D) (as : List tp_V) (μ : tp_M) (n n' ms : Nat) (Φ : Option tp_V → tp_M → Prop) : Prop :=
  n ≤ n' ∧ (tp_mok μ → (∀ v ∈ as, tp_fit v) → Met (tp_Gl G) (tp_dn d) (tp_wsm d) (tp_rm d (n' - n) ms) (tp_Pc G as μ n) (tp_Q G n' Φ) (n' - n) ms (tp_A G))
theorem tp_blind {G : tp_G} {as : List tp_V} {μ : tp_M} {n : Nat} : FrameBlind (tp_Pc G as μ n) := by
  intro a U g mk h
  obtain ⟨h1, h2, h3, h4⟩ := h
  exact ⟨h1, tp_K_same (u := U) rfl h2, h3, h4⟩
/-- the locals with which a method begins: a long takes two -/
def tp_ls0 : List tp_V → Nat → List (Option tp_V)
  | [], k => List.replicate k none
  | .inl a :: vs, k => some (.inl a) :: tp_ls0 vs (k - 1)
  | .inr (.inl a) :: vs, k => some (.inr (.inl a)) :: none :: tp_ls0 vs (k - 2)
  | .inr (.inr r) :: vs, k => some (.inr (.inr r)) :: tp_ls0 vs (k - 1)
def tp_cnt : List tp_V → Nat
  | [] => 0
  | .inl _ :: vs => tp_cnt vs + 1
  | .inr (.inl _) :: vs => tp_cnt vs + 2
  | .inr (.inr _) :: vs => tp_cnt vs + 1
theorem tp_ls0_len : ∀ (vs : List tp_V) (k : Nat), tp_cnt vs ≤ k → (tp_ls0 vs k).length = k := by
  intro vs
  induction vs with
  | nil => intro k _; simp [tp_ls0]
  | cons v vs ih =>
    intro k hk
    rcases v with a | a | r <;> simp only [tp_cnt] at hk <;> simp only [tp_ls0, List.length_cons] <;> rw [ih _ (by omega)] <;> omega
theorem tp_ls0_mem {v : tp_V} : ∀ (vs : List tp_V) (k : Nat), some v ∈ tp_ls0 vs k → v ∈ vs := by
  intro vs
  induction vs with
  | nil => intro k h; simp [tp_ls0] at h
  | cons w vs ih =>
    intro k h
    rcases w with a | a | r <;> simp only [tp_ls0, List.mem_cons, Option.some.injEq, reduceCtorEq, false_or] at h <;> rcases h with h | h
    · exact List.mem_cons.mpr (Or.inl h)
    · exact List.mem_cons_of_mem _ (ih _ h)
    · exact List.mem_cons.mpr (Or.inl h)
    · exact List.mem_cons_of_mem _ (ih _ h)
    · exact List.mem_cons.mpr (Or.inl h)
    · exact List.mem_cons_of_mem _ (ih _ h)
theorem tp_ls0_at {G : tp_G} {v : tp_V} : ∀ (vs : List tp_V) (k i0 i : Nat), (tp_ls0 vs k)[i]? = some (some v) → (i0 + i, tp_v G v) ∈ lv_args i0 (vs.map (tp_v G)) := by
  intro vs
  induction vs with
  | nil =>
    intro k i0 i h
    have h1 := List.mem_of_getElem? h
    simp [tp_ls0] at h1
  | cons w vs ih =>
    intro k i0 i h
    rcases w with a | a | r
    · cases i with
      | zero =>
        simp only [tp_ls0, List.getElem?_cons_zero, Option.some.injEq] at h
        subst h
        exact List.mem_cons_self
      | succ i =>
        simp only [tp_ls0, List.getElem?_cons_succ] at h
        have h2 := ih (k - 1) (i0 + 1) i h
        rw [show i0 + (i + 1) = i0 + 1 + i by omega]
        exact List.mem_cons_of_mem _ h2
    · match i with
      | 0 =>
        simp only [tp_ls0, List.getElem?_cons_zero, Option.some.injEq] at h
        subst h
        exact List.mem_cons_self
      | 1 =>
        simp only [tp_ls0, List.getElem?_cons_succ, List.getElem?_cons_zero, Option.some.injEq, reduceCtorEq] at h
      | i + 2 =>
        simp only [tp_ls0, List.getElem?_cons_succ] at h
        have h2 := ih (k - 2) (i0 + 2) i h
        rw [show i0 + (i + 2) = i0 + 2 + i by omega]
        exact List.mem_cons_of_mem _ h2
    · have hcat : (tp_v G (.inr (.inr r))).category = 1 := by cases r <;> rfl
      cases i with
      | zero =>
        simp only [tp_ls0, List.getElem?_cons_zero, Option.some.injEq] at h
        subst h
        exact List.mem_cons_self
      | succ i =>
        simp only [tp_ls0, List.getElem?_cons_succ] at h
        have h2 := ih (k - 1) (i0 + 1) i h
        rw [show i0 + (i + 1) = i0 + 1 + i by omega]
        refine List.mem_cons_of_mem _ ?_
        rw [hcat, if_neg (by decide)]
        exact h2
theorem tp_cnt_eq {G : tp_G} : ∀ (vs : List tp_V), (lg_sl (vs.map (tp_v G))).length = tp_cnt vs := by
  intro vs
  induction vs with
  | nil => rfl
  | cons v vs ih =>
    have e : ∀ (a : Value) (l : List Value), lg_sl (a :: l) = (if a.category = 2 then [Slot.val a, Slot.second] else [Slot.val a]) ++ lg_sl l := fun a l => by simp [lg_sl]
    rw [List.map_cons, e, List.length_append, ih]
    rcases v with a | a | r
    · show 1 + tp_cnt vs = tp_cnt vs + 1
      omega
    · show 2 + tp_cnt vs = tp_cnt vs + 2
      omega
    · cases r
      · show 1 + tp_cnt vs = tp_cnt vs + 1
        omega
      · show 1 + tp_cnt vs = tp_cnt vs + 1
        omega
/-- a method's contract by the walk of its body -/
theorem tp_ok_of {G : tp_G} {d : tp_D} {as : List tp_V} {μ : tp_M} {n n' ms : Nat} {Φ : Option tp_V → tp_M → Prop} (hg : tp_good d = true) (hc : Nat.ble (tp_cnt as) (tp_dl d) = true) (hn : n ≤ n') (h : tp_go G d 0 (tp_ls0 as (tp_dl d)) [] μ n n' ms Φ) : tp_ok G d as μ n n' ms Φ := by
  refine ⟨hn, fun hm has => ?_⟩
  have hg2 := hg
  simp only [tp_good, Bool.and_eq_true] at hg2
  refine Met.ofW (cc := tp_db d) (maxL := tp_dl d) (ret := tp_dr d) hg2.1.1 rfl ?_
  intro p e s m args below meth c s₁ B hml hv
  obtain ⟨rfl, hK, hR, hsz⟩ := hv
  have hts : ∀ w ∈ tp_big, w.before ((as.map (tp_v G)).toArray) s = true := fun w hw => atoms_spec (ws := tp_wsm d) B.pre w (List.mem_cons_of_mem _ hw)
  have hown : s.vm.findClass (tp_dn d).cls = some m.cls := findClass_of_methodNamed B.named
  have hnm : meth.name = (tp_dn d).name := (name_of_methodNamed B.named B.method).1
  have hcn : tp_cnt as ≤ tp_dl d := Nat.le_of_ble_eq_true hc
  have hl := lv_entry (as.map (tp_v G)) (n := tp_dl d) (by rw [tp_cnt_eq]; exact hcn)
  rw [lg_entry_eq]
  generalize (lg_sl (as.map (tp_v G)) ++ List.replicate (tp_dl d - (lg_sl (as.map (tp_v G))).length) Slot.unset).toArray = lsA at hl ⊢
  refine h p e s m _ below meth c s.heap [] 0 0 lsA (n' - n) ms ⟨⟨tp_g_e hg, B.exec, B.bytes, hml, B.returns, B.notSynchronized, (fun h => by rw [hnm]; exact h), hown, hts, hK, by omega⟩, va_S.rf, hR, ⟨tp_ls0_len as _ hcn, hl.1, hl.2.1, fun i v hi => ?_⟩, ⟨hn, by omega, by omega, by omega⟩, hm, fun v hv => (by cases hv), fun v hv => has v (tp_ls0_mem as _ hv)⟩
  have h2 := tp_ls0_at (G := G) as (tp_dl d) 0 i hi
  rw [Nat.zero_add] at h2
  exact hl.2.2 _ h2
/-! helpers -/
theorem tp_f0 {v : tp_V} {st : List tp_V} (h : ∀ w ∈ v :: st, tp_fit w) : tp_fit v := h v List.mem_cons_self
theorem tp_f1 {v : tp_V} {st : List tp_V} (h : ∀ w ∈ v :: st, tp_fit w) : ∀ w ∈ st, tp_fit w := fun w hw => h w (List.mem_cons_of_mem _ hw)
theorem tp_fc {v : tp_V} {st : List tp_V} (hv : tp_fit v) (h : ∀ w ∈ st, tp_fit w) : ∀ w ∈ v :: st, tp_fit w := fun w hw => by
  rcases List.mem_cons.mp hw with rfl | h1
  · exact hv
  · exact h w h1
theorem tp_rng32 {ty : FieldType} {a : Int} (h : tp_rng ty a) (ht : ty ≠ .long) : tp_r32 a := by
  cases ty <;> simp only [tp_rng] at h <;> first | exact h | exact absurd rfl ht | exact ⟨by omega, by omega⟩
/-- how large the heap is -/
theorem tp_Wsize {p : Program} {l : Launch} {e : Env} {R : Room} {s : State} {m : MethodId} {args : Array Value} {below : List Frame} {meth : Method} {c : Code} {H : Heap} {locs : List Loc} {cells slots : Nat} {Q : State → Prop} {g : JFrame} (h : H.size ≤ s.heap.size + cells → W p l e R s m args below meth c H locs cells slots Q g) : W p l e R s m args below meth c H locs cells slots Q g :=
  fun T hT X => h (by rw [← hT]; exact X.heapSize) T hT X
theorem tp_rep_size {G : tp_G} {μ : tp_M} {n : Nat} {H : Heap} (h : tp_rep G μ n H) (h0 : tp_Gb G ≤ H.size) : tp_Gb G + n ≤ H.size := by
  cases n with
  | zero => exact h0
  | succ k =>
    have h1 := (h.2 k _ (tp_ws_at (Nat.lt_succ_self k))).lt
    simp only at h1
    omega
