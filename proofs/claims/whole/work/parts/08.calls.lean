theorem g_ireturn {G : tp_G} {d : tp_D} {pc : Nat} {ls : List (Option tp_V)} {st : List tp_V} {μ : tp_M} {n bs : Nat} {Φ : Option tp_V → tp_M → Prop} {x : Nat × Nat × Nat} {a : Int} (hf : tp_at d pc = some (.ireturn, 1, x)) (hr : tp_dr d = some .int) (hq : Φ (some (tI a)) μ) : tp_go G d (pc) ls ([tI a]) μ n n bs Φ := by
  intro p e s m args below meth c H locs cells slots lsA mc ms Z
  obtain ⟨C, hS, hR, hl, hB, hm, hs, hv⟩ := Z
  have hd := tp_dec C.1 hf
  have hx := C.2.1
  have hb := C.2.2.1
  have hown := C.2.2.2.2.2.2.2.1
  have hts := C.2.2.2.2.2.2.2.2.1
  have hK := C.2.2.2.2.2.2.2.2.2.1
  refine W.widen (k := mc) (n := ms) (by omega) (by omega) ?_
  exact W.iret (v := Int32.ofInt a) hx hb (by rw [C.2.2.2.2.1]; exact hr) (fun t ht hW => ⟨some (tI a), μ, rfl, by rw [ht]; exact hR, hm, fun v hv => (by cases hv; exact tp_f0 hs), hq, hS.F ht⟩) hS.2.2 hd C.2.2.2.2.2.1
theorem g_zreturn {G : tp_G} {d : tp_D} {pc : Nat} {ls : List (Option tp_V)} {st : List tp_V} {μ : tp_M} {n bs : Nat} {Φ : Option tp_V → tp_M → Prop} {x : Nat × Nat × Nat} {a : Int} (hf : tp_at d pc = some (.ireturn, 1, x)) (hr : tp_dr d = some .boolean) (ha : a = 0 ∨ a = 1) (hq : Φ (some (tI a)) μ) : tp_go G d (pc) ls ([tI a]) μ n n bs Φ := by
  intro p e s m args below meth c H locs cells slots lsA mc ms Z
  obtain ⟨C, hS, hR, hl, hB, hm, hs, hv⟩ := Z
  have hd := tp_dec C.1 hf
  have hx := C.2.1
  have hb := C.2.2.1
  have hown := C.2.2.2.2.2.2.2.1
  have hts := C.2.2.2.2.2.2.2.2.1
  have hK := C.2.2.2.2.2.2.2.2.2.1
  refine W.widen (k := mc) (n := ms) (by omega) (by omega) ?_
  exact W.zret (v := Int32.ofInt a) (ty := .boolean) hx hb (by rw [C.2.2.2.2.1]; exact hr) (by rcases ha with rfl | rfl <;> rfl) (fun t ht hW => ⟨some (tI a), μ, rfl, by rw [ht]; exact hR, hm, fun v hv => (by cases hv; exact tp_f0 hs), hq, hS.F ht⟩) hS.2.2 hd C.2.2.2.2.2.1
theorem g_lreturn {G : tp_G} {d : tp_D} {pc : Nat} {ls : List (Option tp_V)} {st : List tp_V} {μ : tp_M} {n bs : Nat} {Φ : Option tp_V → tp_M → Prop} {x : Nat × Nat × Nat} {a : Int} (hf : tp_at d pc = some (.lreturn, 1, x)) (hr : tp_dr d = some .long) (hq : Φ (some (tL a)) μ) : tp_go G d (pc) ls ([tL a]) μ n n bs Φ := by
  intro p e s m args below meth c H locs cells slots lsA mc ms Z
  obtain ⟨C, hS, hR, hl, hB, hm, hs, hv⟩ := Z
  have hd := tp_dec C.1 hf
  have hx := C.2.1
  have hb := C.2.2.1
  have hown := C.2.2.2.2.2.2.2.1
  have hts := C.2.2.2.2.2.2.2.2.1
  have hK := C.2.2.2.2.2.2.2.2.2.1
  refine W.widen (k := mc) (n := ms) (by omega) (by omega) ?_
  exact W.lret (v := Int64.ofInt a) hx hb (by rw [C.2.2.2.2.1]; exact hr) (fun t ht hW => ⟨some (tL a), μ, rfl, by rw [ht]; exact hR, hm, fun v hv => (by cases hv; exact tp_f0 hs), hq, hS.F ht⟩) hS.2.2 hd C.2.2.2.2.2.1
theorem g_areturn {G : tp_G} {d : tp_D} {pc : Nat} {ls : List (Option tp_V)} {st : List tp_V} {μ : tp_M} {n bs : Nat} {Φ : Option tp_V → tp_M → Prop} {x : Nat × Nat × Nat} {r : Option Nat} {nm : String} (hf : tp_at d pc = some (.areturn, 1, x)) (hr : tp_dr d = some (.object nm)) (hq : Φ (some (tR r)) μ) : tp_go G d (pc) ls ([tR r]) μ n n bs Φ := by
  intro p e s m args below meth c H locs cells slots lsA mc ms Z
  obtain ⟨C, hS, hR, hl, hB, hm, hs, hv⟩ := Z
  have hd := tp_dec C.1 hf
  have hx := C.2.1
  have hb := C.2.2.1
  have hown := C.2.2.2.2.2.2.2.1
  have hts := C.2.2.2.2.2.2.2.2.1
  have hK := C.2.2.2.2.2.2.2.2.2.1
  refine W.widen (k := mc) (n := ms) (by omega) (by omega) ?_
  exact W.aret (v := tp_v G (tR r)) (rt := .object nm) hx hb (by rw [C.2.2.2.2.1]; exact hr) (Or.inl ⟨nm, rfl⟩) (by cases r with
    | none => exact Or.inl rfl
    | some a => exact Or.inr ⟨_, rfl⟩) (fun t ht hW => ⟨some (tR r), μ, rfl, by rw [ht]; exact hR, hm, fun v hv => (by cases hv; exact tp_f0 hs), hq, hS.F ht⟩) hS.2.2 hd C.2.2.2.2.2.1
theorem g_return {G : tp_G} {d : tp_D} {pc : Nat} {ls : List (Option tp_V)} {st : List tp_V} {μ : tp_M} {n bs : Nat} {Φ : Option tp_V → tp_M → Prop} {x : Nat × Nat × Nat} (hf : tp_at d pc = some (.return_, 1, x)) (hr : tp_dr d = none) (hq : Φ none μ) : tp_go G d (pc) ls ([]) μ n n bs Φ := by
  intro p e s m args below meth c H locs cells slots lsA mc ms Z
  obtain ⟨C, hS, hR, hl, hB, hm, hs, hv⟩ := Z
  have hd := tp_dec C.1 hf
  have hx := C.2.1
  have hb := C.2.2.1
  have hown := C.2.2.2.2.2.2.2.1
  have hts := C.2.2.2.2.2.2.2.2.1
  have hK := C.2.2.2.2.2.2.2.2.2.1
  refine W.widen (k := mc) (n := ms) (by omega) (by omega) ?_
  exact W.vret hx hb (by rw [C.2.2.2.2.1]; exact hr) (fun t ht hW => ⟨none, μ, rfl, by rw [ht]; exact hR, hm, fun v hv => (by cases hv), hq, hS.F ht⟩) hS.2.2 hd C.2.2.2.2.2.1
def tp_rw : List tp_V → Nat
  | [] => 0
  | .inl _ :: vs => tp_rw vs + 1
  | .inr (.inl _) :: vs => tp_rw vs + 2
  | .inr (.inr _) :: vs => tp_rw vs + 1
theorem tp_rw_eq {G : tp_G} : ∀ (vs : List tp_V), ((vs.map (tp_v G)).map fun v => v.category).sum = tp_rw vs := by
  intro vs
  induction vs with
  | nil => rfl
  | cons v vs ih =>
    rw [List.map_cons, List.map_cons, List.sum_cons, ih]
    rcases v with a | a | r
    · show 1 + tp_rw vs = tp_rw vs + 1
      omega
    · show 2 + tp_rw vs = tp_rw vs + 2
      omega
    · cases r
      · show 1 + tp_rw vs = tp_rw vs + 1
        omega
      · show 1 + tp_rw vs = tp_rw vs + 1
        omega
/-- the words of a good method -/
theorem tp_g_words {d : tp_D} (h : tp_good d = true) : tp_mn[tp_dx d]? = some (tp_dn d) ∧ Cond.code (tp_dn d) (tp_db d) (tp_dl d) (tp_dr d) ∈ tp_big ∧ ((tp_dn d).cls ≠ "java/lang/invoke/MethodHandle" ∧ (tp_dn d).cls ≠ "java/lang/invoke/VarHandle" ∧ (parseMethodDescriptor (tp_dn d).desc).map (fun d => d.parameters.length) = some (tp_da d)) ∧ Cond.initialized (tp_dn d).cls ∈ tp_big ∧ tp_dl d ≤ 20 ∧ tp_kindok d = true ∧ 1 ≤ tp_dd d := by
  simp only [tp_good, Bool.and_eq_true, decide_eq_true_eq] at h
  exact ⟨h.1.2.1, tp_in _ h.1.2.2.1 rfl, h.1.2.2.2, tp_in _ h.2.1.1 rfl, Nat.le_of_ble_eq_true h.2.1.2, h.2.2.1, tp_ge1 h.2.2.2⟩
theorem tp_kind0 {d : tp_D} (h : tp_kindok d = true) (hk : (tp_dp d).2.2.2.2 = 0) : Cond.instanceMethod (tp_dn d) ∈ tp_big ∧ Cond.selects (tp_dn d).cls (tp_dn d) (tp_dn d) ∈ tp_big := by
  unfold tp_kindok at h
  rw [hk, if_neg (by decide), if_neg (by decide)] at h
  simp only [Bool.and_eq_true, decide_eq_true_eq] at h
  exact ⟨tp_in _ h.1 rfl, tp_in _ h.2 rfl⟩
theorem tp_kind1 {d : tp_D} (h : tp_kindok d = true) (hk : (tp_dp d).2.2.2.2 = 1) : Cond.static (tp_dn d) ∈ tp_big := by
  unfold tp_kindok at h
  rw [hk, if_pos rfl] at h
  simp only [decide_eq_true_eq] at h
  exact tp_in _ h rfl
theorem tp_kind2 {d : tp_D} (h : tp_kindok d = true) (hk : (tp_dp d).2.2.2.2 = 2) : Cond.instanceMethod (tp_dn d) ∈ tp_big ∧ (tp_dn d).name = "<init>" := by
  unfold tp_kindok at h
  rw [hk, if_neg (by decide), if_pos rfl] at h
  simp only [Bool.and_eq_true, decide_eq_true_eq] at h
  exact ⟨tp_in _ h.1 rfl, h.2⟩
theorem tp_gws {d : tp_D} (h : Cond.code (tp_dn d) (tp_db d) (tp_dl d) (tp_dr d) ∈ tp_big) : GoodIn tp_big (tp_wsm d) := fun w hw => by
  rcases List.mem_cons.mp hw with rfl | h1
  · exact tp_goodIn _ h
  · exact tp_goodIn _ h1
theorem tp_lk0 {own : String} {idx pos a : Nat} {y : MethodName} (h : tp_lk own idx pos a 0 = true) (hy : tp_mn[a]? = some y) : Cond.methodLink own idx y ∈ tp_big := by
  unfold tp_lk at h
  rw [if_neg (by decide), hy, decide_eq_true_eq] at h
  exact tp_in pos h rfl
theorem tp_lk1 {own : String} {idx pos a : Nat} {y : MethodName} (h : tp_lk own idx pos a 1 = true) (hy : tp_mn[a]? = some y) : (own, idx, y) ∈ tp_nl := by
  unfold tp_lk at h
  rw [if_pos rfl, hy, decide_eq_true_eq] at h
  exact List.mem_of_getElem? h
/-- behind a call -/
theorem tp_after {G : tp_G} {d : tp_D} {pc : Nat} {ls : List (Option tp_V)} {st : List tp_V} {μ : tp_M} {n n' bs : Nat} {Φ : Option tp_V → tp_M → Prop} {S : List tp_V} {n1 ms1 : Nat} {Ψ : Option tp_V → tp_M → Prop} {p : Program} {e : Env} {s : State} {m : MethodId} {args : Array Value} {below : List Frame} {meth : Method} {c : Code} {H : Heap} {locs : List Loc} {cells slots : Nat} {lsA : Array Slot} {mc ms : Nat} {av : Array Value}
    (Z : tp_pt G d ls S μ n n' bs p s m args meth c H locs cells slots lsA mc ms) (hst : ∀ v ∈ st, v ∈ S) (hn1 : n1 ≤ n') (hn0 : n ≤ n1) (hms : ms1 ≤ bs)
    (hr : va_Run p (tp_Gl G) e (tp_rm d mc ms) s m args below meth c H locs cells slots (n1 - n) ms1 (F0 m pc lsA (S.map (tp_v G))) (st.map (tp_v G)) (tp_Q G n1 Ψ av) (tp_A G))
    (k : ∀ (r : Option tp_V) (μ' : tp_M), Ψ r μ' → tp_mok μ' → tp_go G d (pc + 3) ls (r.toList ++ st) μ' n1 n' (bs - ms1) Φ) :
    W p (tp_Gl G) e (tp_rm d mc ms) s m args below meth c H locs cells slots (MQ below (tp_Q G n' Φ) args s mc ms (tp_A G)) (F0 m pc lsA (S.map (tp_v G))) := by
  obtain ⟨C, hS, hR, hl, hB, hm, hs, hv⟩ := Z
  intro T hT X
  obtain ⟨v, st₀, t, T', L, h0, X', hL, e1, e2, ⟨r, μ', hv', hrep, hmok, hfit, hΨ, hz, hk⟩, stp⟩ := hr T hT X
  cases hv'
  rw [h0] at hz hk
  rw [← e1] at hrep hz hk
  have hS' : va_S (tp_A G) s.heap T'.heap (locs ++ L) := ⟨Nat.le_trans hS.1 hz, fun q h1 h2 => by rw [hk q (Nat.lt_of_lt_of_le h1 hS.1) h2]; exact hS.2.1 q h1 h2, fun q hq => by
      rcases List.mem_append.mp hq with h | h
      · exact hS.2.2 q h
      · exact hL q h⟩
  have hfs : ∀ v ∈ r.toList ++ st, tp_fit v := fun v hv2 => by
    rcases List.mem_append.mp hv2 with h | h
    · exact hfit v (Option.mem_toList.mp h)
    · exact hs v (hst v h)
  obtain ⟨t2, a1, b1⟩ := k r μ' hΨ hmok p e s m args below meth c T'.heap (locs ++ L) (cells + (n1 - n)) (slots + ms1) lsA mc ms ⟨C, hS', hrep, hl, ⟨hn1, by omega, by omega, by omega⟩, hmok, hfs, hv⟩ T' rfl X'
  refine ⟨t2, stp t2 ?_, b1⟩
  have e3 : (r.toList ++ st).map (tp_v G) = (r.map (tp_v G)).toList ++ st.map (tp_v G) := by cases r <;> rfl
  rw [e3] at a1
  exact a1
/-- what a callee finds -/
theorem tp_pre {G : tp_G} {d : tp_D} {ls : List (Option tp_V)} {μ : tp_M} {n n' bs : Nat} {S as : List tp_V} {p : Program} {s : State} {m : MethodId} {args : Array Value} {meth : Method} {c : Code} {H : Heap} {locs : List Loc} {cells slots : Nat} {lsA : Array Slot} {mc ms : Nat}
    (Z : tp_pt G d ls S μ n n' bs p s m args meth c H locs cells slots lsA mc ms) (hsz : H.size ≤ s.heap.size + cells) : ∀ U : State, U.heap = H → s.WarmedH U.vm → tp_Pc G as μ n ((as.map (tp_v G)).toArray) U := by
  obtain ⟨C, hS, hR, hl, hB, hm, hs, hv⟩ := Z
  intro U hU hW
  have hg := tp_rep_size hR (Nat.le_trans C.2.2.2.2.2.2.2.2.2.2 hS.1)
  refine ⟨rfl, tp_K_warm hW (fun a h1 h2 => by rw [hU]; exact hS.2.1 a h1 h2) C.2.2.2.2.2.2.2.2.2.1, by rw [hU]; exact hR, ?_⟩
  rw [hU]
  omega
theorem goodIn_app0 {own : String} {idx : Nat} {y : MethodName} {ws : List Cond} (h1 : Cond.methodLink own idx y ∈ tp_big) (h2 : Cond.instanceMethod y ∈ tp_big) (h3 : Cond.selects y.cls y y ∈ tp_big) (h4 : Cond.initialized y.cls ∈ tp_big) (h : GoodIn tp_big ws) : GoodIn tp_big (wsV own idx y.cls y ws) := fun w hw => by
  unfold wsV at hw
  rcases List.mem_append.mp hw with hw | hw
  · simp only [List.mem_cons, List.not_mem_nil, or_false] at hw
    rcases hw with rfl | rfl | rfl | rfl
    · exact tp_goodIn _ h1
    · exact tp_goodIn _ h2
    · exact tp_goodIn _ h3
    · exact tp_goodIn _ h4
  · exact h w hw
theorem goodIn_app1 {own : String} {idx : Nat} {y : MethodName} {ws : List Cond} (h1 : Cond.methodLink own idx y ∈ tp_big) (h2 : Cond.static y ∈ tp_big) (h4 : Cond.initialized y.cls ∈ tp_big) (h : GoodIn tp_big ws) : GoodIn tp_big (va_wsS own idx y ws) := fun w hw => by
  unfold va_wsS at hw
  rcases List.mem_append.mp hw with hw | hw
  · simp only [List.mem_cons, List.not_mem_nil, or_false] at hw
    rcases hw with rfl | rfl | rfl
    · exact tp_goodIn _ h1
    · exact tp_goodIn _ h2
    · exact tp_goodIn _ h4
  · exact h w hw
theorem g_callV {G : tp_G} {d : tp_D} {pc : Nat} {ls : List (Option tp_V)} {st : List tp_V} {μ : tp_M} {n n' bs : Nat} {Φ : Option tp_V → tp_M → Prop} {idx pos n1 ms1 : Nat} {d2 : tp_D} {S as : List tp_V} {Ψ : Option tp_V → tp_M → Prop} {c0 ci : Nat} (hok : tp_ok G d2 (tR (some c0) :: as) μ n n1 ms1 Ψ) (hst : S = as.reverse ++ tR (some c0) :: st) (hf : tp_at d pc = some (.invokevirtual idx, 3, pos, tp_dx d2, 0)) (hg : tp_good d2 = true) (hk : (tp_dp d2).2.2.2.2 = 0) (hc : tp_SH c0 = .inl ci) (hci : tp_cl[ci]? = some ((tp_dn d2).cls, tp_T ci, tp_cn ci)) (hn : c0 < n) (ha : as.length = tp_da d2) (hdep : Nat.ble (tp_dd d2 + 1) (tp_dd d) = true) (hw : Nat.ble (tp_rw st) 8 = true) (hn1 : n1 ≤ n') (hms : ms1 ≤ bs)
    (k : ∀ (r : Option tp_V) (μ' : tp_M), Ψ r μ' → tp_mok μ' → tp_go G d (pc + 3) ls (r.toList ++ st) μ' n1 n' (bs - ms1) Φ) : tp_go G d pc ls S μ n n' bs Φ := by
  intro p e s m args below meth c H locs cells slots lsA mc ms Z
  refine tp_Wsize (fun hsz => ?_)
  have Z2 := Z
  obtain ⟨C, hS, hR, hl, hB, hm, hs, hv⟩ := Z2
  have hd := tp_dec C.1 hf
  have hlk := tp_lnk C.1 hf
  have hown := C.2.2.2.2.2.2.2.1
  have hts := C.2.2.2.2.2.2.2.2.1
  have hK := C.2.2.2.2.2.2.2.2.2.1
  obtain ⟨w1, w2, w3, w4, w5, w6, w7⟩ := tp_g_words hg
  have hdp : tp_dd d2 + 1 ≤ tp_dd d := Nat.le_of_ble_eq_true hdep
  have hrw : ((st.map (tp_v G)).map fun v => v.category).sum ≤ 8 := by rw [tp_rw_eq]; exact Nat.le_of_ble_eq_true hw
  have hfa : ∀ v ∈ tR (some c0) :: as, tp_fit v := fun v hv2 => by
    rcases List.mem_cons.mp hv2 with rfl | h
    · exact trivial
    · exact hs v (by rw [hst]; exact List.mem_append_left _ (List.mem_reverse.mpr h))
  have hM := hok.2 hm hfa
  have hRm : (tp_rm d2 (n1 - n) ms1).frames + 1 ≤ (tp_rm d mc ms).frames ∧ 8 + (tp_dl d2 + 11) + (tp_rm d2 (n1 - n) ms1).locals ≤ (tp_rm d mc ms).locals := by
    constructor
    · exact hdp
    · show 8 + (tp_dl d2 + 11) + 39 * tp_dd d2 ≤ 39 * tp_dd d
      omega
  have hroom : cells + (n1 - n) ≤ (tp_rm d mc ms).cells ∧ slots + ms1 ≤ (tp_rm d mc ms).slots := by
    have := hok.1
    constructor
    · show cells + (n1 - n) ≤ mc
      omega
    · show slots + ms1 ≤ ms
      omega
  have hl0 := tp_lk0 (by exact hlk) w1
  have hpre := tp_pre (as := tR (some c0) :: as) Z hsz
  rw [List.map_cons, tp_ref hn hR.1] at hpre
  have hstk : (F0 m pc lsA (S.map (tp_v G))).stack = (as.map (tp_v G)).reverse ++ .ref (tp_Gb G + c0) :: st.map (tp_v G) := by
    show S.map (tp_v G) = _
    rw [hst, List.map_append, List.map_cons, tp_ref hn hR.1, List.map_reverse]
  refine tp_after (d := d) (st := st) (av := (Value.ref (tp_Gb G + c0) :: as.map (tp_v G)).toArray) Z (fun v hv2 => by rw [hst]; exact List.mem_append_right _ (List.mem_cons_of_mem _ hv2)) hn1 hok.1 hms ?_ k
  obtain ⟨k1, k2⟩ := tp_kind0 w6 hk
  have hgi : GoodIn tp_big (wsV (tp_dn d).cls idx (tp_dn d2).cls (tp_dn d2) (tp_wsm d2)) := goodIn_app0 hl0 k1 k2 w4 (tp_gws w2)
  exact va_runV ⟨C.2.1, C.2.2.1, C.2.2.2.1, hown, hts⟩ hM (cwV (tp_da d2) hts hgi rfl rfl rfl ⟨rfl, w3⟩ hRm) ⟨tp_blind, va_recv hK.1 hR.2 hci (tp_ws_obj hn hc), hpre⟩ rfl (by rw [List.length_map]; exact ha) hl.2.1 hstk (lv_room hrw) hd hroom
theorem g_callS {G : tp_G} {d : tp_D} {pc : Nat} {ls : List (Option tp_V)} {st : List tp_V} {μ : tp_M} {n n' bs : Nat} {Φ : Option tp_V → tp_M → Prop} {idx pos n1 ms1 : Nat} {d2 : tp_D} {S as : List tp_V} {Ψ : Option tp_V → tp_M → Prop} (hok : tp_ok G d2 as μ n n1 ms1 Ψ) (hst : S = as.reverse ++ st) (hf : tp_at d pc = some (.invokestatic idx, 3, pos, tp_dx d2, 0)) (hg : tp_good d2 = true) (hk : (tp_dp d2).2.2.2.2 = 1) (ha : as.length = tp_da d2) (hdep : Nat.ble (tp_dd d2 + 1) (tp_dd d) = true) (hw : Nat.ble (tp_rw st) 8 = true) (hn1 : n1 ≤ n') (hms : ms1 ≤ bs)
    (k : ∀ (r : Option tp_V) (μ' : tp_M), Ψ r μ' → tp_mok μ' → tp_go G d (pc + 3) ls (r.toList ++ st) μ' n1 n' (bs - ms1) Φ) : tp_go G d pc ls S μ n n' bs Φ := by
  intro p e s m args below meth c H locs cells slots lsA mc ms Z
  refine tp_Wsize (fun hsz => ?_)
  have Z2 := Z
  obtain ⟨C, hS, hR, hl, hB, hm, hs, hv⟩ := Z2
  have hd := tp_dec C.1 hf
  have hlk := tp_lnk C.1 hf
  have hown := C.2.2.2.2.2.2.2.1
  have hts := C.2.2.2.2.2.2.2.2.1
  have hK := C.2.2.2.2.2.2.2.2.2.1
  obtain ⟨w1, w2, w3, w4, w5, w6, w7⟩ := tp_g_words hg
  have hdp : tp_dd d2 + 1 ≤ tp_dd d := Nat.le_of_ble_eq_true hdep
  have hrw : ((st.map (tp_v G)).map fun v => v.category).sum ≤ 8 := by rw [tp_rw_eq]; exact Nat.le_of_ble_eq_true hw
  have hfa : ∀ v ∈ as, tp_fit v := fun v hv2 => hs v (by rw [hst]; exact List.mem_append_left _ (List.mem_reverse.mpr hv2))
  have hM := hok.2 hm hfa
  have hRm : (tp_rm d2 (n1 - n) ms1).frames + 1 ≤ (tp_rm d mc ms).frames ∧ 8 + (tp_dl d2 + 11) + (tp_rm d2 (n1 - n) ms1).locals ≤ (tp_rm d mc ms).locals := by
    constructor
    · exact hdp
    · show 8 + (tp_dl d2 + 11) + 39 * tp_dd d2 ≤ 39 * tp_dd d
      omega
  have hroom : cells + (n1 - n) ≤ (tp_rm d mc ms).cells ∧ slots + ms1 ≤ (tp_rm d mc ms).slots := by
    have := hok.1
    constructor
    · show cells + (n1 - n) ≤ mc
      omega
    · show slots + ms1 ≤ ms
      omega
  have hl0 := tp_lk0 (by exact hlk) w1
  have hpre := tp_pre (as := as) Z hsz
  have hstk : (F0 m pc lsA (S.map (tp_v G))).stack = (as.map (tp_v G)).reverse ++ st.map (tp_v G) := by
    show S.map (tp_v G) = _
    rw [hst, List.map_append, List.map_reverse]
  refine tp_after (d := d) (st := st) (av := (as.map (tp_v G)).toArray) Z (fun v hv2 => by rw [hst]; exact List.mem_append_right _ hv2) hn1 hok.1 hms ?_ k
  have k1 := tp_kind1 w6 hk
  have hgi : GoodIn tp_big (va_wsS (tp_dn d).cls idx (tp_dn d2) (tp_wsm d2)) := goodIn_app1 hl0 k1 w4 (tp_gws w2)
  exact va_runS ⟨C.2.1, C.2.2.1, C.2.2.2.1, hown, hts⟩ hM (va_cwS (tp_da d2) hts hgi rfl rfl rfl w3 hRm) ⟨tp_blind, hpre⟩ rfl (by rw [List.length_map]; exact ha) hl.2.1 hstk (lv_room hrw) hd hroom
theorem g_callSN {G : tp_G} {d : tp_D} {pc : Nat} {ls : List (Option tp_V)} {st : List tp_V} {μ : tp_M} {n n' bs : Nat} {Φ : Option tp_V → tp_M → Prop} {idx pos n1 ms1 : Nat} {d2 : tp_D} {S as : List tp_V} {Ψ : Option tp_V → tp_M → Prop} (hok : tp_ok G d2 as μ n n1 ms1 Ψ) (hst : S = as.reverse ++ st) (hf : tp_at d pc = some (.invokestatic idx, 3, pos, tp_dx d2, 1)) (hg : tp_good d2 = true) (hk : (tp_dp d2).2.2.2.2 = 1) (ha : as.length = tp_da d2) (hdep : Nat.ble (tp_dd d2 + 1) (tp_dd d) = true) (hw : Nat.ble (tp_rw st) 8 = true) (hn1 : n1 ≤ n') (hms : ms1 ≤ bs)
    (k : ∀ (r : Option tp_V) (μ' : tp_M), Ψ r μ' → tp_mok μ' → tp_go G d (pc + 3) ls (r.toList ++ st) μ' n1 n' (bs - ms1) Φ) : tp_go G d pc ls S μ n n' bs Φ := by
  intro p e s m args below meth c H locs cells slots lsA mc ms Z
  refine tp_Wsize (fun hsz => ?_)
  have Z2 := Z
  obtain ⟨C, hS, hR, hl, hB, hm, hs, hv⟩ := Z2
  have hd := tp_dec C.1 hf
  have hlk := tp_lnk C.1 hf
  have hown := C.2.2.2.2.2.2.2.1
  have hts := C.2.2.2.2.2.2.2.2.1
  have hK := C.2.2.2.2.2.2.2.2.2.1
  obtain ⟨w1, w2, w3, w4, w5, w6, w7⟩ := tp_g_words hg
  have hdp : tp_dd d2 + 1 ≤ tp_dd d := Nat.le_of_ble_eq_true hdep
  have hrw : ((st.map (tp_v G)).map fun v => v.category).sum ≤ 8 := by rw [tp_rw_eq]; exact Nat.le_of_ble_eq_true hw
  have hfa : ∀ v ∈ as, tp_fit v := fun v hv2 => hs v (by rw [hst]; exact List.mem_append_left _ (List.mem_reverse.mpr hv2))
  have hM := hok.2 hm hfa
  have hRm : (tp_rm d2 (n1 - n) ms1).frames + 1 ≤ (tp_rm d mc ms).frames ∧ 8 + (tp_dl d2 + 11) + (tp_rm d2 (n1 - n) ms1).locals ≤ (tp_rm d mc ms).locals := by
    constructor
    · exact hdp
    · show 8 + (tp_dl d2 + 11) + 39 * tp_dd d2 ≤ 39 * tp_dd d
      omega
  have hroom : cells + (n1 - n) ≤ (tp_rm d mc ms).cells ∧ slots + ms1 ≤ (tp_rm d mc ms).slots := by
    have := hok.1
    constructor
    · show cells + (n1 - n) ≤ mc
      omega
    · show slots + ms1 ≤ ms
      omega
  have hl0 := hK.2.1 _ (tp_lk1 (by exact hlk) w1)
  have hpre := tp_pre (as := as) Z hsz
  have hstk : (F0 m pc lsA (S.map (tp_v G))).stack = (as.map (tp_v G)).reverse ++ st.map (tp_v G) := by
    show S.map (tp_v G) = _
    rw [hst, List.map_append, List.map_reverse]
  refine tp_after (d := d) (st := st) (av := (as.map (tp_v G)).toArray) Z (fun v hv2 => by rw [hst]; exact List.mem_append_right _ hv2) hn1 hok.1 hms ?_ k
  have k1 := tp_kind1 w6 hk
  exact va_runSN ⟨C.2.1, C.2.2.1, C.2.2.2.1, hown, hts⟩ hM ⟨va_cnB (tp_da d2) hts (tp_gws w2) rfl rfl rfl hl0 (hts _ w4) w3 hRm, hts _ k1, trivial⟩ ⟨tp_blind, hpre⟩ rfl (by rw [List.length_map]; exact ha) hl.2.1 hstk (lv_room hrw) hd hroom
theorem g_callI {G : tp_G} {d : tp_D} {pc : Nat} {ls : List (Option tp_V)} {st : List tp_V} {μ : tp_M} {n n' bs : Nat} {Φ : Option tp_V → tp_M → Prop} {idx pos n1 ms1 : Nat} {d2 : tp_D} {S as : List tp_V} {Ψ : Option tp_V → tp_M → Prop} {c0 : Nat} (hok : tp_ok G d2 (tR (some c0) :: as) μ n n1 ms1 Ψ) (hst : S = as.reverse ++ tR (some c0) :: st) (hf : tp_at d pc = some (.invokespecial idx, 3, pos, tp_dx d2, 0)) (hg : tp_good d2 = true) (hk : (tp_dp d2).2.2.2.2 = 2) (hn : c0 < n) (hr0 : tp_dr d2 = none) (ha : as.length = tp_da d2) (hdep : Nat.ble (tp_dd d2 + 1) (tp_dd d) = true) (hw : Nat.ble (tp_rw st) 8 = true) (hn1 : n1 ≤ n') (hms : ms1 ≤ bs)
    (k : ∀ (r : Option tp_V) (μ' : tp_M), Ψ r μ' → tp_mok μ' → tp_go G d (pc + 3) ls (r.toList ++ st) μ' n1 n' (bs - ms1) Φ) : tp_go G d pc ls S μ n n' bs Φ := by
  intro p e s m args below meth c H locs cells slots lsA mc ms Z
  refine tp_Wsize (fun hsz => ?_)
  have Z2 := Z
  obtain ⟨C, hS, hR, hl, hB, hm, hs, hv⟩ := Z2
  have hd := tp_dec C.1 hf
  have hlk := tp_lnk C.1 hf
  have hown := C.2.2.2.2.2.2.2.1
  have hts := C.2.2.2.2.2.2.2.2.1
  have hK := C.2.2.2.2.2.2.2.2.2.1
  obtain ⟨w1, w2, w3, w4, w5, w6, w7⟩ := tp_g_words hg
  have hdp : tp_dd d2 + 1 ≤ tp_dd d := Nat.le_of_ble_eq_true hdep
  have hrw : ((st.map (tp_v G)).map fun v => v.category).sum ≤ 8 := by rw [tp_rw_eq]; exact Nat.le_of_ble_eq_true hw
  have hfa : ∀ v ∈ tR (some c0) :: as, tp_fit v := fun v hv2 => by
    rcases List.mem_cons.mp hv2 with rfl | h
    · exact trivial
    · exact hs v (by rw [hst]; exact List.mem_append_left _ (List.mem_reverse.mpr h))
  have hM := hok.2 hm hfa
  have hRm : (tp_rm d2 (n1 - n) ms1).frames + 1 ≤ (tp_rm d mc ms).frames ∧ 8 + (tp_dl d2 + 11) + (tp_rm d2 (n1 - n) ms1).locals ≤ (tp_rm d mc ms).locals := by
    constructor
    · exact hdp
    · show 8 + (tp_dl d2 + 11) + 39 * tp_dd d2 ≤ 39 * tp_dd d
      omega
  have hroom : cells + (n1 - n) ≤ (tp_rm d mc ms).cells ∧ slots + ms1 ≤ (tp_rm d mc ms).slots := by
    have := hok.1
    constructor
    · show cells + (n1 - n) ≤ mc
      omega
    · show slots + ms1 ≤ ms
      omega
  have hl0 := tp_lk0 (by exact hlk) w1
  have hpre := tp_pre (as := tR (some c0) :: as) Z hsz
  rw [List.map_cons, tp_ref hn hR.1] at hpre
  have hstk : (F0 m pc lsA (S.map (tp_v G))).stack = (as.map (tp_v G)).reverse ++ .ref (tp_Gb G + c0) :: st.map (tp_v G) := by
    show S.map (tp_v G) = _
    rw [hst, List.map_append, List.map_cons, tp_ref hn hR.1, List.map_reverse]
  refine tp_after (d := d) (st := st) (av := (Value.ref (tp_Gb G + c0) :: as.map (tp_v G)).toArray) Z (fun v hv2 => by rw [hst]; exact List.mem_append_right _ (List.mem_cons_of_mem _ hv2)) hn1 hok.1 hms ?_ k
  obtain ⟨k1, k2⟩ := tp_kind2 w6 hk
  exact va_runI ⟨C.2.1, C.2.2.1, C.2.2.2.1, hown, hts⟩ hM (cwI (tp_da d2) hts (tp_gws w2) (by unfold tp_wsm; rw [hr0]) rfl rfl (hts _ w4) (hts _ hl0) (hts _ k1) k2 w3 hRm) ⟨tp_blind, hpre⟩ rfl (by rw [List.length_map]; exact ha) hl.2.1 hstk (lv_room hrw) hd hroom
theorem g_callIN {G : tp_G} {d : tp_D} {pc : Nat} {ls : List (Option tp_V)} {st : List tp_V} {μ : tp_M} {n n' bs : Nat} {Φ : Option tp_V → tp_M → Prop} {idx pos n1 ms1 : Nat} {d2 : tp_D} {S as : List tp_V} {Ψ : Option tp_V → tp_M → Prop} {c0 : Nat} (hok : tp_ok G d2 (tR (some c0) :: as) μ n n1 ms1 Ψ) (hst : S = as.reverse ++ tR (some c0) :: st) (hf : tp_at d pc = some (.invokespecial idx, 3, pos, tp_dx d2, 1)) (hg : tp_good d2 = true) (hk : (tp_dp d2).2.2.2.2 = 2) (hn : c0 < n) (hr0 : tp_dr d2 = none) (ha : as.length = tp_da d2) (hdep : Nat.ble (tp_dd d2 + 1) (tp_dd d) = true) (hw : Nat.ble (tp_rw st) 8 = true) (hn1 : n1 ≤ n') (hms : ms1 ≤ bs)
    (k : ∀ (r : Option tp_V) (μ' : tp_M), Ψ r μ' → tp_mok μ' → tp_go G d (pc + 3) ls (r.toList ++ st) μ' n1 n' (bs - ms1) Φ) : tp_go G d pc ls S μ n n' bs Φ := by
  intro p e s m args below meth c H locs cells slots lsA mc ms Z
  refine tp_Wsize (fun hsz => ?_)
  have Z2 := Z
  obtain ⟨C, hS, hR, hl, hB, hm, hs, hv⟩ := Z2
  have hd := tp_dec C.1 hf
  have hlk := tp_lnk C.1 hf
  have hown := C.2.2.2.2.2.2.2.1
  have hts := C.2.2.2.2.2.2.2.2.1
  have hK := C.2.2.2.2.2.2.2.2.2.1
  obtain ⟨w1, w2, w3, w4, w5, w6, w7⟩ := tp_g_words hg
  have hdp : tp_dd d2 + 1 ≤ tp_dd d := Nat.le_of_ble_eq_true hdep
  have hrw : ((st.map (tp_v G)).map fun v => v.category).sum ≤ 8 := by rw [tp_rw_eq]; exact Nat.le_of_ble_eq_true hw
  have hfa : ∀ v ∈ tR (some c0) :: as, tp_fit v := fun v hv2 => by
    rcases List.mem_cons.mp hv2 with rfl | h
    · exact trivial
    · exact hs v (by rw [hst]; exact List.mem_append_left _ (List.mem_reverse.mpr h))
  have hM := hok.2 hm hfa
  have hRm : (tp_rm d2 (n1 - n) ms1).frames + 1 ≤ (tp_rm d mc ms).frames ∧ 8 + (tp_dl d2 + 11) + (tp_rm d2 (n1 - n) ms1).locals ≤ (tp_rm d mc ms).locals := by
    constructor
    · exact hdp
    · show 8 + (tp_dl d2 + 11) + 39 * tp_dd d2 ≤ 39 * tp_dd d
      omega
  have hroom : cells + (n1 - n) ≤ (tp_rm d mc ms).cells ∧ slots + ms1 ≤ (tp_rm d mc ms).slots := by
    have := hok.1
    constructor
    · show cells + (n1 - n) ≤ mc
      omega
    · show slots + ms1 ≤ ms
      omega
  have hl0 := hK.2.1 _ (tp_lk1 (by exact hlk) w1)
  have hpre := tp_pre (as := tR (some c0) :: as) Z hsz
  rw [List.map_cons, tp_ref hn hR.1] at hpre
  have hstk : (F0 m pc lsA (S.map (tp_v G))).stack = (as.map (tp_v G)).reverse ++ .ref (tp_Gb G + c0) :: st.map (tp_v G) := by
    show S.map (tp_v G) = _
    rw [hst, List.map_append, List.map_cons, tp_ref hn hR.1, List.map_reverse]
  refine tp_after (d := d) (st := st) (av := (Value.ref (tp_Gb G + c0) :: as.map (tp_v G)).toArray) Z (fun v hv2 => by rw [hst]; exact List.mem_append_right _ (List.mem_cons_of_mem _ hv2)) hn1 hok.1 hms ?_ k
  obtain ⟨k1, k2⟩ := tp_kind2 w6 hk
  exact va_runIN ⟨C.2.1, C.2.2.1, C.2.2.2.1, hown, hts⟩ hM ⟨va_cnB (tp_da d2) hts (tp_gws w2) (by unfold tp_wsm; rw [hr0]) rfl rfl hl0 (hts _ w4) w3 hRm, k2, hts _ k1⟩ ⟨tp_blind, hpre⟩ rfl (by rw [List.length_map]; exact ha) hl.2.1 hstk (lv_room hrw) hd hroom
theorem tp_oi1 : Cond.instanceMethod Lib.objectInit ∈ tp_big := tp_in 161 (by decide +kernel) rfl
theorem tp_oi2 : Cond.code Lib.objectInit ⟨#[0xb1]⟩ 1 none ∈ tp_big := tp_in 162 (by decide +kernel) rfl
theorem g_obj {G : tp_G} {d : tp_D} {pc : Nat} {ls : List (Option tp_V)} {st : List tp_V} {μ : tp_M} {n n' bs : Nat} {Φ : Option tp_V → tp_M → Prop} {idx pos c0 : Nat} (hf : tp_at d pc = some (.invokespecial idx, 3, pos, 296, 0)) (hn : c0 < n) (hw : Nat.ble (tp_rw st) 8 = true) (k : tp_go G d (pc + 3) ls (st) μ n n' bs Φ) : tp_go G d (pc) ls (tR (some c0) :: st) μ n n' bs Φ := by
  intro p e s m args below meth c H locs cells slots lsA mc ms Z
  obtain ⟨C, hS, hR, hl, hB, hm, hs, hv⟩ := Z
  have hd := tp_dec C.1 hf
  have hx := C.2.1
  have hb := C.2.2.1
  have hown := C.2.2.2.2.2.2.2.1
  have hts := C.2.2.2.2.2.2.2.2.1
  have hK := C.2.2.2.2.2.2.2.2.2.1
  have hlk := tp_lk0 (y := Lib.objectInit) (by exact tp_lnk C.1 hf) (by decide +kernel)
  have w7 := tp_ge1 C.1
  have hrw : ((st.map (tp_v G)).map fun v => v.category).sum ≤ 8 := by rw [tp_rw_eq]; exact Nat.le_of_ble_eq_true hw
  have h9 := lv_room (m := m) (pc := pc) (ls := lsA) (rest := (tR (some c0) :: st).map (tp_v G)) hrw
  have hz := k p e s m args below meth c H locs cells slots lsA mc ms ⟨C, hS, hR, hl, hB, hm, tp_f1 hs, hv⟩
  refine W.objInit hx hb hown (hts _ hlk) (hts _ tp_oi1) (hts _ tp_oi2) rfl (by rw [C.2.2.2.1]; exact hl.2.1) (a := tp_Gb G + c0) (rest := st.map (tp_v G)) (by show List.map _ _ = _; rw [List.map_cons, tp_ref hn hR.1]) hd (by show 1 ≤ tp_dd d; exact w7) (by show _ + 12 ≤ 39 * tp_dd d; omega) ?_
  exact hz
def tp_okt : FieldType → Bool
  | .int | .boolean | .byte | .long | .object _ | .array _ => true
  | _ => false
theorem tp_ty_ok : ∀ ci, ci < 13 → ∀ j, j < tp_cn ci → tp_okt (tp_ty ci j) = true := by decide +kernel
theorem tp_ws_succ {G : tp_G} {μ : tp_M} {n : Nat} : tp_ws G μ (n + 1) = tp_ws G μ n ++ [(tp_Gb G + n, tp_e G μ n)] := by simp [tp_ws, List.range_succ]
/-- nothing is held beyond n -/
def tp_nul (μ : tp_M) (n : Nat) : Prop := ∀ (j : Int), μ.1 n j = 0 ∧ μ.2 n j = none
theorem tp_rd0 {G : tp_G} {μ : tp_M} {k : Nat} {j : Int} (hq : tp_Gf G = false) : tp_rd G μ k j = μ.2 k j := by simp only [tp_rd, hq, cond_false]
theorem tp_fv0 {G : tp_G} {μ : tp_M} {k j : Nat} {ty : FieldType} (hq : tp_Gf G = false) (hz : tp_nul μ k) (ht : tp_okt ty = true) : defaultValue ty = tp_fv G μ k j ty := by
  obtain ⟨h1, h2⟩ := hz (j : Int)
  cases ty <;> simp only [tp_okt, Bool.false_eq_true] at ht <;> simp only [tp_fv, tp_rd0 hq, h1, h2] <;> rfl
theorem tp_rep_new {G : tp_G} {μ : tp_M} {n : Nat} {H H1 : Heap} (h : tp_rep G μ n H) (h5 : n < 5000) (ho : ∀ q, q < tp_Gb G + n → H1[q]? = H[q]?) (hnew : va_at (tp_GD G) tp_cl (tp_Gb G + n, tp_e G μ n) H1) : tp_rep G μ (n + 1) H1 := by
  refine ⟨h5, ?_⟩
  rw [tp_ws_succ]
  refine va_P.app (h.2.kept (fun k q hk => ?_)) (fun k q hk => ?_)
  · have hl : k < n := by have := (List.getElem?_eq_some_iff.mp hk).1; simpa [tp_ws] using this
    rw [tp_ws_at hl] at hk
    cases hk
    exact ho _ (by omega)
  · have hz : k < 1 := (List.getElem?_eq_some_iff.mp hk).1
    rw [show k = 0 by omega] at hk
    cases hk
    exact hnew
theorem g_new {G : tp_G} {d : tp_D} {pc : Nat} {ls : List (Option tp_V)} {st : List tp_V} {μ : tp_M} {n n' bs : Nat} {Φ : Option tp_V → tp_M → Prop} {idx pos ci b0 : Nat} (hf : tp_at d pc = some (.new idx, 3, pos, ci, b0)) (hc : tp_SH n = .inl ci) (hq : tp_Gf G = false) (hz : tp_nul μ n) (hn : n < n') (h5 : n < 5000) (hbs : tp_cn ci ≤ bs) (k : tp_go G d (pc + 3) ls (tR (some n) :: st) μ (n + 1) n' (bs - tp_cn ci) Φ) : tp_go G d (pc) ls (st) μ n n' bs Φ := by
  intro p e s m args below meth c H locs cells slots lsA mc ms Z
  obtain ⟨C, hS, hR, hl, hB, hm, hs, hv⟩ := Z
  have hd := tp_dec C.1 hf
  have hx := C.2.1
  have hb := C.2.2.1
  have hown := C.2.2.2.2.2.2.2.1
  have hts := C.2.2.2.2.2.2.2.2.1
  have hK := C.2.2.2.2.2.2.2.2.2.1
  have hlk := tp_lnk C.1 hf
  simp only [tp_entlink, Bool.and_eq_true, decide_eq_true_eq] at hlk
  have hci : ci < 13 := Nat.le_of_ble_eq_true hlk.2
  refine tp_Wsize (fun hsz => ?_)
  have hg := tp_rep_size hR (Nat.le_trans C.2.2.2.2.2.2.2.2.2.2 hS.1)
  have hH : H.size = tp_Gb G + n := by omega
  have hKn := hK.1.1 ci _ (tp_cl_at ci hci)
  refine W.newcK hx hb hown (hts _ (tp_in pos hlk.1 rfl)) (hts _ (tp_cl_is ci hci)) (hts _ (tp_cl_iz ci hci)) rfl hd (by show cells + 1 ≤ mc; omega) (by show slots + tp_cn ci ≤ ms; omega) hKn.2.1 hH (fun H1 kC hkC e1 z1 o1 => ?_)
  have hrep : tp_rep G μ (n + 1) H1 := tp_rep_new hR h5 o1 (by
    rw [tp_e_obj hc]
    refine ⟨_, tp_cl_at ci hci, (u_born (tp_ty ci) hts (tp_cl_in ci hci) hKn hkC e1 (tp_cl_ty ci hci)).to (fun j hj => ?_)⟩
    rw [tp_fv0 hq hz (tp_ty_ok ci hci j hj)]
    show _ = (tp_fl G μ n ci).getD j .null
    rw [List.getD_eq_getElem?_getD, tp_fl_at hj]
    rfl)
  have hz2 := k p e s m args below meth c H1 locs (cells + 1) (slots + tp_cn ci) lsA mc ms ⟨C, ⟨Nat.le_trans hS.1 (by omega), fun x h1 h2 => (o1 x (by have := hS.1; omega)).trans (hS.2.1 x h1 h2), hS.2.2⟩, hrep, hl, ⟨hn, by omega, by omega, by omega⟩, hm, tp_fc trivial hs, hv⟩
  rw [List.map_cons, tp_ref (Nat.lt_succ_self n) hrep.1] at hz2
  exact hz2
theorem tp_ar : ∀ ty, ty = FieldType.int ∨ ty = .byte ∨ ty = .boolean ∨ ty = .long → Cond.arrayClass ty ∈ tp_big := by
  intro ty h
  rcases h with rfl | rfl | rfl | rfl
  · exact tp_in 196 (by decide +kernel) rfl
  · exact tp_in 195 (by decide +kernel) rfl
  · exact tp_in 355 (by decide +kernel) rfl
  · exact tp_in 356 (by decide +kernel) rfl
theorem g_newa {G : tp_G} {d : tp_D} {pc : Nat} {ls : List (Option tp_V)} {st : List tp_V} {μ : tp_M} {n n' bs : Nat} {Φ : Option tp_V → tp_M → Prop} {x : Nat × Nat × Nat} {at0 : ArrayType} {ty : FieldType} {a : Int} {len t0 : Nat} (hf : tp_at d pc = some (.newarray at0, 2, x)) (hty : newarray.typeOf at0 = ty) (ht : ty = .int ∨ ty = .byte ∨ ty = .boolean ∨ ty = .long) (ht0 : tp_tyl[t0]? = some ty) (hc : tp_SH n = .inr (ty, len)) (ha : a = (len : Int)) (hlen : Nat.ble len 100000 = true) (hq : tp_Gf G = false) (hz : tp_nul μ n) (hn : n < n') (h5 : n < 5000) (hbs : len ≤ bs) (k : tp_go G d (pc + 2) ls (tR (some n) :: st) μ (n + 1) n' (bs - len) Φ) : tp_go G d (pc) ls (tI a :: st) μ n n' bs Φ := by
  intro p e s m args below meth c H locs cells slots lsA mc ms Z
  obtain ⟨C, hS, hR, hl, hB, hm, hs, hv⟩ := Z
  have hd := tp_dec C.1 hf
  have hx := C.2.1
  have hb := C.2.2.1
  have hown := C.2.2.2.2.2.2.2.1
  have hts := C.2.2.2.2.2.2.2.2.1
  have hK := C.2.2.2.2.2.2.2.2.2.1
  have hlen2 : len ≤ 100000 := Nat.le_of_ble_eq_true hlen
  subst hty
  subst ha
  refine tp_Wsize (fun hsz => ?_)
  have hg := tp_rep_size hR (Nat.le_trans C.2.2.2.2.2.2.2.2.2.2 hS.1)
  have hH : H.size = tp_Gb G + n := by omega
  have hr : tp_r32 (len : Int) := tp_f0 hs
  have hcl : (Int32.ofInt (len : Int)).toNatClampNeg = len := by rw [← Int32.toNat_toInt, tp_t hr]; omega
  have hbytes : len * componentBytes (newarray.typeOf at0) ≤ 536870912 := by
    have h8 : componentBytes (newarray.typeOf at0) ≤ 8 := by cases at0 <;> decide
    have := Nat.mul_le_mul_left len h8
    omega
  refine va_newaK (N := len) hx hb (hts _ (tp_ar _ ht)) rfl hd rfl (fun h => by have := (tp_lt hr tp_r0).mp h; omega) hcl hbytes (by show cells + 1 ≤ mc; omega) (by show slots + len ≤ ms; omega) hH (fun H1 cA e1 z1 o1 hAr hNm => ?_)
  have hRA := (hK.1.2 t0 _ (tp_tys_at ht0)).2
  have hcA : cA = tp_Ga G (newarray.typeOf at0) := by
    have h3 : s.vm.findClass ("[" ++ (newarray.typeOf at0).toString) = some (tp_Ga G (newarray.typeOf at0)) := by
      cases at0 <;> exact hRA
    exact Option.some.inj (hNm.symm.trans h3)
  have hrep : tp_rep G μ (n + 1) H1 := tp_rep_new hR h5 o1 (by
    rw [tp_e_arr hc]
    show H1[tp_Gb G + n]? = some (vp_cell _ _)
    rw [e1, hcA]
    congr 1
    have hi : ∀ j, μ.1 n j = 0 := fun j => (hz j).1
    cases at0 <;> first
      | (exfalso; rcases ht with h | h | h | h <;> cases h; done)
      | (simp only [newarray.typeOf, tp_ac, hi]; rfl))
  have hz2 := k p e s m args below meth c H1 locs (cells + 1) (slots + len) lsA mc ms ⟨C, ⟨Nat.le_trans hS.1 (by omega), fun x h1 h2 => (o1 x (by have := hS.1; omega)).trans (hS.2.1 x h1 h2), hS.2.2⟩, hrep, hl, ⟨hn, by omega, by omega, by omega⟩, hm, tp_fc trivial (tp_f1 hs), hv⟩
  rw [List.map_cons, tp_ref (Nat.lt_succ_self n) hrep.1] at hz2
  exact hz2
theorem g_anew {G : tp_G} {d : tp_D} {pc : Nat} {ls : List (Option tp_V)} {st : List tp_V} {μ : tp_M} {n n' bs : Nat} {Φ : Option tp_V → tp_M → Prop} {idx pos ci b0 : Nat} {a : Int} {len t0 : Nat} (hf : tp_at d pc = some (.anewarray idx, 3, pos, ci, b0)) (ht0 : tp_tyl[t0]? = some (.object (tp_C ci))) (hc : tp_SH n = .inr (.object (tp_C ci), len)) (ha : a = (len : Int)) (hlen : Nat.ble len 100000 = true) (hq : tp_Gf G = false) (hz : tp_nul μ n) (hn : n < n') (h5 : n < 5000) (hbs : len ≤ bs) (k : tp_go G d (pc + 3) ls (tR (some n) :: st) μ (n + 1) n' (bs - len) Φ) : tp_go G d (pc) ls (tI a :: st) μ n n' bs Φ := by
  intro p e s m args below meth c H locs cells slots lsA mc ms Z
  obtain ⟨C, hS, hR, hl, hB, hm, hs, hv⟩ := Z
  have hd := tp_dec C.1 hf
  have hx := C.2.1
  have hb := C.2.2.1
  have hown := C.2.2.2.2.2.2.2.1
  have hts := C.2.2.2.2.2.2.2.2.1
  have hK := C.2.2.2.2.2.2.2.2.2.1
  have hlen2 : len ≤ 100000 := Nat.le_of_ble_eq_true hlen
  have hlk := tp_lnk C.1 hf
  simp only [tp_entlink, Bool.and_eq_true, decide_eq_true_eq] at hlk
  subst ha
  refine tp_Wsize (fun hsz => ?_)
  have hg := tp_rep_size hR (Nat.le_trans C.2.2.2.2.2.2.2.2.2.2 hS.1)
  have hH : H.size = tp_Gb G + n := by omega
  have hr : tp_r32 (len : Int) := tp_f0 hs
  have hcl : (Int32.ofInt (len : Int)).toNatClampNeg = len := by rw [← Int32.toNat_toInt, tp_t hr]; omega
  refine W.anew hx hb hown (hts _ (tp_in pos hlk.1 rfl)) (va_AO.use (hK.2.2.1 _ hlk.2)) rfl hd rfl (fun h => by have := (tp_lt hr tp_r0).mp h; omega) (by rw [hcl]; omega) (by show cells + 1 ≤ mc; omega) (by rw [hcl]; show slots + len ≤ ms; omega) (fun cA kA comp f1 f2 f3 f4 => ?_)
  have hRA := (hK.1.2 t0 _ (tp_tys_at ht0)).2
  obtain ⟨kA2, comp2, g1, g2, g3, g4⟩ := hRA
  have hcA : cA = tp_Ga G (.object (tp_C ci)) := Option.some.inj (f1.symm.trans g4)
  rw [hcl, hH]
  generalize hH1 : H.push ({ cls := cA, slots := Array.replicate len .null, vm := .none } : Cell) = H1
  have z1 : H1.size = tp_Gb G + n + 1 := by rw [← hH1, Array.size_push, hH]
  have e1 : H1[tp_Gb G + n]? = some (arrV cA len (fun _ => .null)) := by rw [← hH1, ← hH, Array.getElem?_push_size, ← arrV_new]
  have o1 : ∀ q : Nat, q < tp_Gb G + n → H1[q]? = H[q]? := fun q hq => by rw [← hH1, Array.getElem?_push, if_neg (by omega)]
  have hrep : tp_rep G μ (n + 1) H1 := tp_rep_new hR h5 o1 (by
    rw [tp_e_arr hc]
    show H1[tp_Gb G + n]? = some (vp_cell _ _)
    rw [e1, hcA]
    congr 1
    have hi : ∀ j, μ.2 n j = none := fun j => (hz j).2
    simp only [tp_ac, tp_rd0 hq, hi]
    rfl)
  have hz2 := k p e s m args below meth c H1 locs (cells + 1) (slots + len) lsA mc ms ⟨C, ⟨Nat.le_trans hS.1 (by omega), fun x h1 h2 => (o1 x (by have := hS.1; omega)).trans (hS.2.1 x h1 h2), hS.2.2⟩, hrep, hl, ⟨hn, by omega, by omega, by omega⟩, hm, tp_fc trivial (tp_f1 hs), hv⟩
  rw [List.map_cons, tp_ref (Nat.lt_succ_self n) hrep.1] at hz2
  exact hz2
theorem g_aast {G : tp_G} {d : tp_D} {pc : Nat} {ls : List (Option tp_V)} {st : List tp_V} {μ : tp_M} {n n' bs : Nat} {Φ : Option tp_V → tp_M → Prop} {x : Nat × Nat × Nat} {a : Int} {c0 c1 ci len t0 : Nat} (hf : tp_at d pc = some (.aastore, 1, x)) (hci : ci < 13) (hc : tp_SH c0 = .inr (.object (tp_C ci), len)) (hc1 : tp_SH c1 = .inl ci) (ht0 : tp_tyl[t0]? = some (.object (tp_C ci))) (hq : tp_Gf G = false) (hn : c0 < n) (hn1 : c1 < n) (h0 : 0 ≤ a) (h1 : a < (len : Int)) (k : tp_go G d (pc + 1) ls (st) (tp_pr μ c0 a (some c1)) n n' bs Φ) : tp_go G d (pc) ls (tR (some c1) :: tI a :: tR (some c0) :: st) μ n n' bs Φ := by
  intro p e s m args below meth c H locs cells slots lsA mc ms Z
  obtain ⟨C, hS, hR, hl, hB, hm, hs, hv⟩ := Z
  have hd := tp_dec C.1 hf
  have hx := C.2.1
  have hb := C.2.2.1
  have hown := C.2.2.2.2.2.2.2.1
  have hts := C.2.2.2.2.2.2.2.2.1
  have hK := C.2.2.2.2.2.2.2.2.2.1
  obtain ⟨hin, hq2⟩ := tp_ix h0 h1 (tp_f0 (tp_f1 hs))
  rw [List.map_cons, List.map_cons, List.map_cons, tp_ref hn hR.1, tp_ref hn1 hR.1]
  have ha := tp_ws_arr (G := G) (μ := μ) hn hc
  have ha : (tp_ws G μ n)[c0]? = some (tp_Gb G + c0, .inl (tp_Ga G (.object (tp_C ci)), len, .inr (.inr (.inr (.inr (fun j => (tp_rd G μ c0 (j : Int)).map (tp_ad G))))))) := ha
  refine va_astq hx hb hK.1 hR.2 tp_wsD hS c0 t0 c1 ci (r := (tp_C ci, tp_T ci, tp_cn ci)) ha (tp_tys_at ht0) (tp_ws_obj hn1 hc1) (tp_cl_at ci hci) hin hd (fun H1 locs1 hP1 _ hS1 => ?_)
  have e1 : va_up (fun j : Nat => (tp_rd G μ c0 (j : Int)).map (tp_ad G)) (Int32.ofInt a).toNatClampNeg (some (tp_Gb G + c1)) = (fun j : Nat => (tp_rd G (tp_pr μ c0 a (some c1)) c0 (j : Int)).map (tp_ad G)) := by
    funext j
    unfold va_up
    by_cases hj : j = (Int32.ofInt a).toNatClampNeg
    · rw [if_pos hj, hj, hq2, tp_rd0 hq, tp_pr_at]
      have h5 : c1 < 5000 := by have := hR.1; omega
      show _ = some (tp_ad G c1)
      rw [tp_ad, if_pos h5]
    · rw [if_neg hj]
      show Option.map (tp_ad G) (tp_rd G μ c0 (j : Int)) = _
      rw [tp_rd0 hq, tp_rd0 hq]
      have : (tp_pr μ c0 a (some c1)).2 c0 (j : Int) = μ.2 c0 (j : Int) := if_neg (fun z => hj (by omega))
      rw [this]
  rw [e1, tp_put_arr (G := G) (μ := μ) (n := n) (μ' := tp_pr μ c0 a (some c1)) hn hc tp_e_pr (show tp_ac G (tp_pr μ c0 a (some c1)) c0 (.object (tp_C ci)) = .inr (.inr (.inr (.inr (fun j => (tp_rd G (tp_pr μ c0 a (some c1)) c0 (j : Int)).map (tp_ad G))))) from rfl)] at hP1
  exact k p e s m args below meth c H1 locs1 cells slots lsA mc ms ⟨C, hS1, ⟨hR.1, hP1⟩, hl, hB, tp_mok_pr hm, tp_f1 (tp_f1 (tp_f1 hs)), hv⟩
