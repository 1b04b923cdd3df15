theorem g_iconst {G : tp_G} {d : tp_D} {pc : Nat} {ls : List (Option tp_V)} {st : List tp_V} {μ : tp_M} {n n' bs : Nat} {Φ : Option tp_V → tp_M → Prop} {x : Nat × Nat × Nat} {a : Int} (hf : tp_at d pc = some (.iconst a, 1, x)) (hr : tp_r32 a) (k : tp_go G d (pc + 1) ls (tI a :: st) μ n n' bs Φ) : tp_go G d (pc) ls (st) μ n n' bs Φ := by
  intro p e s m args below meth c H locs cells slots lsA mc ms Z
  obtain ⟨C, hS, hR, hl, hB, hm, hs, hv⟩ := Z
  have hd := tp_dec C.1 hf
  have hx := C.2.1
  have hb := C.2.2.1
  exact lv_iconst hx hb hd rfl (k p e s m args below meth c H locs cells slots lsA mc ms ⟨C, hS, hR, hl, hB, hm, tp_fc hr hs, hv⟩)
theorem g_bipush {G : tp_G} {d : tp_D} {pc : Nat} {ls : List (Option tp_V)} {st : List tp_V} {μ : tp_M} {n n' bs : Nat} {Φ : Option tp_V → tp_M → Prop} {x : Nat × Nat × Nat} {a : Int} (hf : tp_at d pc = some (.bipush a, 2, x)) (hr : tp_r32 a) (he : (Int8.ofInt a).toInt32 = Int32.ofInt a) (k : tp_go G d (pc + 2) ls (tI a :: st) μ n n' bs Φ) : tp_go G d (pc) ls (st) μ n n' bs Φ := by
  intro p e s m args below meth c H locs cells slots lsA mc ms Z
  obtain ⟨C, hS, hR, hl, hB, hm, hs, hv⟩ := Z
  have hd := tp_dec C.1 hf
  have hx := C.2.1
  have hb := C.2.2.1
  exact lv_bipush hx hb hd he (k p e s m args below meth c H locs cells slots lsA mc ms ⟨C, hS, hR, hl, hB, hm, tp_fc hr hs, hv⟩)
theorem g_sipush {G : tp_G} {d : tp_D} {pc : Nat} {ls : List (Option tp_V)} {st : List tp_V} {μ : tp_M} {n n' bs : Nat} {Φ : Option tp_V → tp_M → Prop} {x : Nat × Nat × Nat} {a : Int} (hf : tp_at d pc = some (.sipush a, 3, x)) (hr : tp_r32 a) (he : (Int16.ofInt a).toInt32 = Int32.ofInt a) (k : tp_go G d (pc + 3) ls (tI a :: st) μ n n' bs Φ) : tp_go G d (pc) ls (st) μ n n' bs Φ := by
  intro p e s m args below meth c H locs cells slots lsA mc ms Z
  obtain ⟨C, hS, hR, hl, hB, hm, hs, hv⟩ := Z
  have hd := tp_dec C.1 hf
  have hx := C.2.1
  have hb := C.2.2.1
  exact lv_sipush hx hb hd he (k p e s m args below meth c H locs cells slots lsA mc ms ⟨C, hS, hR, hl, hB, hm, tp_fc hr hs, hv⟩)
theorem g_lconst {G : tp_G} {d : tp_D} {pc : Nat} {ls : List (Option tp_V)} {st : List tp_V} {μ : tp_M} {n n' bs : Nat} {Φ : Option tp_V → tp_M → Prop} {x : Nat × Nat × Nat} {a : Fin 2} {b : Int} (hf : tp_at d pc = some (.lconst a, 1, x)) (he : Int64.ofNat (a : Nat) = Int64.ofInt b) (hr : tp_r64 b) (k : tp_go G d (pc + 1) ls (tL b :: st) μ n n' bs Φ) : tp_go G d (pc) ls (st) μ n n' bs Φ := by
  intro p e s m args below meth c H locs cells slots lsA mc ms Z
  obtain ⟨C, hS, hR, hl, hB, hm, hs, hv⟩ := Z
  have hd := tp_dec C.1 hf
  have hx := C.2.1
  have hb := C.2.2.1
  exact lv_lconst hx hb hd he (k p e s m args below meth c H locs cells slots lsA mc ms ⟨C, hS, hR, hl, hB, hm, tp_fc hr hs, hv⟩)
theorem g_null {G : tp_G} {d : tp_D} {pc : Nat} {ls : List (Option tp_V)} {st : List tp_V} {μ : tp_M} {n n' bs : Nat} {Φ : Option tp_V → tp_M → Prop} {x : Nat × Nat × Nat} (hf : tp_at d pc = some (.aconst_null, 1, x)) (k : tp_go G d (pc + 1) ls (tR none :: st) μ n n' bs Φ) : tp_go G d (pc) ls (st) μ n n' bs Φ := by
  intro p e s m args below meth c H locs cells slots lsA mc ms Z
  obtain ⟨C, hS, hR, hl, hB, hm, hs, hv⟩ := Z
  have hd := tp_dec C.1 hf
  have hx := C.2.1
  have hb := C.2.2.1
  exact lv_null hx hb hd (k p e s m args below meth c H locs cells slots lsA mc ms ⟨C, hS, hR, hl, hB, hm, tp_fc trivial hs, hv⟩)
theorem g_ldc {G : tp_G} {d : tp_D} {pc : Nat} {ls : List (Option tp_V)} {st : List tp_V} {μ : tp_M} {n n' bs : Nat} {Φ : Option tp_V → tp_M → Prop} {idx pos a : Nat} (hf : tp_at d pc = some (.ldc idx, 2, pos, a, 0)) (hr : tp_r32 (a : Int)) (k : tp_go G d (pc + 2) ls (tI (a : Int) :: st) μ n n' bs Φ) : tp_go G d (pc) ls (st) μ n n' bs Φ := by
  intro p e s m args below meth c H locs cells slots lsA mc ms Z
  obtain ⟨C, hS, hR, hl, hB, hm, hs, hv⟩ := Z
  have hd := tp_dec C.1 hf
  have hx := C.2.1
  have hb := C.2.2.1
  have h1 := tp_lnk C.1 hf
  simp only [tp_entlink, decide_eq_true_eq, Nat.zero_ne_one, if_false] at h1
  have h2 := C.2.2.2.2.2.2.2.2.1 _ (tp_in pos h1 rfl)
  have h3 : Int32.ofNat a = Int32.ofInt (a : Int) := rfl
  rw [h3] at h2
  exact lv_ldc hx hb C.2.2.2.2.2.2.2.1 h2 hd (k p e s m args below meth c H locs cells slots lsA mc ms ⟨C, hS, hR, hl, hB, hm, tp_fc hr hs, hv⟩)
theorem g_ldc_w {G : tp_G} {d : tp_D} {pc : Nat} {ls : List (Option tp_V)} {st : List tp_V} {μ : tp_M} {n n' bs : Nat} {Φ : Option tp_V → tp_M → Prop} {idx pos a : Nat} (hf : tp_at d pc = some (.ldc_w idx, 3, pos, a, 0)) (hr : tp_r32 (a : Int)) (k : tp_go G d (pc + 3) ls (tI (a : Int) :: st) μ n n' bs Φ) : tp_go G d (pc) ls (st) μ n n' bs Φ := by
  intro p e s m args below meth c H locs cells slots lsA mc ms Z
  obtain ⟨C, hS, hR, hl, hB, hm, hs, hv⟩ := Z
  have hd := tp_dec C.1 hf
  have hx := C.2.1
  have hb := C.2.2.1
  have h1 := tp_lnk C.1 hf
  simp only [tp_entlink, decide_eq_true_eq] at h1
  have h2 := C.2.2.2.2.2.2.2.2.1 _ (tp_in pos h1 rfl)
  have h3 : Int32.ofNat a = Int32.ofInt (a : Int) := rfl
  rw [h3] at h2
  exact lv_ldcw hx hb C.2.2.2.2.2.2.2.1 h2 hd (k p e s m args below meth c H locs cells slots lsA mc ms ⟨C, hS, hR, hl, hB, hm, tp_fc hr hs, hv⟩)
theorem g_ldc2 {G : tp_G} {d : tp_D} {pc : Nat} {ls : List (Option tp_V)} {st : List tp_V} {μ : tp_M} {n n' bs : Nat} {Φ : Option tp_V → tp_M → Prop} {idx pos a b : Nat} {z : Int} (hf : tp_at d pc = some (.ldc2_w idx, 3, pos, a, b)) (hz : (if b = 1 then -(a : Int) else (a : Int)) = z) (hr : tp_r64 z) (k : tp_go G d (pc + 3) ls (tL z :: st) μ n n' bs Φ) : tp_go G d (pc) ls (st) μ n n' bs Φ := by
  intro p e s m args below meth c H locs cells slots lsA mc ms Z
  obtain ⟨C, hS, hR, hl, hB, hm, hs, hv⟩ := Z
  have hd := tp_dec C.1 hf
  have hx := C.2.1
  have hb := C.2.2.1
  have h1 := tp_lnk C.1 hf
  simp only [tp_entlink, decide_eq_true_eq] at h1
  have h2 := C.2.2.2.2.2.2.2.2.1 _ (tp_in pos h1 rfl)
  have h3 : (if b = 1 then Int64.ofInt (-(a : Int)) else Int64.ofInt (a : Int)) = Int64.ofInt z := by rw [← hz]; split <;> rfl
  rw [h3] at h2
  exact lv_ldc2 hx hb C.2.2.2.2.2.2.2.1 h2 hd (k p e s m args below meth c H locs cells slots lsA mc ms ⟨C, hS, hR, hl, hB, hm, tp_fc hr hs, hv⟩)
theorem g_iload_n {G : tp_G} {d : tp_D} {pc : Nat} {ls : List (Option tp_V)} {st : List tp_V} {μ : tp_M} {n n' bs : Nat} {Φ : Option tp_V → tp_M → Prop} {x : Nat × Nat × Nat} {i : Fin 4} {a : Int} (hf : tp_at d pc = some (.iload_n i, 1, x)) (hi : ls[(i : Nat)]? = some (some (tI a))) (k : tp_go G d (pc + 1) ls (tI a :: st) μ n n' bs Φ) : tp_go G d (pc) ls (st) μ n n' bs Φ := by
  intro p e s m args below meth c H locs cells slots lsA mc ms Z
  obtain ⟨C, hS, hR, hl, hB, hm, hs, hv⟩ := Z
  have hd := tp_dec C.1 hf
  have hx := C.2.1
  have hb := C.2.2.1
  exact lv_iload_n hx hb hd rfl (hl.2.2.2 _ _ hi) (k p e s m args below meth c H locs cells slots lsA mc ms ⟨C, hS, hR, hl, hB, hm, tp_fc (hv _ (List.mem_of_getElem? hi)) hs, hv⟩)
theorem g_iload {G : tp_G} {d : tp_D} {pc : Nat} {ls : List (Option tp_V)} {st : List tp_V} {μ : tp_M} {n n' bs : Nat} {Φ : Option tp_V → tp_M → Prop} {x : Nat × Nat × Nat} {i : Nat} {a : Int} (hf : tp_at d pc = some (.iload i, 2, x)) (hi : ls[i]? = some (some (tI a))) (k : tp_go G d (pc + 2) ls (tI a :: st) μ n n' bs Φ) : tp_go G d (pc) ls (st) μ n n' bs Φ := by
  intro p e s m args below meth c H locs cells slots lsA mc ms Z
  obtain ⟨C, hS, hR, hl, hB, hm, hs, hv⟩ := Z
  have hd := tp_dec C.1 hf
  have hx := C.2.1
  have hb := C.2.2.1
  exact lv_iload hx hb hd (hl.2.2.2 _ _ hi) (k p e s m args below meth c H locs cells slots lsA mc ms ⟨C, hS, hR, hl, hB, hm, tp_fc (hv _ (List.mem_of_getElem? hi)) hs, hv⟩)
theorem g_lload_n {G : tp_G} {d : tp_D} {pc : Nat} {ls : List (Option tp_V)} {st : List tp_V} {μ : tp_M} {n n' bs : Nat} {Φ : Option tp_V → tp_M → Prop} {x : Nat × Nat × Nat} {i : Fin 4} {a : Int} (hf : tp_at d pc = some (.lload_n i, 1, x)) (hi : ls[(i : Nat)]? = some (some (tL a))) (k : tp_go G d (pc + 1) ls (tL a :: st) μ n n' bs Φ) : tp_go G d (pc) ls (st) μ n n' bs Φ := by
  intro p e s m args below meth c H locs cells slots lsA mc ms Z
  obtain ⟨C, hS, hR, hl, hB, hm, hs, hv⟩ := Z
  have hd := tp_dec C.1 hf
  have hx := C.2.1
  have hb := C.2.2.1
  exact lv_lload_n hx hb hd rfl (hl.2.2.2 _ _ hi) (k p e s m args below meth c H locs cells slots lsA mc ms ⟨C, hS, hR, hl, hB, hm, tp_fc (hv _ (List.mem_of_getElem? hi)) hs, hv⟩)
theorem g_lload {G : tp_G} {d : tp_D} {pc : Nat} {ls : List (Option tp_V)} {st : List tp_V} {μ : tp_M} {n n' bs : Nat} {Φ : Option tp_V → tp_M → Prop} {x : Nat × Nat × Nat} {i : Nat} {a : Int} (hf : tp_at d pc = some (.lload i, 2, x)) (hi : ls[i]? = some (some (tL a))) (k : tp_go G d (pc + 2) ls (tL a :: st) μ n n' bs Φ) : tp_go G d (pc) ls (st) μ n n' bs Φ := by
  intro p e s m args below meth c H locs cells slots lsA mc ms Z
  obtain ⟨C, hS, hR, hl, hB, hm, hs, hv⟩ := Z
  have hd := tp_dec C.1 hf
  have hx := C.2.1
  have hb := C.2.2.1
  exact lv_lload hx hb hd (hl.2.2.2 _ _ hi) (k p e s m args below meth c H locs cells slots lsA mc ms ⟨C, hS, hR, hl, hB, hm, tp_fc (hv _ (List.mem_of_getElem? hi)) hs, hv⟩)
theorem g_aload_n {G : tp_G} {d : tp_D} {pc : Nat} {ls : List (Option tp_V)} {st : List tp_V} {μ : tp_M} {n n' bs : Nat} {Φ : Option tp_V → tp_M → Prop} {x : Nat × Nat × Nat} {i : Fin 4} {r : Option Nat} (hf : tp_at d pc = some (.aload_n i, 1, x)) (hi : ls[(i : Nat)]? = some (some (tR r))) (k : tp_go G d (pc + 1) ls (tR r :: st) μ n n' bs Φ) : tp_go G d (pc) ls (st) μ n n' bs Φ := by
  intro p e s m args below meth c H locs cells slots lsA mc ms Z
  obtain ⟨C, hS, hR, hl, hB, hm, hs, hv⟩ := Z
  have hd := tp_dec C.1 hf
  have hx := C.2.1
  have hb := C.2.2.1
  have hz := k p e s m args below meth c H locs cells slots lsA mc ms ⟨C, hS, hR, hl, hB, hm, tp_fc trivial hs, hv⟩
  have h2 := hl.2.2.2 _ _ hi
  cases r with
  | none => exact lv_aload_nN hx hb hd rfl h2 hz
  | some a => exact lv_aload_n hx hb hd rfl h2 hz
theorem g_aload {G : tp_G} {d : tp_D} {pc : Nat} {ls : List (Option tp_V)} {st : List tp_V} {μ : tp_M} {n n' bs : Nat} {Φ : Option tp_V → tp_M → Prop} {x : Nat × Nat × Nat} {i : Nat} {r : Option Nat} (hf : tp_at d pc = some (.aload i, 2, x)) (hi : ls[i]? = some (some (tR r))) (k : tp_go G d (pc + 2) ls (tR r :: st) μ n n' bs Φ) : tp_go G d (pc) ls (st) μ n n' bs Φ := by
  intro p e s m args below meth c H locs cells slots lsA mc ms Z
  obtain ⟨C, hS, hR, hl, hB, hm, hs, hv⟩ := Z
  have hd := tp_dec C.1 hf
  have hx := C.2.1
  have hb := C.2.2.1
  have hz := k p e s m args below meth c H locs cells slots lsA mc ms ⟨C, hS, hR, hl, hB, hm, tp_fc trivial hs, hv⟩
  have h2 := hl.2.2.2 _ _ hi
  cases r with
  | none => exact lv_aloadN hx hb hd h2 hz
  | some a => exact lv_aload hx hb hd h2 hz
def tp_noL (ls : List (Option tp_V)) (i : Nat) : Bool := match i with
  | 0 => true
  | k + 1 => match ls[k]? with
    | some (some (.inr (.inl _))) => false
    | _ => true
/-- the locals as the kit's list -/
def tp_ll (G : tp_G) (ls : List (Option tp_V)) : List (Nat × Value) := (List.range ls.length).filterMap (fun i => (ls[i]?.getD none).map (fun v => (i, tp_v G v)))
theorem tp_ll_mem {G : tp_G} {ls : List (Option tp_V)} {q : Nat × Value} (h : q ∈ tp_ll G ls) : ∃ v, ls[q.1]? = some (some v) ∧ q.2 = tp_v G v := by
  obtain ⟨i, -, hi⟩ := List.mem_filterMap.mp h
  cases hv : ls[i]? with
  | none => rw [hv] at hi; cases hi
  | some o =>
    rw [hv] at hi
    cases o with
    | none => cases hi
    | some v =>
      cases hi
      exact ⟨v, hv, rfl⟩
theorem tp_ll_in {G : tp_G} {ls : List (Option tp_V)} {i : Nat} {v : tp_V} (h : ls[i]? = some (some v)) : (i, tp_v G v) ∈ tp_ll G ls := by
  refine List.mem_filterMap.mpr ⟨i, List.mem_range.mpr (List.getElem?_eq_some_iff.mp h).1, ?_⟩
  rw [h]; rfl
theorem tp_lr_has {G : tp_G} {d : tp_D} {ls : List (Option tp_V)} {lsA : Array Slot} (h : tp_lr G d ls lsA) : lv_has lsA (tp_dl d) (tp_ll G ls) :=
  ⟨h.2.1, h.2.2.1, fun q hq => by obtain ⟨v, h1, h2⟩ := tp_ll_mem hq; rw [h2]; exact h.2.2.2 _ _ h1⟩
theorem tp_noL_spec {ls : List (Option tp_V)} {i j : Nat} {v : tp_V} {G : tp_G} (h : tp_noL ls i = true) (hj : ls[j]? = some (some v)) (he : j + 1 = i) : ¬ (tp_v G v).category = 2 := by
  subst he
  have h : (match ls[j]? with
    | some (some (.inr (.inl _))) => false
    | _ => true) = true := h
  rw [hj] at h
  rcases v with a | a | r
  · intro q; cases q
  · cases h
  · cases r <;> (intro q; cases q)
theorem tp_lr_set {G : tp_G} {d : tp_D} {ls : List (Option tp_V)} {lsB : Array Slot} {i : Nat} {v : tp_V} (hlen : ls.length = tp_dl d) (hn : tp_noL ls i = true) (h' : lv_has lsB (tp_dl d) ((i, tp_v G v) :: (tp_ll G ls).filter (fun q => !(q.1 == i) && !(q.1 + 1 == i && q.2.category == 2)))) : tp_lr G d (ls.set i (some v)) lsB := by
  refine ⟨by rw [List.length_set]; exact hlen, h'.1, h'.2.1, fun j w hj => ?_⟩
  rw [List.getElem?_set] at hj
  by_cases hi : i = j
  · subst hi
    rw [if_pos rfl] at hj
    split at hj
    next =>
      cases hj
      exact h'.2.2 _ List.mem_cons_self
    next => cases hj
  · rw [if_neg hi] at hj
    refine h'.2.2 (j, tp_v G w) (List.mem_cons_of_mem _ (List.mem_filter.mpr ⟨tp_ll_in hj, ?_⟩))
    have h1 : ¬ j = i := fun q => hi q.symm
    by_cases h2 : j + 1 = i
    · have h3 := tp_noL_spec (G := G) hn hj h2
      simp [h1, h3]
    · simp [h1, h2]
theorem tp_lr_set2 {G : tp_G} {d : tp_D} {ls : List (Option tp_V)} {lsB : Array Slot} {i : Nat} {v : tp_V} (hlen : ls.length = tp_dl d) (hn : tp_noL ls i = true) (h' : lv_has lsB (tp_dl d) ((i, tp_v G v) :: (tp_ll G ls).filter (fun q => !(q.1 == i) && (!(q.1 == i + 1) && !(q.1 + 1 == i && q.2.category == 2))))) : tp_lr G d ((ls.set i (some v)).set (i + 1) none) lsB := by
  refine ⟨by rw [List.length_set, List.length_set]; exact hlen, h'.1, h'.2.1, fun j w hj => ?_⟩
  rw [List.getElem?_set] at hj
  by_cases hi1 : i + 1 = j
  · subst hi1
    rw [if_pos rfl] at hj
    split at hj <;> cases hj
  · rw [if_neg hi1, List.getElem?_set] at hj
    by_cases hi : i = j
    · subst hi
      rw [if_pos rfl] at hj
      split at hj
      next =>
        cases hj
        exact h'.2.2 _ List.mem_cons_self
      next => cases hj
    · rw [if_neg hi] at hj
      refine h'.2.2 (j, tp_v G w) (List.mem_cons_of_mem _ (List.mem_filter.mpr ⟨tp_ll_in hj, ?_⟩))
      have h1 : ¬ j = i := fun q => hi q.symm
      have h0 : ¬ j = i + 1 := fun q => hi1 q.symm
      by_cases h2 : j + 1 = i
      · have h3 := tp_noL_spec (G := G) hn hj h2
        simp [h1, h0, h3]
      · simp [h1, h0, h2]
theorem tp_set_fit {ls : List (Option tp_V)} {i : Nat} {v : tp_V} (h : ∀ w, some w ∈ ls → tp_fit w) (hv : tp_fit v) : ∀ w, some w ∈ ls.set i (some v) → tp_fit w := fun w hw => by
  rcases List.mem_or_eq_of_mem_set hw with h1 | h1
  · exact h w h1
  · cases h1
    exact hv
theorem tp_set_fit2 {ls : List (Option tp_V)} {i : Nat} (h : ∀ w, some w ∈ ls → tp_fit w) : ∀ w, some w ∈ ls.set i none → tp_fit w := fun w hw => by
  rcases List.mem_or_eq_of_mem_set hw with h1 | h1
  · exact h w h1
  · cases h1
theorem g_istore_n {G : tp_G} {d : tp_D} {pc : Nat} {ls : List (Option tp_V)} {st : List tp_V} {μ : tp_M} {n n' bs : Nat} {Φ : Option tp_V → tp_M → Prop} {x : Nat × Nat × Nat} {i : Fin 4} {a : Int} (hf : tp_at d pc = some (.istore_n i, 1, x)) (hi : Nat.ble ((i : Nat) + 1) (tp_dl d) = true) (hn : tp_noL ls (i : Nat) = true) (k : tp_go G d (pc + 1) (ls.set (i : Nat) (some (tI a))) (st) μ n n' bs Φ) : tp_go G d (pc) ls (tI a :: st) μ n n' bs Φ := by
  intro p e s m args below meth c H locs cells slots lsA mc ms Z
  obtain ⟨C, hS, hR, hl, hB, hm, hs, hv⟩ := Z
  have hd := tp_dec C.1 hf
  have hx := C.2.1
  have hb := C.2.2.1
  have hz : ∀ lsB : Array Slot, tp_lr G d (ls.set (i : Nat) (some (tI a))) lsB → _ := fun lsB h => k p e s m args below meth c H locs cells slots lsB mc ms ⟨C, hS, hR, h, hB, hm, tp_f1 hs, tp_set_fit hv (tp_f0 hs)⟩
  exact lv_istore_n hx hb hd rfl (tp_lr_has hl) (Nat.le_of_ble_eq_true hi) rfl (fun lsB h => hz lsB (tp_lr_set (v := tI a) hl.1 hn h))
theorem g_istore {G : tp_G} {d : tp_D} {pc : Nat} {ls : List (Option tp_V)} {st : List tp_V} {μ : tp_M} {n n' bs : Nat} {Φ : Option tp_V → tp_M → Prop} {x : Nat × Nat × Nat} {i : Nat} {a : Int} (hf : tp_at d pc = some (.istore i, 2, x)) (hi : Nat.ble (i + 1) (tp_dl d) = true) (hn : tp_noL ls i = true) (k : tp_go G d (pc + 2) (ls.set i (some (tI a))) (st) μ n n' bs Φ) : tp_go G d (pc) ls (tI a :: st) μ n n' bs Φ := by
  intro p e s m args below meth c H locs cells slots lsA mc ms Z
  obtain ⟨C, hS, hR, hl, hB, hm, hs, hv⟩ := Z
  have hd := tp_dec C.1 hf
  have hx := C.2.1
  have hb := C.2.2.1
  have hz : ∀ lsB : Array Slot, tp_lr G d (ls.set i (some (tI a))) lsB → _ := fun lsB h => k p e s m args below meth c H locs cells slots lsB mc ms ⟨C, hS, hR, h, hB, hm, tp_f1 hs, tp_set_fit hv (tp_f0 hs)⟩
  exact lv_istore hx hb hd (tp_lr_has hl) (Nat.le_of_ble_eq_true hi) rfl (fun lsB h => hz lsB (tp_lr_set (v := tI a) hl.1 hn h))
theorem g_lstore_n {G : tp_G} {d : tp_D} {pc : Nat} {ls : List (Option tp_V)} {st : List tp_V} {μ : tp_M} {n n' bs : Nat} {Φ : Option tp_V → tp_M → Prop} {x : Nat × Nat × Nat} {i : Fin 4} {a : Int} (hf : tp_at d pc = some (.lstore_n i, 1, x)) (hi : Nat.ble ((i : Nat) + 1 + 1) (tp_dl d) = true) (hn : tp_noL ls (i : Nat) = true) (k : tp_go G d (pc + 1) ((ls.set (i : Nat) (some (tL a))).set ((i : Nat) + 1) none) (st) μ n n' bs Φ) : tp_go G d (pc) ls (tL a :: st) μ n n' bs Φ := by
  intro p e s m args below meth c H locs cells slots lsA mc ms Z
  obtain ⟨C, hS, hR, hl, hB, hm, hs, hv⟩ := Z
  have hd := tp_dec C.1 hf
  have hx := C.2.1
  have hb := C.2.2.1
  have hz : ∀ lsB : Array Slot, tp_lr G d ((ls.set (i : Nat) (some (tL a))).set ((i : Nat) + 1) none) lsB → _ := fun lsB h => k p e s m args below meth c H locs cells slots lsB mc ms ⟨C, hS, hR, h, hB, hm, tp_f1 hs, tp_set_fit2 (tp_set_fit hv (tp_f0 hs))⟩
  exact lv_lstore_n hx hb hd rfl (tp_lr_has hl) (Nat.le_of_ble_eq_true hi) rfl (fun lsB h => hz lsB (tp_lr_set2 (v := tL a) hl.1 hn h))
theorem g_lstore {G : tp_G} {d : tp_D} {pc : Nat} {ls : List (Option tp_V)} {st : List tp_V} {μ : tp_M} {n n' bs : Nat} {Φ : Option tp_V → tp_M → Prop} {x : Nat × Nat × Nat} {i : Nat} {a : Int} (hf : tp_at d pc = some (.lstore i, 2, x)) (hi : Nat.ble (i + 1 + 1) (tp_dl d) = true) (hn : tp_noL ls i = true) (k : tp_go G d (pc + 2) ((ls.set i (some (tL a))).set (i + 1) none) (st) μ n n' bs Φ) : tp_go G d (pc) ls (tL a :: st) μ n n' bs Φ := by
  intro p e s m args below meth c H locs cells slots lsA mc ms Z
  obtain ⟨C, hS, hR, hl, hB, hm, hs, hv⟩ := Z
  have hd := tp_dec C.1 hf
  have hx := C.2.1
  have hb := C.2.2.1
  have hz : ∀ lsB : Array Slot, tp_lr G d ((ls.set i (some (tL a))).set (i + 1) none) lsB → _ := fun lsB h => k p e s m args below meth c H locs cells slots lsB mc ms ⟨C, hS, hR, h, hB, hm, tp_f1 hs, tp_set_fit2 (tp_set_fit hv (tp_f0 hs))⟩
  exact lv_lstore hx hb hd (tp_lr_has hl) (Nat.le_of_ble_eq_true hi) rfl (fun lsB h => hz lsB (tp_lr_set2 (v := tL a) hl.1 hn h))
theorem g_astore_n {G : tp_G} {d : tp_D} {pc : Nat} {ls : List (Option tp_V)} {st : List tp_V} {μ : tp_M} {n n' bs : Nat} {Φ : Option tp_V → tp_M → Prop} {x : Nat × Nat × Nat} {i : Fin 4} {a : Option Nat} (hf : tp_at d pc = some (.astore_n i, 1, x)) (hi : Nat.ble ((i : Nat) + 1) (tp_dl d) = true) (hn : tp_noL ls (i : Nat) = true) (k : tp_go G d (pc + 1) (ls.set (i : Nat) (some (tR a))) (st) μ n n' bs Φ) : tp_go G d (pc) ls (tR a :: st) μ n n' bs Φ := by
  intro p e s m args below meth c H locs cells slots lsA mc ms Z
  obtain ⟨C, hS, hR, hl, hB, hm, hs, hv⟩ := Z
  have hd := tp_dec C.1 hf
  have hx := C.2.1
  have hb := C.2.2.1
  have hz : ∀ lsB : Array Slot, tp_lr G d (ls.set (i : Nat) (some (tR a))) lsB → _ := fun lsB h => k p e s m args below meth c H locs cells slots lsB mc ms ⟨C, hS, hR, h, hB, hm, tp_f1 hs, tp_set_fit hv (tp_f0 hs)⟩
  cases a with
  | none => exact lv_astore_nN hx hb hd rfl (tp_lr_has hl) (Nat.le_of_ble_eq_true hi) rfl (fun lsB h => hz lsB (tp_lr_set (v := tR none) hl.1 hn h))
  | some a => exact lv_astore_n hx hb hd rfl (tp_lr_has hl) (Nat.le_of_ble_eq_true hi) rfl (fun lsB h => hz lsB (tp_lr_set (v := tR (some a)) hl.1 hn h))
theorem g_astore {G : tp_G} {d : tp_D} {pc : Nat} {ls : List (Option tp_V)} {st : List tp_V} {μ : tp_M} {n n' bs : Nat} {Φ : Option tp_V → tp_M → Prop} {x : Nat × Nat × Nat} {i : Nat} {a : Option Nat} (hf : tp_at d pc = some (.astore i, 2, x)) (hi : Nat.ble (i + 1) (tp_dl d) = true) (hn : tp_noL ls i = true) (k : tp_go G d (pc + 2) (ls.set i (some (tR a))) (st) μ n n' bs Φ) : tp_go G d (pc) ls (tR a :: st) μ n n' bs Φ := by
  intro p e s m args below meth c H locs cells slots lsA mc ms Z
  obtain ⟨C, hS, hR, hl, hB, hm, hs, hv⟩ := Z
  have hd := tp_dec C.1 hf
  have hx := C.2.1
  have hb := C.2.2.1
  have hz : ∀ lsB : Array Slot, tp_lr G d (ls.set i (some (tR a))) lsB → _ := fun lsB h => k p e s m args below meth c H locs cells slots lsB mc ms ⟨C, hS, hR, h, hB, hm, tp_f1 hs, tp_set_fit hv (tp_f0 hs)⟩
  cases a with
  | none => exact lv_astoreN hx hb hd (tp_lr_has hl) (Nat.le_of_ble_eq_true hi) rfl (fun lsB h => hz lsB (tp_lr_set (v := tR none) hl.1 hn h))
  | some a => exact lv_astore hx hb hd (tp_lr_has hl) (Nat.le_of_ble_eq_true hi) rfl (fun lsB h => hz lsB (tp_lr_set (v := tR (some a)) hl.1 hn h))
theorem g_iinc {G : tp_G} {d : tp_D} {pc : Nat} {ls : List (Option tp_V)} {st : List tp_V} {μ : tp_M} {n n' bs : Nat} {Φ : Option tp_V → tp_M → Prop} {x : Nat × Nat × Nat} {i : Nat} {a z : Int} (hf : tp_at d pc = some (.iinc i z, 3, x)) (ha : ls[i]? = some (some (tI a))) (hi : Nat.ble (i + 1) (tp_dl d) = true) (hn : tp_noL ls i = true) (k : tp_go G d (pc + 3) (ls.set i (some (tI (tp_w (a + z))))) (st) μ n n' bs Φ) : tp_go G d (pc) ls (st) μ n n' bs Φ := by
  intro p e s m args below meth c H locs cells slots lsA mc ms Z
  obtain ⟨C, hS, hR, hl, hB, hm, hs, hv⟩ := Z
  have hd := tp_dec C.1 hf
  have hx := C.2.1
  have hb := C.2.2.1
  have h1 := tp_ll_in (G := G) ha
  obtain ⟨kk, hk⟩ := List.getElem?_of_mem h1
  have hv1 : Int32.ofInt a + Int32.ofInt z = Int32.ofInt (tp_w (a + z)) := by rw [tp_w_o, Int32.ofInt_add]
  refine lv_iinc hx hb (k := kk) (x := Int32.ofInt a) hd (tp_lr_has hl) hk hv1 (Nat.le_of_ble_eq_true hi) rfl (fun lsB h => ?_)
  exact k p e s m args below meth c H locs cells slots lsB mc ms ⟨C, hS, hR, tp_lr_set (v := tI (tp_w (a + z))) hl.1 hn h, hB, hm, hs, tp_set_fit hv (tp_w_r _)⟩
def tp_and (a b : Int) : Int := (Int32.ofInt a &&& Int32.ofInt b).toInt
def tp_or (a b : Int) : Int := (Int32.ofInt a ||| Int32.ofInt b).toInt
def tp_ishl (a b : Int) : Int := (Int32.ofInt a <<< (Int32.ofInt b &&& 31)).toInt
def tp_ishr (a b : Int) : Int := (Int32.ofInt a >>> (Int32.ofInt b &&& 31)).toInt
def tp_ushr (a b : Int) : Int := (((Int32.ofInt a).toUInt32 >>> ((Int32.ofInt b).toUInt32 &&& Int32.toUInt32 31)).toInt32).toInt
def tp_Land (a b : Int) : Int := (Int64.ofInt a &&& Int64.ofInt b).toInt
def tp_Lor (a b : Int) : Int := (Int64.ofInt a ||| Int64.ofInt b).toInt
def tp_Lxor (a b : Int) : Int := (Int64.ofInt a ^^^ Int64.ofInt b).toInt
def tp_Lshl (a b : Int) : Int := (Int64.ofInt a <<< ((Int32.ofInt b).toInt64 &&& 63)).toInt
def tp_Lushr (a b : Int) : Int := (((Int64.ofInt a).toUInt64 >>> ((Int32.ofInt b).toInt64.toUInt64 &&& Int64.toUInt64 63)).toInt64).toInt
def tp_b8 (a : Int) : Int := ((Int32.ofInt a).toInt8.toInt32).toInt
def tp_l2i (a : Int) : Int := ((Int64.ofInt a).toInt32).toInt
def tp_lcmp (a b : Int) : Int := if b < a then 1 else if a = b then 0 else -1
theorem tp_div_o {a b : Int} (ha : tp_r32 a) (hb : tp_r32 b) : Int32.ofInt a / Int32.ofInt b = Int32.ofInt (tp_w (a.tdiv b)) := by
  rw [tp_w_o]
  apply Int32.toInt_inj.mp
  rw [Int32.toInt_div, tp_t ha, tp_t hb, Int32.toInt_ofInt]
theorem tp_rem_o {a b : Int} (ha : tp_r32 a) (hb : tp_r32 b) : Int32.ofInt a - Int32.ofInt a / Int32.ofInt b * Int32.ofInt b = Int32.ofInt (tp_w (a.tmod b)) := by
  rw [tp_div_o ha hb, tp_w_o, tp_w_o, ← Int32.ofInt_mul, ← Int32.ofInt_sub, Int.tmod_def, Int.mul_comm]
theorem tp_lcmp_o {a b : Int} (ha : tp_r64 a) (hb : tp_r64 b) : lg_cmp (Int64.ofInt a) (Int64.ofInt b) = Int32.ofInt (tp_lcmp a b) := by
  have h1 : (Int64.ofInt b < Int64.ofInt a) ↔ b < a := by rw [Int64.lt_iff_toInt_lt, tp_T64 ha, tp_T64 hb]
  have h2 : (Int64.ofInt a = Int64.ofInt b) ↔ a = b := by rw [← Int64.toInt_inj, tp_T64 ha, tp_T64 hb]
  unfold lg_cmp tp_lcmp
  by_cases c1 : b < a
  · rw [if_pos (h1.mpr c1), if_pos c1]; rfl
  · rw [if_neg (fun q => c1 (h1.mp q)), if_neg c1]
    by_cases c2 : a = b
    · rw [if_pos (h2.mpr c2), if_pos c2]; rfl
    · rw [if_neg (fun q => c2 (h2.mp q)), if_neg c2]; rfl
theorem tp_lcmp_r {a b : Int} : tp_r32 (tp_lcmp a b) := by
  unfold tp_lcmp
  split
  · exact ⟨by decide, by decide⟩
  · split <;> exact ⟨by decide, by decide⟩
theorem tp_ne0 {b : Int} (hb : tp_r32 b) (h : b ≠ 0) : ¬ Int32.ofInt b = 0 := fun q => h ((tp_eq hb tp_r0).mp q)
theorem g_iadd {G : tp_G} {d : tp_D} {pc : Nat} {ls : List (Option tp_V)} {st : List tp_V} {μ : tp_M} {n n' bs : Nat} {Φ : Option tp_V → tp_M → Prop} {x : Nat × Nat × Nat} {a b : Int} (hf : tp_at d pc = some (.iadd, 1, x)) (k : tp_go G d (pc + 1) ls (tI (tp_w (a + b)) :: st) μ n n' bs Φ) : tp_go G d (pc) ls (tI b :: tI a :: st) μ n n' bs Φ := by
  intro p e s m args below meth c H locs cells slots lsA mc ms Z
  obtain ⟨C, hS, hR, hl, hB, hm, hs, hv⟩ := Z
  have hd := tp_dec C.1 hf
  have hx := C.2.1
  have hb := C.2.2.1
  have ha : tp_r32 a := tp_f0 (tp_f1 hs)
  have hb2 : tp_r32 b := tp_f0 hs
  have hz := k p e s m args below meth c H locs cells slots lsA mc ms ⟨C, hS, hR, hl, hB, hm, tp_fc (tp_w_r _) (tp_f1 (tp_f1 hs)), hv⟩
  refine lv_iadd hx hb hd ?_
  rw [← Int32.ofInt_add, ← tp_w_o]
  exact hz
theorem g_isub {G : tp_G} {d : tp_D} {pc : Nat} {ls : List (Option tp_V)} {st : List tp_V} {μ : tp_M} {n n' bs : Nat} {Φ : Option tp_V → tp_M → Prop} {x : Nat × Nat × Nat} {a b : Int} (hf : tp_at d pc = some (.isub, 1, x)) (k : tp_go G d (pc + 1) ls (tI (tp_w (a - b)) :: st) μ n n' bs Φ) : tp_go G d (pc) ls (tI b :: tI a :: st) μ n n' bs Φ := by
  intro p e s m args below meth c H locs cells slots lsA mc ms Z
  obtain ⟨C, hS, hR, hl, hB, hm, hs, hv⟩ := Z
  have hd := tp_dec C.1 hf
  have hx := C.2.1
  have hb := C.2.2.1
  have ha : tp_r32 a := tp_f0 (tp_f1 hs)
  have hb2 : tp_r32 b := tp_f0 hs
  have hz := k p e s m args below meth c H locs cells slots lsA mc ms ⟨C, hS, hR, hl, hB, hm, tp_fc (tp_w_r _) (tp_f1 (tp_f1 hs)), hv⟩
  refine lv_isub hx hb hd ?_
  rw [← Int32.ofInt_sub, ← tp_w_o]
  exact hz
theorem g_imul {G : tp_G} {d : tp_D} {pc : Nat} {ls : List (Option tp_V)} {st : List tp_V} {μ : tp_M} {n n' bs : Nat} {Φ : Option tp_V → tp_M → Prop} {x : Nat × Nat × Nat} {a b : Int} (hf : tp_at d pc = some (.imul, 1, x)) (k : tp_go G d (pc + 1) ls (tI (tp_w (a * b)) :: st) μ n n' bs Φ) : tp_go G d (pc) ls (tI b :: tI a :: st) μ n n' bs Φ := by
  intro p e s m args below meth c H locs cells slots lsA mc ms Z
  obtain ⟨C, hS, hR, hl, hB, hm, hs, hv⟩ := Z
  have hd := tp_dec C.1 hf
  have hx := C.2.1
  have hb := C.2.2.1
  have ha : tp_r32 a := tp_f0 (tp_f1 hs)
  have hb2 : tp_r32 b := tp_f0 hs
  have hz := k p e s m args below meth c H locs cells slots lsA mc ms ⟨C, hS, hR, hl, hB, hm, tp_fc (tp_w_r _) (tp_f1 (tp_f1 hs)), hv⟩
  refine lv_imul hx hb hd ?_
  rw [← Int32.ofInt_mul, ← tp_w_o]
  exact hz
theorem g_idiv {G : tp_G} {d : tp_D} {pc : Nat} {ls : List (Option tp_V)} {st : List tp_V} {μ : tp_M} {n n' bs : Nat} {Φ : Option tp_V → tp_M → Prop} {x : Nat × Nat × Nat} {a b : Int} (hf : tp_at d pc = some (.idiv, 1, x)) (h0 : b ≠ 0) (k : tp_go G d (pc + 1) ls (tI (tp_w (a.tdiv b)) :: st) μ n n' bs Φ) : tp_go G d (pc) ls (tI b :: tI a :: st) μ n n' bs Φ := by
  intro p e s m args below meth c H locs cells slots lsA mc ms Z
  obtain ⟨C, hS, hR, hl, hB, hm, hs, hv⟩ := Z
  have hd := tp_dec C.1 hf
  have hx := C.2.1
  have hb := C.2.2.1
  have ha : tp_r32 a := tp_f0 (tp_f1 hs)
  have hb2 : tp_r32 b := tp_f0 hs
  have hz := k p e s m args below meth c H locs cells slots lsA mc ms ⟨C, hS, hR, hl, hB, hm, tp_fc (tp_w_r _) (tp_f1 (tp_f1 hs)), hv⟩
  refine lv_idiv hx hb hd (tp_ne0 hb2 h0) ?_
  rw [tp_div_o ha hb2]
  exact hz
theorem g_irem {G : tp_G} {d : tp_D} {pc : Nat} {ls : List (Option tp_V)} {st : List tp_V} {μ : tp_M} {n n' bs : Nat} {Φ : Option tp_V → tp_M → Prop} {x : Nat × Nat × Nat} {a b : Int} (hf : tp_at d pc = some (.irem, 1, x)) (h0 : b ≠ 0) (k : tp_go G d (pc + 1) ls (tI (tp_w (a.tmod b)) :: st) μ n n' bs Φ) : tp_go G d (pc) ls (tI b :: tI a :: st) μ n n' bs Φ := by
  intro p e s m args below meth c H locs cells slots lsA mc ms Z
  obtain ⟨C, hS, hR, hl, hB, hm, hs, hv⟩ := Z
  have hd := tp_dec C.1 hf
  have hx := C.2.1
  have hb := C.2.2.1
  have ha : tp_r32 a := tp_f0 (tp_f1 hs)
  have hb2 : tp_r32 b := tp_f0 hs
  have hz := k p e s m args below meth c H locs cells slots lsA mc ms ⟨C, hS, hR, hl, hB, hm, tp_fc (tp_w_r _) (tp_f1 (tp_f1 hs)), hv⟩
  refine lv_irem hx hb hd (tp_ne0 hb2 h0) ?_
  rw [tp_rem_o ha hb2]
  exact hz
theorem g_iand {G : tp_G} {d : tp_D} {pc : Nat} {ls : List (Option tp_V)} {st : List tp_V} {μ : tp_M} {n n' bs : Nat} {Φ : Option tp_V → tp_M → Prop} {x : Nat × Nat × Nat} {a b : Int} (hf : tp_at d pc = some (.iand, 1, x)) (k : tp_go G d (pc + 1) ls (tI (tp_and a b) :: st) μ n n' bs Φ) : tp_go G d (pc) ls (tI b :: tI a :: st) μ n n' bs Φ := by
  intro p e s m args below meth c H locs cells slots lsA mc ms Z
  obtain ⟨C, hS, hR, hl, hB, hm, hs, hv⟩ := Z
  have hd := tp_dec C.1 hf
  have hx := C.2.1
  have hb := C.2.2.1
  have hz := k p e s m args below meth c H locs cells slots lsA mc ms ⟨C, hS, hR, hl, hB, hm, tp_fc (tp_w_r _) (tp_f1 (tp_f1 hs)), hv⟩
  refine lv_iand hx hb hd ?_
  simp only [List.map_cons, tp_v, tp_and, Int32.ofInt_toInt] at hz
  exact hz
theorem g_ior {G : tp_G} {d : tp_D} {pc : Nat} {ls : List (Option tp_V)} {st : List tp_V} {μ : tp_M} {n n' bs : Nat} {Φ : Option tp_V → tp_M → Prop} {x : Nat × Nat × Nat} {a b : Int} (hf : tp_at d pc = some (.ior, 1, x)) (k : tp_go G d (pc + 1) ls (tI (tp_or a b) :: st) μ n n' bs Φ) : tp_go G d (pc) ls (tI b :: tI a :: st) μ n n' bs Φ := by
  intro p e s m args below meth c H locs cells slots lsA mc ms Z
  obtain ⟨C, hS, hR, hl, hB, hm, hs, hv⟩ := Z
  have hd := tp_dec C.1 hf
  have hx := C.2.1
  have hb := C.2.2.1
  have hz := k p e s m args below meth c H locs cells slots lsA mc ms ⟨C, hS, hR, hl, hB, hm, tp_fc (tp_w_r _) (tp_f1 (tp_f1 hs)), hv⟩
  refine lv_ior hx hb hd ?_
  simp only [List.map_cons, tp_v, tp_or, Int32.ofInt_toInt] at hz
  exact hz
theorem g_ishl {G : tp_G} {d : tp_D} {pc : Nat} {ls : List (Option tp_V)} {st : List tp_V} {μ : tp_M} {n n' bs : Nat} {Φ : Option tp_V → tp_M → Prop} {x : Nat × Nat × Nat} {a b : Int} (hf : tp_at d pc = some (.ishl, 1, x)) (k : tp_go G d (pc + 1) ls (tI (tp_ishl a b) :: st) μ n n' bs Φ) : tp_go G d (pc) ls (tI b :: tI a :: st) μ n n' bs Φ := by
  intro p e s m args below meth c H locs cells slots lsA mc ms Z
  obtain ⟨C, hS, hR, hl, hB, hm, hs, hv⟩ := Z
  have hd := tp_dec C.1 hf
  have hx := C.2.1
  have hb := C.2.2.1
  have hz := k p e s m args below meth c H locs cells slots lsA mc ms ⟨C, hS, hR, hl, hB, hm, tp_fc (tp_w_r _) (tp_f1 (tp_f1 hs)), hv⟩
  refine lv_ishl hx hb hd ?_
  simp only [List.map_cons, tp_v, tp_ishl, Int32.ofInt_toInt] at hz
  exact hz
theorem g_ishr {G : tp_G} {d : tp_D} {pc : Nat} {ls : List (Option tp_V)} {st : List tp_V} {μ : tp_M} {n n' bs : Nat} {Φ : Option tp_V → tp_M → Prop} {x : Nat × Nat × Nat} {a b : Int} (hf : tp_at d pc = some (.ishr, 1, x)) (k : tp_go G d (pc + 1) ls (tI (tp_ishr a b) :: st) μ n n' bs Φ) : tp_go G d (pc) ls (tI b :: tI a :: st) μ n n' bs Φ := by
  intro p e s m args below meth c H locs cells slots lsA mc ms Z
  obtain ⟨C, hS, hR, hl, hB, hm, hs, hv⟩ := Z
  have hd := tp_dec C.1 hf
  have hx := C.2.1
  have hb := C.2.2.1
  have hz := k p e s m args below meth c H locs cells slots lsA mc ms ⟨C, hS, hR, hl, hB, hm, tp_fc (tp_w_r _) (tp_f1 (tp_f1 hs)), hv⟩
  refine lv_ishr hx hb hd ?_
  simp only [List.map_cons, tp_v, tp_ishr, Int32.ofInt_toInt] at hz
  exact hz
theorem g_iushr {G : tp_G} {d : tp_D} {pc : Nat} {ls : List (Option tp_V)} {st : List tp_V} {μ : tp_M} {n n' bs : Nat} {Φ : Option tp_V → tp_M → Prop} {x : Nat × Nat × Nat} {a b : Int} (hf : tp_at d pc = some (.iushr, 1, x)) (k : tp_go G d (pc + 1) ls (tI (tp_ushr a b) :: st) μ n n' bs Φ) : tp_go G d (pc) ls (tI b :: tI a :: st) μ n n' bs Φ := by
  intro p e s m args below meth c H locs cells slots lsA mc ms Z
  obtain ⟨C, hS, hR, hl, hB, hm, hs, hv⟩ := Z
  have hd := tp_dec C.1 hf
  have hx := C.2.1
  have hb := C.2.2.1
  have hz := k p e s m args below meth c H locs cells slots lsA mc ms ⟨C, hS, hR, hl, hB, hm, tp_fc (tp_w_r _) (tp_f1 (tp_f1 hs)), hv⟩
  exact lv_iushr hx hb hd (Int32.ofInt_toInt _).symm hz
theorem g_land {G : tp_G} {d : tp_D} {pc : Nat} {ls : List (Option tp_V)} {st : List tp_V} {μ : tp_M} {n n' bs : Nat} {Φ : Option tp_V → tp_M → Prop} {x : Nat × Nat × Nat} {a b : Int} (hf : tp_at d pc = some (.land, 1, x)) (k : tp_go G d (pc + 1) ls (tL (tp_Land a b) :: st) μ n n' bs Φ) : tp_go G d (pc) ls (tL b :: tL a :: st) μ n n' bs Φ := by
  intro p e s m args below meth c H locs cells slots lsA mc ms Z
  obtain ⟨C, hS, hR, hl, hB, hm, hs, hv⟩ := Z
  have hd := tp_dec C.1 hf
  have hx := C.2.1
  have hb := C.2.2.1
  have hz := k p e s m args below meth c H locs cells slots lsA mc ms ⟨C, hS, hR, hl, hB, hm, tp_fc (tp_W_r _) (tp_f1 (tp_f1 hs)), hv⟩
  refine lv_land hx hb hd ?_
  simp only [List.map_cons, tp_v, tp_Land, Int64.ofInt_toInt] at hz
  exact hz
theorem g_lor {G : tp_G} {d : tp_D} {pc : Nat} {ls : List (Option tp_V)} {st : List tp_V} {μ : tp_M} {n n' bs : Nat} {Φ : Option tp_V → tp_M → Prop} {x : Nat × Nat × Nat} {a b : Int} (hf : tp_at d pc = some (.lor, 1, x)) (k : tp_go G d (pc + 1) ls (tL (tp_Lor a b) :: st) μ n n' bs Φ) : tp_go G d (pc) ls (tL b :: tL a :: st) μ n n' bs Φ := by
  intro p e s m args below meth c H locs cells slots lsA mc ms Z
  obtain ⟨C, hS, hR, hl, hB, hm, hs, hv⟩ := Z
  have hd := tp_dec C.1 hf
  have hx := C.2.1
  have hb := C.2.2.1
  have hz := k p e s m args below meth c H locs cells slots lsA mc ms ⟨C, hS, hR, hl, hB, hm, tp_fc (tp_W_r _) (tp_f1 (tp_f1 hs)), hv⟩
  refine lv_lor hx hb hd ?_
  simp only [List.map_cons, tp_v, tp_Lor, Int64.ofInt_toInt] at hz
  exact hz
theorem g_lxor {G : tp_G} {d : tp_D} {pc : Nat} {ls : List (Option tp_V)} {st : List tp_V} {μ : tp_M} {n n' bs : Nat} {Φ : Option tp_V → tp_M → Prop} {x : Nat × Nat × Nat} {a b : Int} (hf : tp_at d pc = some (.lxor, 1, x)) (k : tp_go G d (pc + 1) ls (tL (tp_Lxor a b) :: st) μ n n' bs Φ) : tp_go G d (pc) ls (tL b :: tL a :: st) μ n n' bs Φ := by
  intro p e s m args below meth c H locs cells slots lsA mc ms Z
  obtain ⟨C, hS, hR, hl, hB, hm, hs, hv⟩ := Z
  have hd := tp_dec C.1 hf
  have hx := C.2.1
  have hb := C.2.2.1
  have hz := k p e s m args below meth c H locs cells slots lsA mc ms ⟨C, hS, hR, hl, hB, hm, tp_fc (tp_W_r _) (tp_f1 (tp_f1 hs)), hv⟩
  refine lv_lxor hx hb hd ?_
  simp only [List.map_cons, tp_v, tp_Lxor, Int64.ofInt_toInt] at hz
  exact hz
theorem g_ladd {G : tp_G} {d : tp_D} {pc : Nat} {ls : List (Option tp_V)} {st : List tp_V} {μ : tp_M} {n n' bs : Nat} {Φ : Option tp_V → tp_M → Prop} {x : Nat × Nat × Nat} {a b : Int} (hf : tp_at d pc = some (.ladd, 1, x)) (k : tp_go G d (pc + 1) ls (tL (tp_W (a + b)) :: st) μ n n' bs Φ) : tp_go G d (pc) ls (tL b :: tL a :: st) μ n n' bs Φ := by
  intro p e s m args below meth c H locs cells slots lsA mc ms Z
  obtain ⟨C, hS, hR, hl, hB, hm, hs, hv⟩ := Z
  have hd := tp_dec C.1 hf
  have hx := C.2.1
  have hb := C.2.2.1
  have hz := k p e s m args below meth c H locs cells slots lsA mc ms ⟨C, hS, hR, hl, hB, hm, tp_fc (tp_W_r _) (tp_f1 (tp_f1 hs)), hv⟩
  refine lv_ladd hx hb hd ?_
  rw [← Int64.ofInt_add, ← tp_W_o]
  exact hz
theorem g_lsub {G : tp_G} {d : tp_D} {pc : Nat} {ls : List (Option tp_V)} {st : List tp_V} {μ : tp_M} {n n' bs : Nat} {Φ : Option tp_V → tp_M → Prop} {x : Nat × Nat × Nat} {a b : Int} (hf : tp_at d pc = some (.lsub, 1, x)) (k : tp_go G d (pc + 1) ls (tL (tp_W (a - b)) :: st) μ n n' bs Φ) : tp_go G d (pc) ls (tL b :: tL a :: st) μ n n' bs Φ := by
  intro p e s m args below meth c H locs cells slots lsA mc ms Z
  obtain ⟨C, hS, hR, hl, hB, hm, hs, hv⟩ := Z
  have hd := tp_dec C.1 hf
  have hx := C.2.1
  have hb := C.2.2.1
  have hz := k p e s m args below meth c H locs cells slots lsA mc ms ⟨C, hS, hR, hl, hB, hm, tp_fc (tp_W_r _) (tp_f1 (tp_f1 hs)), hv⟩
  refine lv_lsub hx hb hd ?_
  rw [← Int64.ofInt_sub, ← tp_W_o]
  exact hz
theorem g_lshl {G : tp_G} {d : tp_D} {pc : Nat} {ls : List (Option tp_V)} {st : List tp_V} {μ : tp_M} {n n' bs : Nat} {Φ : Option tp_V → tp_M → Prop} {x : Nat × Nat × Nat} {a b : Int} (hf : tp_at d pc = some (.lshl, 1, x)) (k : tp_go G d (pc + 1) ls (tL (tp_Lshl a b) :: st) μ n n' bs Φ) : tp_go G d (pc) ls (tI b :: tL a :: st) μ n n' bs Φ := by
  intro p e s m args below meth c H locs cells slots lsA mc ms Z
  obtain ⟨C, hS, hR, hl, hB, hm, hs, hv⟩ := Z
  have hd := tp_dec C.1 hf
  have hx := C.2.1
  have hb := C.2.2.1
  have hz := k p e s m args below meth c H locs cells slots lsA mc ms ⟨C, hS, hR, hl, hB, hm, tp_fc (tp_W_r _) (tp_f1 (tp_f1 hs)), hv⟩
  exact lv_lshl hx hb hd (Int64.ofInt_toInt _).symm hz
theorem g_lushr {G : tp_G} {d : tp_D} {pc : Nat} {ls : List (Option tp_V)} {st : List tp_V} {μ : tp_M} {n n' bs : Nat} {Φ : Option tp_V → tp_M → Prop} {x : Nat × Nat × Nat} {a b : Int} (hf : tp_at d pc = some (.lushr, 1, x)) (k : tp_go G d (pc + 1) ls (tL (tp_Lushr a b) :: st) μ n n' bs Φ) : tp_go G d (pc) ls (tI b :: tL a :: st) μ n n' bs Φ := by
  intro p e s m args below meth c H locs cells slots lsA mc ms Z
  obtain ⟨C, hS, hR, hl, hB, hm, hs, hv⟩ := Z
  have hd := tp_dec C.1 hf
  have hx := C.2.1
  have hb := C.2.2.1
  have hz := k p e s m args below meth c H locs cells slots lsA mc ms ⟨C, hS, hR, hl, hB, hm, tp_fc (tp_W_r _) (tp_f1 (tp_f1 hs)), hv⟩
  exact lv_lushr hx hb hd (Int64.ofInt_toInt _).symm hz
theorem g_lcmp {G : tp_G} {d : tp_D} {pc : Nat} {ls : List (Option tp_V)} {st : List tp_V} {μ : tp_M} {n n' bs : Nat} {Φ : Option tp_V → tp_M → Prop} {x : Nat × Nat × Nat} {a b : Int} (hf : tp_at d pc = some (.lcmp, 1, x)) (k : tp_go G d (pc + 1) ls (tI (tp_lcmp a b) :: st) μ n n' bs Φ) : tp_go G d (pc) ls (tL b :: tL a :: st) μ n n' bs Φ := by
  intro p e s m args below meth c H locs cells slots lsA mc ms Z
  obtain ⟨C, hS, hR, hl, hB, hm, hs, hv⟩ := Z
  have hd := tp_dec C.1 hf
  have hx := C.2.1
  have hb := C.2.2.1
  have hz := k p e s m args below meth c H locs cells slots lsA mc ms ⟨C, hS, hR, hl, hB, hm, tp_fc tp_lcmp_r (tp_f1 (tp_f1 hs)), hv⟩
  refine W.lcmp hx hb hd ?_
  rw [tp_lcmp_o (tp_f0 (tp_f1 hs)) (tp_f0 hs)]
  exact hz
theorem g_i2l {G : tp_G} {d : tp_D} {pc : Nat} {ls : List (Option tp_V)} {st : List tp_V} {μ : tp_M} {n n' bs : Nat} {Φ : Option tp_V → tp_M → Prop} {x : Nat × Nat × Nat} {a : Int} (hf : tp_at d pc = some (.i2l, 1, x)) (k : tp_go G d (pc + 1) ls (tL a :: st) μ n n' bs Φ) : tp_go G d (pc) ls (tI a :: st) μ n n' bs Φ := by
  intro p e s m args below meth c H locs cells slots lsA mc ms Z
  obtain ⟨C, hS, hR, hl, hB, hm, hs, hv⟩ := Z
  have hd := tp_dec C.1 hf
  have hx := C.2.1
  have hb := C.2.2.1
  have ha : tp_r32 a := tp_f0 hs
  have ha2 : tp_r64 a := ⟨by have := ha.1; omega, by have := ha.2; omega⟩
  exact lv_i2l hx hb hd (Int64.toInt_inj.mp (by rw [Int32.toInt_toInt64, tp_t ha, tp_T64 ha2])) (k p e s m args below meth c H locs cells slots lsA mc ms ⟨C, hS, hR, hl, hB, hm, tp_fc ha2 (tp_f1 hs), hv⟩)
theorem g_l2i {G : tp_G} {d : tp_D} {pc : Nat} {ls : List (Option tp_V)} {st : List tp_V} {μ : tp_M} {n n' bs : Nat} {Φ : Option tp_V → tp_M → Prop} {x : Nat × Nat × Nat} {a : Int} (hf : tp_at d pc = some (.l2i, 1, x)) (k : tp_go G d (pc + 1) ls (tI (tp_l2i a) :: st) μ n n' bs Φ) : tp_go G d (pc) ls (tL a :: st) μ n n' bs Φ := by
  intro p e s m args below meth c H locs cells slots lsA mc ms Z
  obtain ⟨C, hS, hR, hl, hB, hm, hs, hv⟩ := Z
  have hd := tp_dec C.1 hf
  have hx := C.2.1
  have hb := C.2.2.1
  exact lv_l2i hx hb hd (Int32.ofInt_toInt _).symm (k p e s m args below meth c H locs cells slots lsA mc ms ⟨C, hS, hR, hl, hB, hm, tp_fc (tp_w_r _) (tp_f1 hs), hv⟩)
theorem g_i2b {G : tp_G} {d : tp_D} {pc : Nat} {ls : List (Option tp_V)} {st : List tp_V} {μ : tp_M} {n n' bs : Nat} {Φ : Option tp_V → tp_M → Prop} {x : Nat × Nat × Nat} {a : Int} (hf : tp_at d pc = some (.i2b, 1, x)) (k : tp_go G d (pc + 1) ls (tI (tp_b8 a) :: st) μ n n' bs Φ) : tp_go G d (pc) ls (tI a :: st) μ n n' bs Φ := by
  intro p e s m args below meth c H locs cells slots lsA mc ms Z
  obtain ⟨C, hS, hR, hl, hB, hm, hs, hv⟩ := Z
  have hd := tp_dec C.1 hf
  have hx := C.2.1
  have hb := C.2.2.1
  exact lv_i2b hx hb hd (Int32.ofInt_toInt _).symm (k p e s m args below meth c H locs cells slots lsA mc ms ⟨C, hS, hR, hl, hB, hm, tp_fc (tp_w_r _) (tp_f1 hs), hv⟩)
theorem g_dupi {G : tp_G} {d : tp_D} {pc : Nat} {ls : List (Option tp_V)} {st : List tp_V} {μ : tp_M} {n n' bs : Nat} {Φ : Option tp_V → tp_M → Prop} {x : Nat × Nat × Nat} {a : Int} (hf : tp_at d pc = some (.dup, 1, x)) (k : tp_go G d (pc + 1) ls (tI a :: tI a :: st) μ n n' bs Φ) : tp_go G d (pc) ls (tI a :: st) μ n n' bs Φ := by
  intro p e s m args below meth c H locs cells slots lsA mc ms Z
  obtain ⟨C, hS, hR, hl, hB, hm, hs, hv⟩ := Z
  have hd := tp_dec C.1 hf
  have hx := C.2.1
  have hb := C.2.2.1
  exact lv_dup hx hb hd rfl (k p e s m args below meth c H locs cells slots lsA mc ms ⟨C, hS, hR, hl, hB, hm, tp_fc (tp_f0 hs) hs, hv⟩)
theorem g_dupr {G : tp_G} {d : tp_D} {pc : Nat} {ls : List (Option tp_V)} {st : List tp_V} {μ : tp_M} {n n' bs : Nat} {Φ : Option tp_V → tp_M → Prop} {x : Nat × Nat × Nat} {a : Option Nat} (hf : tp_at d pc = some (.dup, 1, x)) (k : tp_go G d (pc + 1) ls (tR a :: tR a :: st) μ n n' bs Φ) : tp_go G d (pc) ls (tR a :: st) μ n n' bs Φ := by
  intro p e s m args below meth c H locs cells slots lsA mc ms Z
  obtain ⟨C, hS, hR, hl, hB, hm, hs, hv⟩ := Z
  have hd := tp_dec C.1 hf
  have hx := C.2.1
  have hb := C.2.2.1
  exact lv_dup hx hb hd (by cases a <;> rfl) (k p e s m args below meth c H locs cells slots lsA mc ms ⟨C, hS, hR, hl, hB, hm, tp_fc (tp_f0 hs) hs, hv⟩)
theorem g_dup2 {G : tp_G} {d : tp_D} {pc : Nat} {ls : List (Option tp_V)} {st : List tp_V} {μ : tp_M} {n n' bs : Nat} {Φ : Option tp_V → tp_M → Prop} {x : Nat × Nat × Nat} {a : Int} {r : Option Nat} (hf : tp_at d pc = some (.dup2, 1, x)) (k : tp_go G d (pc + 1) ls (tI a :: tR r :: tI a :: tR r :: st) μ n n' bs Φ) : tp_go G d (pc) ls (tI a :: tR r :: st) μ n n' bs Φ := by
  intro p e s m args below meth c H locs cells slots lsA mc ms Z
  obtain ⟨C, hS, hR, hl, hB, hm, hs, hv⟩ := Z
  have hd := tp_dec C.1 hf
  have hx := C.2.1
  have hb := C.2.2.1
  exact lv_dup2_11 hx hb hd rfl (by cases r <;> rfl) (k p e s m args below meth c H locs cells slots lsA mc ms ⟨C, hS, hR, hl, hB, hm, tp_fc (tp_f0 hs) (tp_fc trivial hs), hv⟩)
theorem g_popi {G : tp_G} {d : tp_D} {pc : Nat} {ls : List (Option tp_V)} {st : List tp_V} {μ : tp_M} {n n' bs : Nat} {Φ : Option tp_V → tp_M → Prop} {x : Nat × Nat × Nat} {a : Int} (hf : tp_at d pc = some (.pop, 1, x)) (k : tp_go G d (pc + 1) ls (st) μ n n' bs Φ) : tp_go G d (pc) ls (tI a :: st) μ n n' bs Φ := by
  intro p e s m args below meth c H locs cells slots lsA mc ms Z
  obtain ⟨C, hS, hR, hl, hB, hm, hs, hv⟩ := Z
  have hd := tp_dec C.1 hf
  have hx := C.2.1
  have hb := C.2.2.1
  exact lv_pop hx hb hd rfl (k p e s m args below meth c H locs cells slots lsA mc ms ⟨C, hS, hR, hl, hB, hm, tp_f1 hs, hv⟩)
theorem g_icmp_eq {G : tp_G} {d : tp_D} {pc : Nat} {ls : List (Option tp_V)} {st : List tp_V} {μ : tp_M} {n n' bs : Nat} {Φ : Option tp_V → tp_M → Prop} {x : Nat × Nat × Nat} {a b off : Int} {tgt : Nat} (hf : tp_at d pc = some (.if_icmp .eq off, 3, x)) (ht : (pc : Int) + off = (tgt : Int)) (kt : a = b → tp_go G d (tgt) ls (st) μ n n' bs Φ) (kf : ¬ a = b → tp_go G d (pc + 3) ls (st) μ n n' bs Φ) : tp_go G d (pc) ls (tI b :: tI a :: st) μ n n' bs Φ := by
  intro p e s m args below meth c H locs cells slots lsA mc ms Z
  obtain ⟨C, hS, hR, hl, hB, hm, hs, hv⟩ := Z
  have hd := tp_dec C.1 hf
  have hx := C.2.1
  have hb := C.2.2.1
  have ha : tp_r32 a := tp_f0 (tp_f1 hs)
  have hb2 : tp_r32 b := tp_f0 hs
  have k1 := fun h => kt h p e s m args below meth c H locs cells slots lsA mc ms ⟨C, hS, hR, hl, hB, hm, tp_f1 (tp_f1 hs), hv⟩
  have k2 := fun h => kf h p e s m args below meth c H locs cells slots lsA mc ms ⟨C, hS, hR, hl, hB, hm, tp_f1 (tp_f1 hs), hv⟩
  exact lv_icmp_eq hx hb hd ht (fun q => k1 ((tp_eq ha hb2).mp q)) (fun q => k2 (fun z => q ((tp_eq ha hb2).mpr z)))
theorem g_if_eq {G : tp_G} {d : tp_D} {pc : Nat} {ls : List (Option tp_V)} {st : List tp_V} {μ : tp_M} {n n' bs : Nat} {Φ : Option tp_V → tp_M → Prop} {x : Nat × Nat × Nat} {a off : Int} {tgt : Nat} (hf : tp_at d pc = some (.ifCond .eq off, 3, x)) (ht : (pc : Int) + off = (tgt : Int)) (kt : a = 0 → tp_go G d (tgt) ls (st) μ n n' bs Φ) (kf : ¬ a = 0 → tp_go G d (pc + 3) ls (st) μ n n' bs Φ) : tp_go G d (pc) ls (tI a :: st) μ n n' bs Φ := by
  intro p e s m args below meth c H locs cells slots lsA mc ms Z
  obtain ⟨C, hS, hR, hl, hB, hm, hs, hv⟩ := Z
  have hd := tp_dec C.1 hf
  have hx := C.2.1
  have hb := C.2.2.1
  have ha : tp_r32 a := tp_f0 hs
  have hb2 : tp_r32 0 := tp_r0
  have k1 := fun h => kt h p e s m args below meth c H locs cells slots lsA mc ms ⟨C, hS, hR, hl, hB, hm, tp_f1 hs, hv⟩
  have k2 := fun h => kf h p e s m args below meth c H locs cells slots lsA mc ms ⟨C, hS, hR, hl, hB, hm, tp_f1 hs, hv⟩
  exact lv_if_eq hx hb hd ht (fun q => k1 ((tp_eq ha hb2).mp q)) (fun q => k2 (fun z => q ((tp_eq ha hb2).mpr z)))
theorem g_icmp_ne {G : tp_G} {d : tp_D} {pc : Nat} {ls : List (Option tp_V)} {st : List tp_V} {μ : tp_M} {n n' bs : Nat} {Φ : Option tp_V → tp_M → Prop} {x : Nat × Nat × Nat} {a b off : Int} {tgt : Nat} (hf : tp_at d pc = some (.if_icmp .ne off, 3, x)) (ht : (pc : Int) + off = (tgt : Int)) (kt : ¬ a = b → tp_go G d (tgt) ls (st) μ n n' bs Φ) (kf : a = b → tp_go G d (pc + 3) ls (st) μ n n' bs Φ) : tp_go G d (pc) ls (tI b :: tI a :: st) μ n n' bs Φ := by
  intro p e s m args below meth c H locs cells slots lsA mc ms Z
  obtain ⟨C, hS, hR, hl, hB, hm, hs, hv⟩ := Z
  have hd := tp_dec C.1 hf
  have hx := C.2.1
  have hb := C.2.2.1
  have ha : tp_r32 a := tp_f0 (tp_f1 hs)
  have hb2 : tp_r32 b := tp_f0 hs
  have k1 := fun h => kt h p e s m args below meth c H locs cells slots lsA mc ms ⟨C, hS, hR, hl, hB, hm, tp_f1 (tp_f1 hs), hv⟩
  have k2 := fun h => kf h p e s m args below meth c H locs cells slots lsA mc ms ⟨C, hS, hR, hl, hB, hm, tp_f1 (tp_f1 hs), hv⟩
  exact lv_icmp_ne hx hb hd ht (fun q => k1 (fun z => q ((tp_eq ha hb2).mpr z))) (fun q => k2 ((tp_eq ha hb2).mp q))
theorem g_if_ne {G : tp_G} {d : tp_D} {pc : Nat} {ls : List (Option tp_V)} {st : List tp_V} {μ : tp_M} {n n' bs : Nat} {Φ : Option tp_V → tp_M → Prop} {x : Nat × Nat × Nat} {a off : Int} {tgt : Nat} (hf : tp_at d pc = some (.ifCond .ne off, 3, x)) (ht : (pc : Int) + off = (tgt : Int)) (kt : ¬ a = 0 → tp_go G d (tgt) ls (st) μ n n' bs Φ) (kf : a = 0 → tp_go G d (pc + 3) ls (st) μ n n' bs Φ) : tp_go G d (pc) ls (tI a :: st) μ n n' bs Φ := by
  intro p e s m args below meth c H locs cells slots lsA mc ms Z
  obtain ⟨C, hS, hR, hl, hB, hm, hs, hv⟩ := Z
  have hd := tp_dec C.1 hf
  have hx := C.2.1
  have hb := C.2.2.1
  have ha : tp_r32 a := tp_f0 hs
  have hb2 : tp_r32 0 := tp_r0
  have k1 := fun h => kt h p e s m args below meth c H locs cells slots lsA mc ms ⟨C, hS, hR, hl, hB, hm, tp_f1 hs, hv⟩
  have k2 := fun h => kf h p e s m args below meth c H locs cells slots lsA mc ms ⟨C, hS, hR, hl, hB, hm, tp_f1 hs, hv⟩
  exact lv_if_ne hx hb hd ht (fun q => k1 (fun z => q ((tp_eq ha hb2).mpr z))) (fun q => k2 ((tp_eq ha hb2).mp q))
theorem g_icmp_lt {G : tp_G} {d : tp_D} {pc : Nat} {ls : List (Option tp_V)} {st : List tp_V} {μ : tp_M} {n n' bs : Nat} {Φ : Option tp_V → tp_M → Prop} {x : Nat × Nat × Nat} {a b off : Int} {tgt : Nat} (hf : tp_at d pc = some (.if_icmp .lt off, 3, x)) (ht : (pc : Int) + off = (tgt : Int)) (kt : a < b → tp_go G d (tgt) ls (st) μ n n' bs Φ) (kf : ¬ a < b → tp_go G d (pc + 3) ls (st) μ n n' bs Φ) : tp_go G d (pc) ls (tI b :: tI a :: st) μ n n' bs Φ := by
  intro p e s m args below meth c H locs cells slots lsA mc ms Z
  obtain ⟨C, hS, hR, hl, hB, hm, hs, hv⟩ := Z
  have hd := tp_dec C.1 hf
  have hx := C.2.1
  have hb := C.2.2.1
  have ha : tp_r32 a := tp_f0 (tp_f1 hs)
  have hb2 : tp_r32 b := tp_f0 hs
  have k1 := fun h => kt h p e s m args below meth c H locs cells slots lsA mc ms ⟨C, hS, hR, hl, hB, hm, tp_f1 (tp_f1 hs), hv⟩
  have k2 := fun h => kf h p e s m args below meth c H locs cells slots lsA mc ms ⟨C, hS, hR, hl, hB, hm, tp_f1 (tp_f1 hs), hv⟩
  exact lv_icmp_lt hx hb hd ht (fun q => k1 ((tp_lt ha hb2).mp q)) (fun q => k2 (fun z => q ((tp_lt ha hb2).mpr z)))
theorem g_if_lt {G : tp_G} {d : tp_D} {pc : Nat} {ls : List (Option tp_V)} {st : List tp_V} {μ : tp_M} {n n' bs : Nat} {Φ : Option tp_V → tp_M → Prop} {x : Nat × Nat × Nat} {a off : Int} {tgt : Nat} (hf : tp_at d pc = some (.ifCond .lt off, 3, x)) (ht : (pc : Int) + off = (tgt : Int)) (kt : a < 0 → tp_go G d (tgt) ls (st) μ n n' bs Φ) (kf : ¬ a < 0 → tp_go G d (pc + 3) ls (st) μ n n' bs Φ) : tp_go G d (pc) ls (tI a :: st) μ n n' bs Φ := by
  intro p e s m args below meth c H locs cells slots lsA mc ms Z
  obtain ⟨C, hS, hR, hl, hB, hm, hs, hv⟩ := Z
  have hd := tp_dec C.1 hf
  have hx := C.2.1
  have hb := C.2.2.1
  have ha : tp_r32 a := tp_f0 hs
  have hb2 : tp_r32 0 := tp_r0
  have k1 := fun h => kt h p e s m args below meth c H locs cells slots lsA mc ms ⟨C, hS, hR, hl, hB, hm, tp_f1 hs, hv⟩
  have k2 := fun h => kf h p e s m args below meth c H locs cells slots lsA mc ms ⟨C, hS, hR, hl, hB, hm, tp_f1 hs, hv⟩
  exact lv_if_lt hx hb hd ht (fun q => k1 ((tp_lt ha hb2).mp q)) (fun q => k2 (fun z => q ((tp_lt ha hb2).mpr z)))
theorem g_icmp_ge {G : tp_G} {d : tp_D} {pc : Nat} {ls : List (Option tp_V)} {st : List tp_V} {μ : tp_M} {n n' bs : Nat} {Φ : Option tp_V → tp_M → Prop} {x : Nat × Nat × Nat} {a b off : Int} {tgt : Nat} (hf : tp_at d pc = some (.if_icmp .ge off, 3, x)) (ht : (pc : Int) + off = (tgt : Int)) (kt : b ≤ a → tp_go G d (tgt) ls (st) μ n n' bs Φ) (kf : ¬ b ≤ a → tp_go G d (pc + 3) ls (st) μ n n' bs Φ) : tp_go G d (pc) ls (tI b :: tI a :: st) μ n n' bs Φ := by
  intro p e s m args below meth c H locs cells slots lsA mc ms Z
  obtain ⟨C, hS, hR, hl, hB, hm, hs, hv⟩ := Z
  have hd := tp_dec C.1 hf
  have hx := C.2.1
  have hb := C.2.2.1
  have ha : tp_r32 a := tp_f0 (tp_f1 hs)
  have hb2 : tp_r32 b := tp_f0 hs
  have k1 := fun h => kt h p e s m args below meth c H locs cells slots lsA mc ms ⟨C, hS, hR, hl, hB, hm, tp_f1 (tp_f1 hs), hv⟩
  have k2 := fun h => kf h p e s m args below meth c H locs cells slots lsA mc ms ⟨C, hS, hR, hl, hB, hm, tp_f1 (tp_f1 hs), hv⟩
  exact lv_icmp_ge hx hb hd ht (fun q => k1 ((tp_le hb2 ha).mp q)) (fun q => k2 (fun z => q ((tp_le hb2 ha).mpr z)))
theorem g_if_ge {G : tp_G} {d : tp_D} {pc : Nat} {ls : List (Option tp_V)} {st : List tp_V} {μ : tp_M} {n n' bs : Nat} {Φ : Option tp_V → tp_M → Prop} {x : Nat × Nat × Nat} {a off : Int} {tgt : Nat} (hf : tp_at d pc = some (.ifCond .ge off, 3, x)) (ht : (pc : Int) + off = (tgt : Int)) (kt : 0 ≤ a → tp_go G d (tgt) ls (st) μ n n' bs Φ) (kf : ¬ 0 ≤ a → tp_go G d (pc + 3) ls (st) μ n n' bs Φ) : tp_go G d (pc) ls (tI a :: st) μ n n' bs Φ := by
  intro p e s m args below meth c H locs cells slots lsA mc ms Z
  obtain ⟨C, hS, hR, hl, hB, hm, hs, hv⟩ := Z
  have hd := tp_dec C.1 hf
  have hx := C.2.1
  have hb := C.2.2.1
  have ha : tp_r32 a := tp_f0 hs
  have hb2 : tp_r32 0 := tp_r0
  have k1 := fun h => kt h p e s m args below meth c H locs cells slots lsA mc ms ⟨C, hS, hR, hl, hB, hm, tp_f1 hs, hv⟩
  have k2 := fun h => kf h p e s m args below meth c H locs cells slots lsA mc ms ⟨C, hS, hR, hl, hB, hm, tp_f1 hs, hv⟩
  exact lv_if_ge hx hb hd ht (fun q => k1 ((tp_le hb2 ha).mp q)) (fun q => k2 (fun z => q ((tp_le hb2 ha).mpr z)))
theorem g_icmp_gt {G : tp_G} {d : tp_D} {pc : Nat} {ls : List (Option tp_V)} {st : List tp_V} {μ : tp_M} {n n' bs : Nat} {Φ : Option tp_V → tp_M → Prop} {x : Nat × Nat × Nat} {a b off : Int} {tgt : Nat} (hf : tp_at d pc = some (.if_icmp .gt off, 3, x)) (ht : (pc : Int) + off = (tgt : Int)) (kt : b < a → tp_go G d (tgt) ls (st) μ n n' bs Φ) (kf : ¬ b < a → tp_go G d (pc + 3) ls (st) μ n n' bs Φ) : tp_go G d (pc) ls (tI b :: tI a :: st) μ n n' bs Φ := by
  intro p e s m args below meth c H locs cells slots lsA mc ms Z
  obtain ⟨C, hS, hR, hl, hB, hm, hs, hv⟩ := Z
  have hd := tp_dec C.1 hf
  have hx := C.2.1
  have hb := C.2.2.1
  have ha : tp_r32 a := tp_f0 (tp_f1 hs)
  have hb2 : tp_r32 b := tp_f0 hs
  have k1 := fun h => kt h p e s m args below meth c H locs cells slots lsA mc ms ⟨C, hS, hR, hl, hB, hm, tp_f1 (tp_f1 hs), hv⟩
  have k2 := fun h => kf h p e s m args below meth c H locs cells slots lsA mc ms ⟨C, hS, hR, hl, hB, hm, tp_f1 (tp_f1 hs), hv⟩
  exact lv_icmp_gt hx hb hd ht (fun q => k1 ((tp_lt hb2 ha).mp q)) (fun q => k2 (fun z => q ((tp_lt hb2 ha).mpr z)))
theorem g_if_gt {G : tp_G} {d : tp_D} {pc : Nat} {ls : List (Option tp_V)} {st : List tp_V} {μ : tp_M} {n n' bs : Nat} {Φ : Option tp_V → tp_M → Prop} {x : Nat × Nat × Nat} {a off : Int} {tgt : Nat} (hf : tp_at d pc = some (.ifCond .gt off, 3, x)) (ht : (pc : Int) + off = (tgt : Int)) (kt : 0 < a → tp_go G d (tgt) ls (st) μ n n' bs Φ) (kf : ¬ 0 < a → tp_go G d (pc + 3) ls (st) μ n n' bs Φ) : tp_go G d (pc) ls (tI a :: st) μ n n' bs Φ := by
  intro p e s m args below meth c H locs cells slots lsA mc ms Z
  obtain ⟨C, hS, hR, hl, hB, hm, hs, hv⟩ := Z
  have hd := tp_dec C.1 hf
  have hx := C.2.1
  have hb := C.2.2.1
  have ha : tp_r32 a := tp_f0 hs
  have hb2 : tp_r32 0 := tp_r0
  have k1 := fun h => kt h p e s m args below meth c H locs cells slots lsA mc ms ⟨C, hS, hR, hl, hB, hm, tp_f1 hs, hv⟩
  have k2 := fun h => kf h p e s m args below meth c H locs cells slots lsA mc ms ⟨C, hS, hR, hl, hB, hm, tp_f1 hs, hv⟩
  exact lv_if_gt hx hb hd ht (fun q => k1 ((tp_lt hb2 ha).mp q)) (fun q => k2 (fun z => q ((tp_lt hb2 ha).mpr z)))
theorem g_icmp_le {G : tp_G} {d : tp_D} {pc : Nat} {ls : List (Option tp_V)} {st : List tp_V} {μ : tp_M} {n n' bs : Nat} {Φ : Option tp_V → tp_M → Prop} {x : Nat × Nat × Nat} {a b off : Int} {tgt : Nat} (hf : tp_at d pc = some (.if_icmp .le off, 3, x)) (ht : (pc : Int) + off = (tgt : Int)) (kt : a ≤ b → tp_go G d (tgt) ls (st) μ n n' bs Φ) (kf : ¬ a ≤ b → tp_go G d (pc + 3) ls (st) μ n n' bs Φ) : tp_go G d (pc) ls (tI b :: tI a :: st) μ n n' bs Φ := by
  intro p e s m args below meth c H locs cells slots lsA mc ms Z
  obtain ⟨C, hS, hR, hl, hB, hm, hs, hv⟩ := Z
  have hd := tp_dec C.1 hf
  have hx := C.2.1
  have hb := C.2.2.1
  have ha : tp_r32 a := tp_f0 (tp_f1 hs)
  have hb2 : tp_r32 b := tp_f0 hs
  have k1 := fun h => kt h p e s m args below meth c H locs cells slots lsA mc ms ⟨C, hS, hR, hl, hB, hm, tp_f1 (tp_f1 hs), hv⟩
  have k2 := fun h => kf h p e s m args below meth c H locs cells slots lsA mc ms ⟨C, hS, hR, hl, hB, hm, tp_f1 (tp_f1 hs), hv⟩
  exact lv_icmp_le hx hb hd ht (fun q => k1 ((tp_le ha hb2).mp q)) (fun q => k2 (fun z => q ((tp_le ha hb2).mpr z)))
theorem g_if_le {G : tp_G} {d : tp_D} {pc : Nat} {ls : List (Option tp_V)} {st : List tp_V} {μ : tp_M} {n n' bs : Nat} {Φ : Option tp_V → tp_M → Prop} {x : Nat × Nat × Nat} {a off : Int} {tgt : Nat} (hf : tp_at d pc = some (.ifCond .le off, 3, x)) (ht : (pc : Int) + off = (tgt : Int)) (kt : a ≤ 0 → tp_go G d (tgt) ls (st) μ n n' bs Φ) (kf : ¬ a ≤ 0 → tp_go G d (pc + 3) ls (st) μ n n' bs Φ) : tp_go G d (pc) ls (tI a :: st) μ n n' bs Φ := by
  intro p e s m args below meth c H locs cells slots lsA mc ms Z
  obtain ⟨C, hS, hR, hl, hB, hm, hs, hv⟩ := Z
  have hd := tp_dec C.1 hf
  have hx := C.2.1
  have hb := C.2.2.1
  have ha : tp_r32 a := tp_f0 hs
  have hb2 : tp_r32 0 := tp_r0
  have k1 := fun h => kt h p e s m args below meth c H locs cells slots lsA mc ms ⟨C, hS, hR, hl, hB, hm, tp_f1 hs, hv⟩
  have k2 := fun h => kf h p e s m args below meth c H locs cells slots lsA mc ms ⟨C, hS, hR, hl, hB, hm, tp_f1 hs, hv⟩
  exact lv_if_le hx hb hd ht (fun q => k1 ((tp_le ha hb2).mp q)) (fun q => k2 (fun z => q ((tp_le ha hb2).mpr z)))
theorem g_goto {G : tp_G} {d : tp_D} {pc : Nat} {ls : List (Option tp_V)} {st : List tp_V} {μ : tp_M} {n n' bs : Nat} {Φ : Option tp_V → tp_M → Prop} {x : Nat × Nat × Nat} {off : Int} {tgt : Nat} (hf : tp_at d pc = some (.goto off, 3, x)) (ht : (pc : Int) + off = (tgt : Int)) (k : tp_go G d (tgt) ls (st) μ n n' bs Φ) : tp_go G d (pc) ls (st) μ n n' bs Φ := by
  intro p e s m args below meth c H locs cells slots lsA mc ms Z
  obtain ⟨C, hS, hR, hl, hB, hm, hs, hv⟩ := Z
  have hd := tp_dec C.1 hf
  have hx := C.2.1
  have hb := C.2.2.1
  exact lv_goto hx hb hd ht (k p e s m args below meth c H locs cells slots lsA mc ms ⟨C, hS, hR, hl, hB, hm, hs, hv⟩)
theorem g_ifnull {G : tp_G} {d : tp_D} {pc : Nat} {ls : List (Option tp_V)} {st : List tp_V} {μ : tp_M} {n n' bs : Nat} {Φ : Option tp_V → tp_M → Prop} {x : Nat × Nat × Nat} {r : Option Nat} {off : Int} {tgt : Nat} (hf : tp_at d pc = some (.ifnull off, 3, x)) (ht : (pc : Int) + off = (tgt : Int)) (kt : r = none → tp_go G d (tgt) ls (st) μ n n' bs Φ) (kf : ∀ c, r = some c → tp_go G d (pc + 3) ls (st) μ n n' bs Φ) : tp_go G d (pc) ls (tR r :: st) μ n n' bs Φ := by
  intro p e s m args below meth c H locs cells slots lsA mc ms Z
  obtain ⟨C, hS, hR, hl, hB, hm, hs, hv⟩ := Z
  have hd := tp_dec C.1 hf
  have hx := C.2.1
  have hb := C.2.2.1
  cases r with
  | none => exact lv_ifnullN hx hb hd ht (kt rfl p e s m args below meth c H locs cells slots lsA mc ms ⟨C, hS, hR, hl, hB, hm, tp_f1 hs, hv⟩)
  | some a => exact lv_ifnull hx hb hd (kf a rfl p e s m args below meth c H locs cells slots lsA mc ms ⟨C, hS, hR, hl, hB, hm, tp_f1 hs, hv⟩)
theorem g_ifnonnull {G : tp_G} {d : tp_D} {pc : Nat} {ls : List (Option tp_V)} {st : List tp_V} {μ : tp_M} {n n' bs : Nat} {Φ : Option tp_V → tp_M → Prop} {x : Nat × Nat × Nat} {r : Option Nat} {off : Int} {tgt : Nat} (hf : tp_at d pc = some (.ifnonnull off, 3, x)) (ht : (pc : Int) + off = (tgt : Int)) (kt : ∀ c, r = some c → tp_go G d (tgt) ls (st) μ n n' bs Φ) (kf : r = none → tp_go G d (pc + 3) ls (st) μ n n' bs Φ) : tp_go G d (pc) ls (tR r :: st) μ n n' bs Φ := by
  intro p e s m args below meth c H locs cells slots lsA mc ms Z
  obtain ⟨C, hS, hR, hl, hB, hm, hs, hv⟩ := Z
  have hd := tp_dec C.1 hf
  have hx := C.2.1
  have hb := C.2.2.1
  cases r with
  | none => exact lv_ifnonnullN hx hb hd (kf rfl p e s m args below meth c H locs cells slots lsA mc ms ⟨C, hS, hR, hl, hB, hm, tp_f1 hs, hv⟩)
  | some a => exact lv_ifnonnull hx hb hd ht (kt a rfl p e s m args below meth c H locs cells slots lsA mc ms ⟨C, hS, hR, hl, hB, hm, tp_f1 hs, hv⟩)
theorem g_swOut {G : tp_G} {d : tp_D} {pc : Nat} {ls : List (Option tp_V)} {st : List tp_V} {μ : tp_M} {n n' bs : Nat} {Φ : Option tp_V → tp_M → Prop} {x : Nat × Nat × Nat} {a df lo hi : Int} {offs : Array Int} {ln tgt : Nat} (hf : tp_at d pc = some (.tableswitch df lo hi offs, ln, x)) (h : a < lo ∨ hi < a) (ht : (pc : Int) + df = (tgt : Int)) (k : tp_go G d (tgt) ls (st) μ n n' bs Φ) : tp_go G d (pc) ls (tI a :: st) μ n n' bs Φ := by
  intro p e s m args below meth c H locs cells slots lsA mc ms Z
  obtain ⟨C, hS, hR, hl, hB, hm, hs, hv⟩ := Z
  have hd := tp_dec C.1 hf
  have hx := C.2.1
  have hb := C.2.2.1
  have ha : tp_r32 a := tp_f0 hs
  exact lv_tableOut hx hb hd (by rw [tp_t ha]; exact h) ht (k p e s m args below meth c H locs cells slots lsA mc ms ⟨C, hS, hR, hl, hB, hm, tp_f1 hs, hv⟩)
theorem g_swIn {G : tp_G} {d : tp_D} {pc : Nat} {ls : List (Option tp_V)} {st : List tp_V} {μ : tp_M} {n n' bs : Nat} {Φ : Option tp_V → tp_M → Prop} {x : Nat × Nat × Nat} {a df lo hi off : Int} {offs : Array Int} {ln tgt : Nat} (hf : tp_at d pc = some (.tableswitch df lo hi offs, ln, x)) (h1 : ¬ a < lo) (h2 : ¬ hi < a) (ho : offs[(a - lo).toNat]? = some off) (ht : (pc : Int) + off = (tgt : Int)) (k : tp_go G d (tgt) ls (st) μ n n' bs Φ) : tp_go G d (pc) ls (tI a :: st) μ n n' bs Φ := by
  intro p e s m args below meth c H locs cells slots lsA mc ms Z
  obtain ⟨C, hS, hR, hl, hB, hm, hs, hv⟩ := Z
  have hd := tp_dec C.1 hf
  have hx := C.2.1
  have hb := C.2.2.1
  have ha : tp_r32 a := tp_f0 hs
  exact lv_tableIn hx hb hd (by rw [tp_t ha]; exact h1) (by rw [tp_t ha]; exact h2) (by rw [tp_t ha]; exact ho) ht (k p e s m args below meth c H locs cells slots lsA mc ms ⟨C, hS, hR, hl, hB, hm, tp_f1 hs, hv⟩)
