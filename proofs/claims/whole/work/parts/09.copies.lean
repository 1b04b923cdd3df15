/-! System.arraycopy between two rows of numbers, and out of a static row -/
theorem tp_ac1 : Cond.static arraycopyName ∈ tp_big := tp_in 607 (by decide +kernel) rfl
theorem tp_ac2 : Cond.native arraycopyName ∈ tp_big := tp_in 608 (by decide +kernel) rfl
theorem tp_ac3 : Cond.initialized "java/lang/System" ∈ tp_big := tp_in 149 (by decide +kernel) rfl
def tp_cp (μ : tp_M) (c0 c1 : Nat) (sp dp len : Int) : tp_M := (fun k j => if k = c1 ∧ dp ≤ j ∧ j < dp + len then μ.1 c0 (sp + (j - dp)) else μ.1 k j, μ.2)
def tp_cq (μ : tp_M) (f : Int → Int) (c1 : Nat) (sp dp len : Int) : tp_M := (fun k j => if k = c1 ∧ dp ≤ j ∧ j < dp + len then f (sp + (j - dp)) else μ.1 k j, μ.2)
theorem tp_nfw : nativeFrameWords "java/lang/System" "arraycopy" 5 + 11 ≤ 31 := by decide +kernel
theorem tp_cpy_eq {α : Type} (F : Int → α) {f : Nat → Int} {g g' : Int → Int} {sp dp len : Int} {p q r : Nat} (hp : (p : Int) = sp) (hq : (q : Int) = dp) (hr : (r : Int) = len) (hg : ∀ j : Int, g' j = if dp ≤ j ∧ j < dp + len then f (p + (j - dp).toNat) else g j) : va_cpy (fun j => F (f j)) (fun j : Nat => F (g (j : Int))) p q r = (fun j : Nat => F (g' (j : Int))) := by
  funext j
  unfold va_cpy
  rw [hg]
  by_cases hc : q ≤ j ∧ j < q + r
  · rw [if_pos hc, if_pos (by omega)]
    have : p + (j - q) = p + ((j : Int) - dp).toNat := by omega
    show F (f (p + (j - q))) = _
    rw [this]
  · rw [if_neg hc, if_neg (by omega)]
theorem tp_fits {ty : FieldType} {a : Int} (h : tp_rng ty a) (ht : ty = .int ∨ ty = .byte) : fits ty (.int (Int32.ofInt a)) = true := by
  rcases ht with rfl | rfl
  · rfl
  · have e : Int32.ofInt a = (Int32.ofInt a).toInt8.toInt32 := by
      have h1 : -128 ≤ a ∧ a ≤ 127 := h
      apply Int32.toInt_inj.mp
      rw [Int8.toInt_toInt32, Int32.toInt_toInt8, tp_t ⟨by omega, by omega⟩]
      unfold Int.bmod
      simp only [Int8.size]
      split <;> omega
    rw [e]
    exact pk_fb _
theorem g_copy {G : tp_G} {d : tp_D} {pc : Nat} {ls : List (Option tp_V)} {st : List tp_V} {μ : tp_M} {n n' bs : Nat} {Φ : Option tp_V → tp_M → Prop} {idx pos : Nat} {sp dp len : Int} {c1 l1 t0 : Nat} {ty : FieldType} {c0 l0 : Nat} (hty : ty = .int ∨ ty = .byte) (hc0 : tp_SH c0 = .inr (ty, l0)) (hn0 : c0 < n) (ht0 : tp_tyl[t0]? = some ty) (h4 : sp + len ≤ (l0 : Int)) (hf : tp_at d pc = some (.invokestatic idx, 3, pos, 297, 0)) (hc1 : tp_SH c1 = .inr (ty, l1)) (hn1 : c1 < n) (h1 : 0 ≤ sp) (h2 : 0 ≤ dp) (h3 : 0 ≤ len) (h5 : dp + len ≤ (l1 : Int)) (hw : Nat.ble (tp_rw st) 8 = true) (k : tp_go G d (pc + 3) ls st (tp_cp μ c0 c1 sp dp len) n n' bs Φ) : tp_go G d pc ls (tI len :: tI dp :: tR (some c1) :: tI sp :: tR (some c0) :: st) μ n n' bs Φ := by
  intro p e s m args below meth c H locs cells slots lsA mc ms Z
  obtain ⟨C, hS, hR, hl, hB, hm, hs, hv⟩ := Z
  have hd := tp_dec C.1 hf
  have hx := C.2.1
  have hb := C.2.2.1
  have hown := C.2.2.2.2.2.2.2.1
  have hts := C.2.2.2.2.2.2.2.2.1
  have hK := C.2.2.2.2.2.2.2.2.2.1
  have hlk := tp_lk0 (y := arraycopyName) (by exact tp_lnk C.1 hf) (by decide +kernel)
  have w7 := tp_ge1 C.1
  have hrw : ((st.map (tp_v G)).map fun v => v.category).sum ≤ 8 := by rw [tp_rw_eq]; exact Nat.le_of_ble_eq_true hw
  have hnf := tp_nfw
  have r1 : tp_r32 len := tp_f0 hs
  have r2 : tp_r32 dp := tp_f0 (tp_f1 hs)
  have r3 : tp_r32 sp := tp_f0 (tp_f1 (tp_f1 (tp_f1 hs)))
  have e1 : ((Int32.ofInt len).toNatClampNeg : Int) = len := by rw [← Int32.toNat_toInt, tp_t r1]; omega
  have e2 : ((Int32.ofInt dp).toNatClampNeg : Int) = dp := by rw [← Int32.toNat_toInt, tp_t r2]; omega
  have e3 : ((Int32.ofInt sp).toNatClampNeg : Int) = sp := by rw [← Int32.toNat_toInt, tp_t r3]; omega
  have n1 : ¬ Int32.ofInt len < 0 := fun h => by have := (tp_lt r1 tp_r0).mp h; omega
  have n2 : ¬ Int32.ofInt dp < 0 := fun h => by have := (tp_lt r2 tp_r0).mp h; omega
  have n3 : ¬ Int32.ofInt sp < 0 := fun h => by have := (tp_lt r3 tp_r0).mp h; omega
  have hac : ∀ (μ : tp_M) (c : Nat), tp_ac G μ c ty = .inl (fun j => Int32.ofInt (μ.1 c (j : Int))) := fun μ c => tp_ac_i (by rcases hty with h | h <;> simp [h])
  have ha0 := tp_ws_arr (G := G) (μ := μ) hn0 hc0
  have ha1 := tp_ws_arr (G := G) (μ := μ) hn1 hc1
  rw [hac] at ha0 ha1
  rw [List.map_cons, List.map_cons, List.map_cons, List.map_cons, List.map_cons, tp_ref hn0 hR.1, tp_ref hn1 hR.1]
  refine va_copyi hx hb (by rw [C.2.2.2.1]; exact hl.2.1.symm) hown (hts _ hlk) (hts _ tp_ac2) (hts _ tp_ac1) (hts _ tp_ac3) hK.1 hR.2 tp_wsD hS c0 c1 t0 t0 ha0 ha1 (tp_tys_at ht0) (tp_tys_at ht0) (by rcases hty with h | h <;> rw [h] <;> rfl) n3 n2 n1 (by omega) (by omega) (fun i hi => tp_fits (by have := hm c0 (((Int32.ofInt sp).toNatClampNeg + i : Nat) : Int); rw [tp_styA hc0] at this; exact this) hty) (by show 1 ≤ tp_dd d; exact w7) (by show _ ≤ 39 * tp_dd d; omega) hd (fun H1 locs1 hP1 _ hS1 => ?_)
  have e4 : va_cpy (fun j : Nat => Int32.ofInt (μ.1 c0 (j : Int))) (fun j : Nat => Int32.ofInt (μ.1 c1 (j : Int))) (Int32.ofInt sp).toNatClampNeg (Int32.ofInt dp).toNatClampNeg (Int32.ofInt len).toNatClampNeg = (fun j : Nat => Int32.ofInt ((tp_cp μ c0 c1 sp dp len).1 c1 (j : Int))) :=
    tp_cpy_eq Int32.ofInt (f := fun j => μ.1 c0 (j : Int)) (g := μ.1 c1) (g' := (tp_cp μ c0 c1 sp dp len).1 c1) e3 e2 e1 (fun j => by
      show (if c1 = c1 ∧ dp ≤ j ∧ j < dp + len then μ.1 c0 (sp + (j - dp)) else μ.1 c1 j) = _
      by_cases hc : dp ≤ j ∧ j < dp + len
      · rw [if_pos ⟨rfl, hc⟩, if_pos hc]
        show μ.1 c0 (sp + (j - dp)) = μ.1 c0 (((Int32.ofInt sp).toNatClampNeg + (j - dp).toNat : Nat) : Int)
        exact congrArg (μ.1 c0) (by omega)
      · rw [if_neg (fun z => hc z.2), if_neg hc])
  rw [e4, tp_put_arr (G := G) (μ := μ) (n := n) (μ' := tp_cp μ c0 c1 sp dp len) hn1 hc1 (fun i hi => tp_e_congr (fun j => if_neg (fun z => hi z.1)) (fun _ => rfl)) (hac _ _)] at hP1
  refine k p e s m args below meth c H1 locs1 cells slots lsA mc ms ⟨C, hS1, ⟨hR.1, hP1⟩, hl, hB, fun k' j' => ?_, tp_f1 (tp_f1 (tp_f1 (tp_f1 (tp_f1 hs)))), hv⟩
  show tp_rng (tp_sty k' j') (if k' = c1 ∧ dp ≤ j' ∧ j' < dp + len then μ.1 c0 (sp + (j' - dp)) else μ.1 k' j')
  by_cases hc : k' = c1 ∧ dp ≤ j' ∧ j' < dp + len
  · rw [if_pos hc, hc.1, tp_styA hc1]
    have := hm c0 (sp + (j' - dp))
    rw [tp_styA hc0] at this
    exact this
  · rw [if_neg hc]
    exact hm k' j'
theorem g_copyS {G : tp_G} {d : tp_D} {pc : Nat} {ls : List (Option tp_V)} {st : List tp_V} {μ : tp_M} {n n' bs : Nat} {Φ : Option tp_V → tp_M → Prop} {idx pos : Nat} {sp dp len : Int} {c1 l1 t0 : Nat} {ty : FieldType} {i0 : Nat} (hty : ty = .int) (hi : i0 < 8) (ht0 : tp_tyl[t0]? = some ty) (h4 : sp + len ≤ (tp_sl G i0 : Int)) (hf : tp_at d pc = some (.invokestatic idx, 3, pos, 297, 0)) (hc1 : tp_SH c1 = .inr (ty, l1)) (hn1 : c1 < n) (h1 : 0 ≤ sp) (h2 : 0 ≤ dp) (h3 : 0 ≤ len) (h5 : dp + len ≤ (l1 : Int)) (hw : Nat.ble (tp_rw st) 8 = true) (k : tp_go G d (pc + 3) ls st (tp_cq μ (fun z => tp_sv G i0 z.toNat) c1 sp dp len) n n' bs Φ) : tp_go G d pc ls (tI len :: tI dp :: tR (some c1) :: tI sp :: tR (some (5000 + i0)) :: st) μ n n' bs Φ := by
  intro p e s m args below meth c H locs cells slots lsA mc ms Z
  obtain ⟨C, hS, hR, hl, hB, hm, hs, hv⟩ := Z
  have hd := tp_dec C.1 hf
  have hx := C.2.1
  have hb := C.2.2.1
  have hown := C.2.2.2.2.2.2.2.1
  have hts := C.2.2.2.2.2.2.2.2.1
  have hK := C.2.2.2.2.2.2.2.2.2.1
  have hlk := tp_lk0 (y := arraycopyName) (by exact tp_lnk C.1 hf) (by decide +kernel)
  have w7 := tp_ge1 C.1
  have hrw : ((st.map (tp_v G)).map fun v => v.category).sum ≤ 8 := by rw [tp_rw_eq]; exact Nat.le_of_ble_eq_true hw
  have hnf := tp_nfw
  have r1 : tp_r32 len := tp_f0 hs
  have r2 : tp_r32 dp := tp_f0 (tp_f1 hs)
  have r3 : tp_r32 sp := tp_f0 (tp_f1 (tp_f1 (tp_f1 hs)))
  have e1 : ((Int32.ofInt len).toNatClampNeg : Int) = len := by rw [← Int32.toNat_toInt, tp_t r1]; omega
  have e2 : ((Int32.ofInt dp).toNatClampNeg : Int) = dp := by rw [← Int32.toNat_toInt, tp_t r2]; omega
  have e3 : ((Int32.ofInt sp).toNatClampNeg : Int) = sp := by rw [← Int32.toNat_toInt, tp_t r3]; omega
  have n1 : ¬ Int32.ofInt len < 0 := fun h => by have := (tp_lt r1 tp_r0).mp h; omega
  have n2 : ¬ Int32.ofInt dp < 0 := fun h => by have := (tp_lt r2 tp_r0).mp h; omega
  have n3 : ¬ Int32.ofInt sp < 0 := fun h => by have := (tp_lt r3 tp_r0).mp h; omega
  subst hty
  have hac : ∀ (μ : tp_M) (c : Nat), tp_ac G μ c .int = .inl (fun j => Int32.ofInt (μ.1 c (j : Int))) := fun μ c => tp_ac_i (Or.inl rfl)
  have ha1 := tp_ws_arr (G := G) (μ := μ) hn1 hc1
  rw [hac] at ha1
  have hr5 : tp_v G (tR (some (5000 + i0))) = .ref (tp_Gs G i0) := by
    show Value.ref (tp_ad G (5000 + i0)) = _
    rw [tp_ad, if_neg (by omega), Nat.add_sub_cancel_left]
  rw [List.map_cons, List.map_cons, List.map_cons, List.map_cons, List.map_cons, hr5, tp_ref hn1 hR.1]
  have nn : ∀ z : Int, tp_r32 z → 0 ≤ z → (Int32.ofInt z).toInt = ((Int32.ofInt z).toNatClampNeg : Int) := fun z h h0 => by rw [← Int32.toNat_toInt, tp_t h]; omega
  intro T hT X
  obtain ⟨scr, hs1, hs2, hs3, hs4, -, hs5, hs7⟩ := hK.2.2.2.1 i0 hi
  have hc0 : H[tp_Gs G i0]? = some scr := by rw [hS.2.1 _ (Array.getElem?_eq_some_iff.mp hs1).1 hs7]; exact hs1
  have hcc1 : H[tp_Gb G + c1]? = some (vp_cell (tp_Ga G .int) (l1, .inl (fun j => Int32.ofInt (μ.1 c1 (j : Int))))) := hR.2 c1 _ ha1
  obtain ⟨hs6, k0, hk0, cm0, hkk0⟩ := hs2
  obtain ⟨-, k1, hk1, cm1, hkk1⟩ := (hK.1.2 t0 _ (tp_tys_at ht0)).1 l1 (fun j => .int (Int32.ofInt (μ.1 c1 (j : Int))))
  obtain ⟨vm', X', step⟩ := X.arraycopy hx hown (hts _ hlk) (hts _ tp_ac2) (hts _ tp_ac1) (hts _ tp_ac3) (src := tp_Gs G i0) (dst := tp_Gb G + c1) (cs := scr) (cd := vp_cell (tp_Ga G .int) (l1, .inl (fun j => Int32.ofInt (μ.1 c1 (j : Int))))) (srcPos := Int32.ofInt sp) (destPos := Int32.ofInt dp) (n := Int32.ofInt len) (by rw [hT]; exact hc0) (by rw [hT]; exact hcc1)
    hs6 (fun _ h => by cases h) hs3 (fun h => by cases h) hk0 hk1 hkk0 hkk1 (by simp [refKind]) n3 n2 n1
    (by rw [nn sp r3 h1, nn len r1 h3]; omega)
    (by rw [nn dp r2 h2, nn len r1 h3]; show ¬ _ > ((arrV (tp_Ga G .int) l1 (fun j => .int (Int32.ofInt (μ.1 c1 (j : Int))))).slots.size : Int); rw [arrV_size]; omega)
    (fun vm₁ _ i hi2 => by
      have e : scr.slots.getD ((Int32.ofInt sp).toNatClampNeg + i) .null = .int (Int32.ofInt (tp_sv G i0 ((Int32.ofInt sp).toNatClampNeg + i))) := by
        rw [Array.getD_eq_getD_getElem?, hs5 _ (by omega)]
        rfl
      refine ⟨?_, ?_⟩
      · rw [e]
        rfl
      · rw [e]
        exact trivial)
    (g := F0 m pc lsA (.int (Int32.ofInt len) :: .int (Int32.ofInt dp) :: .ref (tp_Gb G + c1) :: .int (Int32.ofInt sp) :: .ref (tp_Gs G i0) :: st.map (tp_v G))) rfl (by show lsA.size = _; rw [C.2.2.2.1]; exact hl.2.1) (rest := st.map (tp_v G)) rfl (by rw [hb]; exact hd) (by show 1 ≤ tp_dd d; exact w7) (by show 2 * 0 + _ + _ ≤ 39 * tp_dd d; omega)
  have e5 : copied scr (vp_cell (tp_Ga G .int) (l1, .inl (fun j => Int32.ofInt (μ.1 c1 (j : Int))))) (Int32.ofInt sp) (Int32.ofInt dp) (Int32.ofInt len) = vp_cell (tp_Ga G .int) (l1, .inl (va_cpy (fun j => Int32.ofInt (tp_sv G i0 j)) (fun j => Int32.ofInt (μ.1 c1 (j : Int))) (Int32.ofInt sp).toNatClampNeg (Int32.ofInt dp).toNatClampNeg (Int32.ofInt len).toNatClampNeg)) := va_copiedX (fun z => .int z) scr (tp_Ga G .int) (fun j => Int32.ofInt (tp_sv G i0 j)) (fun j => Int32.ofInt (μ.1 c1 (j : Int))) hs5 (by omega)
  have e4 : va_cpy (fun j : Nat => Int32.ofInt (tp_sv G i0 j)) (fun j : Nat => Int32.ofInt (μ.1 c1 (j : Int))) (Int32.ofInt sp).toNatClampNeg (Int32.ofInt dp).toNatClampNeg (Int32.ofInt len).toNatClampNeg = (fun j : Nat => Int32.ofInt ((tp_cq μ (fun z => tp_sv G i0 z.toNat) c1 sp dp len).1 c1 (j : Int))) :=
    tp_cpy_eq Int32.ofInt (f := fun j => tp_sv G i0 j) (g := μ.1 c1) (g' := (tp_cq μ (fun z => tp_sv G i0 z.toNat) c1 sp dp len).1 c1) e3 e2 e1 (fun j => by
      show (if c1 = c1 ∧ dp ≤ j ∧ j < dp + len then tp_sv G i0 (sp + (j - dp)).toNat else μ.1 c1 j) = _
      by_cases hc : dp ≤ j ∧ j < dp + len
      · rw [if_pos ⟨rfl, hc⟩, if_pos hc]
        congr 1
        omega
      · rw [if_neg (fun z => hc z.2), if_neg hc])
  rw [e5, e4] at X' step
  have hlt : tp_Gb G + c1 < H.size := (Array.getElem?_eq_some_iff.mp hcc1).1
  generalize hce : vp_cell (tp_Ga G .int) (l1, .inl (fun j : Nat => Int32.ofInt ((tp_cq μ (fun z => tp_sv G i0 z.toNat) c1 sp dp len).1 c1 (j : Int)))) = ce at X' step
  have hheap : ((T.setVm vm').setCell (tp_Gb G + c1) ce).heap = H.setIfInBounds (tp_Gb G + c1) ce := by rw [← hT]; rfl
  have oq : ∀ q : Nat, q ≠ tp_Gb G + c1 → (H.setIfInBounds (tp_Gb G + c1) ce)[q]? = H[q]? := fun q hq => by simp [Array.getElem?_setIfInBounds, Ne.symm hq]
  have hP1 := hR.2.set tp_wsD ha1 (show va_at (tp_GD G) tp_cl (tp_Gb G + c1, .inl (tp_Ga G .int, l1, .inl (fun j : Nat => Int32.ofInt ((tp_cq μ (fun z => tp_sv G i0 z.toNat) c1 sp dp len).1 c1 (j : Int))))) (H.setIfInBounds (tp_Gb G + c1) ce) from (show (H.setIfInBounds (tp_Gb G + c1) ce)[tp_Gb G + c1]? = some _ by rw [hce]; simp [Array.getElem?_setIfInBounds, hlt])) oq
  rw [tp_put_arr (G := G) (μ := μ) (n := n) (μ' := tp_cq μ (fun z => tp_sv G i0 z.toNat) c1 sp dp len) hn1 hc1 (fun i hi => tp_e_congr (fun j => if_neg (fun z => hi z.1)) (fun _ => rfl)) (hac _ _)] at hP1
  have hmk : tp_mok (tp_cq μ (fun z => tp_sv G i0 z.toNat) c1 sp dp len) := fun k' j' => by
    show tp_rng (tp_sty k' j') (if k' = c1 ∧ dp ≤ j' ∧ j' < dp + len then tp_sv G i0 (sp + (j' - dp)).toNat else μ.1 k' j')
    by_cases hc : k' = c1 ∧ dp ≤ j' ∧ j' < dp + len
    · rw [if_pos hc, hc.1, tp_styA hc1]
      exact hK.2.2.2.2.2.1 i0 _
    · rw [if_neg hc]
      exact hm k' j'
  obtain ⟨t, a1, b1⟩ := k p e s m args below meth c _ _ cells slots lsA mc ms ⟨C, ⟨by simp; exact hS.1, fun q g1 g2 => by
      rw [oq q (fun e => g2 (by rw [e]; exact Nat.le_add_right _ _))]
      exact hS.2.1 q g1 g2, fun q hq => by
      rcases List.mem_append.mp hq with h | h
      · exact hS.2.2 q h
      · obtain ⟨z, -, hz⟩ := List.mem_map.mp h
        rw [← hz]
        exact Nat.le_add_right _ _⟩, ⟨hR.1, hP1⟩, hl, hB, hmk, tp_f1 (tp_f1 (tp_f1 (tp_f1 (tp_f1 hs)))), hv⟩ _ hheap X'
  exact ⟨t, step t a1, b1⟩
theorem tp_max1 : Cond.static Lib.Math.max.name ∈ tp_big := tp_in 205 (by decide +kernel) rfl
theorem tp_max2 : Cond.code Lib.Math.max.name Lib.Math.max.code 2 (some .int) ∈ tp_big := tp_in 206 (by decide +kernel) rfl
theorem tp_max3 : Cond.initialized "java/lang/Math" ∈ tp_big := tp_in 139 (by decide +kernel) rfl
theorem g_max {G : tp_G} {d : tp_D} {pc : Nat} {ls : List (Option tp_V)} {st : List tp_V} {μ : tp_M} {n n' bs : Nat} {Φ : Option tp_V → tp_M → Prop} {idx pos : Nat} {a b : Int} (hf : tp_at d pc = some (.invokestatic idx, 3, pos, 282, 0)) (hw : Nat.ble (tp_rw st) 8 = true) (k : tp_go G d (pc + 3) ls (tI (max a b) :: st) μ n n' bs Φ) : tp_go G d pc ls (tI b :: tI a :: st) μ n n' bs Φ := by
  intro p e s m args below meth c H locs cells slots lsA mc ms Z
  obtain ⟨C, hS, hR, hl, hB, hm, hs, hv⟩ := Z
  have hd := tp_dec C.1 hf
  have hts := C.2.2.2.2.2.2.2.2.1
  have hlk := tp_lk0 (y := Lib.Math.max.name) (by exact tp_lnk C.1 hf) (by decide +kernel)
  have w7 := tp_ge1 C.1
  have hrw : ((st.map (tp_v G)).map fun v => v.category).sum ≤ 8 := by rw [tp_rw_eq]; exact Nat.le_of_ble_eq_true hw
  have hb2 : tp_r32 b := tp_f0 hs
  have ha : tp_r32 a := tp_f0 (tp_f1 hs)
  have hr : tp_r32 (max a b) := by have h1 := ha.1; have h2 := ha.2; have h3 := hb2.1; have h4 := hb2.2; exact ⟨by omega, by omega⟩
  have hz := k p e s m args below meth c H locs cells slots lsA mc ms ⟨C, hS, hR, hl, hB, hm, tp_fc hr (tp_f1 (tp_f1 hs)), hv⟩
  refine va_mmax C.2.1 C.2.2.1 (by rw [C.2.2.2.1]; exact hl.2.1.symm) C.2.2.2.2.2.2.2.1 (hts _ hlk) (hts _ tp_max1) (hts _ tp_max3) (hts _ tp_max2) (by show 1 ≤ tp_dd d; exact w7) (by show _ ≤ 39 * tp_dd d; omega) (by show cells ≤ mc; omega) (by show slots ≤ ms; omega) hd ?_
  have e1 : (if Int32.ofInt a < Int32.ofInt b then Int32.ofInt b else Int32.ofInt a) = Int32.ofInt (max a b) := by
    by_cases hc : a < b
    · rw [if_pos ((tp_lt ha hb2).mpr hc)]
      congr 1
      omega
    · rw [if_neg (fun q => hc ((tp_lt ha hb2).mp q))]
      congr 1
      omega
  rw [e1]
  exact hz
theorem tp_min1 : Cond.static Lib.Math.min.name ∈ tp_big := tp_in 598 (by decide +kernel) rfl
theorem tp_min2 : Cond.code Lib.Math.min.name Lib.Math.min.code 2 (some .int) ∈ tp_big := tp_in 599 (by decide +kernel) rfl
theorem tp_min3 : Cond.initialized "java/lang/Math" ∈ tp_big := tp_in 139 (by decide +kernel) rfl
theorem g_min {G : tp_G} {d : tp_D} {pc : Nat} {ls : List (Option tp_V)} {st : List tp_V} {μ : tp_M} {n n' bs : Nat} {Φ : Option tp_V → tp_M → Prop} {idx pos : Nat} {a b : Int} (hf : tp_at d pc = some (.invokestatic idx, 3, pos, 283, 0)) (hw : Nat.ble (tp_rw st) 8 = true) (k : tp_go G d (pc + 3) ls (tI (min a b) :: st) μ n n' bs Φ) : tp_go G d pc ls (tI b :: tI a :: st) μ n n' bs Φ := by
  intro p e s m args below meth c H locs cells slots lsA mc ms Z
  obtain ⟨C, hS, hR, hl, hB, hm, hs, hv⟩ := Z
  have hd := tp_dec C.1 hf
  have hts := C.2.2.2.2.2.2.2.2.1
  have hlk := tp_lk0 (y := Lib.Math.min.name) (by exact tp_lnk C.1 hf) (by decide +kernel)
  have w7 := tp_ge1 C.1
  have hrw : ((st.map (tp_v G)).map fun v => v.category).sum ≤ 8 := by rw [tp_rw_eq]; exact Nat.le_of_ble_eq_true hw
  have hb2 : tp_r32 b := tp_f0 hs
  have ha : tp_r32 a := tp_f0 (tp_f1 hs)
  have hr : tp_r32 (min a b) := by have h1 := ha.1; have h2 := ha.2; have h3 := hb2.1; have h4 := hb2.2; exact ⟨by omega, by omega⟩
  have hz := k p e s m args below meth c H locs cells slots lsA mc ms ⟨C, hS, hR, hl, hB, hm, tp_fc hr (tp_f1 (tp_f1 hs)), hv⟩
  refine va_mmin C.2.1 C.2.2.1 (by rw [C.2.2.2.1]; exact hl.2.1.symm) C.2.2.2.2.2.2.2.1 (hts _ hlk) (hts _ tp_min1) (hts _ tp_min3) (hts _ tp_min2) (by show 1 ≤ tp_dd d; exact w7) (by show _ ≤ 39 * tp_dd d; omega) (by show cells ≤ mc; omega) (by show slots ≤ ms; omega) hd ?_
  have e1 : (if Int32.ofInt b < Int32.ofInt a then Int32.ofInt b else Int32.ofInt a) = Int32.ofInt (min a b) := by
    by_cases hc : b < a
    · rw [if_pos ((tp_lt hb2 ha).mpr hc)]
      congr 1
      omega
    · rw [if_neg (fun q => hc ((tp_lt hb2 ha).mp q))]
      congr 1
      omega
  rw [e1]
  exact hz
