/-! rules for the constructors: everything is a number -/
theorem y_iadd {G : tp_G} {d : tp_D} {pc : Nat} {ls : List (Option tp_V)} {st : List tp_V} {μ : tp_M} {n n' bs : Nat} {Φ : Option tp_V → tp_M → Prop} {x : Nat × Nat × Nat} {a b z : Int} (hf : tp_at d pc = some (.iadd, 1, x)) (hz : tp_w (a + b) = z) (k : tp_go G d (pc + 1) ls (tI z :: st) μ n n' bs Φ) : tp_go G d pc ls (tI b :: tI a :: st) μ n n' bs Φ := g_iadd hf (by rw [hz]; exact k)
theorem y_idiv {G : tp_G} {d : tp_D} {pc : Nat} {ls : List (Option tp_V)} {st : List tp_V} {μ : tp_M} {n n' bs : Nat} {Φ : Option tp_V → tp_M → Prop} {x : Nat × Nat × Nat} {a b z : Int} (hf : tp_at d pc = some (.idiv, 1, x)) (h0 : b ≠ 0) (hz : tp_w (a.tdiv b) = z) (k : tp_go G d (pc + 1) ls (tI z :: st) μ n n' bs Φ) : tp_go G d pc ls (tI b :: tI a :: st) μ n n' bs Φ := g_idiv hf h0 (by rw [hz]; exact k)
theorem y_iinc {G : tp_G} {d : tp_D} {pc : Nat} {ls : List (Option tp_V)} {st : List tp_V} {μ : tp_M} {n n' bs : Nat} {Φ : Option tp_V → tp_M → Prop} {x : Nat × Nat × Nat} {i : Nat} {a y z : Int} (hf : tp_at d pc = some (.iinc i y, 3, x)) (ha : ls[i]? = some (some (tI a))) (hz : tp_w (a + y) = z) (hi : Nat.ble (i + 1) (tp_dl d) = true) (hn : tp_noL ls i = true) (k : tp_go G d (pc + 3) (ls.set i (some (tI z))) st μ n n' bs Φ) : tp_go G d pc ls st μ n n' bs Φ := g_iinc hf ha hi hn (by rw [hz]; exact k)
theorem y_sald {G : tp_G} {d : tp_D} {pc : Nat} {ls : List (Option tp_V)} {st : List tp_V} {μ : tp_M} {n n' bs : Nat} {Φ : Option tp_V → tp_M → Prop} {x : Nat × Nat × Nat} {a v : Int} {i0 : Nat} (hf : tp_at d pc = some (.iaload, 1, x)) (hi : i0 < 8) (h0 : 0 ≤ a) (h1 : a < (tp_sl G i0 : Int)) (hv : tp_sv G i0 a.toNat = v) (k : tp_go G d (pc + 1) ls (tI v :: st) μ n n' bs Φ) : tp_go G d pc ls (tI a :: tR (some (5000 + i0)) :: st) μ n n' bs Φ := g_sald hf hi h0 h1 (by rw [hv]; exact k)
theorem y_max {G : tp_G} {d : tp_D} {pc : Nat} {ls : List (Option tp_V)} {st : List tp_V} {μ : tp_M} {n n' bs : Nat} {Φ : Option tp_V → tp_M → Prop} {idx pos : Nat} {a b z : Int} (hf : tp_at d pc = some (.invokestatic idx, 3, pos, 282, 0)) (hw : Nat.ble (tp_rw st) 8 = true) (hz : max a b = z) (k : tp_go G d (pc + 3) ls (tI z :: st) μ n n' bs Φ) : tp_go G d pc ls (tI b :: tI a :: st) μ n n' bs Φ := g_max hf hw (by rw [hz]; exact k)
theorem y_getr {G : tp_G} {d : tp_D} {pc : Nat} {ls : List (Option tp_V)} {st : List tp_V} {μ : tp_M} {n n' bs : Nat} {Φ : Option tp_V → tp_M → Prop} {idx pos ci j c0 : Nat} {v : Option Nat} (hq : tp_Gf G = false) (hf : tp_at d pc = some (.getfield idx, 3, pos, ci, j)) (hc : tp_SH c0 = .inl ci) (hn : c0 < n) (ht : (∃ t, tp_ty ci j = .object t) ∨ ∃ t, tp_ty ci j = .array t) (hv : μ.2 c0 (j : Int) = v) (k : tp_go G d (pc + 3) ls (tR v :: st) μ n n' bs Φ) : tp_go G d pc ls (tR (some c0) :: st) μ n n' bs Φ := g_getr hf hc hn ht (by rw [tp_rd0 hq, hv]; exact k)
theorem y_new {G : tp_G} {d : tp_D} {pc : Nat} {ls : List (Option tp_V)} {st : List tp_V} {μ : tp_M} {n n' bs : Nat} {Φ : Option tp_V → tp_M → Prop} {idx pos ci b0 n1 b1 : Nat} (hq : tp_Gf G = false) (hf : tp_at d pc = some (.new idx, 3, pos, ci, b0)) (hc : tp_SH n = .inl ci) (hz : tp_nul μ n) (hn : n < n') (h5 : n < 5000) (hn1 : n + 1 = n1) (hb : b1 + tp_cn ci = bs) (k : tp_go G d (pc + 3) ls (tR (some n) :: st) μ n1 n' b1 Φ) : tp_go G d pc ls st μ n n' bs Φ := by
  subst hn1
  subst hb
  refine g_new hf hc hq hz hn h5 (Nat.le_add_left _ _) ?_
  rw [Nat.add_sub_cancel]
  exact k
theorem y_newa {G : tp_G} {d : tp_D} {pc : Nat} {ls : List (Option tp_V)} {st : List tp_V} {μ : tp_M} {n n' bs : Nat} {Φ : Option tp_V → tp_M → Prop} {x : Nat × Nat × Nat} {at0 : ArrayType} {ty : FieldType} {a : Int} {len t0 n1 b1 : Nat} (hq : tp_Gf G = false) (hf : tp_at d pc = some (.newarray at0, 2, x)) (hty : newarray.typeOf at0 = ty) (ht : ty = .int ∨ ty = .byte ∨ ty = .boolean ∨ ty = .long) (ht0 : tp_tyl[t0]? = some ty) (hc : tp_SH n = .inr (ty, len)) (ha : a = (len : Int)) (hlen : Nat.ble len 100000 = true) (hz : tp_nul μ n) (hn : n < n') (h5 : n < 5000) (hn1 : n + 1 = n1) (hb : b1 + len = bs) (k : tp_go G d (pc + 2) ls (tR (some n) :: st) μ n1 n' b1 Φ) : tp_go G d pc ls (tI a :: st) μ n n' bs Φ := by
  subst hn1
  subst hb
  refine g_newa hf hty ht ht0 hc ha hlen hq hz hn h5 (Nat.le_add_left _ _) ?_
  rw [Nat.add_sub_cancel]
  exact k
theorem y_anew {G : tp_G} {d : tp_D} {pc : Nat} {ls : List (Option tp_V)} {st : List tp_V} {μ : tp_M} {n n' bs : Nat} {Φ : Option tp_V → tp_M → Prop} {idx pos ci b0 : Nat} {a : Int} {len t0 n1 b1 : Nat} (hq : tp_Gf G = false) (hf : tp_at d pc = some (.anewarray idx, 3, pos, ci, b0)) (ht0 : tp_tyl[t0]? = some (.object (tp_C ci))) (hc : tp_SH n = .inr (.object (tp_C ci), len)) (ha : a = (len : Int)) (hlen : Nat.ble len 100000 = true) (hz : tp_nul μ n) (hn : n < n') (h5 : n < 5000) (hn1 : n + 1 = n1) (hb : b1 + len = bs) (k : tp_go G d (pc + 3) ls (tR (some n) :: st) μ n1 n' b1 Φ) : tp_go G d pc ls (tI a :: st) μ n n' bs Φ := by
  subst hn1
  subst hb
  refine g_anew hf ht0 hc ha hlen hq hz hn h5 (Nat.le_add_left _ _) ?_
  rw [Nat.add_sub_cancel]
  exact k
theorem y_I {G : tp_G} {d : tp_D} {pc : Nat} {ls : List (Option tp_V)} {st : List tp_V} {μ : tp_M} {n n' bs : Nat} {Φ : Option tp_V → tp_M → Prop} {idx pos n1 ms1 b1 : Nat} {d2 : tp_D} {S as : List tp_V} {Ψ : Option tp_V → tp_M → Prop} {c0 : Nat} (hok : tp_ok G d2 (tR (some c0) :: as) μ n n1 ms1 Ψ) (hst : S = as.reverse ++ tR (some c0) :: st) (hf : tp_at d pc = some (.invokespecial idx, 3, pos, tp_dx d2, 0)) (hg : tp_good d2 = true) (hk : (tp_dp d2).2.2.2.2 = 2) (hn : c0 < n) (hr0 : tp_dr d2 = none) (ha : as.length = tp_da d2) (hdep : Nat.ble (tp_dd d2 + 1) (tp_dd d) = true) (hw : Nat.ble (tp_rw st) 8 = true) (hn1 : n1 ≤ n') (hb : b1 + ms1 = bs)
    (k : ∀ (r : Option tp_V) (μ' : tp_M), Ψ r μ' → tp_mok μ' → tp_go G d (pc + 3) ls (tp_push r st) μ' n1 n' b1 Φ) : tp_go G d pc ls S μ n n' bs Φ := by
  subst hb
  refine g_callI hok hst hf hg hk hn hr0 ha hdep hw hn1 (Nat.le_add_left _ _) (fun r μ' h hm => ?_)
  rw [Nat.add_sub_cancel, tp_push_eq]
  exact k r μ' h hm
theorem y_IN {G : tp_G} {d : tp_D} {pc : Nat} {ls : List (Option tp_V)} {st : List tp_V} {μ : tp_M} {n n' bs : Nat} {Φ : Option tp_V → tp_M → Prop} {idx pos n1 ms1 b1 : Nat} {d2 : tp_D} {S as : List tp_V} {Ψ : Option tp_V → tp_M → Prop} {c0 : Nat} (hok : tp_ok G d2 (tR (some c0) :: as) μ n n1 ms1 Ψ) (hst : S = as.reverse ++ tR (some c0) :: st) (hf : tp_at d pc = some (.invokespecial idx, 3, pos, tp_dx d2, 1)) (hg : tp_good d2 = true) (hk : (tp_dp d2).2.2.2.2 = 2) (hn : c0 < n) (hr0 : tp_dr d2 = none) (ha : as.length = tp_da d2) (hdep : Nat.ble (tp_dd d2 + 1) (tp_dd d) = true) (hw : Nat.ble (tp_rw st) 8 = true) (hn1 : n1 ≤ n') (hb : b1 + ms1 = bs)
    (k : ∀ (r : Option tp_V) (μ' : tp_M), Ψ r μ' → tp_mok μ' → tp_go G d (pc + 3) ls (tp_push r st) μ' n1 n' b1 Φ) : tp_go G d pc ls S μ n n' bs Φ := by
  subst hb
  refine g_callIN hok hst hf hg hk hn hr0 ha hdep hw hn1 (Nat.le_add_left _ _) (fun r μ' h hm => ?_)
  rw [Nat.add_sub_cancel, tp_push_eq]
  exact k r μ' h hm
def tp_m0 : tp_M := (fun _ _ => 0, fun _ _ => none)
def tp_mm0 : tp_M := tp_m0
def tp_mm1 : tp_M := tp_mm0
def tp_mm2 : tp_M := (tp_pr (tp_pr (tp_pr (tp_pi (tp_pr tp_mm1 1 0 (some 2)) 1 3 (-1)) 1 5 (some 3)) 1 6 (some 4)) 1 7 (some 5))
def tp_mm3 : tp_M := (tp_pr (tp_pr (tp_pr (tp_pr tp_mm2 6 0 (some 7)) 6 1 (some 8)) 6 2 (some 9)) 6 3 (some 10))
set_option maxHeartbeats 4000000 in
set_option maxRecDepth 100000 in
theorem c_X0_init_6 {G : tp_G} (hq : tp_Gf G = false) : tp_ok G mX0_init [tR (some 6)] tp_mm2 7 11 128 (fun r μ' => r = none ∧ μ' = tp_mm3) := by
  refine tp_ok_of mX0_init_ok rfl (by decide) ?_
  refine g_aload_n rfl rfl ?_
  refine g_obj rfl (by decide) rfl ?_
  refine g_aload_n rfl rfl ?_
  refine g_bipush rfl ⟨by decide, by decide⟩ (by decide) ?_
  refine y_newa (len := 40) (t0 := 0) (n1 := 8) (b1 := 88) hq rfl rfl (Or.inl rfl) rfl rfl (by decide) rfl (fun _ => ⟨rfl, rfl⟩) (by decide) (by decide) rfl rfl ?_
  refine g_putF rfl rfl (by decide) rfl rfl rfl (Or.inr ⟨_, rfl⟩) (Or.inl hq) ?_
  refine g_aload_n rfl rfl ?_
  refine g_bipush rfl ⟨by decide, by decide⟩ (by decide) ?_
  refine y_newa (len := 40) (t0 := 0) (n1 := 9) (b1 := 48) hq rfl rfl (Or.inl rfl) rfl rfl (by decide) rfl (fun _ => ⟨rfl, rfl⟩) (by decide) (by decide) rfl rfl ?_
  refine g_putF rfl rfl (by decide) rfl rfl rfl (Or.inr ⟨_, rfl⟩) (Or.inl hq) ?_
  refine g_aload_n rfl rfl ?_
  refine g_bipush rfl ⟨by decide, by decide⟩ (by decide) ?_
  refine y_newa (len := 40) (t0 := 0) (n1 := 10) (b1 := 8) hq rfl rfl (Or.inl rfl) rfl rfl (by decide) rfl (fun _ => ⟨rfl, rfl⟩) (by decide) (by decide) rfl rfl ?_
  refine g_putF rfl rfl (by decide) rfl rfl rfl (Or.inr ⟨_, rfl⟩) (Or.inl hq) ?_
  refine g_aload_n rfl rfl ?_
  refine g_bipush rfl ⟨by decide, by decide⟩ (by decide) ?_
  refine y_newa (len := 8) (t0 := 0) (n1 := 11) (b1 := 0) hq rfl rfl (Or.inl rfl) rfl rfl (by decide) rfl (fun _ => ⟨rfl, rfl⟩) (by decide) (by decide) rfl rfl ?_
  refine g_putF rfl rfl (by decide) rfl rfl rfl (Or.inr ⟨_, rfl⟩) (Or.inl hq) ?_
  refine g_return (st := []) rfl rfl ?_
  exact ⟨rfl, rfl⟩
def tp_mm4 : tp_M := (tp_pr tp_mm3 3 0 (some 6))
def tp_mm5 : tp_M := (tp_pr (tp_pr (tp_pr (tp_pr tp_mm4 11 0 (some 12)) 11 1 (some 13)) 11 2 (some 14)) 11 3 (some 15))
set_option maxHeartbeats 4000000 in
set_option maxRecDepth 100000 in
theorem c_X0_init_11 {G : tp_G} (hq : tp_Gf G = false) : tp_ok G mX0_init [tR (some 11)] tp_mm4 12 16 128 (fun r μ' => r = none ∧ μ' = tp_mm5) := by
  refine tp_ok_of mX0_init_ok rfl (by decide) ?_
  refine g_aload_n rfl rfl ?_
  refine g_obj rfl (by decide) rfl ?_
  refine g_aload_n rfl rfl ?_
  refine g_bipush rfl ⟨by decide, by decide⟩ (by decide) ?_
  refine y_newa (len := 40) (t0 := 0) (n1 := 13) (b1 := 88) hq rfl rfl (Or.inl rfl) rfl rfl (by decide) rfl (fun _ => ⟨rfl, rfl⟩) (by decide) (by decide) rfl rfl ?_
  refine g_putF rfl rfl (by decide) rfl rfl rfl (Or.inr ⟨_, rfl⟩) (Or.inl hq) ?_
  refine g_aload_n rfl rfl ?_
  refine g_bipush rfl ⟨by decide, by decide⟩ (by decide) ?_
  refine y_newa (len := 40) (t0 := 0) (n1 := 14) (b1 := 48) hq rfl rfl (Or.inl rfl) rfl rfl (by decide) rfl (fun _ => ⟨rfl, rfl⟩) (by decide) (by decide) rfl rfl ?_
  refine g_putF rfl rfl (by decide) rfl rfl rfl (Or.inr ⟨_, rfl⟩) (Or.inl hq) ?_
  refine g_aload_n rfl rfl ?_
  refine g_bipush rfl ⟨by decide, by decide⟩ (by decide) ?_
  refine y_newa (len := 40) (t0 := 0) (n1 := 15) (b1 := 8) hq rfl rfl (Or.inl rfl) rfl rfl (by decide) rfl (fun _ => ⟨rfl, rfl⟩) (by decide) (by decide) rfl rfl ?_
  refine g_putF rfl rfl (by decide) rfl rfl rfl (Or.inr ⟨_, rfl⟩) (Or.inl hq) ?_
  refine g_aload_n rfl rfl ?_
  refine g_bipush rfl ⟨by decide, by decide⟩ (by decide) ?_
  refine y_newa (len := 8) (t0 := 0) (n1 := 16) (b1 := 0) hq rfl rfl (Or.inl rfl) rfl rfl (by decide) rfl (fun _ => ⟨rfl, rfl⟩) (by decide) (by decide) rfl rfl ?_
  refine g_putF rfl rfl (by decide) rfl rfl rfl (Or.inr ⟨_, rfl⟩) (Or.inl hq) ?_
  refine g_return (st := []) rfl rfl ?_
  exact ⟨rfl, rfl⟩
def tp_mm6 : tp_M := (tp_pr tp_mm5 3 1 (some 11))
def tp_mm7 : tp_M := (tp_pr (tp_pr tp_mm6 16 0 (some 17)) 16 1 (some 18))
set_option maxHeartbeats 4000000 in
set_option maxRecDepth 100000 in
theorem c_X6_init_16 {G : tp_G} (hq : tp_Gf G = false) : tp_ok G mX6_init [tR (some 16), tI 0] tp_mm6 17 19 0 (fun r μ' => r = none ∧ μ' = tp_mm7) := by
  refine tp_ok_of mX6_init_ok rfl (by decide) ?_
  refine g_aload_n rfl rfl ?_
  refine g_obj rfl (by decide) rfl ?_
  refine g_iload_n rfl rfl ?_
  refine g_iconst rfl ⟨by decide, by decide⟩ ?_
  refine y_max (z := 0) rfl rfl (by decide) ?_
  refine g_istore_n rfl rfl rfl ?_
  refine g_aload_n rfl rfl ?_
  refine g_iload_n rfl rfl ?_
  refine y_newa (len := 0) (t0 := 0) (n1 := 18) (b1 := 0) hq rfl rfl (Or.inl rfl) rfl rfl (by decide) rfl (fun _ => ⟨rfl, rfl⟩) (by decide) (by decide) rfl rfl ?_
  refine g_putF rfl rfl (by decide) rfl rfl rfl (Or.inr ⟨_, rfl⟩) (Or.inl hq) ?_
  refine g_aload_n rfl rfl ?_
  refine g_iload_n rfl rfl ?_
  refine y_newa (len := 0) (t0 := 0) (n1 := 19) (b1 := 0) hq rfl rfl (Or.inl rfl) rfl rfl (by decide) rfl (fun _ => ⟨rfl, rfl⟩) (by decide) (by decide) rfl rfl ?_
  refine g_putF rfl rfl (by decide) rfl rfl rfl (Or.inr ⟨_, rfl⟩) (Or.inl hq) ?_
  refine g_return (st := []) rfl rfl ?_
  exact ⟨rfl, rfl⟩
def tp_mm8 : tp_M := (tp_pr tp_mm7 4 0 (some 16))
def tp_mm9 : tp_M := (tp_pr (tp_pr tp_mm8 19 0 (some 20)) 19 1 (some 21))
set_option maxHeartbeats 4000000 in
set_option maxRecDepth 100000 in
theorem c_X6_init_19 {G : tp_G} (hq : tp_Gf G = false) : tp_ok G mX6_init [tR (some 19), tI 0] tp_mm8 20 22 0 (fun r μ' => r = none ∧ μ' = tp_mm9) := by
  refine tp_ok_of mX6_init_ok rfl (by decide) ?_
  refine g_aload_n rfl rfl ?_
  refine g_obj rfl (by decide) rfl ?_
  refine g_iload_n rfl rfl ?_
  refine g_iconst rfl ⟨by decide, by decide⟩ ?_
  refine y_max (z := 0) rfl rfl (by decide) ?_
  refine g_istore_n rfl rfl rfl ?_
  refine g_aload_n rfl rfl ?_
  refine g_iload_n rfl rfl ?_
  refine y_newa (len := 0) (t0 := 0) (n1 := 21) (b1 := 0) hq rfl rfl (Or.inl rfl) rfl rfl (by decide) rfl (fun _ => ⟨rfl, rfl⟩) (by decide) (by decide) rfl rfl ?_
  refine g_putF rfl rfl (by decide) rfl rfl rfl (Or.inr ⟨_, rfl⟩) (Or.inl hq) ?_
  refine g_aload_n rfl rfl ?_
  refine g_iload_n rfl rfl ?_
  refine y_newa (len := 0) (t0 := 0) (n1 := 22) (b1 := 0) hq rfl rfl (Or.inl rfl) rfl rfl (by decide) rfl (fun _ => ⟨rfl, rfl⟩) (by decide) (by decide) rfl rfl ?_
  refine g_putF rfl rfl (by decide) rfl rfl rfl (Or.inr ⟨_, rfl⟩) (Or.inl hq) ?_
  refine g_return (st := []) rfl rfl ?_
  exact ⟨rfl, rfl⟩
def tp_mm10 : tp_M := (tp_pr tp_mm9 4 1 (some 19))
def tp_mm11 : tp_M := (tp_pr (tp_pr tp_mm10 22 0 (some 23)) 22 1 (some 24))
set_option maxHeartbeats 4000000 in
set_option maxRecDepth 100000 in
theorem c_X6_init_22 {G : tp_G} (hq : tp_Gf G = false) : tp_ok G mX6_init [tR (some 22), tI 60] tp_mm10 23 25 120 (fun r μ' => r = none ∧ μ' = tp_mm11) := by
  refine tp_ok_of mX6_init_ok rfl (by decide) ?_
  refine g_aload_n rfl rfl ?_
  refine g_obj rfl (by decide) rfl ?_
  refine g_iload_n rfl rfl ?_
  refine g_iconst rfl ⟨by decide, by decide⟩ ?_
  refine y_max (z := 60) rfl rfl (by decide) ?_
  refine g_istore_n rfl rfl rfl ?_
  refine g_aload_n rfl rfl ?_
  refine g_iload_n rfl rfl ?_
  refine y_newa (len := 60) (t0 := 0) (n1 := 24) (b1 := 60) hq rfl rfl (Or.inl rfl) rfl rfl (by decide) rfl (fun _ => ⟨rfl, rfl⟩) (by decide) (by decide) rfl rfl ?_
  refine g_putF rfl rfl (by decide) rfl rfl rfl (Or.inr ⟨_, rfl⟩) (Or.inl hq) ?_
  refine g_aload_n rfl rfl ?_
  refine g_iload_n rfl rfl ?_
  refine y_newa (len := 60) (t0 := 0) (n1 := 25) (b1 := 0) hq rfl rfl (Or.inl rfl) rfl rfl (by decide) rfl (fun _ => ⟨rfl, rfl⟩) (by decide) (by decide) rfl rfl ?_
  refine g_putF rfl rfl (by decide) rfl rfl rfl (Or.inr ⟨_, rfl⟩) (Or.inl hq) ?_
  refine g_return (st := []) rfl rfl ?_
  exact ⟨rfl, rfl⟩
def tp_mm12 : tp_M := (tp_pr tp_mm11 4 2 (some 22))
def tp_mm13 : tp_M := (tp_pr (tp_pr tp_mm12 25 0 (some 26)) 25 1 (some 27))
set_option maxHeartbeats 4000000 in
set_option maxRecDepth 100000 in
theorem c_X6_init_25 {G : tp_G} (hq : tp_Gf G = false) : tp_ok G mX6_init [tR (some 25), tI 60] tp_mm12 26 28 120 (fun r μ' => r = none ∧ μ' = tp_mm13) := by
  refine tp_ok_of mX6_init_ok rfl (by decide) ?_
  refine g_aload_n rfl rfl ?_
  refine g_obj rfl (by decide) rfl ?_
  refine g_iload_n rfl rfl ?_
  refine g_iconst rfl ⟨by decide, by decide⟩ ?_
  refine y_max (z := 60) rfl rfl (by decide) ?_
  refine g_istore_n rfl rfl rfl ?_
  refine g_aload_n rfl rfl ?_
  refine g_iload_n rfl rfl ?_
  refine y_newa (len := 60) (t0 := 0) (n1 := 27) (b1 := 60) hq rfl rfl (Or.inl rfl) rfl rfl (by decide) rfl (fun _ => ⟨rfl, rfl⟩) (by decide) (by decide) rfl rfl ?_
  refine g_putF rfl rfl (by decide) rfl rfl rfl (Or.inr ⟨_, rfl⟩) (Or.inl hq) ?_
  refine g_aload_n rfl rfl ?_
  refine g_iload_n rfl rfl ?_
  refine y_newa (len := 60) (t0 := 0) (n1 := 28) (b1 := 0) hq rfl rfl (Or.inl rfl) rfl rfl (by decide) rfl (fun _ => ⟨rfl, rfl⟩) (by decide) (by decide) rfl rfl ?_
  refine g_putF rfl rfl (by decide) rfl rfl rfl (Or.inr ⟨_, rfl⟩) (Or.inl hq) ?_
  refine g_return (st := []) rfl rfl ?_
  exact ⟨rfl, rfl⟩
def tp_mm14 : tp_M := (tp_pr tp_mm13 4 3 (some 25))
def tp_mm15 : tp_M := (tp_pr (tp_pr tp_mm14 28 0 (some 29)) 28 1 (some 30))
set_option maxHeartbeats 4000000 in
set_option maxRecDepth 100000 in
theorem c_X6_init_28 {G : tp_G} (hq : tp_Gf G = false) : tp_ok G mX6_init [tR (some 28), tI 12] tp_mm14 29 31 24 (fun r μ' => r = none ∧ μ' = tp_mm15) := by
  refine tp_ok_of mX6_init_ok rfl (by decide) ?_
  refine g_aload_n rfl rfl ?_
  refine g_obj rfl (by decide) rfl ?_
  refine g_iload_n rfl rfl ?_
  refine g_iconst rfl ⟨by decide, by decide⟩ ?_
  refine y_max (z := 12) rfl rfl (by decide) ?_
  refine g_istore_n rfl rfl rfl ?_
  refine g_aload_n rfl rfl ?_
  refine g_iload_n rfl rfl ?_
  refine y_newa (len := 12) (t0 := 0) (n1 := 30) (b1 := 12) hq rfl rfl (Or.inl rfl) rfl rfl (by decide) rfl (fun _ => ⟨rfl, rfl⟩) (by decide) (by decide) rfl rfl ?_
  refine g_putF rfl rfl (by decide) rfl rfl rfl (Or.inr ⟨_, rfl⟩) (Or.inl hq) ?_
  refine g_aload_n rfl rfl ?_
  refine g_iload_n rfl rfl ?_
  refine y_newa (len := 12) (t0 := 0) (n1 := 31) (b1 := 0) hq rfl rfl (Or.inl rfl) rfl rfl (by decide) rfl (fun _ => ⟨rfl, rfl⟩) (by decide) (by decide) rfl rfl ?_
  refine g_putF rfl rfl (by decide) rfl rfl rfl (Or.inr ⟨_, rfl⟩) (Or.inl hq) ?_
  refine g_return (st := []) rfl rfl ?_
  exact ⟨rfl, rfl⟩
def tp_mm16 : tp_M := (tp_pr tp_mm15 4 4 (some 28))
def tp_mm17 : tp_M := (tp_pr (tp_pr tp_mm16 31 0 (some 32)) 31 1 (some 33))
set_option maxHeartbeats 4000000 in
set_option maxRecDepth 100000 in
theorem c_X6_init_31 {G : tp_G} (hq : tp_Gf G = false) : tp_ok G mX6_init [tR (some 31), tI 12] tp_mm16 32 34 24 (fun r μ' => r = none ∧ μ' = tp_mm17) := by
  refine tp_ok_of mX6_init_ok rfl (by decide) ?_
  refine g_aload_n rfl rfl ?_
  refine g_obj rfl (by decide) rfl ?_
  refine g_iload_n rfl rfl ?_
  refine g_iconst rfl ⟨by decide, by decide⟩ ?_
  refine y_max (z := 12) rfl rfl (by decide) ?_
  refine g_istore_n rfl rfl rfl ?_
  refine g_aload_n rfl rfl ?_
  refine g_iload_n rfl rfl ?_
  refine y_newa (len := 12) (t0 := 0) (n1 := 33) (b1 := 12) hq rfl rfl (Or.inl rfl) rfl rfl (by decide) rfl (fun _ => ⟨rfl, rfl⟩) (by decide) (by decide) rfl rfl ?_
  refine g_putF rfl rfl (by decide) rfl rfl rfl (Or.inr ⟨_, rfl⟩) (Or.inl hq) ?_
  refine g_aload_n rfl rfl ?_
  refine g_iload_n rfl rfl ?_
  refine y_newa (len := 12) (t0 := 0) (n1 := 34) (b1 := 0) hq rfl rfl (Or.inl rfl) rfl rfl (by decide) rfl (fun _ => ⟨rfl, rfl⟩) (by decide) (by decide) rfl rfl ?_
  refine g_putF rfl rfl (by decide) rfl rfl rfl (Or.inr ⟨_, rfl⟩) (Or.inl hq) ?_
  refine g_return (st := []) rfl rfl ?_
  exact ⟨rfl, rfl⟩
def tp_mm18 : tp_M := (tp_pr tp_mm17 4 5 (some 31))
def tp_mm19 : tp_M := (tp_pr (tp_pr tp_mm18 34 0 (some 35)) 34 1 (some 36))
set_option maxHeartbeats 4000000 in
set_option maxRecDepth 100000 in
theorem c_X6_init_34 {G : tp_G} (hq : tp_Gf G = false) : tp_ok G mX6_init [tR (some 34), tI 8] tp_mm18 35 37 16 (fun r μ' => r = none ∧ μ' = tp_mm19) := by
  refine tp_ok_of mX6_init_ok rfl (by decide) ?_
  refine g_aload_n rfl rfl ?_
  refine g_obj rfl (by decide) rfl ?_
  refine g_iload_n rfl rfl ?_
  refine g_iconst rfl ⟨by decide, by decide⟩ ?_
  refine y_max (z := 8) rfl rfl (by decide) ?_
  refine g_istore_n rfl rfl rfl ?_
  refine g_aload_n rfl rfl ?_
  refine g_iload_n rfl rfl ?_
  refine y_newa (len := 8) (t0 := 0) (n1 := 36) (b1 := 8) hq rfl rfl (Or.inl rfl) rfl rfl (by decide) rfl (fun _ => ⟨rfl, rfl⟩) (by decide) (by decide) rfl rfl ?_
  refine g_putF rfl rfl (by decide) rfl rfl rfl (Or.inr ⟨_, rfl⟩) (Or.inl hq) ?_
  refine g_aload_n rfl rfl ?_
  refine g_iload_n rfl rfl ?_
  refine y_newa (len := 8) (t0 := 0) (n1 := 37) (b1 := 0) hq rfl rfl (Or.inl rfl) rfl rfl (by decide) rfl (fun _ => ⟨rfl, rfl⟩) (by decide) (by decide) rfl rfl ?_
  refine g_putF rfl rfl (by decide) rfl rfl rfl (Or.inr ⟨_, rfl⟩) (Or.inl hq) ?_
  refine g_return (st := []) rfl rfl ?_
  exact ⟨rfl, rfl⟩
def tp_mm20 : tp_M := (tp_pr tp_mm19 4 6 (some 34))
def tp_mm21 : tp_M := (tp_pr (tp_pr tp_mm20 37 0 (some 38)) 37 1 (some 39))
set_option maxHeartbeats 4000000 in
set_option maxRecDepth 100000 in
theorem c_X6_init_37 {G : tp_G} (hq : tp_Gf G = false) : tp_ok G mX6_init [tR (some 37), tI 8] tp_mm20 38 40 16 (fun r μ' => r = none ∧ μ' = tp_mm21) := by
  refine tp_ok_of mX6_init_ok rfl (by decide) ?_
  refine g_aload_n rfl rfl ?_
  refine g_obj rfl (by decide) rfl ?_
  refine g_iload_n rfl rfl ?_
  refine g_iconst rfl ⟨by decide, by decide⟩ ?_
  refine y_max (z := 8) rfl rfl (by decide) ?_
  refine g_istore_n rfl rfl rfl ?_
  refine g_aload_n rfl rfl ?_
  refine g_iload_n rfl rfl ?_
  refine y_newa (len := 8) (t0 := 0) (n1 := 39) (b1 := 8) hq rfl rfl (Or.inl rfl) rfl rfl (by decide) rfl (fun _ => ⟨rfl, rfl⟩) (by decide) (by decide) rfl rfl ?_
  refine g_putF rfl rfl (by decide) rfl rfl rfl (Or.inr ⟨_, rfl⟩) (Or.inl hq) ?_
  refine g_aload_n rfl rfl ?_
  refine g_iload_n rfl rfl ?_
  refine y_newa (len := 8) (t0 := 0) (n1 := 40) (b1 := 0) hq rfl rfl (Or.inl rfl) rfl rfl (by decide) rfl (fun _ => ⟨rfl, rfl⟩) (by decide) (by decide) rfl rfl ?_
  refine g_putF rfl rfl (by decide) rfl rfl rfl (Or.inr ⟨_, rfl⟩) (Or.inl hq) ?_
  refine g_return (st := []) rfl rfl ?_
  exact ⟨rfl, rfl⟩
def tp_mm22 : tp_M := (tp_pr tp_mm21 4 7 (some 37))
set_option maxHeartbeats 4000000 in
set_option maxRecDepth 100000 in
theorem c_X9_init_1 {G : tp_G} (hq : tp_Gf G = false) : tp_ok G mX9_init [tR (some 1)] tp_mm1 2 40 1224 (fun r μ' => r = none ∧ μ' = tp_mm22) := by
  refine tp_ok_of mX9_init_ok rfl (by decide) ?_
  refine g_aload_n rfl rfl ?_
  refine g_obj rfl (by decide) rfl ?_
  refine g_aload_n rfl rfl ?_
  refine g_sipush rfl ⟨by decide, by decide⟩ (by decide) ?_
  refine y_newa (len := 600) (t0 := 1) (n1 := 3) (b1 := 624) hq rfl rfl (Or.inr (Or.inl rfl)) rfl rfl (by decide) rfl (fun _ => ⟨rfl, rfl⟩) (by decide) (by decide) rfl rfl ?_
  refine g_putF rfl rfl (by decide) rfl rfl rfl (Or.inr ⟨_, rfl⟩) (Or.inl hq) ?_
  refine g_aload_n rfl rfl ?_
  refine g_iconst rfl ⟨by decide, by decide⟩ ?_
  refine g_puti rfl rfl (by decide) rfl rfl ?_
  refine g_aload_n rfl rfl ?_
  refine g_iconst rfl ⟨by decide, by decide⟩ ?_
  refine y_anew (len := 2) (t0 := 4) (n1 := 4) (b1 := 622) hq rfl rfl rfl (by decide) rfl (fun _ => ⟨rfl, rfl⟩) (by decide) (by decide) rfl rfl ?_
  refine g_putF rfl rfl (by decide) rfl rfl rfl (Or.inr ⟨_, rfl⟩) (Or.inl hq) ?_
  refine g_aload_n rfl rfl ?_
  refine g_bipush rfl ⟨by decide, by decide⟩ (by decide) ?_
  refine y_anew (len := 8) (t0 := 5) (n1 := 5) (b1 := 614) hq rfl rfl rfl (by decide) rfl (fun _ => ⟨rfl, rfl⟩) (by decide) (by decide) rfl rfl ?_
  refine g_putF rfl rfl (by decide) rfl rfl rfl (Or.inr ⟨_, rfl⟩) (Or.inl hq) ?_
  refine g_aload_n rfl rfl ?_
  refine g_iconst rfl ⟨by decide, by decide⟩ ?_
  refine y_newa (len := 4) (t0 := 0) (n1 := 6) (b1 := 610) hq rfl rfl (Or.inl rfl) rfl rfl (by decide) rfl (fun _ => ⟨rfl, rfl⟩) (by decide) (by decide) rfl rfl ?_
  refine g_putF rfl rfl (by decide) rfl rfl rfl (Or.inr ⟨_, rfl⟩) (Or.inl hq) ?_
  refine g_iconst rfl ⟨by decide, by decide⟩ ?_
  refine g_istore_n rfl rfl rfl ?_
  refine g_iload_n rfl rfl ?_
  refine g_iconst rfl ⟨by decide, by decide⟩ ?_
  refine g_icmp_ge (tgt := 68) rfl (by decide) (fun hx => absurd hx (by decide)) (fun _ => ?_)
  refine g_aload_n rfl rfl ?_
  refine y_getr (v := some 3) hq rfl rfl (by decide) (Or.inr ⟨_, rfl⟩) rfl ?_
  refine g_iload_n rfl rfl ?_
  refine y_new (n1 := 7) (b1 := 605) hq rfl rfl (fun _ => ⟨rfl, rfl⟩) (by decide) (by decide) rfl rfl ?_
  refine g_dupr rfl ?_
  change tp_go G mX9_init 58 _ _ tp_mm2 _ _ _ _
  refine y_IN (as := []) (b1 := 477) (c_X0_init_6 hq) rfl rfl mX0_init_ok rfl (by decide) rfl rfl rfl rfl (by decide) rfl ?_
  rintro _ _ ⟨rfl, rfl⟩ _
  refine g_aast (ci := 0) (t0 := 4) rfl (by decide) rfl rfl rfl hq (by decide) (by decide) (by decide) (by decide) ?_
  refine y_iinc (z := 1) rfl rfl (by decide) rfl rfl ?_
  refine g_goto (tgt := 44) rfl (by decide) ?_
  refine g_iload_n rfl rfl ?_
  refine g_iconst rfl ⟨by decide, by decide⟩ ?_
  refine g_icmp_ge (tgt := 68) rfl (by decide) (fun hx => absurd hx (by decide)) (fun _ => ?_)
  refine g_aload_n rfl rfl ?_
  refine y_getr (v := some 3) hq rfl rfl (by decide) (Or.inr ⟨_, rfl⟩) rfl ?_
  refine g_iload_n rfl rfl ?_
  refine y_new (n1 := 12) (b1 := 472) hq rfl rfl (fun _ => ⟨rfl, rfl⟩) (by decide) (by decide) rfl rfl ?_
  refine g_dupr rfl ?_
  change tp_go G mX9_init 58 _ _ tp_mm4 _ _ _ _
  refine y_IN (as := []) (b1 := 344) (c_X0_init_11 hq) rfl rfl mX0_init_ok rfl (by decide) rfl rfl rfl rfl (by decide) rfl ?_
  rintro _ _ ⟨rfl, rfl⟩ _
  refine g_aast (ci := 0) (t0 := 4) rfl (by decide) rfl rfl rfl hq (by decide) (by decide) (by decide) (by decide) ?_
  refine y_iinc (z := 2) rfl rfl (by decide) rfl rfl ?_
  refine g_goto (tgt := 44) rfl (by decide) ?_
  refine g_iload_n rfl rfl ?_
  refine g_iconst rfl ⟨by decide, by decide⟩ ?_
  refine g_icmp_ge (tgt := 68) rfl (by decide) (fun _ => ?_) (fun hx => absurd hx (by decide))
  refine g_iconst rfl ⟨by decide, by decide⟩ ?_
  refine g_istore_n rfl rfl rfl ?_
  refine g_iload_n rfl rfl ?_
  refine g_bipush rfl ⟨by decide, by decide⟩ (by decide) ?_
  refine g_icmp_ge (tgt := 102) rfl (by decide) (fun hx => absurd hx (by decide)) (fun _ => ?_)
  refine g_aload_n rfl rfl ?_
  refine y_getr (v := some 4) hq rfl rfl (by decide) (Or.inr ⟨_, rfl⟩) rfl ?_
  refine g_iload_n rfl rfl ?_
  refine y_new (n1 := 17) (b1 := 341) hq rfl rfl (fun _ => ⟨rfl, rfl⟩) (by decide) (by decide) rfl rfl ?_
  refine g_dupr rfl ?_
  refine g_gets rfl ?_
  refine g_iload_n rfl rfl ?_
  refine g_iconst rfl ⟨by decide, by decide⟩ ?_
  refine y_idiv (z := 0) rfl (by decide) (by decide) ?_
  refine y_sald (i0 := 1) (v := 0) rfl (by decide) (by decide) (by show _ < ((4 : Nat) : Int); decide) rfl ?_
  change tp_go G mX9_init 92 _ _ tp_mm6 _ _ _ _
  refine y_I (as := [tI 0]) (b1 := 341) (c_X6_init_16 hq) rfl rfl mX6_init_ok rfl (by decide) rfl rfl rfl rfl (by decide) rfl ?_
  rintro _ _ ⟨rfl, rfl⟩ _
  refine g_aast (ci := 6) (t0 := 5) rfl (by decide) rfl rfl rfl hq (by decide) (by decide) (by decide) (by decide) ?_
  refine y_iinc (z := 1) rfl rfl (by decide) rfl rfl ?_
  refine g_goto (tgt := 70) rfl (by decide) ?_
  refine g_iload_n rfl rfl ?_
  refine g_bipush rfl ⟨by decide, by decide⟩ (by decide) ?_
  refine g_icmp_ge (tgt := 102) rfl (by decide) (fun hx => absurd hx (by decide)) (fun _ => ?_)
  refine g_aload_n rfl rfl ?_
  refine y_getr (v := some 4) hq rfl rfl (by decide) (Or.inr ⟨_, rfl⟩) rfl ?_
  refine g_iload_n rfl rfl ?_
  refine y_new (n1 := 20) (b1 := 338) hq rfl rfl (fun _ => ⟨rfl, rfl⟩) (by decide) (by decide) rfl rfl ?_
  refine g_dupr rfl ?_
  refine g_gets rfl ?_
  refine g_iload_n rfl rfl ?_
  refine g_iconst rfl ⟨by decide, by decide⟩ ?_
  refine y_idiv (z := 0) rfl (by decide) (by decide) ?_
  refine y_sald (i0 := 1) (v := 0) rfl (by decide) (by decide) (by show _ < ((4 : Nat) : Int); decide) rfl ?_
  change tp_go G mX9_init 92 _ _ tp_mm8 _ _ _ _
  refine y_I (as := [tI 0]) (b1 := 338) (c_X6_init_19 hq) rfl rfl mX6_init_ok rfl (by decide) rfl rfl rfl rfl (by decide) rfl ?_
  rintro _ _ ⟨rfl, rfl⟩ _
  refine g_aast (ci := 6) (t0 := 5) rfl (by decide) rfl rfl rfl hq (by decide) (by decide) (by decide) (by decide) ?_
  refine y_iinc (z := 2) rfl rfl (by decide) rfl rfl ?_
  refine g_goto (tgt := 70) rfl (by decide) ?_
  refine g_iload_n rfl rfl ?_
  refine g_bipush rfl ⟨by decide, by decide⟩ (by decide) ?_
  refine g_icmp_ge (tgt := 102) rfl (by decide) (fun hx => absurd hx (by decide)) (fun _ => ?_)
  refine g_aload_n rfl rfl ?_
  refine y_getr (v := some 4) hq rfl rfl (by decide) (Or.inr ⟨_, rfl⟩) rfl ?_
  refine g_iload_n rfl rfl ?_
  refine y_new (n1 := 23) (b1 := 335) hq rfl rfl (fun _ => ⟨rfl, rfl⟩) (by decide) (by decide) rfl rfl ?_
  refine g_dupr rfl ?_
  refine g_gets rfl ?_
  refine g_iload_n rfl rfl ?_
  refine g_iconst rfl ⟨by decide, by decide⟩ ?_
  refine y_idiv (z := 1) rfl (by decide) (by decide) ?_
  refine y_sald (i0 := 1) (v := 60) rfl (by decide) (by decide) (by show _ < ((4 : Nat) : Int); decide) rfl ?_
  change tp_go G mX9_init 92 _ _ tp_mm10 _ _ _ _
  refine y_I (as := [tI 60]) (b1 := 215) (c_X6_init_22 hq) rfl rfl mX6_init_ok rfl (by decide) rfl rfl rfl rfl (by decide) rfl ?_
  rintro _ _ ⟨rfl, rfl⟩ _
  refine g_aast (ci := 6) (t0 := 5) rfl (by decide) rfl rfl rfl hq (by decide) (by decide) (by decide) (by decide) ?_
  refine y_iinc (z := 3) rfl rfl (by decide) rfl rfl ?_
  refine g_goto (tgt := 70) rfl (by decide) ?_
  refine g_iload_n rfl rfl ?_
  refine g_bipush rfl ⟨by decide, by decide⟩ (by decide) ?_
  refine g_icmp_ge (tgt := 102) rfl (by decide) (fun hx => absurd hx (by decide)) (fun _ => ?_)
  refine g_aload_n rfl rfl ?_
  refine y_getr (v := some 4) hq rfl rfl (by decide) (Or.inr ⟨_, rfl⟩) rfl ?_
  refine g_iload_n rfl rfl ?_
  refine y_new (n1 := 26) (b1 := 212) hq rfl rfl (fun _ => ⟨rfl, rfl⟩) (by decide) (by decide) rfl rfl ?_
  refine g_dupr rfl ?_
  refine g_gets rfl ?_
  refine g_iload_n rfl rfl ?_
  refine g_iconst rfl ⟨by decide, by decide⟩ ?_
  refine y_idiv (z := 1) rfl (by decide) (by decide) ?_
  refine y_sald (i0 := 1) (v := 60) rfl (by decide) (by decide) (by show _ < ((4 : Nat) : Int); decide) rfl ?_
  change tp_go G mX9_init 92 _ _ tp_mm12 _ _ _ _
  refine y_I (as := [tI 60]) (b1 := 92) (c_X6_init_25 hq) rfl rfl mX6_init_ok rfl (by decide) rfl rfl rfl rfl (by decide) rfl ?_
  rintro _ _ ⟨rfl, rfl⟩ _
  refine g_aast (ci := 6) (t0 := 5) rfl (by decide) rfl rfl rfl hq (by decide) (by decide) (by decide) (by decide) ?_
  refine y_iinc (z := 4) rfl rfl (by decide) rfl rfl ?_
  refine g_goto (tgt := 70) rfl (by decide) ?_
  refine g_iload_n rfl rfl ?_
  refine g_bipush rfl ⟨by decide, by decide⟩ (by decide) ?_
  refine g_icmp_ge (tgt := 102) rfl (by decide) (fun hx => absurd hx (by decide)) (fun _ => ?_)
  refine g_aload_n rfl rfl ?_
  refine y_getr (v := some 4) hq rfl rfl (by decide) (Or.inr ⟨_, rfl⟩) rfl ?_
  refine g_iload_n rfl rfl ?_
  refine y_new (n1 := 29) (b1 := 89) hq rfl rfl (fun _ => ⟨rfl, rfl⟩) (by decide) (by decide) rfl rfl ?_
  refine g_dupr rfl ?_
  refine g_gets rfl ?_
  refine g_iload_n rfl rfl ?_
  refine g_iconst rfl ⟨by decide, by decide⟩ ?_
  refine y_idiv (z := 2) rfl (by decide) (by decide) ?_
  refine y_sald (i0 := 1) (v := 12) rfl (by decide) (by decide) (by show _ < ((4 : Nat) : Int); decide) rfl ?_
  change tp_go G mX9_init 92 _ _ tp_mm14 _ _ _ _
  refine y_I (as := [tI 12]) (b1 := 65) (c_X6_init_28 hq) rfl rfl mX6_init_ok rfl (by decide) rfl rfl rfl rfl (by decide) rfl ?_
  rintro _ _ ⟨rfl, rfl⟩ _
  refine g_aast (ci := 6) (t0 := 5) rfl (by decide) rfl rfl rfl hq (by decide) (by decide) (by decide) (by decide) ?_
  refine y_iinc (z := 5) rfl rfl (by decide) rfl rfl ?_
  refine g_goto (tgt := 70) rfl (by decide) ?_
  refine g_iload_n rfl rfl ?_
  refine g_bipush rfl ⟨by decide, by decide⟩ (by decide) ?_
  refine g_icmp_ge (tgt := 102) rfl (by decide) (fun hx => absurd hx (by decide)) (fun _ => ?_)
  refine g_aload_n rfl rfl ?_
  refine y_getr (v := some 4) hq rfl rfl (by decide) (Or.inr ⟨_, rfl⟩) rfl ?_
  refine g_iload_n rfl rfl ?_
  refine y_new (n1 := 32) (b1 := 62) hq rfl rfl (fun _ => ⟨rfl, rfl⟩) (by decide) (by decide) rfl rfl ?_
  refine g_dupr rfl ?_
  refine g_gets rfl ?_
  refine g_iload_n rfl rfl ?_
  refine g_iconst rfl ⟨by decide, by decide⟩ ?_
  refine y_idiv (z := 2) rfl (by decide) (by decide) ?_
  refine y_sald (i0 := 1) (v := 12) rfl (by decide) (by decide) (by show _ < ((4 : Nat) : Int); decide) rfl ?_
  change tp_go G mX9_init 92 _ _ tp_mm16 _ _ _ _
  refine y_I (as := [tI 12]) (b1 := 38) (c_X6_init_31 hq) rfl rfl mX6_init_ok rfl (by decide) rfl rfl rfl rfl (by decide) rfl ?_
  rintro _ _ ⟨rfl, rfl⟩ _
  refine g_aast (ci := 6) (t0 := 5) rfl (by decide) rfl rfl rfl hq (by decide) (by decide) (by decide) (by decide) ?_
  refine y_iinc (z := 6) rfl rfl (by decide) rfl rfl ?_
  refine g_goto (tgt := 70) rfl (by decide) ?_
  refine g_iload_n rfl rfl ?_
  refine g_bipush rfl ⟨by decide, by decide⟩ (by decide) ?_
  refine g_icmp_ge (tgt := 102) rfl (by decide) (fun hx => absurd hx (by decide)) (fun _ => ?_)
  refine g_aload_n rfl rfl ?_
  refine y_getr (v := some 4) hq rfl rfl (by decide) (Or.inr ⟨_, rfl⟩) rfl ?_
  refine g_iload_n rfl rfl ?_
  refine y_new (n1 := 35) (b1 := 35) hq rfl rfl (fun _ => ⟨rfl, rfl⟩) (by decide) (by decide) rfl rfl ?_
  refine g_dupr rfl ?_
  refine g_gets rfl ?_
  refine g_iload_n rfl rfl ?_
  refine g_iconst rfl ⟨by decide, by decide⟩ ?_
  refine y_idiv (z := 3) rfl (by decide) (by decide) ?_
  refine y_sald (i0 := 1) (v := 8) rfl (by decide) (by decide) (by show _ < ((4 : Nat) : Int); decide) rfl ?_
  change tp_go G mX9_init 92 _ _ tp_mm18 _ _ _ _
  refine y_I (as := [tI 8]) (b1 := 19) (c_X6_init_34 hq) rfl rfl mX6_init_ok rfl (by decide) rfl rfl rfl rfl (by decide) rfl ?_
  rintro _ _ ⟨rfl, rfl⟩ _
  refine g_aast (ci := 6) (t0 := 5) rfl (by decide) rfl rfl rfl hq (by decide) (by decide) (by decide) (by decide) ?_
  refine y_iinc (z := 7) rfl rfl (by decide) rfl rfl ?_
  refine g_goto (tgt := 70) rfl (by decide) ?_
  refine g_iload_n rfl rfl ?_
  refine g_bipush rfl ⟨by decide, by decide⟩ (by decide) ?_
  refine g_icmp_ge (tgt := 102) rfl (by decide) (fun hx => absurd hx (by decide)) (fun _ => ?_)
  refine g_aload_n rfl rfl ?_
  refine y_getr (v := some 4) hq rfl rfl (by decide) (Or.inr ⟨_, rfl⟩) rfl ?_
  refine g_iload_n rfl rfl ?_
  refine y_new (n1 := 38) (b1 := 16) hq rfl rfl (fun _ => ⟨rfl, rfl⟩) (by decide) (by decide) rfl rfl ?_
  refine g_dupr rfl ?_
  refine g_gets rfl ?_
  refine g_iload_n rfl rfl ?_
  refine g_iconst rfl ⟨by decide, by decide⟩ ?_
  refine y_idiv (z := 3) rfl (by decide) (by decide) ?_
  refine y_sald (i0 := 1) (v := 8) rfl (by decide) (by decide) (by show _ < ((4 : Nat) : Int); decide) rfl ?_
  change tp_go G mX9_init 92 _ _ tp_mm20 _ _ _ _
  refine y_I (as := [tI 8]) (b1 := 0) (c_X6_init_37 hq) rfl rfl mX6_init_ok rfl (by decide) rfl rfl rfl rfl (by decide) rfl ?_
  rintro _ _ ⟨rfl, rfl⟩ _
  refine g_aast (ci := 6) (t0 := 5) rfl (by decide) rfl rfl rfl hq (by decide) (by decide) (by decide) (by decide) ?_
  refine y_iinc (z := 8) rfl rfl (by decide) rfl rfl ?_
  refine g_goto (tgt := 70) rfl (by decide) ?_
  refine g_iload_n rfl rfl ?_
  refine g_bipush rfl ⟨by decide, by decide⟩ (by decide) ?_
  refine g_icmp_ge (tgt := 102) rfl (by decide) (fun _ => ?_) (fun hx => absurd hx (by decide))
  refine g_return (st := []) rfl rfl ?_
  exact ⟨rfl, rfl⟩
def tp_mm23 : tp_M := (tp_pr (tp_pr tp_mm22 0 0 (some 1)) 0 1 (some 40))
def tp_mm24 : tp_M := tp_mm23
def tp_mm25 : tp_M := (tp_pr (tp_pr (tp_pr (tp_pr tp_mm24 42 0 (some 43)) 42 1 (some 44)) 42 2 (some 45)) 42 3 (some 46))
set_option maxHeartbeats 4000000 in
set_option maxRecDepth 100000 in
theorem c_X0_init_42 {G : tp_G} (hq : tp_Gf G = false) : tp_ok G mX0_init [tR (some 42)] tp_mm24 43 47 128 (fun r μ' => r = none ∧ μ' = tp_mm25) := by
  refine tp_ok_of mX0_init_ok rfl (by decide) ?_
  refine g_aload_n rfl rfl ?_
  refine g_obj rfl (by decide) rfl ?_
  refine g_aload_n rfl rfl ?_
  refine g_bipush rfl ⟨by decide, by decide⟩ (by decide) ?_
  refine y_newa (len := 40) (t0 := 0) (n1 := 44) (b1 := 88) hq rfl rfl (Or.inl rfl) rfl rfl (by decide) rfl (fun _ => ⟨rfl, rfl⟩) (by decide) (by decide) rfl rfl ?_
  refine g_putF rfl rfl (by decide) rfl rfl rfl (Or.inr ⟨_, rfl⟩) (Or.inl hq) ?_
  refine g_aload_n rfl rfl ?_
  refine g_bipush rfl ⟨by decide, by decide⟩ (by decide) ?_
  refine y_newa (len := 40) (t0 := 0) (n1 := 45) (b1 := 48) hq rfl rfl (Or.inl rfl) rfl rfl (by decide) rfl (fun _ => ⟨rfl, rfl⟩) (by decide) (by decide) rfl rfl ?_
  refine g_putF rfl rfl (by decide) rfl rfl rfl (Or.inr ⟨_, rfl⟩) (Or.inl hq) ?_
  refine g_aload_n rfl rfl ?_
  refine g_bipush rfl ⟨by decide, by decide⟩ (by decide) ?_
  refine y_newa (len := 40) (t0 := 0) (n1 := 46) (b1 := 8) hq rfl rfl (Or.inl rfl) rfl rfl (by decide) rfl (fun _ => ⟨rfl, rfl⟩) (by decide) (by decide) rfl rfl ?_
  refine g_putF rfl rfl (by decide) rfl rfl rfl (Or.inr ⟨_, rfl⟩) (Or.inl hq) ?_
  refine g_aload_n rfl rfl ?_
  refine g_bipush rfl ⟨by decide, by decide⟩ (by decide) ?_
  refine y_newa (len := 8) (t0 := 0) (n1 := 47) (b1 := 0) hq rfl rfl (Or.inl rfl) rfl rfl (by decide) rfl (fun _ => ⟨rfl, rfl⟩) (by decide) (by decide) rfl rfl ?_
  refine g_putF rfl rfl (by decide) rfl rfl rfl (Or.inr ⟨_, rfl⟩) (Or.inl hq) ?_
  refine g_return (st := []) rfl rfl ?_
  exact ⟨rfl, rfl⟩
def tp_mm26 : tp_M := (tp_pr tp_mm25 41 10 (some 42))
def tp_mm27 : tp_M := (tp_pr (tp_pr tp_mm26 47 0 (some 48)) 47 1 (some 49))
set_option maxHeartbeats 4000000 in
set_option maxRecDepth 100000 in
theorem c_X6_init_47 {G : tp_G} (hq : tp_Gf G = false) : tp_ok G mX6_init [tR (some 47), tI 60] tp_mm26 48 50 120 (fun r μ' => r = none ∧ μ' = tp_mm27) := by
  refine tp_ok_of mX6_init_ok rfl (by decide) ?_
  refine g_aload_n rfl rfl ?_
  refine g_obj rfl (by decide) rfl ?_
  refine g_iload_n rfl rfl ?_
  refine g_iconst rfl ⟨by decide, by decide⟩ ?_
  refine y_max (z := 60) rfl rfl (by decide) ?_
  refine g_istore_n rfl rfl rfl ?_
  refine g_aload_n rfl rfl ?_
  refine g_iload_n rfl rfl ?_
  refine y_newa (len := 60) (t0 := 0) (n1 := 49) (b1 := 60) hq rfl rfl (Or.inl rfl) rfl rfl (by decide) rfl (fun _ => ⟨rfl, rfl⟩) (by decide) (by decide) rfl rfl ?_
  refine g_putF rfl rfl (by decide) rfl rfl rfl (Or.inr ⟨_, rfl⟩) (Or.inl hq) ?_
  refine g_aload_n rfl rfl ?_
  refine g_iload_n rfl rfl ?_
  refine y_newa (len := 60) (t0 := 0) (n1 := 50) (b1 := 0) hq rfl rfl (Or.inl rfl) rfl rfl (by decide) rfl (fun _ => ⟨rfl, rfl⟩) (by decide) (by decide) rfl rfl ?_
  refine g_putF rfl rfl (by decide) rfl rfl rfl (Or.inr ⟨_, rfl⟩) (Or.inl hq) ?_
  refine g_return (st := []) rfl rfl ?_
  exact ⟨rfl, rfl⟩
def tp_mm28 : tp_M := (tp_pr tp_mm27 41 11 (some 47))
set_option maxHeartbeats 4000000 in
set_option maxRecDepth 100000 in
theorem c_X5_init_41 {G : tp_G} (hq : tp_Gf G = false) : tp_ok G mX5_init [tR (some 41)] tp_mm23 42 50 256 (fun r μ' => r = none ∧ μ' = tp_mm28) := by
  refine tp_ok_of mX5_init_ok rfl (by decide) ?_
  refine g_aload_n rfl rfl ?_
  refine g_obj rfl (by decide) rfl ?_
  refine g_aload_n rfl rfl ?_
  refine y_new (n1 := 43) (b1 := 251) hq rfl rfl (fun _ => ⟨rfl, rfl⟩) (by decide) (by decide) rfl rfl ?_
  refine g_dupr rfl ?_
  change tp_go G mX5_init 9 _ _ tp_mm24 _ _ _ _
  refine y_IN (as := []) (b1 := 123) (c_X0_init_42 hq) rfl rfl mX0_init_ok rfl (by decide) rfl rfl rfl rfl (by decide) rfl ?_
  rintro _ _ ⟨rfl, rfl⟩ _
  refine g_putF rfl rfl (by decide) rfl rfl rfl (Or.inl ⟨_, rfl⟩) (Or.inl hq) ?_
  refine g_aload_n rfl rfl ?_
  refine y_new (n1 := 48) (b1 := 120) hq rfl rfl (fun _ => ⟨rfl, rfl⟩) (by decide) (by decide) rfl rfl ?_
  refine g_dupr rfl ?_
  refine g_bipush rfl ⟨by decide, by decide⟩ (by decide) ?_
  change tp_go G mX5_init 22 _ _ tp_mm26 _ _ _ _
  refine y_I (as := [tI 60]) (b1 := 0) (c_X6_init_47 hq) rfl rfl mX6_init_ok rfl (by decide) rfl rfl rfl rfl (by decide) rfl ?_
  rintro _ _ ⟨rfl, rfl⟩ _
  refine g_putF rfl rfl (by decide) rfl rfl rfl (Or.inl ⟨_, rfl⟩) (Or.inl hq) ?_
  refine g_return (st := []) rfl rfl ?_
  exact ⟨rfl, rfl⟩
def tp_mm29 : tp_M := (tp_pr tp_mm28 0 2 (some 41))
def tp_mm30 : tp_M := (tp_pr (tp_pr (tp_pr (tp_pr (tp_pr tp_mm29 50 0 (some 51)) 50 1 (some 52)) 50 2 (some 53)) 50 3 (some 54)) 50 4 (some 55))
set_option maxHeartbeats 4000000 in
set_option maxRecDepth 100000 in
theorem c_X7_init_50 {G : tp_G} (hq : tp_Gf G = false) : tp_ok G mX7_init [tR (some 50)] tp_mm29 51 56 649 (fun r μ' => r = none ∧ μ' = tp_mm30) := by
  refine tp_ok_of mX7_init_ok rfl (by decide) ?_
  refine g_aload_n rfl rfl ?_
  refine g_obj rfl (by decide) rfl ?_
  refine g_aload_n rfl rfl ?_
  refine g_sipush rfl ⟨by decide, by decide⟩ (by decide) ?_
  refine y_newa (len := 200) (t0 := 0) (n1 := 52) (b1 := 449) hq rfl rfl (Or.inl rfl) rfl rfl (by decide) rfl (fun _ => ⟨rfl, rfl⟩) (by decide) (by decide) rfl rfl ?_
  refine g_putF rfl rfl (by decide) rfl rfl rfl (Or.inr ⟨_, rfl⟩) (Or.inl hq) ?_
  refine g_aload_n rfl rfl ?_
  refine g_sipush rfl ⟨by decide, by decide⟩ (by decide) ?_
  refine y_newa (len := 200) (t0 := 0) (n1 := 53) (b1 := 249) hq rfl rfl (Or.inl rfl) rfl rfl (by decide) rfl (fun _ => ⟨rfl, rfl⟩) (by decide) (by decide) rfl rfl ?_
  refine g_putF rfl rfl (by decide) rfl rfl rfl (Or.inr ⟨_, rfl⟩) (Or.inl hq) ?_
  refine g_aload_n rfl rfl ?_
  refine g_sipush rfl ⟨by decide, by decide⟩ (by decide) ?_
  refine y_newa (len := 200) (t0 := 2) (n1 := 54) (b1 := 49) hq rfl rfl (Or.inr (Or.inr (Or.inl rfl))) rfl rfl (by decide) rfl (fun _ => ⟨rfl, rfl⟩) (by decide) (by decide) rfl rfl ?_
  refine g_putF rfl rfl (by decide) rfl rfl rfl (Or.inr ⟨_, rfl⟩) (Or.inl hq) ?_
  refine g_aload_n rfl rfl ?_
  refine g_bipush rfl ⟨by decide, by decide⟩ (by decide) ?_
  refine y_newa (len := 9) (t0 := 0) (n1 := 55) (b1 := 40) hq rfl rfl (Or.inl rfl) rfl rfl (by decide) rfl (fun _ => ⟨rfl, rfl⟩) (by decide) (by decide) rfl rfl ?_
  refine g_putF rfl rfl (by decide) rfl rfl rfl (Or.inr ⟨_, rfl⟩) (Or.inl hq) ?_
  refine g_aload_n rfl rfl ?_
  refine g_bipush rfl ⟨by decide, by decide⟩ (by decide) ?_
  refine y_newa (len := 40) (t0 := 3) (n1 := 56) (b1 := 0) hq rfl rfl (Or.inr (Or.inr (Or.inr rfl))) rfl rfl (by decide) rfl (fun _ => ⟨rfl, rfl⟩) (by decide) (by decide) rfl rfl ?_
  refine g_putF rfl rfl (by decide) rfl rfl rfl (Or.inr ⟨_, rfl⟩) (Or.inl hq) ?_
  refine g_return (st := []) rfl rfl ?_
  exact ⟨rfl, rfl⟩
def tp_mm31 : tp_M := (tp_pr tp_mm30 0 3 (some 50))
def tp_mm32 : tp_M := (tp_pr (tp_pr (tp_pr (tp_pr (tp_pr tp_mm31 56 0 (some 57)) 56 1 (some 58)) 56 2 (some 59)) 56 3 (some 60)) 56 4 (some 61))
set_option maxHeartbeats 4000000 in
set_option maxRecDepth 100000 in
theorem c_X7_init_56 {G : tp_G} (hq : tp_Gf G = false) : tp_ok G mX7_init [tR (some 56)] tp_mm31 57 62 649 (fun r μ' => r = none ∧ μ' = tp_mm32) := by
  refine tp_ok_of mX7_init_ok rfl (by decide) ?_
  refine g_aload_n rfl rfl ?_
  refine g_obj rfl (by decide) rfl ?_
  refine g_aload_n rfl rfl ?_
  refine g_sipush rfl ⟨by decide, by decide⟩ (by decide) ?_
  refine y_newa (len := 200) (t0 := 0) (n1 := 58) (b1 := 449) hq rfl rfl (Or.inl rfl) rfl rfl (by decide) rfl (fun _ => ⟨rfl, rfl⟩) (by decide) (by decide) rfl rfl ?_
  refine g_putF rfl rfl (by decide) rfl rfl rfl (Or.inr ⟨_, rfl⟩) (Or.inl hq) ?_
  refine g_aload_n rfl rfl ?_
  refine g_sipush rfl ⟨by decide, by decide⟩ (by decide) ?_
  refine y_newa (len := 200) (t0 := 0) (n1 := 59) (b1 := 249) hq rfl rfl (Or.inl rfl) rfl rfl (by decide) rfl (fun _ => ⟨rfl, rfl⟩) (by decide) (by decide) rfl rfl ?_
  refine g_putF rfl rfl (by decide) rfl rfl rfl (Or.inr ⟨_, rfl⟩) (Or.inl hq) ?_
  refine g_aload_n rfl rfl ?_
  refine g_sipush rfl ⟨by decide, by decide⟩ (by decide) ?_
  refine y_newa (len := 200) (t0 := 2) (n1 := 60) (b1 := 49) hq rfl rfl (Or.inr (Or.inr (Or.inl rfl))) rfl rfl (by decide) rfl (fun _ => ⟨rfl, rfl⟩) (by decide) (by decide) rfl rfl ?_
  refine g_putF rfl rfl (by decide) rfl rfl rfl (Or.inr ⟨_, rfl⟩) (Or.inl hq) ?_
  refine g_aload_n rfl rfl ?_
  refine g_bipush rfl ⟨by decide, by decide⟩ (by decide) ?_
  refine y_newa (len := 9) (t0 := 0) (n1 := 61) (b1 := 40) hq rfl rfl (Or.inl rfl) rfl rfl (by decide) rfl (fun _ => ⟨rfl, rfl⟩) (by decide) (by decide) rfl rfl ?_
  refine g_putF rfl rfl (by decide) rfl rfl rfl (Or.inr ⟨_, rfl⟩) (Or.inl hq) ?_
  refine g_aload_n rfl rfl ?_
  refine g_bipush rfl ⟨by decide, by decide⟩ (by decide) ?_
  refine y_newa (len := 40) (t0 := 3) (n1 := 62) (b1 := 0) hq rfl rfl (Or.inr (Or.inr (Or.inr rfl))) rfl rfl (by decide) rfl (fun _ => ⟨rfl, rfl⟩) (by decide) (by decide) rfl rfl ?_
  refine g_putF rfl rfl (by decide) rfl rfl rfl (Or.inr ⟨_, rfl⟩) (Or.inl hq) ?_
  refine g_return (st := []) rfl rfl ?_
  exact ⟨rfl, rfl⟩
def tp_mm33 : tp_M := (tp_pr tp_mm32 0 4 (some 56))
def tp_mm34 : tp_M := tp_mm33
def tp_mm35 : tp_M := (tp_pr (tp_pr (tp_pr (tp_pr tp_mm34 63 0 (some 64)) 63 1 (some 65)) 63 2 (some 66)) 63 3 (some 67))
set_option maxHeartbeats 4000000 in
set_option maxRecDepth 100000 in
theorem c_X3_init_63 {G : tp_G} (hq : tp_Gf G = false) : tp_ok G mX3_init [tR (some 63)] tp_mm34 64 68 1024 (fun r μ' => r = none ∧ μ' = tp_mm35) := by
  refine tp_ok_of mX3_init_ok rfl (by decide) ?_
  refine g_aload_n rfl rfl ?_
  refine g_obj rfl (by decide) rfl ?_
  refine g_aload_n rfl rfl ?_
  refine g_sipush rfl ⟨by decide, by decide⟩ (by decide) ?_
  refine y_newa (len := 256) (t0 := 0) (n1 := 65) (b1 := 768) hq rfl rfl (Or.inl rfl) rfl rfl (by decide) rfl (fun _ => ⟨rfl, rfl⟩) (by decide) (by decide) rfl rfl ?_
  refine g_putF rfl rfl (by decide) rfl rfl rfl (Or.inr ⟨_, rfl⟩) (Or.inl hq) ?_
  refine g_aload_n rfl rfl ?_
  refine g_sipush rfl ⟨by decide, by decide⟩ (by decide) ?_
  refine y_newa (len := 256) (t0 := 0) (n1 := 66) (b1 := 512) hq rfl rfl (Or.inl rfl) rfl rfl (by decide) rfl (fun _ => ⟨rfl, rfl⟩) (by decide) (by decide) rfl rfl ?_
  refine g_putF rfl rfl (by decide) rfl rfl rfl (Or.inr ⟨_, rfl⟩) (Or.inl hq) ?_
  refine g_aload_n rfl rfl ?_
  refine g_sipush rfl ⟨by decide, by decide⟩ (by decide) ?_
  refine y_newa (len := 256) (t0 := 0) (n1 := 67) (b1 := 256) hq rfl rfl (Or.inl rfl) rfl rfl (by decide) rfl (fun _ => ⟨rfl, rfl⟩) (by decide) (by decide) rfl rfl ?_
  refine g_putF rfl rfl (by decide) rfl rfl rfl (Or.inr ⟨_, rfl⟩) (Or.inl hq) ?_
  refine g_aload_n rfl rfl ?_
  refine g_sipush rfl ⟨by decide, by decide⟩ (by decide) ?_
  refine y_newa (len := 256) (t0 := 0) (n1 := 68) (b1 := 0) hq rfl rfl (Or.inl rfl) rfl rfl (by decide) rfl (fun _ => ⟨rfl, rfl⟩) (by decide) (by decide) rfl rfl ?_
  refine g_putF rfl rfl (by decide) rfl rfl rfl (Or.inr ⟨_, rfl⟩) (Or.inl hq) ?_
  refine g_return (st := []) rfl rfl ?_
  exact ⟨rfl, rfl⟩
def tp_mm36 : tp_M := (tp_pr tp_mm35 62 0 (some 63))
def tp_mm37 : tp_M := (tp_pr tp_mm36 68 0 (some 69))
set_option maxHeartbeats 4000000 in
set_option maxRecDepth 100000 in
theorem c_X8_init_68 {G : tp_G} (hq : tp_Gf G = false) : tp_ok G mX8_init [tR (some 68)] tp_mm36 69 70 5 (fun r μ' => r = none ∧ μ' = tp_mm37) := by
  refine tp_ok_of mX8_init_ok rfl (by decide) ?_
  refine g_aload_n rfl rfl ?_
  refine g_obj rfl (by decide) rfl ?_
  refine g_aload_n rfl rfl ?_
  refine g_iconst rfl ⟨by decide, by decide⟩ ?_
  refine y_newa (len := 5) (t0 := 0) (n1 := 70) (b1 := 0) hq rfl rfl (Or.inl rfl) rfl rfl (by decide) rfl (fun _ => ⟨rfl, rfl⟩) (by decide) (by decide) rfl rfl ?_
  refine g_putF rfl rfl (by decide) rfl rfl rfl (Or.inr ⟨_, rfl⟩) (Or.inl hq) ?_
  refine g_return (st := []) rfl rfl ?_
  exact ⟨rfl, rfl⟩
def tp_mm38 : tp_M := (tp_pr tp_mm37 62 1 (some 68))
set_option maxHeartbeats 4000000 in
set_option maxRecDepth 100000 in
theorem c_X1_init_62 {G : tp_G} (hq : tp_Gf G = false) : tp_ok G mX1_init [tR (some 62)] tp_mm33 63 70 1036 (fun r μ' => r = none ∧ μ' = tp_mm38) := by
  refine tp_ok_of mX1_init_ok rfl (by decide) ?_
  refine g_aload_n rfl rfl ?_
  refine g_obj rfl (by decide) rfl ?_
  refine g_aload_n rfl rfl ?_
  refine y_new (n1 := 64) (b1 := 1031) hq rfl rfl (fun _ => ⟨rfl, rfl⟩) (by decide) (by decide) rfl rfl ?_
  refine g_dupr rfl ?_
  change tp_go G mX1_init 9 _ _ tp_mm34 _ _ _ _
  refine y_IN (as := []) (b1 := 7) (c_X3_init_63 hq) rfl rfl mX3_init_ok rfl (by decide) rfl rfl rfl rfl (by decide) rfl ?_
  rintro _ _ ⟨rfl, rfl⟩ _
  refine g_putF rfl rfl (by decide) rfl rfl rfl (Or.inl ⟨_, rfl⟩) (Or.inl hq) ?_
  refine g_aload_n rfl rfl ?_
  refine y_new (n1 := 69) (b1 := 5) hq rfl rfl (fun _ => ⟨rfl, rfl⟩) (by decide) (by decide) rfl rfl ?_
  refine g_dupr rfl ?_
  change tp_go G mX1_init 20 _ _ tp_mm36 _ _ _ _
  refine y_IN (as := []) (b1 := 0) (c_X8_init_68 hq) rfl rfl mX8_init_ok rfl (by decide) rfl rfl rfl rfl (by decide) rfl ?_
  rintro _ _ ⟨rfl, rfl⟩ _
  refine g_putF rfl rfl (by decide) rfl rfl rfl (Or.inl ⟨_, rfl⟩) (Or.inl hq) ?_
  refine g_return (st := []) rfl rfl ?_
  exact ⟨rfl, rfl⟩
def tp_mm39 : tp_M := (tp_pr tp_mm38 0 5 (some 62))
def tp_mm40 : tp_M := (tp_pr (tp_pr (tp_pr tp_mm39 70 0 (some 71)) 70 1 (some 72)) 70 2 (some 73))
def tp_mm41 : tp_M := (tp_pr tp_mm40 74 0 (some 75))
set_option maxHeartbeats 4000000 in
set_option maxRecDepth 100000 in
theorem c_X8_init_74 {G : tp_G} (hq : tp_Gf G = false) : tp_ok G mX8_init [tR (some 74)] tp_mm40 75 76 5 (fun r μ' => r = none ∧ μ' = tp_mm41) := by
  refine tp_ok_of mX8_init_ok rfl (by decide) ?_
  refine g_aload_n rfl rfl ?_
  refine g_obj rfl (by decide) rfl ?_
  refine g_aload_n rfl rfl ?_
  refine g_iconst rfl ⟨by decide, by decide⟩ ?_
  refine y_newa (len := 5) (t0 := 0) (n1 := 76) (b1 := 0) hq rfl rfl (Or.inl rfl) rfl rfl (by decide) rfl (fun _ => ⟨rfl, rfl⟩) (by decide) (by decide) rfl rfl ?_
  refine g_putF rfl rfl (by decide) rfl rfl rfl (Or.inr ⟨_, rfl⟩) (Or.inl hq) ?_
  refine g_return (st := []) rfl rfl ?_
  exact ⟨rfl, rfl⟩
def tp_mm42 : tp_M := (tp_pr tp_mm41 70 3 (some 74))
set_option maxHeartbeats 4000000 in
set_option maxRecDepth 100000 in
theorem c_X10_init_70 {G : tp_G} (hq : tp_Gf G = false) : tp_ok G mX10_init [tR (some 70)] tp_mm39 71 76 663 (fun r μ' => r = none ∧ μ' = tp_mm42) := by
  refine tp_ok_of mX10_init_ok rfl (by decide) ?_
  refine g_aload_n rfl rfl ?_
  refine g_obj rfl (by decide) rfl ?_
  refine g_aload_n rfl rfl ?_
  refine g_sipush rfl ⟨by decide, by decide⟩ (by decide) ?_
  refine y_newa (len := 200) (t0 := 0) (n1 := 72) (b1 := 463) hq rfl rfl (Or.inl rfl) rfl rfl (by decide) rfl (fun _ => ⟨rfl, rfl⟩) (by decide) (by decide) rfl rfl ?_
  refine g_putF rfl rfl (by decide) rfl rfl rfl (Or.inr ⟨_, rfl⟩) (Or.inl hq) ?_
  refine g_aload_n rfl rfl ?_
  refine g_sipush rfl ⟨by decide, by decide⟩ (by decide) ?_
  refine y_newa (len := 200) (t0 := 0) (n1 := 73) (b1 := 263) hq rfl rfl (Or.inl rfl) rfl rfl (by decide) rfl (fun _ => ⟨rfl, rfl⟩) (by decide) (by decide) rfl rfl ?_
  refine g_putF rfl rfl (by decide) rfl rfl rfl (Or.inr ⟨_, rfl⟩) (Or.inl hq) ?_
  refine g_aload_n rfl rfl ?_
  refine g_sipush rfl ⟨by decide, by decide⟩ (by decide) ?_
  refine y_newa (len := 256) (t0 := 0) (n1 := 74) (b1 := 7) hq rfl rfl (Or.inl rfl) rfl rfl (by decide) rfl (fun _ => ⟨rfl, rfl⟩) (by decide) (by decide) rfl rfl ?_
  refine g_putF rfl rfl (by decide) rfl rfl rfl (Or.inr ⟨_, rfl⟩) (Or.inl hq) ?_
  refine g_aload_n rfl rfl ?_
  refine y_new (n1 := 75) (b1 := 5) hq rfl rfl (fun _ => ⟨rfl, rfl⟩) (by decide) (by decide) rfl rfl ?_
  refine g_dupr rfl ?_
  change tp_go G mX10_init 36 _ _ tp_mm40 _ _ _ _
  refine y_IN (as := []) (b1 := 0) (c_X8_init_74 hq) rfl rfl mX8_init_ok rfl (by decide) rfl rfl rfl rfl (by decide) rfl ?_
  rintro _ _ ⟨rfl, rfl⟩ _
  refine g_putF rfl rfl (by decide) rfl rfl rfl (Or.inl ⟨_, rfl⟩) (Or.inl hq) ?_
  refine g_return (st := []) rfl rfl ?_
  exact ⟨rfl, rfl⟩
def tp_mm43 : tp_M := (tp_pr tp_mm42 0 6 (some 70))
def tp_mm44 : tp_M := (tp_pr (tp_pr tp_mm43 76 0 (some 77)) 76 1 (some 78))
set_option maxHeartbeats 4000000 in
set_option maxRecDepth 100000 in
theorem c_X4_init_76 {G : tp_G} (hq : tp_Gf G = false) : tp_ok G mX4_init [tR (some 76)] tp_mm43 77 79 456 (fun r μ' => r = none ∧ μ' = tp_mm44) := by
  refine tp_ok_of mX4_init_ok rfl (by decide) ?_
  refine g_aload_n rfl rfl ?_
  refine g_obj rfl (by decide) rfl ?_
  refine g_aload_n rfl rfl ?_
  refine g_sipush rfl ⟨by decide, by decide⟩ (by decide) ?_
  refine y_newa (len := 200) (t0 := 0) (n1 := 78) (b1 := 256) hq rfl rfl (Or.inl rfl) rfl rfl (by decide) rfl (fun _ => ⟨rfl, rfl⟩) (by decide) (by decide) rfl rfl ?_
  refine g_putF rfl rfl (by decide) rfl rfl rfl (Or.inr ⟨_, rfl⟩) (Or.inl hq) ?_
  refine g_aload_n rfl rfl ?_
  refine g_sipush rfl ⟨by decide, by decide⟩ (by decide) ?_
  refine y_newa (len := 256) (t0 := 0) (n1 := 79) (b1 := 0) hq rfl rfl (Or.inl rfl) rfl rfl (by decide) rfl (fun _ => ⟨rfl, rfl⟩) (by decide) (by decide) rfl rfl ?_
  refine g_putF rfl rfl (by decide) rfl rfl rfl (Or.inr ⟨_, rfl⟩) (Or.inl hq) ?_
  refine g_return (st := []) rfl rfl ?_
  exact ⟨rfl, rfl⟩
def tp_mm45 : tp_M := (tp_pr tp_mm44 0 7 (some 76))
def tp_mm46 : tp_M := (tp_pr (tp_pr (tp_pr tp_mm45 79 0 (some 80)) 79 1 (some 81)) 79 2 (some 82))
set_option maxHeartbeats 4000000 in
set_option maxRecDepth 100000 in
theorem c_X2_init_79 {G : tp_G} (hq : tp_Gf G = false) : tp_ok G mX2_init [tR (some 79)] tp_mm45 80 83 10738 (fun r μ' => r = none ∧ μ' = tp_mm46) := by
  refine tp_ok_of mX2_init_ok rfl (by decide) ?_
  refine g_aload_n rfl rfl ?_
  refine g_obj rfl (by decide) rfl ?_
  refine g_aload_n rfl rfl ?_
  refine g_sipush rfl ⟨by decide, by decide⟩ (by decide) ?_
  refine y_newa (len := 257) (t0 := 0) (n1 := 81) (b1 := 10481) hq rfl rfl (Or.inl rfl) rfl rfl (by decide) rfl (fun _ => ⟨rfl, rfl⟩) (by decide) (by decide) rfl rfl ?_
  refine g_putF rfl rfl (by decide) rfl rfl rfl (Or.inr ⟨_, rfl⟩) (Or.inl hq) ?_
  refine g_aload_n rfl rfl ?_
  refine g_sipush rfl ⟨by decide, by decide⟩ (by decide) ?_
  refine y_newa (len := 10280) (t0 := 0) (n1 := 82) (b1 := 201) hq rfl rfl (Or.inl rfl) rfl rfl (by decide) rfl (fun _ => ⟨rfl, rfl⟩) (by decide) (by decide) rfl rfl ?_
  refine g_putF rfl rfl (by decide) rfl rfl rfl (Or.inr ⟨_, rfl⟩) (Or.inl hq) ?_
  refine g_aload_n rfl rfl ?_
  refine g_sipush rfl ⟨by decide, by decide⟩ (by decide) ?_
  refine y_newa (len := 201) (t0 := 0) (n1 := 83) (b1 := 0) hq rfl rfl (Or.inl rfl) rfl rfl (by decide) rfl (fun _ => ⟨rfl, rfl⟩) (by decide) (by decide) rfl rfl ?_
  refine g_putF rfl rfl (by decide) rfl rfl rfl (Or.inr ⟨_, rfl⟩) (Or.inl hq) ?_
  refine g_return (st := []) rfl rfl ?_
  exact ⟨rfl, rfl⟩
def tp_mm47 : tp_M := (tp_pr (tp_pr tp_mm46 0 8 (some 79)) 0 9 (some 83))
def tp_mm48 : tp_M := (tp_pr (tp_pr (tp_pr (tp_pi (tp_pr tp_mm47 84 0 (some 85)) 84 3 (-1)) 84 5 (some 86)) 84 6 (some 87)) 84 7 (some 88))
def tp_mm49 : tp_M := (tp_pr (tp_pr (tp_pr (tp_pr tp_mm48 89 0 (some 90)) 89 1 (some 91)) 89 2 (some 92)) 89 3 (some 93))
set_option maxHeartbeats 4000000 in
set_option maxRecDepth 100000 in
theorem c_X0_init_89 {G : tp_G} (hq : tp_Gf G = false) : tp_ok G mX0_init [tR (some 89)] tp_mm48 90 94 128 (fun r μ' => r = none ∧ μ' = tp_mm49) := by
  refine tp_ok_of mX0_init_ok rfl (by decide) ?_
  refine g_aload_n rfl rfl ?_
  refine g_obj rfl (by decide) rfl ?_
  refine g_aload_n rfl rfl ?_
  refine g_bipush rfl ⟨by decide, by decide⟩ (by decide) ?_
  refine y_newa (len := 40) (t0 := 0) (n1 := 91) (b1 := 88) hq rfl rfl (Or.inl rfl) rfl rfl (by decide) rfl (fun _ => ⟨rfl, rfl⟩) (by decide) (by decide) rfl rfl ?_
  refine g_putF rfl rfl (by decide) rfl rfl rfl (Or.inr ⟨_, rfl⟩) (Or.inl hq) ?_
  refine g_aload_n rfl rfl ?_
  refine g_bipush rfl ⟨by decide, by decide⟩ (by decide) ?_
  refine y_newa (len := 40) (t0 := 0) (n1 := 92) (b1 := 48) hq rfl rfl (Or.inl rfl) rfl rfl (by decide) rfl (fun _ => ⟨rfl, rfl⟩) (by decide) (by decide) rfl rfl ?_
  refine g_putF rfl rfl (by decide) rfl rfl rfl (Or.inr ⟨_, rfl⟩) (Or.inl hq) ?_
  refine g_aload_n rfl rfl ?_
  refine g_bipush rfl ⟨by decide, by decide⟩ (by decide) ?_
  refine y_newa (len := 40) (t0 := 0) (n1 := 93) (b1 := 8) hq rfl rfl (Or.inl rfl) rfl rfl (by decide) rfl (fun _ => ⟨rfl, rfl⟩) (by decide) (by decide) rfl rfl ?_
  refine g_putF rfl rfl (by decide) rfl rfl rfl (Or.inr ⟨_, rfl⟩) (Or.inl hq) ?_
  refine g_aload_n rfl rfl ?_
  refine g_bipush rfl ⟨by decide, by decide⟩ (by decide) ?_
  refine y_newa (len := 8) (t0 := 0) (n1 := 94) (b1 := 0) hq rfl rfl (Or.inl rfl) rfl rfl (by decide) rfl (fun _ => ⟨rfl, rfl⟩) (by decide) (by decide) rfl rfl ?_
  refine g_putF rfl rfl (by decide) rfl rfl rfl (Or.inr ⟨_, rfl⟩) (Or.inl hq) ?_
  refine g_return (st := []) rfl rfl ?_
  exact ⟨rfl, rfl⟩
def tp_mm50 : tp_M := (tp_pr tp_mm49 86 0 (some 89))
def tp_mm51 : tp_M := (tp_pr (tp_pr (tp_pr (tp_pr tp_mm50 94 0 (some 95)) 94 1 (some 96)) 94 2 (some 97)) 94 3 (some 98))
set_option maxHeartbeats 4000000 in
set_option maxRecDepth 100000 in
theorem c_X0_init_94 {G : tp_G} (hq : tp_Gf G = false) : tp_ok G mX0_init [tR (some 94)] tp_mm50 95 99 128 (fun r μ' => r = none ∧ μ' = tp_mm51) := by
  refine tp_ok_of mX0_init_ok rfl (by decide) ?_
  refine g_aload_n rfl rfl ?_
  refine g_obj rfl (by decide) rfl ?_
  refine g_aload_n rfl rfl ?_
  refine g_bipush rfl ⟨by decide, by decide⟩ (by decide) ?_
  refine y_newa (len := 40) (t0 := 0) (n1 := 96) (b1 := 88) hq rfl rfl (Or.inl rfl) rfl rfl (by decide) rfl (fun _ => ⟨rfl, rfl⟩) (by decide) (by decide) rfl rfl ?_
  refine g_putF rfl rfl (by decide) rfl rfl rfl (Or.inr ⟨_, rfl⟩) (Or.inl hq) ?_
  refine g_aload_n rfl rfl ?_
  refine g_bipush rfl ⟨by decide, by decide⟩ (by decide) ?_
  refine y_newa (len := 40) (t0 := 0) (n1 := 97) (b1 := 48) hq rfl rfl (Or.inl rfl) rfl rfl (by decide) rfl (fun _ => ⟨rfl, rfl⟩) (by decide) (by decide) rfl rfl ?_
  refine g_putF rfl rfl (by decide) rfl rfl rfl (Or.inr ⟨_, rfl⟩) (Or.inl hq) ?_
  refine g_aload_n rfl rfl ?_
  refine g_bipush rfl ⟨by decide, by decide⟩ (by decide) ?_
  refine y_newa (len := 40) (t0 := 0) (n1 := 98) (b1 := 8) hq rfl rfl (Or.inl rfl) rfl rfl (by decide) rfl (fun _ => ⟨rfl, rfl⟩) (by decide) (by decide) rfl rfl ?_
  refine g_putF rfl rfl (by decide) rfl rfl rfl (Or.inr ⟨_, rfl⟩) (Or.inl hq) ?_
  refine g_aload_n rfl rfl ?_
  refine g_bipush rfl ⟨by decide, by decide⟩ (by decide) ?_
  refine y_newa (len := 8) (t0 := 0) (n1 := 99) (b1 := 0) hq rfl rfl (Or.inl rfl) rfl rfl (by decide) rfl (fun _ => ⟨rfl, rfl⟩) (by decide) (by decide) rfl rfl ?_
  refine g_putF rfl rfl (by decide) rfl rfl rfl (Or.inr ⟨_, rfl⟩) (Or.inl hq) ?_
  refine g_return (st := []) rfl rfl ?_
  exact ⟨rfl, rfl⟩
def tp_mm52 : tp_M := (tp_pr tp_mm51 86 1 (some 94))
def tp_mm53 : tp_M := (tp_pr (tp_pr tp_mm52 99 0 (some 100)) 99 1 (some 101))
set_option maxHeartbeats 4000000 in
set_option maxRecDepth 100000 in
theorem c_X6_init_99 {G : tp_G} (hq : tp_Gf G = false) : tp_ok G mX6_init [tR (some 99), tI 0] tp_mm52 100 102 0 (fun r μ' => r = none ∧ μ' = tp_mm53) := by
  refine tp_ok_of mX6_init_ok rfl (by decide) ?_
  refine g_aload_n rfl rfl ?_
  refine g_obj rfl (by decide) rfl ?_
  refine g_iload_n rfl rfl ?_
  refine g_iconst rfl ⟨by decide, by decide⟩ ?_
  refine y_max (z := 0) rfl rfl (by decide) ?_
  refine g_istore_n rfl rfl rfl ?_
  refine g_aload_n rfl rfl ?_
  refine g_iload_n rfl rfl ?_
  refine y_newa (len := 0) (t0 := 0) (n1 := 101) (b1 := 0) hq rfl rfl (Or.inl rfl) rfl rfl (by decide) rfl (fun _ => ⟨rfl, rfl⟩) (by decide) (by decide) rfl rfl ?_
  refine g_putF rfl rfl (by decide) rfl rfl rfl (Or.inr ⟨_, rfl⟩) (Or.inl hq) ?_
  refine g_aload_n rfl rfl ?_
  refine g_iload_n rfl rfl ?_
  refine y_newa (len := 0) (t0 := 0) (n1 := 102) (b1 := 0) hq rfl rfl (Or.inl rfl) rfl rfl (by decide) rfl (fun _ => ⟨rfl, rfl⟩) (by decide) (by decide) rfl rfl ?_
  refine g_putF rfl rfl (by decide) rfl rfl rfl (Or.inr ⟨_, rfl⟩) (Or.inl hq) ?_
  refine g_return (st := []) rfl rfl ?_
  exact ⟨rfl, rfl⟩
def tp_mm54 : tp_M := (tp_pr tp_mm53 87 0 (some 99))
def tp_mm55 : tp_M := (tp_pr (tp_pr tp_mm54 102 0 (some 103)) 102 1 (some 104))
set_option maxHeartbeats 4000000 in
set_option maxRecDepth 100000 in
theorem c_X6_init_102 {G : tp_G} (hq : tp_Gf G = false) : tp_ok G mX6_init [tR (some 102), tI 0] tp_mm54 103 105 0 (fun r μ' => r = none ∧ μ' = tp_mm55) := by
  refine tp_ok_of mX6_init_ok rfl (by decide) ?_
  refine g_aload_n rfl rfl ?_
  refine g_obj rfl (by decide) rfl ?_
  refine g_iload_n rfl rfl ?_
  refine g_iconst rfl ⟨by decide, by decide⟩ ?_
  refine y_max (z := 0) rfl rfl (by decide) ?_
  refine g_istore_n rfl rfl rfl ?_
  refine g_aload_n rfl rfl ?_
  refine g_iload_n rfl rfl ?_
  refine y_newa (len := 0) (t0 := 0) (n1 := 104) (b1 := 0) hq rfl rfl (Or.inl rfl) rfl rfl (by decide) rfl (fun _ => ⟨rfl, rfl⟩) (by decide) (by decide) rfl rfl ?_
  refine g_putF rfl rfl (by decide) rfl rfl rfl (Or.inr ⟨_, rfl⟩) (Or.inl hq) ?_
  refine g_aload_n rfl rfl ?_
  refine g_iload_n rfl rfl ?_
  refine y_newa (len := 0) (t0 := 0) (n1 := 105) (b1 := 0) hq rfl rfl (Or.inl rfl) rfl rfl (by decide) rfl (fun _ => ⟨rfl, rfl⟩) (by decide) (by decide) rfl rfl ?_
  refine g_putF rfl rfl (by decide) rfl rfl rfl (Or.inr ⟨_, rfl⟩) (Or.inl hq) ?_
  refine g_return (st := []) rfl rfl ?_
  exact ⟨rfl, rfl⟩
def tp_mm56 : tp_M := (tp_pr tp_mm55 87 1 (some 102))
def tp_mm57 : tp_M := (tp_pr (tp_pr tp_mm56 105 0 (some 106)) 105 1 (some 107))
set_option maxHeartbeats 4000000 in
set_option maxRecDepth 100000 in
theorem c_X6_init_105 {G : tp_G} (hq : tp_Gf G = false) : tp_ok G mX6_init [tR (some 105), tI 60] tp_mm56 106 108 120 (fun r μ' => r = none ∧ μ' = tp_mm57) := by
  refine tp_ok_of mX6_init_ok rfl (by decide) ?_
  refine g_aload_n rfl rfl ?_
  refine g_obj rfl (by decide) rfl ?_
  refine g_iload_n rfl rfl ?_
  refine g_iconst rfl ⟨by decide, by decide⟩ ?_
  refine y_max (z := 60) rfl rfl (by decide) ?_
  refine g_istore_n rfl rfl rfl ?_
  refine g_aload_n rfl rfl ?_
  refine g_iload_n rfl rfl ?_
  refine y_newa (len := 60) (t0 := 0) (n1 := 107) (b1 := 60) hq rfl rfl (Or.inl rfl) rfl rfl (by decide) rfl (fun _ => ⟨rfl, rfl⟩) (by decide) (by decide) rfl rfl ?_
  refine g_putF rfl rfl (by decide) rfl rfl rfl (Or.inr ⟨_, rfl⟩) (Or.inl hq) ?_
  refine g_aload_n rfl rfl ?_
  refine g_iload_n rfl rfl ?_
  refine y_newa (len := 60) (t0 := 0) (n1 := 108) (b1 := 0) hq rfl rfl (Or.inl rfl) rfl rfl (by decide) rfl (fun _ => ⟨rfl, rfl⟩) (by decide) (by decide) rfl rfl ?_
  refine g_putF rfl rfl (by decide) rfl rfl rfl (Or.inr ⟨_, rfl⟩) (Or.inl hq) ?_
  refine g_return (st := []) rfl rfl ?_
  exact ⟨rfl, rfl⟩
def tp_mm58 : tp_M := (tp_pr tp_mm57 87 2 (some 105))
def tp_mm59 : tp_M := (tp_pr (tp_pr tp_mm58 108 0 (some 109)) 108 1 (some 110))
set_option maxHeartbeats 4000000 in
set_option maxRecDepth 100000 in
theorem c_X6_init_108 {G : tp_G} (hq : tp_Gf G = false) : tp_ok G mX6_init [tR (some 108), tI 60] tp_mm58 109 111 120 (fun r μ' => r = none ∧ μ' = tp_mm59) := by
  refine tp_ok_of mX6_init_ok rfl (by decide) ?_
  refine g_aload_n rfl rfl ?_
  refine g_obj rfl (by decide) rfl ?_
  refine g_iload_n rfl rfl ?_
  refine g_iconst rfl ⟨by decide, by decide⟩ ?_
  refine y_max (z := 60) rfl rfl (by decide) ?_
  refine g_istore_n rfl rfl rfl ?_
  refine g_aload_n rfl rfl ?_
  refine g_iload_n rfl rfl ?_
  refine y_newa (len := 60) (t0 := 0) (n1 := 110) (b1 := 60) hq rfl rfl (Or.inl rfl) rfl rfl (by decide) rfl (fun _ => ⟨rfl, rfl⟩) (by decide) (by decide) rfl rfl ?_
  refine g_putF rfl rfl (by decide) rfl rfl rfl (Or.inr ⟨_, rfl⟩) (Or.inl hq) ?_
  refine g_aload_n rfl rfl ?_
  refine g_iload_n rfl rfl ?_
  refine y_newa (len := 60) (t0 := 0) (n1 := 111) (b1 := 0) hq rfl rfl (Or.inl rfl) rfl rfl (by decide) rfl (fun _ => ⟨rfl, rfl⟩) (by decide) (by decide) rfl rfl ?_
  refine g_putF rfl rfl (by decide) rfl rfl rfl (Or.inr ⟨_, rfl⟩) (Or.inl hq) ?_
  refine g_return (st := []) rfl rfl ?_
  exact ⟨rfl, rfl⟩
def tp_mm60 : tp_M := (tp_pr tp_mm59 87 3 (some 108))
def tp_mm61 : tp_M := (tp_pr (tp_pr tp_mm60 111 0 (some 112)) 111 1 (some 113))
set_option maxHeartbeats 4000000 in
set_option maxRecDepth 100000 in
theorem c_X6_init_111 {G : tp_G} (hq : tp_Gf G = false) : tp_ok G mX6_init [tR (some 111), tI 12] tp_mm60 112 114 24 (fun r μ' => r = none ∧ μ' = tp_mm61) := by
  refine tp_ok_of mX6_init_ok rfl (by decide) ?_
  refine g_aload_n rfl rfl ?_
  refine g_obj rfl (by decide) rfl ?_
  refine g_iload_n rfl rfl ?_
  refine g_iconst rfl ⟨by decide, by decide⟩ ?_
  refine y_max (z := 12) rfl rfl (by decide) ?_
  refine g_istore_n rfl rfl rfl ?_
  refine g_aload_n rfl rfl ?_
  refine g_iload_n rfl rfl ?_
  refine y_newa (len := 12) (t0 := 0) (n1 := 113) (b1 := 12) hq rfl rfl (Or.inl rfl) rfl rfl (by decide) rfl (fun _ => ⟨rfl, rfl⟩) (by decide) (by decide) rfl rfl ?_
  refine g_putF rfl rfl (by decide) rfl rfl rfl (Or.inr ⟨_, rfl⟩) (Or.inl hq) ?_
  refine g_aload_n rfl rfl ?_
  refine g_iload_n rfl rfl ?_
  refine y_newa (len := 12) (t0 := 0) (n1 := 114) (b1 := 0) hq rfl rfl (Or.inl rfl) rfl rfl (by decide) rfl (fun _ => ⟨rfl, rfl⟩) (by decide) (by decide) rfl rfl ?_
  refine g_putF rfl rfl (by decide) rfl rfl rfl (Or.inr ⟨_, rfl⟩) (Or.inl hq) ?_
  refine g_return (st := []) rfl rfl ?_
  exact ⟨rfl, rfl⟩
def tp_mm62 : tp_M := (tp_pr tp_mm61 87 4 (some 111))
def tp_mm63 : tp_M := (tp_pr (tp_pr tp_mm62 114 0 (some 115)) 114 1 (some 116))
set_option maxHeartbeats 4000000 in
set_option maxRecDepth 100000 in
theorem c_X6_init_114 {G : tp_G} (hq : tp_Gf G = false) : tp_ok G mX6_init [tR (some 114), tI 12] tp_mm62 115 117 24 (fun r μ' => r = none ∧ μ' = tp_mm63) := by
  refine tp_ok_of mX6_init_ok rfl (by decide) ?_
  refine g_aload_n rfl rfl ?_
  refine g_obj rfl (by decide) rfl ?_
  refine g_iload_n rfl rfl ?_
  refine g_iconst rfl ⟨by decide, by decide⟩ ?_
  refine y_max (z := 12) rfl rfl (by decide) ?_
  refine g_istore_n rfl rfl rfl ?_
  refine g_aload_n rfl rfl ?_
  refine g_iload_n rfl rfl ?_
  refine y_newa (len := 12) (t0 := 0) (n1 := 116) (b1 := 12) hq rfl rfl (Or.inl rfl) rfl rfl (by decide) rfl (fun _ => ⟨rfl, rfl⟩) (by decide) (by decide) rfl rfl ?_
  refine g_putF rfl rfl (by decide) rfl rfl rfl (Or.inr ⟨_, rfl⟩) (Or.inl hq) ?_
  refine g_aload_n rfl rfl ?_
  refine g_iload_n rfl rfl ?_
  refine y_newa (len := 12) (t0 := 0) (n1 := 117) (b1 := 0) hq rfl rfl (Or.inl rfl) rfl rfl (by decide) rfl (fun _ => ⟨rfl, rfl⟩) (by decide) (by decide) rfl rfl ?_
  refine g_putF rfl rfl (by decide) rfl rfl rfl (Or.inr ⟨_, rfl⟩) (Or.inl hq) ?_
  refine g_return (st := []) rfl rfl ?_
  exact ⟨rfl, rfl⟩
def tp_mm64 : tp_M := (tp_pr tp_mm63 87 5 (some 114))
def tp_mm65 : tp_M := (tp_pr (tp_pr tp_mm64 117 0 (some 118)) 117 1 (some 119))
set_option maxHeartbeats 4000000 in
set_option maxRecDepth 100000 in
theorem c_X6_init_117 {G : tp_G} (hq : tp_Gf G = false) : tp_ok G mX6_init [tR (some 117), tI 8] tp_mm64 118 120 16 (fun r μ' => r = none ∧ μ' = tp_mm65) := by
  refine tp_ok_of mX6_init_ok rfl (by decide) ?_
  refine g_aload_n rfl rfl ?_
  refine g_obj rfl (by decide) rfl ?_
  refine g_iload_n rfl rfl ?_
  refine g_iconst rfl ⟨by decide, by decide⟩ ?_
  refine y_max (z := 8) rfl rfl (by decide) ?_
  refine g_istore_n rfl rfl rfl ?_
  refine g_aload_n rfl rfl ?_
  refine g_iload_n rfl rfl ?_
  refine y_newa (len := 8) (t0 := 0) (n1 := 119) (b1 := 8) hq rfl rfl (Or.inl rfl) rfl rfl (by decide) rfl (fun _ => ⟨rfl, rfl⟩) (by decide) (by decide) rfl rfl ?_
  refine g_putF rfl rfl (by decide) rfl rfl rfl (Or.inr ⟨_, rfl⟩) (Or.inl hq) ?_
  refine g_aload_n rfl rfl ?_
  refine g_iload_n rfl rfl ?_
  refine y_newa (len := 8) (t0 := 0) (n1 := 120) (b1 := 0) hq rfl rfl (Or.inl rfl) rfl rfl (by decide) rfl (fun _ => ⟨rfl, rfl⟩) (by decide) (by decide) rfl rfl ?_
  refine g_putF rfl rfl (by decide) rfl rfl rfl (Or.inr ⟨_, rfl⟩) (Or.inl hq) ?_
  refine g_return (st := []) rfl rfl ?_
  exact ⟨rfl, rfl⟩
def tp_mm66 : tp_M := (tp_pr tp_mm65 87 6 (some 117))
def tp_mm67 : tp_M := (tp_pr (tp_pr tp_mm66 120 0 (some 121)) 120 1 (some 122))
set_option maxHeartbeats 4000000 in
set_option maxRecDepth 100000 in
theorem c_X6_init_120 {G : tp_G} (hq : tp_Gf G = false) : tp_ok G mX6_init [tR (some 120), tI 8] tp_mm66 121 123 16 (fun r μ' => r = none ∧ μ' = tp_mm67) := by
  refine tp_ok_of mX6_init_ok rfl (by decide) ?_
  refine g_aload_n rfl rfl ?_
  refine g_obj rfl (by decide) rfl ?_
  refine g_iload_n rfl rfl ?_
  refine g_iconst rfl ⟨by decide, by decide⟩ ?_
  refine y_max (z := 8) rfl rfl (by decide) ?_
  refine g_istore_n rfl rfl rfl ?_
  refine g_aload_n rfl rfl ?_
  refine g_iload_n rfl rfl ?_
  refine y_newa (len := 8) (t0 := 0) (n1 := 122) (b1 := 8) hq rfl rfl (Or.inl rfl) rfl rfl (by decide) rfl (fun _ => ⟨rfl, rfl⟩) (by decide) (by decide) rfl rfl ?_
  refine g_putF rfl rfl (by decide) rfl rfl rfl (Or.inr ⟨_, rfl⟩) (Or.inl hq) ?_
  refine g_aload_n rfl rfl ?_
  refine g_iload_n rfl rfl ?_
  refine y_newa (len := 8) (t0 := 0) (n1 := 123) (b1 := 0) hq rfl rfl (Or.inl rfl) rfl rfl (by decide) rfl (fun _ => ⟨rfl, rfl⟩) (by decide) (by decide) rfl rfl ?_
  refine g_putF rfl rfl (by decide) rfl rfl rfl (Or.inr ⟨_, rfl⟩) (Or.inl hq) ?_
  refine g_return (st := []) rfl rfl ?_
  exact ⟨rfl, rfl⟩
def tp_mm68 : tp_M := (tp_pr tp_mm67 87 7 (some 120))
set_option maxHeartbeats 4000000 in
set_option maxRecDepth 100000 in
theorem c_X9_init_84 {G : tp_G} (hq : tp_Gf G = false) : tp_ok G mX9_init [tR (some 84)] tp_mm47 85 123 1224 (fun r μ' => r = none ∧ μ' = tp_mm68) := by
  refine tp_ok_of mX9_init_ok rfl (by decide) ?_
  refine g_aload_n rfl rfl ?_
  refine g_obj rfl (by decide) rfl ?_
  refine g_aload_n rfl rfl ?_
  refine g_sipush rfl ⟨by decide, by decide⟩ (by decide) ?_
  refine y_newa (len := 600) (t0 := 1) (n1 := 86) (b1 := 624) hq rfl rfl (Or.inr (Or.inl rfl)) rfl rfl (by decide) rfl (fun _ => ⟨rfl, rfl⟩) (by decide) (by decide) rfl rfl ?_
  refine g_putF rfl rfl (by decide) rfl rfl rfl (Or.inr ⟨_, rfl⟩) (Or.inl hq) ?_
  refine g_aload_n rfl rfl ?_
  refine g_iconst rfl ⟨by decide, by decide⟩ ?_
  refine g_puti rfl rfl (by decide) rfl rfl ?_
  refine g_aload_n rfl rfl ?_
  refine g_iconst rfl ⟨by decide, by decide⟩ ?_
  refine y_anew (len := 2) (t0 := 4) (n1 := 87) (b1 := 622) hq rfl rfl rfl (by decide) rfl (fun _ => ⟨rfl, rfl⟩) (by decide) (by decide) rfl rfl ?_
  refine g_putF rfl rfl (by decide) rfl rfl rfl (Or.inr ⟨_, rfl⟩) (Or.inl hq) ?_
  refine g_aload_n rfl rfl ?_
  refine g_bipush rfl ⟨by decide, by decide⟩ (by decide) ?_
  refine y_anew (len := 8) (t0 := 5) (n1 := 88) (b1 := 614) hq rfl rfl rfl (by decide) rfl (fun _ => ⟨rfl, rfl⟩) (by decide) (by decide) rfl rfl ?_
  refine g_putF rfl rfl (by decide) rfl rfl rfl (Or.inr ⟨_, rfl⟩) (Or.inl hq) ?_
  refine g_aload_n rfl rfl ?_
  refine g_iconst rfl ⟨by decide, by decide⟩ ?_
  refine y_newa (len := 4) (t0 := 0) (n1 := 89) (b1 := 610) hq rfl rfl (Or.inl rfl) rfl rfl (by decide) rfl (fun _ => ⟨rfl, rfl⟩) (by decide) (by decide) rfl rfl ?_
  refine g_putF rfl rfl (by decide) rfl rfl rfl (Or.inr ⟨_, rfl⟩) (Or.inl hq) ?_
  refine g_iconst rfl ⟨by decide, by decide⟩ ?_
  refine g_istore_n rfl rfl rfl ?_
  refine g_iload_n rfl rfl ?_
  refine g_iconst rfl ⟨by decide, by decide⟩ ?_
  refine g_icmp_ge (tgt := 68) rfl (by decide) (fun hx => absurd hx (by decide)) (fun _ => ?_)
  refine g_aload_n rfl rfl ?_
  refine y_getr (v := some 86) hq rfl rfl (by decide) (Or.inr ⟨_, rfl⟩) rfl ?_
  refine g_iload_n rfl rfl ?_
  refine y_new (n1 := 90) (b1 := 605) hq rfl rfl (fun _ => ⟨rfl, rfl⟩) (by decide) (by decide) rfl rfl ?_
  refine g_dupr rfl ?_
  change tp_go G mX9_init 58 _ _ tp_mm48 _ _ _ _
  refine y_IN (as := []) (b1 := 477) (c_X0_init_89 hq) rfl rfl mX0_init_ok rfl (by decide) rfl rfl rfl rfl (by decide) rfl ?_
  rintro _ _ ⟨rfl, rfl⟩ _
  refine g_aast (ci := 0) (t0 := 4) rfl (by decide) rfl rfl rfl hq (by decide) (by decide) (by decide) (by decide) ?_
  refine y_iinc (z := 1) rfl rfl (by decide) rfl rfl ?_
  refine g_goto (tgt := 44) rfl (by decide) ?_
  refine g_iload_n rfl rfl ?_
  refine g_iconst rfl ⟨by decide, by decide⟩ ?_
  refine g_icmp_ge (tgt := 68) rfl (by decide) (fun hx => absurd hx (by decide)) (fun _ => ?_)
  refine g_aload_n rfl rfl ?_
  refine y_getr (v := some 86) hq rfl rfl (by decide) (Or.inr ⟨_, rfl⟩) rfl ?_
  refine g_iload_n rfl rfl ?_
  refine y_new (n1 := 95) (b1 := 472) hq rfl rfl (fun _ => ⟨rfl, rfl⟩) (by decide) (by decide) rfl rfl ?_
  refine g_dupr rfl ?_
  change tp_go G mX9_init 58 _ _ tp_mm50 _ _ _ _
  refine y_IN (as := []) (b1 := 344) (c_X0_init_94 hq) rfl rfl mX0_init_ok rfl (by decide) rfl rfl rfl rfl (by decide) rfl ?_
  rintro _ _ ⟨rfl, rfl⟩ _
  refine g_aast (ci := 0) (t0 := 4) rfl (by decide) rfl rfl rfl hq (by decide) (by decide) (by decide) (by decide) ?_
  refine y_iinc (z := 2) rfl rfl (by decide) rfl rfl ?_
  refine g_goto (tgt := 44) rfl (by decide) ?_
  refine g_iload_n rfl rfl ?_
  refine g_iconst rfl ⟨by decide, by decide⟩ ?_
  refine g_icmp_ge (tgt := 68) rfl (by decide) (fun _ => ?_) (fun hx => absurd hx (by decide))
  refine g_iconst rfl ⟨by decide, by decide⟩ ?_
  refine g_istore_n rfl rfl rfl ?_
  refine g_iload_n rfl rfl ?_
  refine g_bipush rfl ⟨by decide, by decide⟩ (by decide) ?_
  refine g_icmp_ge (tgt := 102) rfl (by decide) (fun hx => absurd hx (by decide)) (fun _ => ?_)
  refine g_aload_n rfl rfl ?_
  refine y_getr (v := some 87) hq rfl rfl (by decide) (Or.inr ⟨_, rfl⟩) rfl ?_
  refine g_iload_n rfl rfl ?_
  refine y_new (n1 := 100) (b1 := 341) hq rfl rfl (fun _ => ⟨rfl, rfl⟩) (by decide) (by decide) rfl rfl ?_
  refine g_dupr rfl ?_
  refine g_gets rfl ?_
  refine g_iload_n rfl rfl ?_
  refine g_iconst rfl ⟨by decide, by decide⟩ ?_
  refine y_idiv (z := 0) rfl (by decide) (by decide) ?_
  refine y_sald (i0 := 1) (v := 0) rfl (by decide) (by decide) (by show _ < ((4 : Nat) : Int); decide) rfl ?_
  change tp_go G mX9_init 92 _ _ tp_mm52 _ _ _ _
  refine y_I (as := [tI 0]) (b1 := 341) (c_X6_init_99 hq) rfl rfl mX6_init_ok rfl (by decide) rfl rfl rfl rfl (by decide) rfl ?_
  rintro _ _ ⟨rfl, rfl⟩ _
  refine g_aast (ci := 6) (t0 := 5) rfl (by decide) rfl rfl rfl hq (by decide) (by decide) (by decide) (by decide) ?_
  refine y_iinc (z := 1) rfl rfl (by decide) rfl rfl ?_
  refine g_goto (tgt := 70) rfl (by decide) ?_
  refine g_iload_n rfl rfl ?_
  refine g_bipush rfl ⟨by decide, by decide⟩ (by decide) ?_
  refine g_icmp_ge (tgt := 102) rfl (by decide) (fun hx => absurd hx (by decide)) (fun _ => ?_)
  refine g_aload_n rfl rfl ?_
  refine y_getr (v := some 87) hq rfl rfl (by decide) (Or.inr ⟨_, rfl⟩) rfl ?_
  refine g_iload_n rfl rfl ?_
  refine y_new (n1 := 103) (b1 := 338) hq rfl rfl (fun _ => ⟨rfl, rfl⟩) (by decide) (by decide) rfl rfl ?_
  refine g_dupr rfl ?_
  refine g_gets rfl ?_
  refine g_iload_n rfl rfl ?_
  refine g_iconst rfl ⟨by decide, by decide⟩ ?_
  refine y_idiv (z := 0) rfl (by decide) (by decide) ?_
  refine y_sald (i0 := 1) (v := 0) rfl (by decide) (by decide) (by show _ < ((4 : Nat) : Int); decide) rfl ?_
  change tp_go G mX9_init 92 _ _ tp_mm54 _ _ _ _
  refine y_I (as := [tI 0]) (b1 := 338) (c_X6_init_102 hq) rfl rfl mX6_init_ok rfl (by decide) rfl rfl rfl rfl (by decide) rfl ?_
  rintro _ _ ⟨rfl, rfl⟩ _
  refine g_aast (ci := 6) (t0 := 5) rfl (by decide) rfl rfl rfl hq (by decide) (by decide) (by decide) (by decide) ?_
  refine y_iinc (z := 2) rfl rfl (by decide) rfl rfl ?_
  refine g_goto (tgt := 70) rfl (by decide) ?_
  refine g_iload_n rfl rfl ?_
  refine g_bipush rfl ⟨by decide, by decide⟩ (by decide) ?_
  refine g_icmp_ge (tgt := 102) rfl (by decide) (fun hx => absurd hx (by decide)) (fun _ => ?_)
  refine g_aload_n rfl rfl ?_
  refine y_getr (v := some 87) hq rfl rfl (by decide) (Or.inr ⟨_, rfl⟩) rfl ?_
  refine g_iload_n rfl rfl ?_
  refine y_new (n1 := 106) (b1 := 335) hq rfl rfl (fun _ => ⟨rfl, rfl⟩) (by decide) (by decide) rfl rfl ?_
  refine g_dupr rfl ?_
  refine g_gets rfl ?_
  refine g_iload_n rfl rfl ?_
  refine g_iconst rfl ⟨by decide, by decide⟩ ?_
  refine y_idiv (z := 1) rfl (by decide) (by decide) ?_
  refine y_sald (i0 := 1) (v := 60) rfl (by decide) (by decide) (by show _ < ((4 : Nat) : Int); decide) rfl ?_
  change tp_go G mX9_init 92 _ _ tp_mm56 _ _ _ _
  refine y_I (as := [tI 60]) (b1 := 215) (c_X6_init_105 hq) rfl rfl mX6_init_ok rfl (by decide) rfl rfl rfl rfl (by decide) rfl ?_
  rintro _ _ ⟨rfl, rfl⟩ _
  refine g_aast (ci := 6) (t0 := 5) rfl (by decide) rfl rfl rfl hq (by decide) (by decide) (by decide) (by decide) ?_
  refine y_iinc (z := 3) rfl rfl (by decide) rfl rfl ?_
  refine g_goto (tgt := 70) rfl (by decide) ?_
  refine g_iload_n rfl rfl ?_
  refine g_bipush rfl ⟨by decide, by decide⟩ (by decide) ?_
  refine g_icmp_ge (tgt := 102) rfl (by decide) (fun hx => absurd hx (by decide)) (fun _ => ?_)
  refine g_aload_n rfl rfl ?_
  refine y_getr (v := some 87) hq rfl rfl (by decide) (Or.inr ⟨_, rfl⟩) rfl ?_
  refine g_iload_n rfl rfl ?_
  refine y_new (n1 := 109) (b1 := 212) hq rfl rfl (fun _ => ⟨rfl, rfl⟩) (by decide) (by decide) rfl rfl ?_
  refine g_dupr rfl ?_
  refine g_gets rfl ?_
  refine g_iload_n rfl rfl ?_
  refine g_iconst rfl ⟨by decide, by decide⟩ ?_
  refine y_idiv (z := 1) rfl (by decide) (by decide) ?_
  refine y_sald (i0 := 1) (v := 60) rfl (by decide) (by decide) (by show _ < ((4 : Nat) : Int); decide) rfl ?_
  change tp_go G mX9_init 92 _ _ tp_mm58 _ _ _ _
  refine y_I (as := [tI 60]) (b1 := 92) (c_X6_init_108 hq) rfl rfl mX6_init_ok rfl (by decide) rfl rfl rfl rfl (by decide) rfl ?_
  rintro _ _ ⟨rfl, rfl⟩ _
  refine g_aast (ci := 6) (t0 := 5) rfl (by decide) rfl rfl rfl hq (by decide) (by decide) (by decide) (by decide) ?_
  refine y_iinc (z := 4) rfl rfl (by decide) rfl rfl ?_
  refine g_goto (tgt := 70) rfl (by decide) ?_
  refine g_iload_n rfl rfl ?_
  refine g_bipush rfl ⟨by decide, by decide⟩ (by decide) ?_
  refine g_icmp_ge (tgt := 102) rfl (by decide) (fun hx => absurd hx (by decide)) (fun _ => ?_)
  refine g_aload_n rfl rfl ?_
  refine y_getr (v := some 87) hq rfl rfl (by decide) (Or.inr ⟨_, rfl⟩) rfl ?_
  refine g_iload_n rfl rfl ?_
  refine y_new (n1 := 112) (b1 := 89) hq rfl rfl (fun _ => ⟨rfl, rfl⟩) (by decide) (by decide) rfl rfl ?_
  refine g_dupr rfl ?_
  refine g_gets rfl ?_
  refine g_iload_n rfl rfl ?_
  refine g_iconst rfl ⟨by decide, by decide⟩ ?_
  refine y_idiv (z := 2) rfl (by decide) (by decide) ?_
  refine y_sald (i0 := 1) (v := 12) rfl (by decide) (by decide) (by show _ < ((4 : Nat) : Int); decide) rfl ?_
  change tp_go G mX9_init 92 _ _ tp_mm60 _ _ _ _
  refine y_I (as := [tI 12]) (b1 := 65) (c_X6_init_111 hq) rfl rfl mX6_init_ok rfl (by decide) rfl rfl rfl rfl (by decide) rfl ?_
  rintro _ _ ⟨rfl, rfl⟩ _
  refine g_aast (ci := 6) (t0 := 5) rfl (by decide) rfl rfl rfl hq (by decide) (by decide) (by decide) (by decide) ?_
  refine y_iinc (z := 5) rfl rfl (by decide) rfl rfl ?_
  refine g_goto (tgt := 70) rfl (by decide) ?_
  refine g_iload_n rfl rfl ?_
  refine g_bipush rfl ⟨by decide, by decide⟩ (by decide) ?_
  refine g_icmp_ge (tgt := 102) rfl (by decide) (fun hx => absurd hx (by decide)) (fun _ => ?_)
  refine g_aload_n rfl rfl ?_
  refine y_getr (v := some 87) hq rfl rfl (by decide) (Or.inr ⟨_, rfl⟩) rfl ?_
  refine g_iload_n rfl rfl ?_
  refine y_new (n1 := 115) (b1 := 62) hq rfl rfl (fun _ => ⟨rfl, rfl⟩) (by decide) (by decide) rfl rfl ?_
  refine g_dupr rfl ?_
  refine g_gets rfl ?_
  refine g_iload_n rfl rfl ?_
  refine g_iconst rfl ⟨by decide, by decide⟩ ?_
  refine y_idiv (z := 2) rfl (by decide) (by decide) ?_
  refine y_sald (i0 := 1) (v := 12) rfl (by decide) (by decide) (by show _ < ((4 : Nat) : Int); decide) rfl ?_
  change tp_go G mX9_init 92 _ _ tp_mm62 _ _ _ _
  refine y_I (as := [tI 12]) (b1 := 38) (c_X6_init_114 hq) rfl rfl mX6_init_ok rfl (by decide) rfl rfl rfl rfl (by decide) rfl ?_
  rintro _ _ ⟨rfl, rfl⟩ _
  refine g_aast (ci := 6) (t0 := 5) rfl (by decide) rfl rfl rfl hq (by decide) (by decide) (by decide) (by decide) ?_
  refine y_iinc (z := 6) rfl rfl (by decide) rfl rfl ?_
  refine g_goto (tgt := 70) rfl (by decide) ?_
  refine g_iload_n rfl rfl ?_
  refine g_bipush rfl ⟨by decide, by decide⟩ (by decide) ?_
  refine g_icmp_ge (tgt := 102) rfl (by decide) (fun hx => absurd hx (by decide)) (fun _ => ?_)
  refine g_aload_n rfl rfl ?_
  refine y_getr (v := some 87) hq rfl rfl (by decide) (Or.inr ⟨_, rfl⟩) rfl ?_
  refine g_iload_n rfl rfl ?_
  refine y_new (n1 := 118) (b1 := 35) hq rfl rfl (fun _ => ⟨rfl, rfl⟩) (by decide) (by decide) rfl rfl ?_
  refine g_dupr rfl ?_
  refine g_gets rfl ?_
  refine g_iload_n rfl rfl ?_
  refine g_iconst rfl ⟨by decide, by decide⟩ ?_
  refine y_idiv (z := 3) rfl (by decide) (by decide) ?_
  refine y_sald (i0 := 1) (v := 8) rfl (by decide) (by decide) (by show _ < ((4 : Nat) : Int); decide) rfl ?_
  change tp_go G mX9_init 92 _ _ tp_mm64 _ _ _ _
  refine y_I (as := [tI 8]) (b1 := 19) (c_X6_init_117 hq) rfl rfl mX6_init_ok rfl (by decide) rfl rfl rfl rfl (by decide) rfl ?_
  rintro _ _ ⟨rfl, rfl⟩ _
  refine g_aast (ci := 6) (t0 := 5) rfl (by decide) rfl rfl rfl hq (by decide) (by decide) (by decide) (by decide) ?_
  refine y_iinc (z := 7) rfl rfl (by decide) rfl rfl ?_
  refine g_goto (tgt := 70) rfl (by decide) ?_
  refine g_iload_n rfl rfl ?_
  refine g_bipush rfl ⟨by decide, by decide⟩ (by decide) ?_
  refine g_icmp_ge (tgt := 102) rfl (by decide) (fun hx => absurd hx (by decide)) (fun _ => ?_)
  refine g_aload_n rfl rfl ?_
  refine y_getr (v := some 87) hq rfl rfl (by decide) (Or.inr ⟨_, rfl⟩) rfl ?_
  refine g_iload_n rfl rfl ?_
  refine y_new (n1 := 121) (b1 := 16) hq rfl rfl (fun _ => ⟨rfl, rfl⟩) (by decide) (by decide) rfl rfl ?_
  refine g_dupr rfl ?_
  refine g_gets rfl ?_
  refine g_iload_n rfl rfl ?_
  refine g_iconst rfl ⟨by decide, by decide⟩ ?_
  refine y_idiv (z := 3) rfl (by decide) (by decide) ?_
  refine y_sald (i0 := 1) (v := 8) rfl (by decide) (by decide) (by show _ < ((4 : Nat) : Int); decide) rfl ?_
  change tp_go G mX9_init 92 _ _ tp_mm66 _ _ _ _
  refine y_I (as := [tI 8]) (b1 := 0) (c_X6_init_120 hq) rfl rfl mX6_init_ok rfl (by decide) rfl rfl rfl rfl (by decide) rfl ?_
  rintro _ _ ⟨rfl, rfl⟩ _
  refine g_aast (ci := 6) (t0 := 5) rfl (by decide) rfl rfl rfl hq (by decide) (by decide) (by decide) (by decide) ?_
  refine y_iinc (z := 8) rfl rfl (by decide) rfl rfl ?_
  refine g_goto (tgt := 70) rfl (by decide) ?_
  refine g_iload_n rfl rfl ?_
  refine g_bipush rfl ⟨by decide, by decide⟩ (by decide) ?_
  refine g_icmp_ge (tgt := 102) rfl (by decide) (fun _ => ?_) (fun hx => absurd hx (by decide))
  refine g_return (st := []) rfl rfl ?_
  exact ⟨rfl, rfl⟩
def tp_mm69 : tp_M := (tp_pr tp_mm68 40 0 (some 84))
def tp_mm70 : tp_M := (tp_pr (tp_pr (tp_pr (tp_pi (tp_pr tp_mm69 123 0 (some 124)) 123 3 (-1)) 123 5 (some 125)) 123 6 (some 126)) 123 7 (some 127))
def tp_mm71 : tp_M := (tp_pr (tp_pr (tp_pr (tp_pr tp_mm70 128 0 (some 129)) 128 1 (some 130)) 128 2 (some 131)) 128 3 (some 132))
set_option maxHeartbeats 4000000 in
set_option maxRecDepth 100000 in
theorem c_X0_init_128 {G : tp_G} (hq : tp_Gf G = false) : tp_ok G mX0_init [tR (some 128)] tp_mm70 129 133 128 (fun r μ' => r = none ∧ μ' = tp_mm71) := by
  refine tp_ok_of mX0_init_ok rfl (by decide) ?_
  refine g_aload_n rfl rfl ?_
  refine g_obj rfl (by decide) rfl ?_
  refine g_aload_n rfl rfl ?_
  refine g_bipush rfl ⟨by decide, by decide⟩ (by decide) ?_
  refine y_newa (len := 40) (t0 := 0) (n1 := 130) (b1 := 88) hq rfl rfl (Or.inl rfl) rfl rfl (by decide) rfl (fun _ => ⟨rfl, rfl⟩) (by decide) (by decide) rfl rfl ?_
  refine g_putF rfl rfl (by decide) rfl rfl rfl (Or.inr ⟨_, rfl⟩) (Or.inl hq) ?_
  refine g_aload_n rfl rfl ?_
  refine g_bipush rfl ⟨by decide, by decide⟩ (by decide) ?_
  refine y_newa (len := 40) (t0 := 0) (n1 := 131) (b1 := 48) hq rfl rfl (Or.inl rfl) rfl rfl (by decide) rfl (fun _ => ⟨rfl, rfl⟩) (by decide) (by decide) rfl rfl ?_
  refine g_putF rfl rfl (by decide) rfl rfl rfl (Or.inr ⟨_, rfl⟩) (Or.inl hq) ?_
  refine g_aload_n rfl rfl ?_
  refine g_bipush rfl ⟨by decide, by decide⟩ (by decide) ?_
  refine y_newa (len := 40) (t0 := 0) (n1 := 132) (b1 := 8) hq rfl rfl (Or.inl rfl) rfl rfl (by decide) rfl (fun _ => ⟨rfl, rfl⟩) (by decide) (by decide) rfl rfl ?_
  refine g_putF rfl rfl (by decide) rfl rfl rfl (Or.inr ⟨_, rfl⟩) (Or.inl hq) ?_
  refine g_aload_n rfl rfl ?_
  refine g_bipush rfl ⟨by decide, by decide⟩ (by decide) ?_
  refine y_newa (len := 8) (t0 := 0) (n1 := 133) (b1 := 0) hq rfl rfl (Or.inl rfl) rfl rfl (by decide) rfl (fun _ => ⟨rfl, rfl⟩) (by decide) (by decide) rfl rfl ?_
  refine g_putF rfl rfl (by decide) rfl rfl rfl (Or.inr ⟨_, rfl⟩) (Or.inl hq) ?_
  refine g_return (st := []) rfl rfl ?_
  exact ⟨rfl, rfl⟩
def tp_mm72 : tp_M := (tp_pr tp_mm71 125 0 (some 128))
def tp_mm73 : tp_M := (tp_pr (tp_pr (tp_pr (tp_pr tp_mm72 133 0 (some 134)) 133 1 (some 135)) 133 2 (some 136)) 133 3 (some 137))
set_option maxHeartbeats 4000000 in
set_option maxRecDepth 100000 in
theorem c_X0_init_133 {G : tp_G} (hq : tp_Gf G = false) : tp_ok G mX0_init [tR (some 133)] tp_mm72 134 138 128 (fun r μ' => r = none ∧ μ' = tp_mm73) := by
  refine tp_ok_of mX0_init_ok rfl (by decide) ?_
  refine g_aload_n rfl rfl ?_
  refine g_obj rfl (by decide) rfl ?_
  refine g_aload_n rfl rfl ?_
  refine g_bipush rfl ⟨by decide, by decide⟩ (by decide) ?_
  refine y_newa (len := 40) (t0 := 0) (n1 := 135) (b1 := 88) hq rfl rfl (Or.inl rfl) rfl rfl (by decide) rfl (fun _ => ⟨rfl, rfl⟩) (by decide) (by decide) rfl rfl ?_
  refine g_putF rfl rfl (by decide) rfl rfl rfl (Or.inr ⟨_, rfl⟩) (Or.inl hq) ?_
  refine g_aload_n rfl rfl ?_
  refine g_bipush rfl ⟨by decide, by decide⟩ (by decide) ?_
  refine y_newa (len := 40) (t0 := 0) (n1 := 136) (b1 := 48) hq rfl rfl (Or.inl rfl) rfl rfl (by decide) rfl (fun _ => ⟨rfl, rfl⟩) (by decide) (by decide) rfl rfl ?_
  refine g_putF rfl rfl (by decide) rfl rfl rfl (Or.inr ⟨_, rfl⟩) (Or.inl hq) ?_
  refine g_aload_n rfl rfl ?_
  refine g_bipush rfl ⟨by decide, by decide⟩ (by decide) ?_
  refine y_newa (len := 40) (t0 := 0) (n1 := 137) (b1 := 8) hq rfl rfl (Or.inl rfl) rfl rfl (by decide) rfl (fun _ => ⟨rfl, rfl⟩) (by decide) (by decide) rfl rfl ?_
  refine g_putF rfl rfl (by decide) rfl rfl rfl (Or.inr ⟨_, rfl⟩) (Or.inl hq) ?_
  refine g_aload_n rfl rfl ?_
  refine g_bipush rfl ⟨by decide, by decide⟩ (by decide) ?_
  refine y_newa (len := 8) (t0 := 0) (n1 := 138) (b1 := 0) hq rfl rfl (Or.inl rfl) rfl rfl (by decide) rfl (fun _ => ⟨rfl, rfl⟩) (by decide) (by decide) rfl rfl ?_
  refine g_putF rfl rfl (by decide) rfl rfl rfl (Or.inr ⟨_, rfl⟩) (Or.inl hq) ?_
  refine g_return (st := []) rfl rfl ?_
  exact ⟨rfl, rfl⟩
def tp_mm74 : tp_M := (tp_pr tp_mm73 125 1 (some 133))
def tp_mm75 : tp_M := (tp_pr (tp_pr tp_mm74 138 0 (some 139)) 138 1 (some 140))
set_option maxHeartbeats 4000000 in
set_option maxRecDepth 100000 in
theorem c_X6_init_138 {G : tp_G} (hq : tp_Gf G = false) : tp_ok G mX6_init [tR (some 138), tI 0] tp_mm74 139 141 0 (fun r μ' => r = none ∧ μ' = tp_mm75) := by
  refine tp_ok_of mX6_init_ok rfl (by decide) ?_
  refine g_aload_n rfl rfl ?_
  refine g_obj rfl (by decide) rfl ?_
  refine g_iload_n rfl rfl ?_
  refine g_iconst rfl ⟨by decide, by decide⟩ ?_
  refine y_max (z := 0) rfl rfl (by decide) ?_
  refine g_istore_n rfl rfl rfl ?_
  refine g_aload_n rfl rfl ?_
  refine g_iload_n rfl rfl ?_
  refine y_newa (len := 0) (t0 := 0) (n1 := 140) (b1 := 0) hq rfl rfl (Or.inl rfl) rfl rfl (by decide) rfl (fun _ => ⟨rfl, rfl⟩) (by decide) (by decide) rfl rfl ?_
  refine g_putF rfl rfl (by decide) rfl rfl rfl (Or.inr ⟨_, rfl⟩) (Or.inl hq) ?_
  refine g_aload_n rfl rfl ?_
  refine g_iload_n rfl rfl ?_
  refine y_newa (len := 0) (t0 := 0) (n1 := 141) (b1 := 0) hq rfl rfl (Or.inl rfl) rfl rfl (by decide) rfl (fun _ => ⟨rfl, rfl⟩) (by decide) (by decide) rfl rfl ?_
  refine g_putF rfl rfl (by decide) rfl rfl rfl (Or.inr ⟨_, rfl⟩) (Or.inl hq) ?_
  refine g_return (st := []) rfl rfl ?_
  exact ⟨rfl, rfl⟩
def tp_mm76 : tp_M := (tp_pr tp_mm75 126 0 (some 138))
def tp_mm77 : tp_M := (tp_pr (tp_pr tp_mm76 141 0 (some 142)) 141 1 (some 143))
set_option maxHeartbeats 4000000 in
set_option maxRecDepth 100000 in
theorem c_X6_init_141 {G : tp_G} (hq : tp_Gf G = false) : tp_ok G mX6_init [tR (some 141), tI 0] tp_mm76 142 144 0 (fun r μ' => r = none ∧ μ' = tp_mm77) := by
  refine tp_ok_of mX6_init_ok rfl (by decide) ?_
  refine g_aload_n rfl rfl ?_
  refine g_obj rfl (by decide) rfl ?_
  refine g_iload_n rfl rfl ?_
  refine g_iconst rfl ⟨by decide, by decide⟩ ?_
  refine y_max (z := 0) rfl rfl (by decide) ?_
  refine g_istore_n rfl rfl rfl ?_
  refine g_aload_n rfl rfl ?_
  refine g_iload_n rfl rfl ?_
  refine y_newa (len := 0) (t0 := 0) (n1 := 143) (b1 := 0) hq rfl rfl (Or.inl rfl) rfl rfl (by decide) rfl (fun _ => ⟨rfl, rfl⟩) (by decide) (by decide) rfl rfl ?_
  refine g_putF rfl rfl (by decide) rfl rfl rfl (Or.inr ⟨_, rfl⟩) (Or.inl hq) ?_
  refine g_aload_n rfl rfl ?_
  refine g_iload_n rfl rfl ?_
  refine y_newa (len := 0) (t0 := 0) (n1 := 144) (b1 := 0) hq rfl rfl (Or.inl rfl) rfl rfl (by decide) rfl (fun _ => ⟨rfl, rfl⟩) (by decide) (by decide) rfl rfl ?_
  refine g_putF rfl rfl (by decide) rfl rfl rfl (Or.inr ⟨_, rfl⟩) (Or.inl hq) ?_
  refine g_return (st := []) rfl rfl ?_
  exact ⟨rfl, rfl⟩
def tp_mm78 : tp_M := (tp_pr tp_mm77 126 1 (some 141))
def tp_mm79 : tp_M := (tp_pr (tp_pr tp_mm78 144 0 (some 145)) 144 1 (some 146))
set_option maxHeartbeats 4000000 in
set_option maxRecDepth 100000 in
theorem c_X6_init_144 {G : tp_G} (hq : tp_Gf G = false) : tp_ok G mX6_init [tR (some 144), tI 60] tp_mm78 145 147 120 (fun r μ' => r = none ∧ μ' = tp_mm79) := by
  refine tp_ok_of mX6_init_ok rfl (by decide) ?_
  refine g_aload_n rfl rfl ?_
  refine g_obj rfl (by decide) rfl ?_
  refine g_iload_n rfl rfl ?_
  refine g_iconst rfl ⟨by decide, by decide⟩ ?_
  refine y_max (z := 60) rfl rfl (by decide) ?_
  refine g_istore_n rfl rfl rfl ?_
  refine g_aload_n rfl rfl ?_
  refine g_iload_n rfl rfl ?_
  refine y_newa (len := 60) (t0 := 0) (n1 := 146) (b1 := 60) hq rfl rfl (Or.inl rfl) rfl rfl (by decide) rfl (fun _ => ⟨rfl, rfl⟩) (by decide) (by decide) rfl rfl ?_
  refine g_putF rfl rfl (by decide) rfl rfl rfl (Or.inr ⟨_, rfl⟩) (Or.inl hq) ?_
  refine g_aload_n rfl rfl ?_
  refine g_iload_n rfl rfl ?_
  refine y_newa (len := 60) (t0 := 0) (n1 := 147) (b1 := 0) hq rfl rfl (Or.inl rfl) rfl rfl (by decide) rfl (fun _ => ⟨rfl, rfl⟩) (by decide) (by decide) rfl rfl ?_
  refine g_putF rfl rfl (by decide) rfl rfl rfl (Or.inr ⟨_, rfl⟩) (Or.inl hq) ?_
  refine g_return (st := []) rfl rfl ?_
  exact ⟨rfl, rfl⟩
def tp_mm80 : tp_M := (tp_pr tp_mm79 126 2 (some 144))
def tp_mm81 : tp_M := (tp_pr (tp_pr tp_mm80 147 0 (some 148)) 147 1 (some 149))
set_option maxHeartbeats 4000000 in
set_option maxRecDepth 100000 in
theorem c_X6_init_147 {G : tp_G} (hq : tp_Gf G = false) : tp_ok G mX6_init [tR (some 147), tI 60] tp_mm80 148 150 120 (fun r μ' => r = none ∧ μ' = tp_mm81) := by
  refine tp_ok_of mX6_init_ok rfl (by decide) ?_
  refine g_aload_n rfl rfl ?_
  refine g_obj rfl (by decide) rfl ?_
  refine g_iload_n rfl rfl ?_
  refine g_iconst rfl ⟨by decide, by decide⟩ ?_
  refine y_max (z := 60) rfl rfl (by decide) ?_
  refine g_istore_n rfl rfl rfl ?_
  refine g_aload_n rfl rfl ?_
  refine g_iload_n rfl rfl ?_
  refine y_newa (len := 60) (t0 := 0) (n1 := 149) (b1 := 60) hq rfl rfl (Or.inl rfl) rfl rfl (by decide) rfl (fun _ => ⟨rfl, rfl⟩) (by decide) (by decide) rfl rfl ?_
  refine g_putF rfl rfl (by decide) rfl rfl rfl (Or.inr ⟨_, rfl⟩) (Or.inl hq) ?_
  refine g_aload_n rfl rfl ?_
  refine g_iload_n rfl rfl ?_
  refine y_newa (len := 60) (t0 := 0) (n1 := 150) (b1 := 0) hq rfl rfl (Or.inl rfl) rfl rfl (by decide) rfl (fun _ => ⟨rfl, rfl⟩) (by decide) (by decide) rfl rfl ?_
  refine g_putF rfl rfl (by decide) rfl rfl rfl (Or.inr ⟨_, rfl⟩) (Or.inl hq) ?_
  refine g_return (st := []) rfl rfl ?_
  exact ⟨rfl, rfl⟩
def tp_mm82 : tp_M := (tp_pr tp_mm81 126 3 (some 147))
def tp_mm83 : tp_M := (tp_pr (tp_pr tp_mm82 150 0 (some 151)) 150 1 (some 152))
set_option maxHeartbeats 4000000 in
set_option maxRecDepth 100000 in
theorem c_X6_init_150 {G : tp_G} (hq : tp_Gf G = false) : tp_ok G mX6_init [tR (some 150), tI 12] tp_mm82 151 153 24 (fun r μ' => r = none ∧ μ' = tp_mm83) := by
  refine tp_ok_of mX6_init_ok rfl (by decide) ?_
  refine g_aload_n rfl rfl ?_
  refine g_obj rfl (by decide) rfl ?_
  refine g_iload_n rfl rfl ?_
  refine g_iconst rfl ⟨by decide, by decide⟩ ?_
  refine y_max (z := 12) rfl rfl (by decide) ?_
  refine g_istore_n rfl rfl rfl ?_
  refine g_aload_n rfl rfl ?_
  refine g_iload_n rfl rfl ?_
  refine y_newa (len := 12) (t0 := 0) (n1 := 152) (b1 := 12) hq rfl rfl (Or.inl rfl) rfl rfl (by decide) rfl (fun _ => ⟨rfl, rfl⟩) (by decide) (by decide) rfl rfl ?_
  refine g_putF rfl rfl (by decide) rfl rfl rfl (Or.inr ⟨_, rfl⟩) (Or.inl hq) ?_
  refine g_aload_n rfl rfl ?_
  refine g_iload_n rfl rfl ?_
  refine y_newa (len := 12) (t0 := 0) (n1 := 153) (b1 := 0) hq rfl rfl (Or.inl rfl) rfl rfl (by decide) rfl (fun _ => ⟨rfl, rfl⟩) (by decide) (by decide) rfl rfl ?_
  refine g_putF rfl rfl (by decide) rfl rfl rfl (Or.inr ⟨_, rfl⟩) (Or.inl hq) ?_
  refine g_return (st := []) rfl rfl ?_
  exact ⟨rfl, rfl⟩
def tp_mm84 : tp_M := (tp_pr tp_mm83 126 4 (some 150))
def tp_mm85 : tp_M := (tp_pr (tp_pr tp_mm84 153 0 (some 154)) 153 1 (some 155))
set_option maxHeartbeats 4000000 in
set_option maxRecDepth 100000 in
theorem c_X6_init_153 {G : tp_G} (hq : tp_Gf G = false) : tp_ok G mX6_init [tR (some 153), tI 12] tp_mm84 154 156 24 (fun r μ' => r = none ∧ μ' = tp_mm85) := by
  refine tp_ok_of mX6_init_ok rfl (by decide) ?_
  refine g_aload_n rfl rfl ?_
  refine g_obj rfl (by decide) rfl ?_
  refine g_iload_n rfl rfl ?_
  refine g_iconst rfl ⟨by decide, by decide⟩ ?_
  refine y_max (z := 12) rfl rfl (by decide) ?_
  refine g_istore_n rfl rfl rfl ?_
  refine g_aload_n rfl rfl ?_
  refine g_iload_n rfl rfl ?_
  refine y_newa (len := 12) (t0 := 0) (n1 := 155) (b1 := 12) hq rfl rfl (Or.inl rfl) rfl rfl (by decide) rfl (fun _ => ⟨rfl, rfl⟩) (by decide) (by decide) rfl rfl ?_
  refine g_putF rfl rfl (by decide) rfl rfl rfl (Or.inr ⟨_, rfl⟩) (Or.inl hq) ?_
  refine g_aload_n rfl rfl ?_
  refine g_iload_n rfl rfl ?_
  refine y_newa (len := 12) (t0 := 0) (n1 := 156) (b1 := 0) hq rfl rfl (Or.inl rfl) rfl rfl (by decide) rfl (fun _ => ⟨rfl, rfl⟩) (by decide) (by decide) rfl rfl ?_
  refine g_putF rfl rfl (by decide) rfl rfl rfl (Or.inr ⟨_, rfl⟩) (Or.inl hq) ?_
  refine g_return (st := []) rfl rfl ?_
  exact ⟨rfl, rfl⟩
def tp_mm86 : tp_M := (tp_pr tp_mm85 126 5 (some 153))
def tp_mm87 : tp_M := (tp_pr (tp_pr tp_mm86 156 0 (some 157)) 156 1 (some 158))
set_option maxHeartbeats 4000000 in
set_option maxRecDepth 100000 in
theorem c_X6_init_156 {G : tp_G} (hq : tp_Gf G = false) : tp_ok G mX6_init [tR (some 156), tI 8] tp_mm86 157 159 16 (fun r μ' => r = none ∧ μ' = tp_mm87) := by
  refine tp_ok_of mX6_init_ok rfl (by decide) ?_
  refine g_aload_n rfl rfl ?_
  refine g_obj rfl (by decide) rfl ?_
  refine g_iload_n rfl rfl ?_
  refine g_iconst rfl ⟨by decide, by decide⟩ ?_
  refine y_max (z := 8) rfl rfl (by decide) ?_
  refine g_istore_n rfl rfl rfl ?_
  refine g_aload_n rfl rfl ?_
  refine g_iload_n rfl rfl ?_
  refine y_newa (len := 8) (t0 := 0) (n1 := 158) (b1 := 8) hq rfl rfl (Or.inl rfl) rfl rfl (by decide) rfl (fun _ => ⟨rfl, rfl⟩) (by decide) (by decide) rfl rfl ?_
  refine g_putF rfl rfl (by decide) rfl rfl rfl (Or.inr ⟨_, rfl⟩) (Or.inl hq) ?_
  refine g_aload_n rfl rfl ?_
  refine g_iload_n rfl rfl ?_
  refine y_newa (len := 8) (t0 := 0) (n1 := 159) (b1 := 0) hq rfl rfl (Or.inl rfl) rfl rfl (by decide) rfl (fun _ => ⟨rfl, rfl⟩) (by decide) (by decide) rfl rfl ?_
  refine g_putF rfl rfl (by decide) rfl rfl rfl (Or.inr ⟨_, rfl⟩) (Or.inl hq) ?_
  refine g_return (st := []) rfl rfl ?_
  exact ⟨rfl, rfl⟩
def tp_mm88 : tp_M := (tp_pr tp_mm87 126 6 (some 156))
def tp_mm89 : tp_M := (tp_pr (tp_pr tp_mm88 159 0 (some 160)) 159 1 (some 161))
set_option maxHeartbeats 4000000 in
set_option maxRecDepth 100000 in
theorem c_X6_init_159 {G : tp_G} (hq : tp_Gf G = false) : tp_ok G mX6_init [tR (some 159), tI 8] tp_mm88 160 162 16 (fun r μ' => r = none ∧ μ' = tp_mm89) := by
  refine tp_ok_of mX6_init_ok rfl (by decide) ?_
  refine g_aload_n rfl rfl ?_
  refine g_obj rfl (by decide) rfl ?_
  refine g_iload_n rfl rfl ?_
  refine g_iconst rfl ⟨by decide, by decide⟩ ?_
  refine y_max (z := 8) rfl rfl (by decide) ?_
  refine g_istore_n rfl rfl rfl ?_
  refine g_aload_n rfl rfl ?_
  refine g_iload_n rfl rfl ?_
  refine y_newa (len := 8) (t0 := 0) (n1 := 161) (b1 := 8) hq rfl rfl (Or.inl rfl) rfl rfl (by decide) rfl (fun _ => ⟨rfl, rfl⟩) (by decide) (by decide) rfl rfl ?_
  refine g_putF rfl rfl (by decide) rfl rfl rfl (Or.inr ⟨_, rfl⟩) (Or.inl hq) ?_
  refine g_aload_n rfl rfl ?_
  refine g_iload_n rfl rfl ?_
  refine y_newa (len := 8) (t0 := 0) (n1 := 162) (b1 := 0) hq rfl rfl (Or.inl rfl) rfl rfl (by decide) rfl (fun _ => ⟨rfl, rfl⟩) (by decide) (by decide) rfl rfl ?_
  refine g_putF rfl rfl (by decide) rfl rfl rfl (Or.inr ⟨_, rfl⟩) (Or.inl hq) ?_
  refine g_return (st := []) rfl rfl ?_
  exact ⟨rfl, rfl⟩
def tp_mm90 : tp_M := (tp_pr tp_mm89 126 7 (some 159))
set_option maxHeartbeats 4000000 in
set_option maxRecDepth 100000 in
theorem c_X9_init_123 {G : tp_G} (hq : tp_Gf G = false) : tp_ok G mX9_init [tR (some 123)] tp_mm69 124 162 1224 (fun r μ' => r = none ∧ μ' = tp_mm90) := by
  refine tp_ok_of mX9_init_ok rfl (by decide) ?_
  refine g_aload_n rfl rfl ?_
  refine g_obj rfl (by decide) rfl ?_
  refine g_aload_n rfl rfl ?_
  refine g_sipush rfl ⟨by decide, by decide⟩ (by decide) ?_
  refine y_newa (len := 600) (t0 := 1) (n1 := 125) (b1 := 624) hq rfl rfl (Or.inr (Or.inl rfl)) rfl rfl (by decide) rfl (fun _ => ⟨rfl, rfl⟩) (by decide) (by decide) rfl rfl ?_
  refine g_putF rfl rfl (by decide) rfl rfl rfl (Or.inr ⟨_, rfl⟩) (Or.inl hq) ?_
  refine g_aload_n rfl rfl ?_
  refine g_iconst rfl ⟨by decide, by decide⟩ ?_
  refine g_puti rfl rfl (by decide) rfl rfl ?_
  refine g_aload_n rfl rfl ?_
  refine g_iconst rfl ⟨by decide, by decide⟩ ?_
  refine y_anew (len := 2) (t0 := 4) (n1 := 126) (b1 := 622) hq rfl rfl rfl (by decide) rfl (fun _ => ⟨rfl, rfl⟩) (by decide) (by decide) rfl rfl ?_
  refine g_putF rfl rfl (by decide) rfl rfl rfl (Or.inr ⟨_, rfl⟩) (Or.inl hq) ?_
  refine g_aload_n rfl rfl ?_
  refine g_bipush rfl ⟨by decide, by decide⟩ (by decide) ?_
  refine y_anew (len := 8) (t0 := 5) (n1 := 127) (b1 := 614) hq rfl rfl rfl (by decide) rfl (fun _ => ⟨rfl, rfl⟩) (by decide) (by decide) rfl rfl ?_
  refine g_putF rfl rfl (by decide) rfl rfl rfl (Or.inr ⟨_, rfl⟩) (Or.inl hq) ?_
  refine g_aload_n rfl rfl ?_
  refine g_iconst rfl ⟨by decide, by decide⟩ ?_
  refine y_newa (len := 4) (t0 := 0) (n1 := 128) (b1 := 610) hq rfl rfl (Or.inl rfl) rfl rfl (by decide) rfl (fun _ => ⟨rfl, rfl⟩) (by decide) (by decide) rfl rfl ?_
  refine g_putF rfl rfl (by decide) rfl rfl rfl (Or.inr ⟨_, rfl⟩) (Or.inl hq) ?_
  refine g_iconst rfl ⟨by decide, by decide⟩ ?_
  refine g_istore_n rfl rfl rfl ?_
  refine g_iload_n rfl rfl ?_
  refine g_iconst rfl ⟨by decide, by decide⟩ ?_
  refine g_icmp_ge (tgt := 68) rfl (by decide) (fun hx => absurd hx (by decide)) (fun _ => ?_)
  refine g_aload_n rfl rfl ?_
  refine y_getr (v := some 125) hq rfl rfl (by decide) (Or.inr ⟨_, rfl⟩) rfl ?_
  refine g_iload_n rfl rfl ?_
  refine y_new (n1 := 129) (b1 := 605) hq rfl rfl (fun _ => ⟨rfl, rfl⟩) (by decide) (by decide) rfl rfl ?_
  refine g_dupr rfl ?_
  change tp_go G mX9_init 58 _ _ tp_mm70 _ _ _ _
  refine y_IN (as := []) (b1 := 477) (c_X0_init_128 hq) rfl rfl mX0_init_ok rfl (by decide) rfl rfl rfl rfl (by decide) rfl ?_
  rintro _ _ ⟨rfl, rfl⟩ _
  refine g_aast (ci := 0) (t0 := 4) rfl (by decide) rfl rfl rfl hq (by decide) (by decide) (by decide) (by decide) ?_
  refine y_iinc (z := 1) rfl rfl (by decide) rfl rfl ?_
  refine g_goto (tgt := 44) rfl (by decide) ?_
  refine g_iload_n rfl rfl ?_
  refine g_iconst rfl ⟨by decide, by decide⟩ ?_
  refine g_icmp_ge (tgt := 68) rfl (by decide) (fun hx => absurd hx (by decide)) (fun _ => ?_)
  refine g_aload_n rfl rfl ?_
  refine y_getr (v := some 125) hq rfl rfl (by decide) (Or.inr ⟨_, rfl⟩) rfl ?_
  refine g_iload_n rfl rfl ?_
  refine y_new (n1 := 134) (b1 := 472) hq rfl rfl (fun _ => ⟨rfl, rfl⟩) (by decide) (by decide) rfl rfl ?_
  refine g_dupr rfl ?_
  change tp_go G mX9_init 58 _ _ tp_mm72 _ _ _ _
  refine y_IN (as := []) (b1 := 344) (c_X0_init_133 hq) rfl rfl mX0_init_ok rfl (by decide) rfl rfl rfl rfl (by decide) rfl ?_
  rintro _ _ ⟨rfl, rfl⟩ _
  refine g_aast (ci := 0) (t0 := 4) rfl (by decide) rfl rfl rfl hq (by decide) (by decide) (by decide) (by decide) ?_
  refine y_iinc (z := 2) rfl rfl (by decide) rfl rfl ?_
  refine g_goto (tgt := 44) rfl (by decide) ?_
  refine g_iload_n rfl rfl ?_
  refine g_iconst rfl ⟨by decide, by decide⟩ ?_
  refine g_icmp_ge (tgt := 68) rfl (by decide) (fun _ => ?_) (fun hx => absurd hx (by decide))
  refine g_iconst rfl ⟨by decide, by decide⟩ ?_
  refine g_istore_n rfl rfl rfl ?_
  refine g_iload_n rfl rfl ?_
  refine g_bipush rfl ⟨by decide, by decide⟩ (by decide) ?_
  refine g_icmp_ge (tgt := 102) rfl (by decide) (fun hx => absurd hx (by decide)) (fun _ => ?_)
  refine g_aload_n rfl rfl ?_
  refine y_getr (v := some 126) hq rfl rfl (by decide) (Or.inr ⟨_, rfl⟩) rfl ?_
  refine g_iload_n rfl rfl ?_
  refine y_new (n1 := 139) (b1 := 341) hq rfl rfl (fun _ => ⟨rfl, rfl⟩) (by decide) (by decide) rfl rfl ?_
  refine g_dupr rfl ?_
  refine g_gets rfl ?_
  refine g_iload_n rfl rfl ?_
  refine g_iconst rfl ⟨by decide, by decide⟩ ?_
  refine y_idiv (z := 0) rfl (by decide) (by decide) ?_
  refine y_sald (i0 := 1) (v := 0) rfl (by decide) (by decide) (by show _ < ((4 : Nat) : Int); decide) rfl ?_
  change tp_go G mX9_init 92 _ _ tp_mm74 _ _ _ _
  refine y_I (as := [tI 0]) (b1 := 341) (c_X6_init_138 hq) rfl rfl mX6_init_ok rfl (by decide) rfl rfl rfl rfl (by decide) rfl ?_
  rintro _ _ ⟨rfl, rfl⟩ _
  refine g_aast (ci := 6) (t0 := 5) rfl (by decide) rfl rfl rfl hq (by decide) (by decide) (by decide) (by decide) ?_
  refine y_iinc (z := 1) rfl rfl (by decide) rfl rfl ?_
  refine g_goto (tgt := 70) rfl (by decide) ?_
  refine g_iload_n rfl rfl ?_
  refine g_bipush rfl ⟨by decide, by decide⟩ (by decide) ?_
  refine g_icmp_ge (tgt := 102) rfl (by decide) (fun hx => absurd hx (by decide)) (fun _ => ?_)
  refine g_aload_n rfl rfl ?_
  refine y_getr (v := some 126) hq rfl rfl (by decide) (Or.inr ⟨_, rfl⟩) rfl ?_
  refine g_iload_n rfl rfl ?_
  refine y_new (n1 := 142) (b1 := 338) hq rfl rfl (fun _ => ⟨rfl, rfl⟩) (by decide) (by decide) rfl rfl ?_
  refine g_dupr rfl ?_
  refine g_gets rfl ?_
  refine g_iload_n rfl rfl ?_
  refine g_iconst rfl ⟨by decide, by decide⟩ ?_
  refine y_idiv (z := 0) rfl (by decide) (by decide) ?_
  refine y_sald (i0 := 1) (v := 0) rfl (by decide) (by decide) (by show _ < ((4 : Nat) : Int); decide) rfl ?_
  change tp_go G mX9_init 92 _ _ tp_mm76 _ _ _ _
  refine y_I (as := [tI 0]) (b1 := 338) (c_X6_init_141 hq) rfl rfl mX6_init_ok rfl (by decide) rfl rfl rfl rfl (by decide) rfl ?_
  rintro _ _ ⟨rfl, rfl⟩ _
  refine g_aast (ci := 6) (t0 := 5) rfl (by decide) rfl rfl rfl hq (by decide) (by decide) (by decide) (by decide) ?_
  refine y_iinc (z := 2) rfl rfl (by decide) rfl rfl ?_
  refine g_goto (tgt := 70) rfl (by decide) ?_
  refine g_iload_n rfl rfl ?_
  refine g_bipush rfl ⟨by decide, by decide⟩ (by decide) ?_
  refine g_icmp_ge (tgt := 102) rfl (by decide) (fun hx => absurd hx (by decide)) (fun _ => ?_)
  refine g_aload_n rfl rfl ?_
  refine y_getr (v := some 126) hq rfl rfl (by decide) (Or.inr ⟨_, rfl⟩) rfl ?_
  refine g_iload_n rfl rfl ?_
  refine y_new (n1 := 145) (b1 := 335) hq rfl rfl (fun _ => ⟨rfl, rfl⟩) (by decide) (by decide) rfl rfl ?_
  refine g_dupr rfl ?_
  refine g_gets rfl ?_
  refine g_iload_n rfl rfl ?_
  refine g_iconst rfl ⟨by decide, by decide⟩ ?_
  refine y_idiv (z := 1) rfl (by decide) (by decide) ?_
  refine y_sald (i0 := 1) (v := 60) rfl (by decide) (by decide) (by show _ < ((4 : Nat) : Int); decide) rfl ?_
  change tp_go G mX9_init 92 _ _ tp_mm78 _ _ _ _
  refine y_I (as := [tI 60]) (b1 := 215) (c_X6_init_144 hq) rfl rfl mX6_init_ok rfl (by decide) rfl rfl rfl rfl (by decide) rfl ?_
  rintro _ _ ⟨rfl, rfl⟩ _
  refine g_aast (ci := 6) (t0 := 5) rfl (by decide) rfl rfl rfl hq (by decide) (by decide) (by decide) (by decide) ?_
  refine y_iinc (z := 3) rfl rfl (by decide) rfl rfl ?_
  refine g_goto (tgt := 70) rfl (by decide) ?_
  refine g_iload_n rfl rfl ?_
  refine g_bipush rfl ⟨by decide, by decide⟩ (by decide) ?_
  refine g_icmp_ge (tgt := 102) rfl (by decide) (fun hx => absurd hx (by decide)) (fun _ => ?_)
  refine g_aload_n rfl rfl ?_
  refine y_getr (v := some 126) hq rfl rfl (by decide) (Or.inr ⟨_, rfl⟩) rfl ?_
  refine g_iload_n rfl rfl ?_
  refine y_new (n1 := 148) (b1 := 212) hq rfl rfl (fun _ => ⟨rfl, rfl⟩) (by decide) (by decide) rfl rfl ?_
  refine g_dupr rfl ?_
  refine g_gets rfl ?_
  refine g_iload_n rfl rfl ?_
  refine g_iconst rfl ⟨by decide, by decide⟩ ?_
  refine y_idiv (z := 1) rfl (by decide) (by decide) ?_
  refine y_sald (i0 := 1) (v := 60) rfl (by decide) (by decide) (by show _ < ((4 : Nat) : Int); decide) rfl ?_
  change tp_go G mX9_init 92 _ _ tp_mm80 _ _ _ _
  refine y_I (as := [tI 60]) (b1 := 92) (c_X6_init_147 hq) rfl rfl mX6_init_ok rfl (by decide) rfl rfl rfl rfl (by decide) rfl ?_
  rintro _ _ ⟨rfl, rfl⟩ _
  refine g_aast (ci := 6) (t0 := 5) rfl (by decide) rfl rfl rfl hq (by decide) (by decide) (by decide) (by decide) ?_
  refine y_iinc (z := 4) rfl rfl (by decide) rfl rfl ?_
  refine g_goto (tgt := 70) rfl (by decide) ?_
  refine g_iload_n rfl rfl ?_
  refine g_bipush rfl ⟨by decide, by decide⟩ (by decide) ?_
  refine g_icmp_ge (tgt := 102) rfl (by decide) (fun hx => absurd hx (by decide)) (fun _ => ?_)
  refine g_aload_n rfl rfl ?_
  refine y_getr (v := some 126) hq rfl rfl (by decide) (Or.inr ⟨_, rfl⟩) rfl ?_
  refine g_iload_n rfl rfl ?_
  refine y_new (n1 := 151) (b1 := 89) hq rfl rfl (fun _ => ⟨rfl, rfl⟩) (by decide) (by decide) rfl rfl ?_
  refine g_dupr rfl ?_
  refine g_gets rfl ?_
  refine g_iload_n rfl rfl ?_
  refine g_iconst rfl ⟨by decide, by decide⟩ ?_
  refine y_idiv (z := 2) rfl (by decide) (by decide) ?_
  refine y_sald (i0 := 1) (v := 12) rfl (by decide) (by decide) (by show _ < ((4 : Nat) : Int); decide) rfl ?_
  change tp_go G mX9_init 92 _ _ tp_mm82 _ _ _ _
  refine y_I (as := [tI 12]) (b1 := 65) (c_X6_init_150 hq) rfl rfl mX6_init_ok rfl (by decide) rfl rfl rfl rfl (by decide) rfl ?_
  rintro _ _ ⟨rfl, rfl⟩ _
  refine g_aast (ci := 6) (t0 := 5) rfl (by decide) rfl rfl rfl hq (by decide) (by decide) (by decide) (by decide) ?_
  refine y_iinc (z := 5) rfl rfl (by decide) rfl rfl ?_
  refine g_goto (tgt := 70) rfl (by decide) ?_
  refine g_iload_n rfl rfl ?_
  refine g_bipush rfl ⟨by decide, by decide⟩ (by decide) ?_
  refine g_icmp_ge (tgt := 102) rfl (by decide) (fun hx => absurd hx (by decide)) (fun _ => ?_)
  refine g_aload_n rfl rfl ?_
  refine y_getr (v := some 126) hq rfl rfl (by decide) (Or.inr ⟨_, rfl⟩) rfl ?_
  refine g_iload_n rfl rfl ?_
  refine y_new (n1 := 154) (b1 := 62) hq rfl rfl (fun _ => ⟨rfl, rfl⟩) (by decide) (by decide) rfl rfl ?_
  refine g_dupr rfl ?_
  refine g_gets rfl ?_
  refine g_iload_n rfl rfl ?_
  refine g_iconst rfl ⟨by decide, by decide⟩ ?_
  refine y_idiv (z := 2) rfl (by decide) (by decide) ?_
  refine y_sald (i0 := 1) (v := 12) rfl (by decide) (by decide) (by show _ < ((4 : Nat) : Int); decide) rfl ?_
  change tp_go G mX9_init 92 _ _ tp_mm84 _ _ _ _
  refine y_I (as := [tI 12]) (b1 := 38) (c_X6_init_153 hq) rfl rfl mX6_init_ok rfl (by decide) rfl rfl rfl rfl (by decide) rfl ?_
  rintro _ _ ⟨rfl, rfl⟩ _
  refine g_aast (ci := 6) (t0 := 5) rfl (by decide) rfl rfl rfl hq (by decide) (by decide) (by decide) (by decide) ?_
  refine y_iinc (z := 6) rfl rfl (by decide) rfl rfl ?_
  refine g_goto (tgt := 70) rfl (by decide) ?_
  refine g_iload_n rfl rfl ?_
  refine g_bipush rfl ⟨by decide, by decide⟩ (by decide) ?_
  refine g_icmp_ge (tgt := 102) rfl (by decide) (fun hx => absurd hx (by decide)) (fun _ => ?_)
  refine g_aload_n rfl rfl ?_
  refine y_getr (v := some 126) hq rfl rfl (by decide) (Or.inr ⟨_, rfl⟩) rfl ?_
  refine g_iload_n rfl rfl ?_
  refine y_new (n1 := 157) (b1 := 35) hq rfl rfl (fun _ => ⟨rfl, rfl⟩) (by decide) (by decide) rfl rfl ?_
  refine g_dupr rfl ?_
  refine g_gets rfl ?_
  refine g_iload_n rfl rfl ?_
  refine g_iconst rfl ⟨by decide, by decide⟩ ?_
  refine y_idiv (z := 3) rfl (by decide) (by decide) ?_
  refine y_sald (i0 := 1) (v := 8) rfl (by decide) (by decide) (by show _ < ((4 : Nat) : Int); decide) rfl ?_
  change tp_go G mX9_init 92 _ _ tp_mm86 _ _ _ _
  refine y_I (as := [tI 8]) (b1 := 19) (c_X6_init_156 hq) rfl rfl mX6_init_ok rfl (by decide) rfl rfl rfl rfl (by decide) rfl ?_
  rintro _ _ ⟨rfl, rfl⟩ _
  refine g_aast (ci := 6) (t0 := 5) rfl (by decide) rfl rfl rfl hq (by decide) (by decide) (by decide) (by decide) ?_
  refine y_iinc (z := 7) rfl rfl (by decide) rfl rfl ?_
  refine g_goto (tgt := 70) rfl (by decide) ?_
  refine g_iload_n rfl rfl ?_
  refine g_bipush rfl ⟨by decide, by decide⟩ (by decide) ?_
  refine g_icmp_ge (tgt := 102) rfl (by decide) (fun hx => absurd hx (by decide)) (fun _ => ?_)
  refine g_aload_n rfl rfl ?_
  refine y_getr (v := some 126) hq rfl rfl (by decide) (Or.inr ⟨_, rfl⟩) rfl ?_
  refine g_iload_n rfl rfl ?_
  refine y_new (n1 := 160) (b1 := 16) hq rfl rfl (fun _ => ⟨rfl, rfl⟩) (by decide) (by decide) rfl rfl ?_
  refine g_dupr rfl ?_
  refine g_gets rfl ?_
  refine g_iload_n rfl rfl ?_
  refine g_iconst rfl ⟨by decide, by decide⟩ ?_
  refine y_idiv (z := 3) rfl (by decide) (by decide) ?_
  refine y_sald (i0 := 1) (v := 8) rfl (by decide) (by decide) (by show _ < ((4 : Nat) : Int); decide) rfl ?_
  change tp_go G mX9_init 92 _ _ tp_mm88 _ _ _ _
  refine y_I (as := [tI 8]) (b1 := 0) (c_X6_init_159 hq) rfl rfl mX6_init_ok rfl (by decide) rfl rfl rfl rfl (by decide) rfl ?_
  rintro _ _ ⟨rfl, rfl⟩ _
  refine g_aast (ci := 6) (t0 := 5) rfl (by decide) rfl rfl rfl hq (by decide) (by decide) (by decide) (by decide) ?_
  refine y_iinc (z := 8) rfl rfl (by decide) rfl rfl ?_
  refine g_goto (tgt := 70) rfl (by decide) ?_
  refine g_iload_n rfl rfl ?_
  refine g_bipush rfl ⟨by decide, by decide⟩ (by decide) ?_
  refine g_icmp_ge (tgt := 102) rfl (by decide) (fun _ => ?_) (fun hx => absurd hx (by decide))
  refine g_return (st := []) rfl rfl ?_
  exact ⟨rfl, rfl⟩
def tp_mm91 : tp_M := (tp_pr tp_mm90 40 1 (some 123))
def tp_mm92 : tp_M := (tp_pr (tp_pr (tp_pr (tp_pi (tp_pr tp_mm91 162 0 (some 163)) 162 3 (-1)) 162 5 (some 164)) 162 6 (some 165)) 162 7 (some 166))
def tp_mm93 : tp_M := (tp_pr (tp_pr (tp_pr (tp_pr tp_mm92 167 0 (some 168)) 167 1 (some 169)) 167 2 (some 170)) 167 3 (some 171))
set_option maxHeartbeats 4000000 in
set_option maxRecDepth 100000 in
theorem c_X0_init_167 {G : tp_G} (hq : tp_Gf G = false) : tp_ok G mX0_init [tR (some 167)] tp_mm92 168 172 128 (fun r μ' => r = none ∧ μ' = tp_mm93) := by
  refine tp_ok_of mX0_init_ok rfl (by decide) ?_
  refine g_aload_n rfl rfl ?_
  refine g_obj rfl (by decide) rfl ?_
  refine g_aload_n rfl rfl ?_
  refine g_bipush rfl ⟨by decide, by decide⟩ (by decide) ?_
  refine y_newa (len := 40) (t0 := 0) (n1 := 169) (b1 := 88) hq rfl rfl (Or.inl rfl) rfl rfl (by decide) rfl (fun _ => ⟨rfl, rfl⟩) (by decide) (by decide) rfl rfl ?_
  refine g_putF rfl rfl (by decide) rfl rfl rfl (Or.inr ⟨_, rfl⟩) (Or.inl hq) ?_
  refine g_aload_n rfl rfl ?_
  refine g_bipush rfl ⟨by decide, by decide⟩ (by decide) ?_
  refine y_newa (len := 40) (t0 := 0) (n1 := 170) (b1 := 48) hq rfl rfl (Or.inl rfl) rfl rfl (by decide) rfl (fun _ => ⟨rfl, rfl⟩) (by decide) (by decide) rfl rfl ?_
  refine g_putF rfl rfl (by decide) rfl rfl rfl (Or.inr ⟨_, rfl⟩) (Or.inl hq) ?_
  refine g_aload_n rfl rfl ?_
  refine g_bipush rfl ⟨by decide, by decide⟩ (by decide) ?_
  refine y_newa (len := 40) (t0 := 0) (n1 := 171) (b1 := 8) hq rfl rfl (Or.inl rfl) rfl rfl (by decide) rfl (fun _ => ⟨rfl, rfl⟩) (by decide) (by decide) rfl rfl ?_
  refine g_putF rfl rfl (by decide) rfl rfl rfl (Or.inr ⟨_, rfl⟩) (Or.inl hq) ?_
  refine g_aload_n rfl rfl ?_
  refine g_bipush rfl ⟨by decide, by decide⟩ (by decide) ?_
  refine y_newa (len := 8) (t0 := 0) (n1 := 172) (b1 := 0) hq rfl rfl (Or.inl rfl) rfl rfl (by decide) rfl (fun _ => ⟨rfl, rfl⟩) (by decide) (by decide) rfl rfl ?_
  refine g_putF rfl rfl (by decide) rfl rfl rfl (Or.inr ⟨_, rfl⟩) (Or.inl hq) ?_
  refine g_return (st := []) rfl rfl ?_
  exact ⟨rfl, rfl⟩
def tp_mm94 : tp_M := (tp_pr tp_mm93 164 0 (some 167))
def tp_mm95 : tp_M := (tp_pr (tp_pr (tp_pr (tp_pr tp_mm94 172 0 (some 173)) 172 1 (some 174)) 172 2 (some 175)) 172 3 (some 176))
set_option maxHeartbeats 4000000 in
set_option maxRecDepth 100000 in
theorem c_X0_init_172 {G : tp_G} (hq : tp_Gf G = false) : tp_ok G mX0_init [tR (some 172)] tp_mm94 173 177 128 (fun r μ' => r = none ∧ μ' = tp_mm95) := by
  refine tp_ok_of mX0_init_ok rfl (by decide) ?_
  refine g_aload_n rfl rfl ?_
  refine g_obj rfl (by decide) rfl ?_
  refine g_aload_n rfl rfl ?_
  refine g_bipush rfl ⟨by decide, by decide⟩ (by decide) ?_
  refine y_newa (len := 40) (t0 := 0) (n1 := 174) (b1 := 88) hq rfl rfl (Or.inl rfl) rfl rfl (by decide) rfl (fun _ => ⟨rfl, rfl⟩) (by decide) (by decide) rfl rfl ?_
  refine g_putF rfl rfl (by decide) rfl rfl rfl (Or.inr ⟨_, rfl⟩) (Or.inl hq) ?_
  refine g_aload_n rfl rfl ?_
  refine g_bipush rfl ⟨by decide, by decide⟩ (by decide) ?_
  refine y_newa (len := 40) (t0 := 0) (n1 := 175) (b1 := 48) hq rfl rfl (Or.inl rfl) rfl rfl (by decide) rfl (fun _ => ⟨rfl, rfl⟩) (by decide) (by decide) rfl rfl ?_
  refine g_putF rfl rfl (by decide) rfl rfl rfl (Or.inr ⟨_, rfl⟩) (Or.inl hq) ?_
  refine g_aload_n rfl rfl ?_
  refine g_bipush rfl ⟨by decide, by decide⟩ (by decide) ?_
  refine y_newa (len := 40) (t0 := 0) (n1 := 176) (b1 := 8) hq rfl rfl (Or.inl rfl) rfl rfl (by decide) rfl (fun _ => ⟨rfl, rfl⟩) (by decide) (by decide) rfl rfl ?_
  refine g_putF rfl rfl (by decide) rfl rfl rfl (Or.inr ⟨_, rfl⟩) (Or.inl hq) ?_
  refine g_aload_n rfl rfl ?_
  refine g_bipush rfl ⟨by decide, by decide⟩ (by decide) ?_
  refine y_newa (len := 8) (t0 := 0) (n1 := 177) (b1 := 0) hq rfl rfl (Or.inl rfl) rfl rfl (by decide) rfl (fun _ => ⟨rfl, rfl⟩) (by decide) (by decide) rfl rfl ?_
  refine g_putF rfl rfl (by decide) rfl rfl rfl (Or.inr ⟨_, rfl⟩) (Or.inl hq) ?_
  refine g_return (st := []) rfl rfl ?_
  exact ⟨rfl, rfl⟩
def tp_mm96 : tp_M := (tp_pr tp_mm95 164 1 (some 172))
def tp_mm97 : tp_M := (tp_pr (tp_pr tp_mm96 177 0 (some 178)) 177 1 (some 179))
set_option maxHeartbeats 4000000 in
set_option maxRecDepth 100000 in
theorem c_X6_init_177 {G : tp_G} (hq : tp_Gf G = false) : tp_ok G mX6_init [tR (some 177), tI 0] tp_mm96 178 180 0 (fun r μ' => r = none ∧ μ' = tp_mm97) := by
  refine tp_ok_of mX6_init_ok rfl (by decide) ?_
  refine g_aload_n rfl rfl ?_
  refine g_obj rfl (by decide) rfl ?_
  refine g_iload_n rfl rfl ?_
  refine g_iconst rfl ⟨by decide, by decide⟩ ?_
  refine y_max (z := 0) rfl rfl (by decide) ?_
  refine g_istore_n rfl rfl rfl ?_
  refine g_aload_n rfl rfl ?_
  refine g_iload_n rfl rfl ?_
  refine y_newa (len := 0) (t0 := 0) (n1 := 179) (b1 := 0) hq rfl rfl (Or.inl rfl) rfl rfl (by decide) rfl (fun _ => ⟨rfl, rfl⟩) (by decide) (by decide) rfl rfl ?_
  refine g_putF rfl rfl (by decide) rfl rfl rfl (Or.inr ⟨_, rfl⟩) (Or.inl hq) ?_
  refine g_aload_n rfl rfl ?_
  refine g_iload_n rfl rfl ?_
  refine y_newa (len := 0) (t0 := 0) (n1 := 180) (b1 := 0) hq rfl rfl (Or.inl rfl) rfl rfl (by decide) rfl (fun _ => ⟨rfl, rfl⟩) (by decide) (by decide) rfl rfl ?_
  refine g_putF rfl rfl (by decide) rfl rfl rfl (Or.inr ⟨_, rfl⟩) (Or.inl hq) ?_
  refine g_return (st := []) rfl rfl ?_
  exact ⟨rfl, rfl⟩
def tp_mm98 : tp_M := (tp_pr tp_mm97 165 0 (some 177))
def tp_mm99 : tp_M := (tp_pr (tp_pr tp_mm98 180 0 (some 181)) 180 1 (some 182))
set_option maxHeartbeats 4000000 in
set_option maxRecDepth 100000 in
theorem c_X6_init_180 {G : tp_G} (hq : tp_Gf G = false) : tp_ok G mX6_init [tR (some 180), tI 0] tp_mm98 181 183 0 (fun r μ' => r = none ∧ μ' = tp_mm99) := by
  refine tp_ok_of mX6_init_ok rfl (by decide) ?_
  refine g_aload_n rfl rfl ?_
  refine g_obj rfl (by decide) rfl ?_
  refine g_iload_n rfl rfl ?_
  refine g_iconst rfl ⟨by decide, by decide⟩ ?_
  refine y_max (z := 0) rfl rfl (by decide) ?_
  refine g_istore_n rfl rfl rfl ?_
  refine g_aload_n rfl rfl ?_
  refine g_iload_n rfl rfl ?_
  refine y_newa (len := 0) (t0 := 0) (n1 := 182) (b1 := 0) hq rfl rfl (Or.inl rfl) rfl rfl (by decide) rfl (fun _ => ⟨rfl, rfl⟩) (by decide) (by decide) rfl rfl ?_
  refine g_putF rfl rfl (by decide) rfl rfl rfl (Or.inr ⟨_, rfl⟩) (Or.inl hq) ?_
  refine g_aload_n rfl rfl ?_
  refine g_iload_n rfl rfl ?_
  refine y_newa (len := 0) (t0 := 0) (n1 := 183) (b1 := 0) hq rfl rfl (Or.inl rfl) rfl rfl (by decide) rfl (fun _ => ⟨rfl, rfl⟩) (by decide) (by decide) rfl rfl ?_
  refine g_putF rfl rfl (by decide) rfl rfl rfl (Or.inr ⟨_, rfl⟩) (Or.inl hq) ?_
  refine g_return (st := []) rfl rfl ?_
  exact ⟨rfl, rfl⟩
def tp_mm100 : tp_M := (tp_pr tp_mm99 165 1 (some 180))
def tp_mm101 : tp_M := (tp_pr (tp_pr tp_mm100 183 0 (some 184)) 183 1 (some 185))
set_option maxHeartbeats 4000000 in
set_option maxRecDepth 100000 in
theorem c_X6_init_183 {G : tp_G} (hq : tp_Gf G = false) : tp_ok G mX6_init [tR (some 183), tI 60] tp_mm100 184 186 120 (fun r μ' => r = none ∧ μ' = tp_mm101) := by
  refine tp_ok_of mX6_init_ok rfl (by decide) ?_
  refine g_aload_n rfl rfl ?_
  refine g_obj rfl (by decide) rfl ?_
  refine g_iload_n rfl rfl ?_
  refine g_iconst rfl ⟨by decide, by decide⟩ ?_
  refine y_max (z := 60) rfl rfl (by decide) ?_
  refine g_istore_n rfl rfl rfl ?_
  refine g_aload_n rfl rfl ?_
  refine g_iload_n rfl rfl ?_
  refine y_newa (len := 60) (t0 := 0) (n1 := 185) (b1 := 60) hq rfl rfl (Or.inl rfl) rfl rfl (by decide) rfl (fun _ => ⟨rfl, rfl⟩) (by decide) (by decide) rfl rfl ?_
  refine g_putF rfl rfl (by decide) rfl rfl rfl (Or.inr ⟨_, rfl⟩) (Or.inl hq) ?_
  refine g_aload_n rfl rfl ?_
  refine g_iload_n rfl rfl ?_
  refine y_newa (len := 60) (t0 := 0) (n1 := 186) (b1 := 0) hq rfl rfl (Or.inl rfl) rfl rfl (by decide) rfl (fun _ => ⟨rfl, rfl⟩) (by decide) (by decide) rfl rfl ?_
  refine g_putF rfl rfl (by decide) rfl rfl rfl (Or.inr ⟨_, rfl⟩) (Or.inl hq) ?_
  refine g_return (st := []) rfl rfl ?_
  exact ⟨rfl, rfl⟩
def tp_mm102 : tp_M := (tp_pr tp_mm101 165 2 (some 183))
def tp_mm103 : tp_M := (tp_pr (tp_pr tp_mm102 186 0 (some 187)) 186 1 (some 188))
set_option maxHeartbeats 4000000 in
set_option maxRecDepth 100000 in
theorem c_X6_init_186 {G : tp_G} (hq : tp_Gf G = false) : tp_ok G mX6_init [tR (some 186), tI 60] tp_mm102 187 189 120 (fun r μ' => r = none ∧ μ' = tp_mm103) := by
  refine tp_ok_of mX6_init_ok rfl (by decide) ?_
  refine g_aload_n rfl rfl ?_
  refine g_obj rfl (by decide) rfl ?_
  refine g_iload_n rfl rfl ?_
  refine g_iconst rfl ⟨by decide, by decide⟩ ?_
  refine y_max (z := 60) rfl rfl (by decide) ?_
  refine g_istore_n rfl rfl rfl ?_
  refine g_aload_n rfl rfl ?_
  refine g_iload_n rfl rfl ?_
  refine y_newa (len := 60) (t0 := 0) (n1 := 188) (b1 := 60) hq rfl rfl (Or.inl rfl) rfl rfl (by decide) rfl (fun _ => ⟨rfl, rfl⟩) (by decide) (by decide) rfl rfl ?_
  refine g_putF rfl rfl (by decide) rfl rfl rfl (Or.inr ⟨_, rfl⟩) (Or.inl hq) ?_
  refine g_aload_n rfl rfl ?_
  refine g_iload_n rfl rfl ?_
  refine y_newa (len := 60) (t0 := 0) (n1 := 189) (b1 := 0) hq rfl rfl (Or.inl rfl) rfl rfl (by decide) rfl (fun _ => ⟨rfl, rfl⟩) (by decide) (by decide) rfl rfl ?_
  refine g_putF rfl rfl (by decide) rfl rfl rfl (Or.inr ⟨_, rfl⟩) (Or.inl hq) ?_
  refine g_return (st := []) rfl rfl ?_
  exact ⟨rfl, rfl⟩
def tp_mm104 : tp_M := (tp_pr tp_mm103 165 3 (some 186))
def tp_mm105 : tp_M := (tp_pr (tp_pr tp_mm104 189 0 (some 190)) 189 1 (some 191))
set_option maxHeartbeats 4000000 in
set_option maxRecDepth 100000 in
theorem c_X6_init_189 {G : tp_G} (hq : tp_Gf G = false) : tp_ok G mX6_init [tR (some 189), tI 12] tp_mm104 190 192 24 (fun r μ' => r = none ∧ μ' = tp_mm105) := by
  refine tp_ok_of mX6_init_ok rfl (by decide) ?_
  refine g_aload_n rfl rfl ?_
  refine g_obj rfl (by decide) rfl ?_
  refine g_iload_n rfl rfl ?_
  refine g_iconst rfl ⟨by decide, by decide⟩ ?_
  refine y_max (z := 12) rfl rfl (by decide) ?_
  refine g_istore_n rfl rfl rfl ?_
  refine g_aload_n rfl rfl ?_
  refine g_iload_n rfl rfl ?_
  refine y_newa (len := 12) (t0 := 0) (n1 := 191) (b1 := 12) hq rfl rfl (Or.inl rfl) rfl rfl (by decide) rfl (fun _ => ⟨rfl, rfl⟩) (by decide) (by decide) rfl rfl ?_
  refine g_putF rfl rfl (by decide) rfl rfl rfl (Or.inr ⟨_, rfl⟩) (Or.inl hq) ?_
  refine g_aload_n rfl rfl ?_
  refine g_iload_n rfl rfl ?_
  refine y_newa (len := 12) (t0 := 0) (n1 := 192) (b1 := 0) hq rfl rfl (Or.inl rfl) rfl rfl (by decide) rfl (fun _ => ⟨rfl, rfl⟩) (by decide) (by decide) rfl rfl ?_
  refine g_putF rfl rfl (by decide) rfl rfl rfl (Or.inr ⟨_, rfl⟩) (Or.inl hq) ?_
  refine g_return (st := []) rfl rfl ?_
  exact ⟨rfl, rfl⟩
def tp_mm106 : tp_M := (tp_pr tp_mm105 165 4 (some 189))
def tp_mm107 : tp_M := (tp_pr (tp_pr tp_mm106 192 0 (some 193)) 192 1 (some 194))
set_option maxHeartbeats 4000000 in
set_option maxRecDepth 100000 in
theorem c_X6_init_192 {G : tp_G} (hq : tp_Gf G = false) : tp_ok G mX6_init [tR (some 192), tI 12] tp_mm106 193 195 24 (fun r μ' => r = none ∧ μ' = tp_mm107) := by
  refine tp_ok_of mX6_init_ok rfl (by decide) ?_
  refine g_aload_n rfl rfl ?_
  refine g_obj rfl (by decide) rfl ?_
  refine g_iload_n rfl rfl ?_
  refine g_iconst rfl ⟨by decide, by decide⟩ ?_
  refine y_max (z := 12) rfl rfl (by decide) ?_
  refine g_istore_n rfl rfl rfl ?_
  refine g_aload_n rfl rfl ?_
  refine g_iload_n rfl rfl ?_
  refine y_newa (len := 12) (t0 := 0) (n1 := 194) (b1 := 12) hq rfl rfl (Or.inl rfl) rfl rfl (by decide) rfl (fun _ => ⟨rfl, rfl⟩) (by decide) (by decide) rfl rfl ?_
  refine g_putF rfl rfl (by decide) rfl rfl rfl (Or.inr ⟨_, rfl⟩) (Or.inl hq) ?_
  refine g_aload_n rfl rfl ?_
  refine g_iload_n rfl rfl ?_
  refine y_newa (len := 12) (t0 := 0) (n1 := 195) (b1 := 0) hq rfl rfl (Or.inl rfl) rfl rfl (by decide) rfl (fun _ => ⟨rfl, rfl⟩) (by decide) (by decide) rfl rfl ?_
  refine g_putF rfl rfl (by decide) rfl rfl rfl (Or.inr ⟨_, rfl⟩) (Or.inl hq) ?_
  refine g_return (st := []) rfl rfl ?_
  exact ⟨rfl, rfl⟩
def tp_mm108 : tp_M := (tp_pr tp_mm107 165 5 (some 192))
def tp_mm109 : tp_M := (tp_pr (tp_pr tp_mm108 195 0 (some 196)) 195 1 (some 197))
set_option maxHeartbeats 4000000 in
set_option maxRecDepth 100000 in
theorem c_X6_init_195 {G : tp_G} (hq : tp_Gf G = false) : tp_ok G mX6_init [tR (some 195), tI 8] tp_mm108 196 198 16 (fun r μ' => r = none ∧ μ' = tp_mm109) := by
  refine tp_ok_of mX6_init_ok rfl (by decide) ?_
  refine g_aload_n rfl rfl ?_
  refine g_obj rfl (by decide) rfl ?_
  refine g_iload_n rfl rfl ?_
  refine g_iconst rfl ⟨by decide, by decide⟩ ?_
  refine y_max (z := 8) rfl rfl (by decide) ?_
  refine g_istore_n rfl rfl rfl ?_
  refine g_aload_n rfl rfl ?_
  refine g_iload_n rfl rfl ?_
  refine y_newa (len := 8) (t0 := 0) (n1 := 197) (b1 := 8) hq rfl rfl (Or.inl rfl) rfl rfl (by decide) rfl (fun _ => ⟨rfl, rfl⟩) (by decide) (by decide) rfl rfl ?_
  refine g_putF rfl rfl (by decide) rfl rfl rfl (Or.inr ⟨_, rfl⟩) (Or.inl hq) ?_
  refine g_aload_n rfl rfl ?_
  refine g_iload_n rfl rfl ?_
  refine y_newa (len := 8) (t0 := 0) (n1 := 198) (b1 := 0) hq rfl rfl (Or.inl rfl) rfl rfl (by decide) rfl (fun _ => ⟨rfl, rfl⟩) (by decide) (by decide) rfl rfl ?_
  refine g_putF rfl rfl (by decide) rfl rfl rfl (Or.inr ⟨_, rfl⟩) (Or.inl hq) ?_
  refine g_return (st := []) rfl rfl ?_
  exact ⟨rfl, rfl⟩
def tp_mm110 : tp_M := (tp_pr tp_mm109 165 6 (some 195))
def tp_mm111 : tp_M := (tp_pr (tp_pr tp_mm110 198 0 (some 199)) 198 1 (some 200))
set_option maxHeartbeats 4000000 in
set_option maxRecDepth 100000 in
theorem c_X6_init_198 {G : tp_G} (hq : tp_Gf G = false) : tp_ok G mX6_init [tR (some 198), tI 8] tp_mm110 199 201 16 (fun r μ' => r = none ∧ μ' = tp_mm111) := by
  refine tp_ok_of mX6_init_ok rfl (by decide) ?_
  refine g_aload_n rfl rfl ?_
  refine g_obj rfl (by decide) rfl ?_
  refine g_iload_n rfl rfl ?_
  refine g_iconst rfl ⟨by decide, by decide⟩ ?_
  refine y_max (z := 8) rfl rfl (by decide) ?_
  refine g_istore_n rfl rfl rfl ?_
  refine g_aload_n rfl rfl ?_
  refine g_iload_n rfl rfl ?_
  refine y_newa (len := 8) (t0 := 0) (n1 := 200) (b1 := 8) hq rfl rfl (Or.inl rfl) rfl rfl (by decide) rfl (fun _ => ⟨rfl, rfl⟩) (by decide) (by decide) rfl rfl ?_
  refine g_putF rfl rfl (by decide) rfl rfl rfl (Or.inr ⟨_, rfl⟩) (Or.inl hq) ?_
  refine g_aload_n rfl rfl ?_
  refine g_iload_n rfl rfl ?_
  refine y_newa (len := 8) (t0 := 0) (n1 := 201) (b1 := 0) hq rfl rfl (Or.inl rfl) rfl rfl (by decide) rfl (fun _ => ⟨rfl, rfl⟩) (by decide) (by decide) rfl rfl ?_
  refine g_putF rfl rfl (by decide) rfl rfl rfl (Or.inr ⟨_, rfl⟩) (Or.inl hq) ?_
  refine g_return (st := []) rfl rfl ?_
  exact ⟨rfl, rfl⟩
def tp_mm112 : tp_M := (tp_pr tp_mm111 165 7 (some 198))
set_option maxHeartbeats 4000000 in
set_option maxRecDepth 100000 in
theorem c_X9_init_162 {G : tp_G} (hq : tp_Gf G = false) : tp_ok G mX9_init [tR (some 162)] tp_mm91 163 201 1224 (fun r μ' => r = none ∧ μ' = tp_mm112) := by
  refine tp_ok_of mX9_init_ok rfl (by decide) ?_
  refine g_aload_n rfl rfl ?_
  refine g_obj rfl (by decide) rfl ?_
  refine g_aload_n rfl rfl ?_
  refine g_sipush rfl ⟨by decide, by decide⟩ (by decide) ?_
  refine y_newa (len := 600) (t0 := 1) (n1 := 164) (b1 := 624) hq rfl rfl (Or.inr (Or.inl rfl)) rfl rfl (by decide) rfl (fun _ => ⟨rfl, rfl⟩) (by decide) (by decide) rfl rfl ?_
  refine g_putF rfl rfl (by decide) rfl rfl rfl (Or.inr ⟨_, rfl⟩) (Or.inl hq) ?_
  refine g_aload_n rfl rfl ?_
  refine g_iconst rfl ⟨by decide, by decide⟩ ?_
  refine g_puti rfl rfl (by decide) rfl rfl ?_
  refine g_aload_n rfl rfl ?_
  refine g_iconst rfl ⟨by decide, by decide⟩ ?_
  refine y_anew (len := 2) (t0 := 4) (n1 := 165) (b1 := 622) hq rfl rfl rfl (by decide) rfl (fun _ => ⟨rfl, rfl⟩) (by decide) (by decide) rfl rfl ?_
  refine g_putF rfl rfl (by decide) rfl rfl rfl (Or.inr ⟨_, rfl⟩) (Or.inl hq) ?_
  refine g_aload_n rfl rfl ?_
  refine g_bipush rfl ⟨by decide, by decide⟩ (by decide) ?_
  refine y_anew (len := 8) (t0 := 5) (n1 := 166) (b1 := 614) hq rfl rfl rfl (by decide) rfl (fun _ => ⟨rfl, rfl⟩) (by decide) (by decide) rfl rfl ?_
  refine g_putF rfl rfl (by decide) rfl rfl rfl (Or.inr ⟨_, rfl⟩) (Or.inl hq) ?_
  refine g_aload_n rfl rfl ?_
  refine g_iconst rfl ⟨by decide, by decide⟩ ?_
  refine y_newa (len := 4) (t0 := 0) (n1 := 167) (b1 := 610) hq rfl rfl (Or.inl rfl) rfl rfl (by decide) rfl (fun _ => ⟨rfl, rfl⟩) (by decide) (by decide) rfl rfl ?_
  refine g_putF rfl rfl (by decide) rfl rfl rfl (Or.inr ⟨_, rfl⟩) (Or.inl hq) ?_
  refine g_iconst rfl ⟨by decide, by decide⟩ ?_
  refine g_istore_n rfl rfl rfl ?_
  refine g_iload_n rfl rfl ?_
  refine g_iconst rfl ⟨by decide, by decide⟩ ?_
  refine g_icmp_ge (tgt := 68) rfl (by decide) (fun hx => absurd hx (by decide)) (fun _ => ?_)
  refine g_aload_n rfl rfl ?_
  refine y_getr (v := some 164) hq rfl rfl (by decide) (Or.inr ⟨_, rfl⟩) rfl ?_
  refine g_iload_n rfl rfl ?_
  refine y_new (n1 := 168) (b1 := 605) hq rfl rfl (fun _ => ⟨rfl, rfl⟩) (by decide) (by decide) rfl rfl ?_
  refine g_dupr rfl ?_
  change tp_go G mX9_init 58 _ _ tp_mm92 _ _ _ _
  refine y_IN (as := []) (b1 := 477) (c_X0_init_167 hq) rfl rfl mX0_init_ok rfl (by decide) rfl rfl rfl rfl (by decide) rfl ?_
  rintro _ _ ⟨rfl, rfl⟩ _
  refine g_aast (ci := 0) (t0 := 4) rfl (by decide) rfl rfl rfl hq (by decide) (by decide) (by decide) (by decide) ?_
  refine y_iinc (z := 1) rfl rfl (by decide) rfl rfl ?_
  refine g_goto (tgt := 44) rfl (by decide) ?_
  refine g_iload_n rfl rfl ?_
  refine g_iconst rfl ⟨by decide, by decide⟩ ?_
  refine g_icmp_ge (tgt := 68) rfl (by decide) (fun hx => absurd hx (by decide)) (fun _ => ?_)
  refine g_aload_n rfl rfl ?_
  refine y_getr (v := some 164) hq rfl rfl (by decide) (Or.inr ⟨_, rfl⟩) rfl ?_
  refine g_iload_n rfl rfl ?_
  refine y_new (n1 := 173) (b1 := 472) hq rfl rfl (fun _ => ⟨rfl, rfl⟩) (by decide) (by decide) rfl rfl ?_
  refine g_dupr rfl ?_
  change tp_go G mX9_init 58 _ _ tp_mm94 _ _ _ _
  refine y_IN (as := []) (b1 := 344) (c_X0_init_172 hq) rfl rfl mX0_init_ok rfl (by decide) rfl rfl rfl rfl (by decide) rfl ?_
  rintro _ _ ⟨rfl, rfl⟩ _
  refine g_aast (ci := 0) (t0 := 4) rfl (by decide) rfl rfl rfl hq (by decide) (by decide) (by decide) (by decide) ?_
  refine y_iinc (z := 2) rfl rfl (by decide) rfl rfl ?_
  refine g_goto (tgt := 44) rfl (by decide) ?_
  refine g_iload_n rfl rfl ?_
  refine g_iconst rfl ⟨by decide, by decide⟩ ?_
  refine g_icmp_ge (tgt := 68) rfl (by decide) (fun _ => ?_) (fun hx => absurd hx (by decide))
  refine g_iconst rfl ⟨by decide, by decide⟩ ?_
  refine g_istore_n rfl rfl rfl ?_
  refine g_iload_n rfl rfl ?_
  refine g_bipush rfl ⟨by decide, by decide⟩ (by decide) ?_
  refine g_icmp_ge (tgt := 102) rfl (by decide) (fun hx => absurd hx (by decide)) (fun _ => ?_)
  refine g_aload_n rfl rfl ?_
  refine y_getr (v := some 165) hq rfl rfl (by decide) (Or.inr ⟨_, rfl⟩) rfl ?_
  refine g_iload_n rfl rfl ?_
  refine y_new (n1 := 178) (b1 := 341) hq rfl rfl (fun _ => ⟨rfl, rfl⟩) (by decide) (by decide) rfl rfl ?_
  refine g_dupr rfl ?_
  refine g_gets rfl ?_
  refine g_iload_n rfl rfl ?_
  refine g_iconst rfl ⟨by decide, by decide⟩ ?_
  refine y_idiv (z := 0) rfl (by decide) (by decide) ?_
  refine y_sald (i0 := 1) (v := 0) rfl (by decide) (by decide) (by show _ < ((4 : Nat) : Int); decide) rfl ?_
  change tp_go G mX9_init 92 _ _ tp_mm96 _ _ _ _
  refine y_I (as := [tI 0]) (b1 := 341) (c_X6_init_177 hq) rfl rfl mX6_init_ok rfl (by decide) rfl rfl rfl rfl (by decide) rfl ?_
  rintro _ _ ⟨rfl, rfl⟩ _
  refine g_aast (ci := 6) (t0 := 5) rfl (by decide) rfl rfl rfl hq (by decide) (by decide) (by decide) (by decide) ?_
  refine y_iinc (z := 1) rfl rfl (by decide) rfl rfl ?_
  refine g_goto (tgt := 70) rfl (by decide) ?_
  refine g_iload_n rfl rfl ?_
  refine g_bipush rfl ⟨by decide, by decide⟩ (by decide) ?_
  refine g_icmp_ge (tgt := 102) rfl (by decide) (fun hx => absurd hx (by decide)) (fun _ => ?_)
  refine g_aload_n rfl rfl ?_
  refine y_getr (v := some 165) hq rfl rfl (by decide) (Or.inr ⟨_, rfl⟩) rfl ?_
  refine g_iload_n rfl rfl ?_
  refine y_new (n1 := 181) (b1 := 338) hq rfl rfl (fun _ => ⟨rfl, rfl⟩) (by decide) (by decide) rfl rfl ?_
  refine g_dupr rfl ?_
  refine g_gets rfl ?_
  refine g_iload_n rfl rfl ?_
  refine g_iconst rfl ⟨by decide, by decide⟩ ?_
  refine y_idiv (z := 0) rfl (by decide) (by decide) ?_
  refine y_sald (i0 := 1) (v := 0) rfl (by decide) (by decide) (by show _ < ((4 : Nat) : Int); decide) rfl ?_
  change tp_go G mX9_init 92 _ _ tp_mm98 _ _ _ _
  refine y_I (as := [tI 0]) (b1 := 338) (c_X6_init_180 hq) rfl rfl mX6_init_ok rfl (by decide) rfl rfl rfl rfl (by decide) rfl ?_
  rintro _ _ ⟨rfl, rfl⟩ _
  refine g_aast (ci := 6) (t0 := 5) rfl (by decide) rfl rfl rfl hq (by decide) (by decide) (by decide) (by decide) ?_
  refine y_iinc (z := 2) rfl rfl (by decide) rfl rfl ?_
  refine g_goto (tgt := 70) rfl (by decide) ?_
  refine g_iload_n rfl rfl ?_
  refine g_bipush rfl ⟨by decide, by decide⟩ (by decide) ?_
  refine g_icmp_ge (tgt := 102) rfl (by decide) (fun hx => absurd hx (by decide)) (fun _ => ?_)
  refine g_aload_n rfl rfl ?_
  refine y_getr (v := some 165) hq rfl rfl (by decide) (Or.inr ⟨_, rfl⟩) rfl ?_
  refine g_iload_n rfl rfl ?_
  refine y_new (n1 := 184) (b1 := 335) hq rfl rfl (fun _ => ⟨rfl, rfl⟩) (by decide) (by decide) rfl rfl ?_
  refine g_dupr rfl ?_
  refine g_gets rfl ?_
  refine g_iload_n rfl rfl ?_
  refine g_iconst rfl ⟨by decide, by decide⟩ ?_
  refine y_idiv (z := 1) rfl (by decide) (by decide) ?_
  refine y_sald (i0 := 1) (v := 60) rfl (by decide) (by decide) (by show _ < ((4 : Nat) : Int); decide) rfl ?_
  change tp_go G mX9_init 92 _ _ tp_mm100 _ _ _ _
  refine y_I (as := [tI 60]) (b1 := 215) (c_X6_init_183 hq) rfl rfl mX6_init_ok rfl (by decide) rfl rfl rfl rfl (by decide) rfl ?_
  rintro _ _ ⟨rfl, rfl⟩ _
  refine g_aast (ci := 6) (t0 := 5) rfl (by decide) rfl rfl rfl hq (by decide) (by decide) (by decide) (by decide) ?_
  refine y_iinc (z := 3) rfl rfl (by decide) rfl rfl ?_
  refine g_goto (tgt := 70) rfl (by decide) ?_
  refine g_iload_n rfl rfl ?_
  refine g_bipush rfl ⟨by decide, by decide⟩ (by decide) ?_
  refine g_icmp_ge (tgt := 102) rfl (by decide) (fun hx => absurd hx (by decide)) (fun _ => ?_)
  refine g_aload_n rfl rfl ?_
  refine y_getr (v := some 165) hq rfl rfl (by decide) (Or.inr ⟨_, rfl⟩) rfl ?_
  refine g_iload_n rfl rfl ?_
  refine y_new (n1 := 187) (b1 := 212) hq rfl rfl (fun _ => ⟨rfl, rfl⟩) (by decide) (by decide) rfl rfl ?_
  refine g_dupr rfl ?_
  refine g_gets rfl ?_
  refine g_iload_n rfl rfl ?_
  refine g_iconst rfl ⟨by decide, by decide⟩ ?_
  refine y_idiv (z := 1) rfl (by decide) (by decide) ?_
  refine y_sald (i0 := 1) (v := 60) rfl (by decide) (by decide) (by show _ < ((4 : Nat) : Int); decide) rfl ?_
  change tp_go G mX9_init 92 _ _ tp_mm102 _ _ _ _
  refine y_I (as := [tI 60]) (b1 := 92) (c_X6_init_186 hq) rfl rfl mX6_init_ok rfl (by decide) rfl rfl rfl rfl (by decide) rfl ?_
  rintro _ _ ⟨rfl, rfl⟩ _
  refine g_aast (ci := 6) (t0 := 5) rfl (by decide) rfl rfl rfl hq (by decide) (by decide) (by decide) (by decide) ?_
  refine y_iinc (z := 4) rfl rfl (by decide) rfl rfl ?_
  refine g_goto (tgt := 70) rfl (by decide) ?_
  refine g_iload_n rfl rfl ?_
  refine g_bipush rfl ⟨by decide, by decide⟩ (by decide) ?_
  refine g_icmp_ge (tgt := 102) rfl (by decide) (fun hx => absurd hx (by decide)) (fun _ => ?_)
  refine g_aload_n rfl rfl ?_
  refine y_getr (v := some 165) hq rfl rfl (by decide) (Or.inr ⟨_, rfl⟩) rfl ?_
  refine g_iload_n rfl rfl ?_
  refine y_new (n1 := 190) (b1 := 89) hq rfl rfl (fun _ => ⟨rfl, rfl⟩) (by decide) (by decide) rfl rfl ?_
  refine g_dupr rfl ?_
  refine g_gets rfl ?_
  refine g_iload_n rfl rfl ?_
  refine g_iconst rfl ⟨by decide, by decide⟩ ?_
  refine y_idiv (z := 2) rfl (by decide) (by decide) ?_
  refine y_sald (i0 := 1) (v := 12) rfl (by decide) (by decide) (by show _ < ((4 : Nat) : Int); decide) rfl ?_
  change tp_go G mX9_init 92 _ _ tp_mm104 _ _ _ _
  refine y_I (as := [tI 12]) (b1 := 65) (c_X6_init_189 hq) rfl rfl mX6_init_ok rfl (by decide) rfl rfl rfl rfl (by decide) rfl ?_
  rintro _ _ ⟨rfl, rfl⟩ _
  refine g_aast (ci := 6) (t0 := 5) rfl (by decide) rfl rfl rfl hq (by decide) (by decide) (by decide) (by decide) ?_
  refine y_iinc (z := 5) rfl rfl (by decide) rfl rfl ?_
  refine g_goto (tgt := 70) rfl (by decide) ?_
  refine g_iload_n rfl rfl ?_
  refine g_bipush rfl ⟨by decide, by decide⟩ (by decide) ?_
  refine g_icmp_ge (tgt := 102) rfl (by decide) (fun hx => absurd hx (by decide)) (fun _ => ?_)
  refine g_aload_n rfl rfl ?_
  refine y_getr (v := some 165) hq rfl rfl (by decide) (Or.inr ⟨_, rfl⟩) rfl ?_
  refine g_iload_n rfl rfl ?_
  refine y_new (n1 := 193) (b1 := 62) hq rfl rfl (fun _ => ⟨rfl, rfl⟩) (by decide) (by decide) rfl rfl ?_
  refine g_dupr rfl ?_
  refine g_gets rfl ?_
  refine g_iload_n rfl rfl ?_
  refine g_iconst rfl ⟨by decide, by decide⟩ ?_
  refine y_idiv (z := 2) rfl (by decide) (by decide) ?_
  refine y_sald (i0 := 1) (v := 12) rfl (by decide) (by decide) (by show _ < ((4 : Nat) : Int); decide) rfl ?_
  change tp_go G mX9_init 92 _ _ tp_mm106 _ _ _ _
  refine y_I (as := [tI 12]) (b1 := 38) (c_X6_init_192 hq) rfl rfl mX6_init_ok rfl (by decide) rfl rfl rfl rfl (by decide) rfl ?_
  rintro _ _ ⟨rfl, rfl⟩ _
  refine g_aast (ci := 6) (t0 := 5) rfl (by decide) rfl rfl rfl hq (by decide) (by decide) (by decide) (by decide) ?_
  refine y_iinc (z := 6) rfl rfl (by decide) rfl rfl ?_
  refine g_goto (tgt := 70) rfl (by decide) ?_
  refine g_iload_n rfl rfl ?_
  refine g_bipush rfl ⟨by decide, by decide⟩ (by decide) ?_
  refine g_icmp_ge (tgt := 102) rfl (by decide) (fun hx => absurd hx (by decide)) (fun _ => ?_)
  refine g_aload_n rfl rfl ?_
  refine y_getr (v := some 165) hq rfl rfl (by decide) (Or.inr ⟨_, rfl⟩) rfl ?_
  refine g_iload_n rfl rfl ?_
  refine y_new (n1 := 196) (b1 := 35) hq rfl rfl (fun _ => ⟨rfl, rfl⟩) (by decide) (by decide) rfl rfl ?_
  refine g_dupr rfl ?_
  refine g_gets rfl ?_
  refine g_iload_n rfl rfl ?_
  refine g_iconst rfl ⟨by decide, by decide⟩ ?_
  refine y_idiv (z := 3) rfl (by decide) (by decide) ?_
  refine y_sald (i0 := 1) (v := 8) rfl (by decide) (by decide) (by show _ < ((4 : Nat) : Int); decide) rfl ?_
  change tp_go G mX9_init 92 _ _ tp_mm108 _ _ _ _
  refine y_I (as := [tI 8]) (b1 := 19) (c_X6_init_195 hq) rfl rfl mX6_init_ok rfl (by decide) rfl rfl rfl rfl (by decide) rfl ?_
  rintro _ _ ⟨rfl, rfl⟩ _
  refine g_aast (ci := 6) (t0 := 5) rfl (by decide) rfl rfl rfl hq (by decide) (by decide) (by decide) (by decide) ?_
  refine y_iinc (z := 7) rfl rfl (by decide) rfl rfl ?_
  refine g_goto (tgt := 70) rfl (by decide) ?_
  refine g_iload_n rfl rfl ?_
  refine g_bipush rfl ⟨by decide, by decide⟩ (by decide) ?_
  refine g_icmp_ge (tgt := 102) rfl (by decide) (fun hx => absurd hx (by decide)) (fun _ => ?_)
  refine g_aload_n rfl rfl ?_
  refine y_getr (v := some 165) hq rfl rfl (by decide) (Or.inr ⟨_, rfl⟩) rfl ?_
  refine g_iload_n rfl rfl ?_
  refine y_new (n1 := 199) (b1 := 16) hq rfl rfl (fun _ => ⟨rfl, rfl⟩) (by decide) (by decide) rfl rfl ?_
  refine g_dupr rfl ?_
  refine g_gets rfl ?_
  refine g_iload_n rfl rfl ?_
  refine g_iconst rfl ⟨by decide, by decide⟩ ?_
  refine y_idiv (z := 3) rfl (by decide) (by decide) ?_
  refine y_sald (i0 := 1) (v := 8) rfl (by decide) (by decide) (by show _ < ((4 : Nat) : Int); decide) rfl ?_
  change tp_go G mX9_init 92 _ _ tp_mm110 _ _ _ _
  refine y_I (as := [tI 8]) (b1 := 0) (c_X6_init_198 hq) rfl rfl mX6_init_ok rfl (by decide) rfl rfl rfl rfl (by decide) rfl ?_
  rintro _ _ ⟨rfl, rfl⟩ _
  refine g_aast (ci := 6) (t0 := 5) rfl (by decide) rfl rfl rfl hq (by decide) (by decide) (by decide) (by decide) ?_
  refine y_iinc (z := 8) rfl rfl (by decide) rfl rfl ?_
  refine g_goto (tgt := 70) rfl (by decide) ?_
  refine g_iload_n rfl rfl ?_
  refine g_bipush rfl ⟨by decide, by decide⟩ (by decide) ?_
  refine g_icmp_ge (tgt := 102) rfl (by decide) (fun _ => ?_) (fun hx => absurd hx (by decide))
  refine g_return (st := []) rfl rfl ?_
  exact ⟨rfl, rfl⟩
def tp_mm113 : tp_M := (tp_pr tp_mm112 40 2 (some 162))
set_option maxHeartbeats 4000000 in
set_option maxRecDepth 100000 in
theorem c_X11_init_0 {G : tp_G} (hq : tp_Gf G = false) : tp_ok G mX11_init [tR (some 0)] tp_mm0 1 201 19494 (fun r μ' => r = none ∧ μ' = tp_mm113) := by
  refine tp_ok_of mX11_init_ok rfl (by decide) ?_
  refine g_aload_n rfl rfl ?_
  refine g_obj rfl (by decide) rfl ?_
  refine g_aload_n rfl rfl ?_
  refine y_new (n1 := 2) (b1 := 19486) hq rfl rfl (fun _ => ⟨rfl, rfl⟩) (by decide) (by decide) rfl rfl ?_
  refine g_dupr rfl ?_
  change tp_go G mX11_init 9 _ _ tp_mm1 _ _ _ _
  refine y_I (as := []) (b1 := 18262) (c_X9_init_1 hq) rfl rfl mX9_init_ok rfl (by decide) rfl rfl rfl rfl (by decide) rfl ?_
  rintro _ _ ⟨rfl, rfl⟩ _
  refine g_putF rfl rfl (by decide) rfl rfl rfl (Or.inl ⟨_, rfl⟩) (Or.inl hq) ?_
  refine g_aload_n rfl rfl ?_
  refine g_iconst rfl ⟨by decide, by decide⟩ ?_
  refine y_anew (len := 3) (t0 := 6) (n1 := 41) (b1 := 18259) hq rfl rfl rfl (by decide) rfl (fun _ => ⟨rfl, rfl⟩) (by decide) (by decide) rfl rfl ?_
  refine g_putF rfl rfl (by decide) rfl rfl rfl (Or.inr ⟨_, rfl⟩) (Or.inl hq) ?_
  refine g_aload_n rfl rfl ?_
  refine y_new (n1 := 42) (b1 := 18247) hq rfl rfl (fun _ => ⟨rfl, rfl⟩) (by decide) (by decide) rfl rfl ?_
  refine g_dupr rfl ?_
  change tp_go G mX11_init 28 _ _ tp_mm23 _ _ _ _
  refine y_IN (as := []) (b1 := 17991) (c_X5_init_41 hq) rfl rfl mX5_init_ok rfl (by decide) rfl rfl rfl rfl (by decide) rfl ?_
  rintro _ _ ⟨rfl, rfl⟩ _
  refine g_putF rfl rfl (by decide) rfl rfl rfl (Or.inl ⟨_, rfl⟩) (Or.inl hq) ?_
  refine g_aload_n rfl rfl ?_
  refine y_new (n1 := 51) (b1 := 17976) hq rfl rfl (fun _ => ⟨rfl, rfl⟩) (by decide) (by decide) rfl rfl ?_
  refine g_dupr rfl ?_
  change tp_go G mX11_init 39 _ _ tp_mm29 _ _ _ _
  refine y_IN (as := []) (b1 := 17327) (c_X7_init_50 hq) rfl rfl mX7_init_ok rfl (by decide) rfl rfl rfl rfl (by decide) rfl ?_
  rintro _ _ ⟨rfl, rfl⟩ _
  refine g_putF rfl rfl (by decide) rfl rfl rfl (Or.inl ⟨_, rfl⟩) (Or.inl hq) ?_
  refine g_aload_n rfl rfl ?_
  refine y_new (n1 := 57) (b1 := 17312) hq rfl rfl (fun _ => ⟨rfl, rfl⟩) (by decide) (by decide) rfl rfl ?_
  refine g_dupr rfl ?_
  change tp_go G mX11_init 50 _ _ tp_mm31 _ _ _ _
  refine y_IN (as := []) (b1 := 16663) (c_X7_init_56 hq) rfl rfl mX7_init_ok rfl (by decide) rfl rfl rfl rfl (by decide) rfl ?_
  rintro _ _ ⟨rfl, rfl⟩ _
  refine g_putF rfl rfl (by decide) rfl rfl rfl (Or.inl ⟨_, rfl⟩) (Or.inl hq) ?_
  refine g_aload_n rfl rfl ?_
  refine y_new (n1 := 63) (b1 := 16647) hq rfl rfl (fun _ => ⟨rfl, rfl⟩) (by decide) (by decide) rfl rfl ?_
  refine g_dupr rfl ?_
  change tp_go G mX11_init 61 _ _ tp_mm33 _ _ _ _
  refine y_IN (as := []) (b1 := 15611) (c_X1_init_62 hq) rfl rfl mX1_init_ok rfl (by decide) rfl rfl rfl rfl (by decide) rfl ?_
  rintro _ _ ⟨rfl, rfl⟩ _
  refine g_putF rfl rfl (by decide) rfl rfl rfl (Or.inl ⟨_, rfl⟩) (Or.inl hq) ?_
  refine g_aload_n rfl rfl ?_
  refine y_new (n1 := 71) (b1 := 15601) hq rfl rfl (fun _ => ⟨rfl, rfl⟩) (by decide) (by decide) rfl rfl ?_
  refine g_dupr rfl ?_
  change tp_go G mX11_init 72 _ _ tp_mm39 _ _ _ _
  refine y_IN (as := []) (b1 := 14938) (c_X10_init_70 hq) rfl rfl mX10_init_ok rfl (by decide) rfl rfl rfl rfl (by decide) rfl ?_
  rintro _ _ ⟨rfl, rfl⟩ _
  refine g_putF rfl rfl (by decide) rfl rfl rfl (Or.inl ⟨_, rfl⟩) (Or.inl hq) ?_
  refine g_aload_n rfl rfl ?_
  refine y_new (n1 := 77) (b1 := 14934) hq rfl rfl (fun _ => ⟨rfl, rfl⟩) (by decide) (by decide) rfl rfl ?_
  refine g_dupr rfl ?_
  change tp_go G mX11_init 83 _ _ tp_mm43 _ _ _ _
  refine y_IN (as := []) (b1 := 14478) (c_X4_init_76 hq) rfl rfl mX4_init_ok rfl (by decide) rfl rfl rfl rfl (by decide) rfl ?_
  rintro _ _ ⟨rfl, rfl⟩ _
  refine g_putF rfl rfl (by decide) rfl rfl rfl (Or.inl ⟨_, rfl⟩) (Or.inl hq) ?_
  refine g_aload_n rfl rfl ?_
  refine y_new (n1 := 80) (b1 := 14474) hq rfl rfl (fun _ => ⟨rfl, rfl⟩) (by decide) (by decide) rfl rfl ?_
  refine g_dupr rfl ?_
  change tp_go G mX11_init 94 _ _ tp_mm45 _ _ _ _
  refine y_IN (as := []) (b1 := 3736) (c_X2_init_79 hq) rfl rfl mX2_init_ok rfl (by decide) rfl rfl rfl rfl (by decide) rfl ?_
  rintro _ _ ⟨rfl, rfl⟩ _
  refine g_putF rfl rfl (by decide) rfl rfl rfl (Or.inl ⟨_, rfl⟩) (Or.inl hq) ?_
  refine g_aload_n rfl rfl ?_
  refine g_bipush rfl ⟨by decide, by decide⟩ (by decide) ?_
  refine y_newa (len := 40) (t0 := 0) (n1 := 84) (b1 := 3696) hq rfl rfl (Or.inl rfl) rfl rfl (by decide) rfl (fun _ => ⟨rfl, rfl⟩) (by decide) (by decide) rfl rfl ?_
  refine g_putF rfl rfl (by decide) rfl rfl rfl (Or.inr ⟨_, rfl⟩) (Or.inl hq) ?_
  refine g_iconst rfl ⟨by decide, by decide⟩ ?_
  refine g_istore_n rfl rfl rfl ?_
  refine g_iload_n rfl rfl ?_
  refine g_iconst rfl ⟨by decide, by decide⟩ ?_
  refine g_icmp_ge (tgt := 134) rfl (by decide) (fun hx => absurd hx (by decide)) (fun _ => ?_)
  refine g_aload_n rfl rfl ?_
  refine y_getr (v := some 40) hq rfl rfl (by decide) (Or.inr ⟨_, rfl⟩) rfl ?_
  refine g_iload_n rfl rfl ?_
  refine y_new (n1 := 85) (b1 := 3688) hq rfl rfl (fun _ => ⟨rfl, rfl⟩) (by decide) (by decide) rfl rfl ?_
  refine g_dupr rfl ?_
  change tp_go G mX11_init 124 _ _ tp_mm47 _ _ _ _
  refine y_I (as := []) (b1 := 2464) (c_X9_init_84 hq) rfl rfl mX9_init_ok rfl (by decide) rfl rfl rfl rfl (by decide) rfl ?_
  rintro _ _ ⟨rfl, rfl⟩ _
  refine g_aast (ci := 9) (t0 := 6) rfl (by decide) rfl rfl rfl hq (by decide) (by decide) (by decide) (by decide) ?_
  refine y_iinc (z := 1) rfl rfl (by decide) rfl rfl ?_
  refine g_goto (tgt := 110) rfl (by decide) ?_
  refine g_iload_n rfl rfl ?_
  refine g_iconst rfl ⟨by decide, by decide⟩ ?_
  refine g_icmp_ge (tgt := 134) rfl (by decide) (fun hx => absurd hx (by decide)) (fun _ => ?_)
  refine g_aload_n rfl rfl ?_
  refine y_getr (v := some 40) hq rfl rfl (by decide) (Or.inr ⟨_, rfl⟩) rfl ?_
  refine g_iload_n rfl rfl ?_
  refine y_new (n1 := 124) (b1 := 2456) hq rfl rfl (fun _ => ⟨rfl, rfl⟩) (by decide) (by decide) rfl rfl ?_
  refine g_dupr rfl ?_
  change tp_go G mX11_init 124 _ _ tp_mm69 _ _ _ _
  refine y_I (as := []) (b1 := 1232) (c_X9_init_123 hq) rfl rfl mX9_init_ok rfl (by decide) rfl rfl rfl rfl (by decide) rfl ?_
  rintro _ _ ⟨rfl, rfl⟩ _
  refine g_aast (ci := 9) (t0 := 6) rfl (by decide) rfl rfl rfl hq (by decide) (by decide) (by decide) (by decide) ?_
  refine y_iinc (z := 2) rfl rfl (by decide) rfl rfl ?_
  refine g_goto (tgt := 110) rfl (by decide) ?_
  refine g_iload_n rfl rfl ?_
  refine g_iconst rfl ⟨by decide, by decide⟩ ?_
  refine g_icmp_ge (tgt := 134) rfl (by decide) (fun hx => absurd hx (by decide)) (fun _ => ?_)
  refine g_aload_n rfl rfl ?_
  refine y_getr (v := some 40) hq rfl rfl (by decide) (Or.inr ⟨_, rfl⟩) rfl ?_
  refine g_iload_n rfl rfl ?_
  refine y_new (n1 := 163) (b1 := 1224) hq rfl rfl (fun _ => ⟨rfl, rfl⟩) (by decide) (by decide) rfl rfl ?_
  refine g_dupr rfl ?_
  change tp_go G mX11_init 124 _ _ tp_mm91 _ _ _ _
  refine y_I (as := []) (b1 := 0) (c_X9_init_162 hq) rfl rfl mX9_init_ok rfl (by decide) rfl rfl rfl rfl (by decide) rfl ?_
  rintro _ _ ⟨rfl, rfl⟩ _
  refine g_aast (ci := 9) (t0 := 6) rfl (by decide) rfl rfl rfl hq (by decide) (by decide) (by decide) (by decide) ?_
  refine y_iinc (z := 3) rfl rfl (by decide) rfl rfl ?_
  refine g_goto (tgt := 110) rfl (by decide) ?_
  refine g_iload_n rfl rfl ?_
  refine g_iconst rfl ⟨by decide, by decide⟩ ?_
  refine g_icmp_ge (tgt := 134) rfl (by decide) (fun _ => ?_) (fun hx => absurd hx (by decide))
  refine g_return (st := []) rfl rfl ?_
  exact ⟨rfl, rfl⟩
def tp_mm114 : tp_M := tp_mm113
def tp_mm115 : tp_M := (tp_pi (tp_pr (tp_pr (tp_pr (tp_pr (tp_pr (tp_pr (tp_pr (tp_pr (tp_pr (tp_pr (tp_pr (tp_pr (tp_pr (tp_pr (tp_pr (tp_pr (tp_pr (tp_pr (tp_pr (tp_pr (tp_pr (tp_pr (tp_pr (tp_pr (tp_pr (tp_pr (tp_pr (tp_pr (tp_pr (tp_pr (tp_pr (tp_pr tp_mm114 201 1 (some 202)) 201 2 (some 203)) 201 3 (some 204)) 201 4 (some 205)) 201 5 (some 206)) 201 6 (some 207)) 201 7 (some 208)) 201 8 (some 209)) 201 9 (some 210)) 201 19 (some 211)) 201 33 (some 212)) 201 34 (some 213)) 201 35 (some 214)) 201 36 (some 215)) 201 39 (some 216)) 201 40 (some 217)) 201 41 (some 218)) 201 42 (some 219)) 201 43 (some 220)) 201 44 (some 221)) 201 45 (some 222)) 201 59 (some 223)) 201 60 (some 224)) 201 61 (some 225)) 201 64 (some 226)) 201 65 (some 227)) 201 66 (some 228)) 201 67 (some 229)) 201 68 (some 230)) 201 71 (some 231)) 201 72 (some 232)) 201 74 (some 233)) 205 0 (-1))
set_option maxHeartbeats 4000000 in
set_option maxRecDepth 100000 in
theorem c_X12_init_201 {G : tp_G} (hq : tp_Gf G = false) : tp_ok G mX12_init [tR (some 201)] tp_mm114 202 234 20489 (fun r μ' => r = none ∧ μ' = tp_mm115) := by
  refine tp_ok_of mX12_init_ok rfl (by decide) ?_
  refine g_aload_n rfl rfl ?_
  refine g_obj rfl (by decide) rfl ?_
  refine g_aload_n rfl rfl ?_
  refine g_sipush rfl ⟨by decide, by decide⟩ (by decide) ?_
  refine y_newa (len := 2400) (t0 := 1) (n1 := 203) (b1 := 18089) hq rfl rfl (Or.inr (Or.inl rfl)) rfl rfl (by decide) rfl (fun _ => ⟨rfl, rfl⟩) (by decide) (by decide) rfl rfl ?_
  refine g_putF rfl rfl (by decide) rfl rfl rfl (Or.inr ⟨_, rfl⟩) (Or.inl hq) ?_
  refine g_aload_n rfl rfl ?_
  refine g_iconst rfl ⟨by decide, by decide⟩ ?_
  refine y_newa (len := 4) (t0 := 0) (n1 := 204) (b1 := 18085) hq rfl rfl (Or.inl rfl) rfl rfl (by decide) rfl (fun _ => ⟨rfl, rfl⟩) (by decide) (by decide) rfl rfl ?_
  refine g_putF rfl rfl (by decide) rfl rfl rfl (Or.inr ⟨_, rfl⟩) (Or.inl hq) ?_
  refine g_aload_n rfl rfl ?_
  refine g_iconst rfl ⟨by decide, by decide⟩ ?_
  refine y_newa (len := 4) (t0 := 0) (n1 := 205) (b1 := 18081) hq rfl rfl (Or.inl rfl) rfl rfl (by decide) rfl (fun _ => ⟨rfl, rfl⟩) (by decide) (by decide) rfl rfl ?_
  refine g_putF rfl rfl (by decide) rfl rfl rfl (Or.inr ⟨_, rfl⟩) (Or.inl hq) ?_
  refine g_aload_n rfl rfl ?_
  refine g_iconst rfl ⟨by decide, by decide⟩ ?_
  refine y_newa (len := 4) (t0 := 0) (n1 := 206) (b1 := 18077) hq rfl rfl (Or.inl rfl) rfl rfl (by decide) rfl (fun _ => ⟨rfl, rfl⟩) (by decide) (by decide) rfl rfl ?_
  refine g_putF rfl rfl (by decide) rfl rfl rfl (Or.inr ⟨_, rfl⟩) (Or.inl hq) ?_
  refine g_aload_n rfl rfl ?_
  refine g_bipush rfl ⟨by decide, by decide⟩ (by decide) ?_
  refine y_newa (len := 16) (t0 := 0) (n1 := 207) (b1 := 18061) hq rfl rfl (Or.inl rfl) rfl rfl (by decide) rfl (fun _ => ⟨rfl, rfl⟩) (by decide) (by decide) rfl rfl ?_
  refine g_putF rfl rfl (by decide) rfl rfl rfl (Or.inr ⟨_, rfl⟩) (Or.inl hq) ?_
  refine g_aload_n rfl rfl ?_
  refine g_sipush rfl ⟨by decide, by decide⟩ (by decide) ?_
  refine y_newa (len := 1032) (t0 := 0) (n1 := 208) (b1 := 17029) hq rfl rfl (Or.inl rfl) rfl rfl (by decide) rfl (fun _ => ⟨rfl, rfl⟩) (by decide) (by decide) rfl rfl ?_
  refine g_putF rfl rfl (by decide) rfl rfl rfl (Or.inr ⟨_, rfl⟩) (Or.inl hq) ?_
  refine g_aload_n rfl rfl ?_
  refine g_sipush rfl ⟨by decide, by decide⟩ (by decide) ?_
  refine y_newa (len := 488) (t0 := 0) (n1 := 209) (b1 := 16541) hq rfl rfl (Or.inl rfl) rfl rfl (by decide) rfl (fun _ => ⟨rfl, rfl⟩) (by decide) (by decide) rfl rfl ?_
  refine g_putF rfl rfl (by decide) rfl rfl rfl (Or.inr ⟨_, rfl⟩) (Or.inl hq) ?_
  refine g_aload_n rfl rfl ?_
  refine g_sipush rfl ⟨by decide, by decide⟩ (by decide) ?_
  refine y_newa (len := 808) (t0 := 0) (n1 := 210) (b1 := 15733) hq rfl rfl (Or.inl rfl) rfl rfl (by decide) rfl (fun _ => ⟨rfl, rfl⟩) (by decide) (by decide) rfl rfl ?_
  refine g_putF rfl rfl (by decide) rfl rfl rfl (Or.inr ⟨_, rfl⟩) (Or.inl hq) ?_
  refine g_aload_n rfl rfl ?_
  refine g_sipush rfl ⟨by decide, by decide⟩ (by decide) ?_
  refine y_newa (len := 136) (t0 := 0) (n1 := 211) (b1 := 15597) hq rfl rfl (Or.inl rfl) rfl rfl (by decide) rfl (fun _ => ⟨rfl, rfl⟩) (by decide) (by decide) rfl rfl ?_
  refine g_putF rfl rfl (by decide) rfl rfl rfl (Or.inr ⟨_, rfl⟩) (Or.inl hq) ?_
  refine g_aload_n rfl rfl ?_
  refine g_sipush rfl ⟨by decide, by decide⟩ (by decide) ?_
  refine y_newa (len := 129) (t0 := 0) (n1 := 212) (b1 := 15468) hq rfl rfl (Or.inl rfl) rfl rfl (by decide) rfl (fun _ => ⟨rfl, rfl⟩) (by decide) (by decide) rfl rfl ?_
  refine g_putF rfl rfl (by decide) rfl rfl rfl (Or.inr ⟨_, rfl⟩) (Or.inl hq) ?_
  refine g_aload_n rfl rfl ?_
  refine g_sipush rfl ⟨by decide, by decide⟩ (by decide) ?_
  refine y_newa (len := 200) (t0 := 0) (n1 := 213) (b1 := 15268) hq rfl rfl (Or.inl rfl) rfl rfl (by decide) rfl (fun _ => ⟨rfl, rfl⟩) (by decide) (by decide) rfl rfl ?_
  refine g_putF rfl rfl (by decide) rfl rfl rfl (Or.inr ⟨_, rfl⟩) (Or.inl hq) ?_
  refine g_aload_n rfl rfl ?_
  refine g_sipush rfl ⟨by decide, by decide⟩ (by decide) ?_
  refine y_newa (len := 200) (t0 := 0) (n1 := 214) (b1 := 15068) hq rfl rfl (Or.inl rfl) rfl rfl (by decide) rfl (fun _ => ⟨rfl, rfl⟩) (by decide) (by decide) rfl rfl ?_
  refine g_putF rfl rfl (by decide) rfl rfl rfl (Or.inr ⟨_, rfl⟩) (Or.inl hq) ?_
  refine g_aload_n rfl rfl ?_
  refine g_sipush rfl ⟨by decide, by decide⟩ (by decide) ?_
  refine y_newa (len := 200) (t0 := 2) (n1 := 215) (b1 := 14868) hq rfl rfl (Or.inr (Or.inr (Or.inl rfl))) rfl rfl (by decide) rfl (fun _ => ⟨rfl, rfl⟩) (by decide) (by decide) rfl rfl ?_
  refine g_putF rfl rfl (by decide) rfl rfl rfl (Or.inr ⟨_, rfl⟩) (Or.inl hq) ?_
  refine g_aload_n rfl rfl ?_
  refine g_bipush rfl ⟨by decide, by decide⟩ (by decide) ?_
  refine y_newa (len := 9) (t0 := 0) (n1 := 216) (b1 := 14859) hq rfl rfl (Or.inl rfl) rfl rfl (by decide) rfl (fun _ => ⟨rfl, rfl⟩) (by decide) (by decide) rfl rfl ?_
  refine g_putF rfl rfl (by decide) rfl rfl rfl (Or.inr ⟨_, rfl⟩) (Or.inl hq) ?_
  refine g_aload_n rfl rfl ?_
  refine g_sipush rfl ⟨by decide, by decide⟩ (by decide) ?_
  refine y_newa (len := 256) (t0 := 0) (n1 := 217) (b1 := 14603) hq rfl rfl (Or.inl rfl) rfl rfl (by decide) rfl (fun _ => ⟨rfl, rfl⟩) (by decide) (by decide) rfl rfl ?_
  refine g_putF rfl rfl (by decide) rfl rfl rfl (Or.inr ⟨_, rfl⟩) (Or.inl hq) ?_
  refine g_aload_n rfl rfl ?_
  refine g_sipush rfl ⟨by decide, by decide⟩ (by decide) ?_
  refine y_newa (len := 256) (t0 := 0) (n1 := 218) (b1 := 14347) hq rfl rfl (Or.inl rfl) rfl rfl (by decide) rfl (fun _ => ⟨rfl, rfl⟩) (by decide) (by decide) rfl rfl ?_
  refine g_putF rfl rfl (by decide) rfl rfl rfl (Or.inr ⟨_, rfl⟩) (Or.inl hq) ?_
  refine g_aload_n rfl rfl ?_
  refine g_sipush rfl ⟨by decide, by decide⟩ (by decide) ?_
  refine y_newa (len := 256) (t0 := 0) (n1 := 219) (b1 := 14091) hq rfl rfl (Or.inl rfl) rfl rfl (by decide) rfl (fun _ => ⟨rfl, rfl⟩) (by decide) (by decide) rfl rfl ?_
  refine g_putF rfl rfl (by decide) rfl rfl rfl (Or.inr ⟨_, rfl⟩) (Or.inl hq) ?_
  refine g_aload_n rfl rfl ?_
  refine g_sipush rfl ⟨by decide, by decide⟩ (by decide) ?_
  refine y_newa (len := 256) (t0 := 0) (n1 := 220) (b1 := 13835) hq rfl rfl (Or.inl rfl) rfl rfl (by decide) rfl (fun _ => ⟨rfl, rfl⟩) (by decide) (by decide) rfl rfl ?_
  refine g_putF rfl rfl (by decide) rfl rfl rfl (Or.inr ⟨_, rfl⟩) (Or.inl hq) ?_
  refine g_aload_n rfl rfl ?_
  refine g_sipush rfl ⟨by decide, by decide⟩ (by decide) ?_
  refine y_newa (len := 256) (t0 := 0) (n1 := 221) (b1 := 13579) hq rfl rfl (Or.inl rfl) rfl rfl (by decide) rfl (fun _ => ⟨rfl, rfl⟩) (by decide) (by decide) rfl rfl ?_
  refine g_putF rfl rfl (by decide) rfl rfl rfl (Or.inr ⟨_, rfl⟩) (Or.inl hq) ?_
  refine g_aload_n rfl rfl ?_
  refine g_sipush rfl ⟨by decide, by decide⟩ (by decide) ?_
  refine y_newa (len := 256) (t0 := 0) (n1 := 222) (b1 := 13323) hq rfl rfl (Or.inl rfl) rfl rfl (by decide) rfl (fun _ => ⟨rfl, rfl⟩) (by decide) (by decide) rfl rfl ?_
  refine g_putF rfl rfl (by decide) rfl rfl rfl (Or.inr ⟨_, rfl⟩) (Or.inl hq) ?_
  refine g_aload_n rfl rfl ?_
  refine g_bipush rfl ⟨by decide, by decide⟩ (by decide) ?_
  refine y_newa (len := 6) (t0 := 0) (n1 := 223) (b1 := 13317) hq rfl rfl (Or.inl rfl) rfl rfl (by decide) rfl (fun _ => ⟨rfl, rfl⟩) (by decide) (by decide) rfl rfl ?_
  refine g_putF rfl rfl (by decide) rfl rfl rfl (Or.inr ⟨_, rfl⟩) (Or.inl hq) ?_
  refine g_aload_n rfl rfl ?_
  refine g_sipush rfl ⟨by decide, by decide⟩ (by decide) ?_
  refine y_newa (len := 256) (t0 := 2) (n1 := 224) (b1 := 13061) hq rfl rfl (Or.inr (Or.inr (Or.inl rfl))) rfl rfl (by decide) rfl (fun _ => ⟨rfl, rfl⟩) (by decide) (by decide) rfl rfl ?_
  refine g_putF rfl rfl (by decide) rfl rfl rfl (Or.inr ⟨_, rfl⟩) (Or.inl hq) ?_
  refine g_aload_n rfl rfl ?_
  refine g_sipush rfl ⟨by decide, by decide⟩ (by decide) ?_
  refine y_newa (len := 256) (t0 := 0) (n1 := 225) (b1 := 12805) hq rfl rfl (Or.inl rfl) rfl rfl (by decide) rfl (fun _ => ⟨rfl, rfl⟩) (by decide) (by decide) rfl rfl ?_
  refine g_putF rfl rfl (by decide) rfl rfl rfl (Or.inr ⟨_, rfl⟩) (Or.inl hq) ?_
  refine g_aload_n rfl rfl ?_
  refine g_sipush rfl ⟨by decide, by decide⟩ (by decide) ?_
  refine y_newa (len := 256) (t0 := 0) (n1 := 226) (b1 := 12549) hq rfl rfl (Or.inl rfl) rfl rfl (by decide) rfl (fun _ => ⟨rfl, rfl⟩) (by decide) (by decide) rfl rfl ?_
  refine g_putF rfl rfl (by decide) rfl rfl rfl (Or.inr ⟨_, rfl⟩) (Or.inl hq) ?_
  refine g_aload_n rfl rfl ?_
  refine g_sipush rfl ⟨by decide, by decide⟩ (by decide) ?_
  refine y_newa (len := 200) (t0 := 2) (n1 := 227) (b1 := 12349) hq rfl rfl (Or.inr (Or.inr (Or.inl rfl))) rfl rfl (by decide) rfl (fun _ => ⟨rfl, rfl⟩) (by decide) (by decide) rfl rfl ?_
  refine g_putF rfl rfl (by decide) rfl rfl rfl (Or.inr ⟨_, rfl⟩) (Or.inl hq) ?_
  refine g_aload_n rfl rfl ?_
  refine g_sipush rfl ⟨by decide, by decide⟩ (by decide) ?_
  refine y_newa (len := 1600) (t0 := 2) (n1 := 228) (b1 := 10749) hq rfl rfl (Or.inr (Or.inr (Or.inl rfl))) rfl rfl (by decide) rfl (fun _ => ⟨rfl, rfl⟩) (by decide) (by decide) rfl rfl ?_
  refine g_putF rfl rfl (by decide) rfl rfl rfl (Or.inr ⟨_, rfl⟩) (Or.inl hq) ?_
  refine g_aload_n rfl rfl ?_
  refine g_bipush rfl ⟨by decide, by decide⟩ (by decide) ?_
  refine y_newa (len := 10) (t0 := 0) (n1 := 229) (b1 := 10739) hq rfl rfl (Or.inl rfl) rfl rfl (by decide) rfl (fun _ => ⟨rfl, rfl⟩) (by decide) (by decide) rfl rfl ?_
  refine g_putF rfl rfl (by decide) rfl rfl rfl (Or.inr ⟨_, rfl⟩) (Or.inl hq) ?_
  refine g_aload_n rfl rfl ?_
  refine g_sipush rfl ⟨by decide, by decide⟩ (by decide) ?_
  refine y_newa (len := 200) (t0 := 0) (n1 := 230) (b1 := 10539) hq rfl rfl (Or.inl rfl) rfl rfl (by decide) rfl (fun _ => ⟨rfl, rfl⟩) (by decide) (by decide) rfl rfl ?_
  refine g_putF rfl rfl (by decide) rfl rfl rfl (Or.inr ⟨_, rfl⟩) (Or.inl hq) ?_
  refine g_aload_n rfl rfl ?_
  refine g_bipush rfl ⟨by decide, by decide⟩ (by decide) ?_
  refine y_newa (len := 40) (t0 := 2) (n1 := 231) (b1 := 10499) hq rfl rfl (Or.inr (Or.inr (Or.inl rfl))) rfl rfl (by decide) rfl (fun _ => ⟨rfl, rfl⟩) (by decide) (by decide) rfl rfl ?_
  refine g_putF rfl rfl (by decide) rfl rfl rfl (Or.inr ⟨_, rfl⟩) (Or.inl hq) ?_
  refine g_aload_n rfl rfl ?_
  refine g_sipush rfl ⟨by decide, by decide⟩ (by decide) ?_
  refine y_newa (len := 256) (t0 := 0) (n1 := 232) (b1 := 10243) hq rfl rfl (Or.inl rfl) rfl rfl (by decide) rfl (fun _ => ⟨rfl, rfl⟩) (by decide) (by decide) rfl rfl ?_
  refine g_putF rfl rfl (by decide) rfl rfl rfl (Or.inr ⟨_, rfl⟩) (Or.inl hq) ?_
  refine g_aload_n rfl rfl ?_
  refine g_sipush rfl ⟨by decide, by decide⟩ (by decide) ?_
  refine y_newa (len := 10240) (t0 := 0) (n1 := 233) (b1 := 3) hq rfl rfl (Or.inl rfl) rfl rfl (by decide) rfl (fun _ => ⟨rfl, rfl⟩) (by decide) (by decide) rfl rfl ?_
  refine g_putF rfl rfl (by decide) rfl rfl rfl (Or.inr ⟨_, rfl⟩) (Or.inl hq) ?_
  refine g_aload_n rfl rfl ?_
  refine g_iconst rfl ⟨by decide, by decide⟩ ?_
  refine y_newa (len := 3) (t0 := 2) (n1 := 234) (b1 := 0) hq rfl rfl (Or.inr (Or.inr (Or.inl rfl))) rfl rfl (by decide) rfl (fun _ => ⟨rfl, rfl⟩) (by decide) (by decide) rfl rfl ?_
  refine g_putF rfl rfl (by decide) rfl rfl rfl (Or.inr ⟨_, rfl⟩) (Or.inl hq) ?_
  refine g_aload_n rfl rfl ?_
  refine y_getr (v := some 205) hq rfl rfl (by decide) (Or.inr ⟨_, rfl⟩) rfl ?_
  refine g_iconst rfl ⟨by decide, by decide⟩ ?_
  refine g_iconst rfl ⟨by decide, by decide⟩ ?_
  refine g_iast rfl rfl (by decide) (by decide) (by decide) ?_
  refine g_return (st := []) rfl rfl ?_
  exact ⟨rfl, rfl⟩
def tp_mm116 : tp_M := tp_mm115
set_option maxHeartbeats 4000000 in
set_option maxRecDepth 100000 in
/-- the law up to its loop -/
theorem c_L_law_law {G : tp_G} {Φ : Option tp_V → tp_M → Prop} (hq : tp_Gf G = false) (k : tp_go G mL_law 18 [some (tR (some 5000)), some (tR (some 0)), some (tR (some 201)), some (tI 0)] [] tp_mm116 234 234 0 Φ) : tp_go G mL_law 0 [some (tR (some 5000)), none, none, none] [] tp_m0 0 234 40068 Φ := by
  refine y_new (n1 := 1) (b1 := 40058) hq rfl rfl (fun _ => ⟨rfl, rfl⟩) (by decide) (by decide) rfl rfl ?_
  refine g_dupr rfl ?_
  change tp_go G mL_law 4 _ _ tp_mm0 _ _ _ _
  refine y_I (as := []) (b1 := 20564) (c_X11_init_0 hq) rfl rfl mX11_init_ok rfl (by decide) rfl rfl rfl rfl (by decide) rfl ?_
  rintro _ _ ⟨rfl, rfl⟩ _
  refine g_astore_n rfl rfl rfl ?_
  refine y_new (n1 := 202) (b1 := 20489) hq rfl rfl (fun _ => ⟨rfl, rfl⟩) (by decide) (by decide) rfl rfl ?_
  refine g_dupr rfl ?_
  change tp_go G mL_law 12 _ _ tp_mm114 _ _ _ _
  refine y_I (as := []) (b1 := 0) (c_X12_init_201 hq) rfl rfl mX12_init_ok rfl (by decide) rfl rfl rfl rfl (by decide) rfl ?_
  rintro _ _ ⟨rfl, rfl⟩ _
  refine g_astore_n rfl rfl rfl ?_
  refine g_iconst rfl ⟨by decide, by decide⟩ ?_
  refine g_istore_n rfl rfl rfl ?_
  exact k
