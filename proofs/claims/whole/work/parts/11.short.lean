/-! the rules in the form in which walks use them: the constructors are through (234 cells), sums in range, calls told or walked through -/
abbrev tp_g (G : tp_G) (d : tp_D) (pc : Nat) (ls : List (Option tp_V)) (st : List tp_V) (μ : tp_M) (Φ : Option tp_V → tp_M → Prop) : Prop := tp_go G d pc ls st μ 234 234 0 Φ
abbrev tp_k (G : tp_G) (d : tp_D) (as : List tp_V) (μ : tp_M) (Φ : Option tp_V → tp_M → Prop) : Prop := tp_ok G d as μ 234 234 0 Φ
abbrev tp_push (r : Option tp_V) (st : List tp_V) : List tp_V := match r with
  | none => st
  | some v => v :: st
theorem tp_push_eq (r : Option tp_V) (st : List tp_V) : r.toList ++ st = tp_push r st := by cases r <;> rfl
theorem tp_conseq {G : tp_G} {d : tp_D} {pc : Nat} {ls : List (Option tp_V)} {st : List tp_V} {μ : tp_M} {n n' bs : Nat} {Φ Ψ : Option tp_V → tp_M → Prop} (h : ∀ r μ', Ψ r μ' → Φ r μ') (k : tp_go G d pc ls st μ n n' bs Ψ) : tp_go G d pc ls st μ n n' bs Φ := by
  intro p e s m args below meth c H locs cells slots lsA mc ms Z T hT X
  obtain ⟨t, h1, o, h2, h3, ⟨r, μ', q1, q2, q3, q4, q5, q6⟩, h5⟩ := k p e s m args below meth c H locs cells slots lsA mc ms Z T hT X
  exact ⟨t, h1, o, h2, h3, ⟨r, μ', q1, q2, q3, q4, h r μ' q5, q6⟩, h5⟩
theorem g_mok {G : tp_G} {d : tp_D} {pc : Nat} {ls : List (Option tp_V)} {st : List tp_V} {μ : tp_M} {n n' bs : Nat} {Φ : Option tp_V → tp_M → Prop} (k : tp_mok μ → tp_go G d pc ls st μ n n' bs Φ) : tp_go G d pc ls st μ n n' bs Φ :=
  fun p e s m args below meth c H locs cells slots lsA mc ms Z => k Z.2.2.2.2.2.1 p e s m args below meth c H locs cells slots lsA mc ms Z
theorem g_fit {G : tp_G} {d : tp_D} {pc : Nat} {ls : List (Option tp_V)} {st : List tp_V} {μ : tp_M} {n n' bs : Nat} {Φ : Option tp_V → tp_M → Prop} (k : (∀ v, some v ∈ ls → tp_fit v) → tp_go G d pc ls st μ n n' bs Φ) : tp_go G d pc ls st μ n n' bs Φ :=
  fun p e s m args below meth c H locs cells slots lsA mc ms Z => k Z.2.2.2.2.2.2.2 p e s m args below meth c H locs cells slots lsA mc ms Z
theorem tp_m32 {μ : tp_M} (hm : tp_mok μ) (c : Nat) (j : Int) (h : tp_sty c j ≠ .long := by decide) : -2147483648 ≤ μ.1 c j ∧ μ.1 c j < 2147483648 := tp_rng32 (hm c j) h
theorem tp_m01 {μ : tp_M} (hm : tp_mok μ) (c : Nat) (j : Int) (h : tp_sty c j = .boolean := by decide) : μ.1 c j = 0 ∨ μ.1 c j = 1 := by
  have := hm c j
  rw [h] at this
  have h2 : 0 ≤ μ.1 c j ∧ μ.1 c j ≤ 1 := this
  omega
section
variable {G : tp_G} {d : tp_D} {pc : Nat} {ls : List (Option tp_V)} {st : List tp_V} {μ : tp_M} {Φ : Option tp_V → tp_M → Prop}
/-! a call that is told -/
theorem g_cV {idx pos : Nat} {d2 : tp_D} {S as : List tp_V} {Ψ : Option tp_V → tp_M → Prop} {c0 ci : Nat} (hok : tp_k G d2 (tR (some c0) :: as) μ Ψ) (hst : S = as.reverse ++ tR (some c0) :: st) (hf : tp_at d pc = some (.invokevirtual idx, 3, pos, tp_dx d2, 0)) (hg : tp_good d2 = true) (hk : (tp_dp d2).2.2.2.2 = 0) (hc : tp_SH c0 = .inl ci) (hci : tp_cl[ci]? = some ((tp_dn d2).cls, tp_T ci, tp_cn ci)) (hn : c0 < 234) (ha : as.length = tp_da d2) (hdep : Nat.ble (tp_dd d2 + 1) (tp_dd d) = true) (hw : Nat.ble (tp_rw st) 8 = true)
    (k : ∀ (r : Option tp_V) (μ' : tp_M), Ψ r μ' → tp_mok μ' → tp_g G d (pc + 3) ls (tp_push r st) μ' Φ) : tp_g G d pc ls S μ Φ :=
  g_callV hok hst hf hg hk hc hci hn ha hdep hw (Nat.le_refl _) (Nat.le_refl _) (fun r μ' h hm => by rw [tp_push_eq]; exact k r μ' h hm)
theorem g_cS {idx pos : Nat} {d2 : tp_D} {S as : List tp_V} {Ψ : Option tp_V → tp_M → Prop} (hok : tp_k G d2 as μ Ψ) (hst : S = as.reverse ++ st) (hf : tp_at d pc = some (.invokestatic idx, 3, pos, tp_dx d2, 0)) (hg : tp_good d2 = true) (hk : (tp_dp d2).2.2.2.2 = 1) (ha : as.length = tp_da d2) (hdep : Nat.ble (tp_dd d2 + 1) (tp_dd d) = true) (hw : Nat.ble (tp_rw st) 8 = true)
    (k : ∀ (r : Option tp_V) (μ' : tp_M), Ψ r μ' → tp_mok μ' → tp_g G d (pc + 3) ls (tp_push r st) μ' Φ) : tp_g G d pc ls S μ Φ :=
  g_callS hok hst hf hg hk ha hdep hw (Nat.le_refl _) (Nat.le_refl _) (fun r μ' h hm => by rw [tp_push_eq]; exact k r μ' h hm)
theorem g_cN {idx pos : Nat} {d2 : tp_D} {S as : List tp_V} {Ψ : Option tp_V → tp_M → Prop} (hok : tp_k G d2 as μ Ψ) (hst : S = as.reverse ++ st) (hf : tp_at d pc = some (.invokestatic idx, 3, pos, tp_dx d2, 1)) (hg : tp_good d2 = true) (hk : (tp_dp d2).2.2.2.2 = 1) (ha : as.length = tp_da d2) (hdep : Nat.ble (tp_dd d2 + 1) (tp_dd d) = true) (hw : Nat.ble (tp_rw st) 8 = true)
    (k : ∀ (r : Option tp_V) (μ' : tp_M), Ψ r μ' → tp_mok μ' → tp_g G d (pc + 3) ls (tp_push r st) μ' Φ) : tp_g G d pc ls S μ Φ :=
  g_callSN hok hst hf hg hk ha hdep hw (Nat.le_refl _) (Nat.le_refl _) (fun r μ' h hm => by rw [tp_push_eq]; exact k r μ' h hm)
/-! a call that is walked through: the callee's end is the caller's way on -/
theorem g_iV {idx pos : Nat} {d2 : tp_D} {S as : List tp_V} {c0 ci : Nat} (hg : tp_good d2 = true) (hst : S = as.reverse ++ tR (some c0) :: st) (hf : tp_at d pc = some (.invokevirtual idx, 3, pos, tp_dx d2, 0)) (hcn : Nat.ble (tp_cnt (tR (some c0) :: as)) (tp_dl d2) = true) (hk : (tp_dp d2).2.2.2.2 = 0) (hc : tp_SH c0 = .inl ci) (hci : tp_cl[ci]? = some ((tp_dn d2).cls, tp_T ci, tp_cn ci)) (hn : c0 < 234) (ha : as.length = tp_da d2) (hdep : Nat.ble (tp_dd d2 + 1) (tp_dd d) = true) (hw : Nat.ble (tp_rw st) 8 = true)
    (k : tp_g G d2 0 (tp_ls0 (tR (some c0) :: as) (tp_dl d2)) [] μ (fun r μ' => tp_mok μ' → tp_g G d (pc + 3) ls (tp_push r st) μ' Φ)) : tp_g G d pc ls S μ Φ :=
  g_cV (tp_ok_of hg hcn (Nat.le_refl _) k) hst hf hg hk hc hci hn ha hdep hw (fun _ _ h hm => h hm)
theorem g_iS {idx pos : Nat} {d2 : tp_D} {S as : List tp_V} (hg : tp_good d2 = true) (hst : S = as.reverse ++ st) (hf : tp_at d pc = some (.invokestatic idx, 3, pos, tp_dx d2, 0)) (hcn : Nat.ble (tp_cnt as) (tp_dl d2) = true) (hk : (tp_dp d2).2.2.2.2 = 1) (ha : as.length = tp_da d2) (hdep : Nat.ble (tp_dd d2 + 1) (tp_dd d) = true) (hw : Nat.ble (tp_rw st) 8 = true)
    (k : tp_g G d2 0 (tp_ls0 as (tp_dl d2)) [] μ (fun r μ' => tp_mok μ' → tp_g G d (pc + 3) ls (tp_push r st) μ' Φ)) : tp_g G d pc ls S μ Φ :=
  g_cS (tp_ok_of hg hcn (Nat.le_refl _) k) hst hf hg hk ha hdep hw (fun _ _ h hm => h hm)
theorem g_iN {idx pos : Nat} {d2 : tp_D} {S as : List tp_V} (hg : tp_good d2 = true) (hst : S = as.reverse ++ st) (hf : tp_at d pc = some (.invokestatic idx, 3, pos, tp_dx d2, 1)) (hcn : Nat.ble (tp_cnt as) (tp_dl d2) = true) (hk : (tp_dp d2).2.2.2.2 = 1) (ha : as.length = tp_da d2) (hdep : Nat.ble (tp_dd d2 + 1) (tp_dd d) = true) (hw : Nat.ble (tp_rw st) 8 = true)
    (k : tp_g G d2 0 (tp_ls0 as (tp_dl d2)) [] μ (fun r μ' => tp_mok μ' → tp_g G d (pc + 3) ls (tp_push r st) μ' Φ)) : tp_g G d pc ls S μ Φ :=
  g_cN (tp_ok_of hg hcn (Nat.le_refl _) k) hst hf hg hk ha hdep hw (fun _ _ h hm => h hm)
variable {x : Nat × Nat × Nat} {a b : Int}
theorem x_iadd {z : Int} (hf : tp_at d pc = some (.iadd, 1, x)) (hz : a + b = z) (hr : tp_r32 z) (k : tp_g G d (pc + 1) ls (tI z :: st) μ Φ) : tp_g G d pc ls (tI b :: tI a :: st) μ Φ := g_iadd hf (by rw [hz, tp_w_id hr]; exact k)
theorem x_isub {z : Int} (hf : tp_at d pc = some (.isub, 1, x)) (hz : a - b = z) (hr : tp_r32 z) (k : tp_g G d (pc + 1) ls (tI z :: st) μ Φ) : tp_g G d pc ls (tI b :: tI a :: st) μ Φ := g_isub hf (by rw [hz, tp_w_id hr]; exact k)
theorem x_imul {z : Int} (hf : tp_at d pc = some (.imul, 1, x)) (hz : a * b = z) (hr : tp_r32 z) (k : tp_g G d (pc + 1) ls (tI z :: st) μ Φ) : tp_g G d pc ls (tI b :: tI a :: st) μ Φ := g_imul hf (by rw [hz, tp_w_id hr]; exact k)
theorem x_idiv (hf : tp_at d pc = some (.idiv, 1, x)) (ha : 0 ≤ a ∧ a < 2147483648) (hb : 0 < b) (k : tp_g G d (pc + 1) ls (tI (a / b) :: st) μ Φ) : tp_g G d pc ls (tI b :: tI a :: st) μ Φ := g_idiv hf (by omega) (by
  have h1 : a.tdiv b = a / b := Int.tdiv_eq_ediv_of_nonneg ha.1
  have h2 : 0 ≤ a / b := Int.ediv_nonneg ha.1 (by omega)
  have h3 : a / b ≤ a := Int.ediv_le_self b ha.1
  rw [h1, tp_w_id ⟨by omega, by omega⟩]
  exact k)
theorem x_irem (hf : tp_at d pc = some (.irem, 1, x)) (ha : 0 ≤ a ∧ a < 2147483648) (hb : 0 < b) (k : tp_g G d (pc + 1) ls (tI (a % b) :: st) μ Φ) : tp_g G d pc ls (tI b :: tI a :: st) μ Φ := g_irem hf (by omega) (by
  have h1 : a.tmod b = a % b := Int.tmod_eq_emod_of_nonneg ha.1
  have h2 : 0 ≤ a % b := Int.emod_nonneg a (by omega)
  have h3 : a % b ≤ a := by
    have h4 := Int.emod_lt_of_pos a hb
    have h5 := Int.mul_ediv_add_emod a b
    have h6 : 0 ≤ b * (a / b) := Int.mul_nonneg (by omega) (Int.ediv_nonneg ha.1 (by omega))
    omega
  rw [h1, tp_w_id ⟨by omega, by omega⟩]
  exact k)
theorem x_iinc {i : Nat} {y z : Int} (hf : tp_at d pc = some (.iinc i y, 3, x)) (ha : ls[i]? = some (some (tI a))) (hz : a + y = z) (hr : tp_r32 z) (hi : Nat.ble (i + 1) (tp_dl d) = true) (hn : tp_noL ls i = true) (k : tp_g G d (pc + 3) (ls.set i (some (tI z))) st μ Φ) : tp_g G d pc ls st μ Φ := g_iinc hf ha hi hn (by rw [hz, tp_w_id hr]; exact k)
theorem tp_rdF {k : Nat} {j : Int} {r : Nat} (hG : tp_Gf G = true) (h : tp_RF k j = some r) : tp_rd G μ k j = some r := by simp only [tp_rd, hG, cond_true, h]
theorem tp_rdM {k : Nat} {j : Int} (hG : tp_Gf G = true) (h : tp_RF k j = none) : tp_rd G μ k j = μ.2 k j := by simp only [tp_rd, hG, cond_true, h]
theorem x_geti {idx pos ci j c0 : Nat} {v : Int} (hf : tp_at d pc = some (.getfield idx, 3, pos, ci, j)) (hc : tp_SH c0 = .inl ci) (hn : c0 < 234) (ht : tp_ty ci j = .int ∨ tp_ty ci j = .boolean ∨ tp_ty ci j = .byte) (hv : μ.1 c0 (j : Int) = v) (k : tp_g G d (pc + 3) ls (tI v :: st) μ Φ) : tp_g G d pc ls (tR (some c0) :: st) μ Φ := g_geti hf hc hn ht (by rw [hv]; exact k)
theorem x_getF {idx pos ci j c0 r : Nat} (hG : tp_Gf G = true) (hf : tp_at d pc = some (.getfield idx, 3, pos, ci, j)) (hc : tp_SH c0 = .inl ci) (hn : c0 < 234) (ht : (∃ t, tp_ty ci j = .object t) ∨ ∃ t, tp_ty ci j = .array t) (hr : tp_RF c0 (j : Int) = some r) (k : tp_g G d (pc + 3) ls (tR (some r) :: st) μ Φ) : tp_g G d pc ls (tR (some c0) :: st) μ Φ := g_getr hf hc hn ht (by rw [tp_rdF hG hr]; exact k)
theorem x_getM {idx pos ci j c0 : Nat} {v : Option Nat} (hG : tp_Gf G = true) (hf : tp_at d pc = some (.getfield idx, 3, pos, ci, j)) (hc : tp_SH c0 = .inl ci) (hn : c0 < 234) (ht : (∃ t, tp_ty ci j = .object t) ∨ ∃ t, tp_ty ci j = .array t) (hr : tp_RF c0 (j : Int) = none) (hv : μ.2 c0 (j : Int) = v) (k : tp_g G d (pc + 3) ls (tR v :: st) μ Φ) : tp_g G d pc ls (tR (some c0) :: st) μ Φ := g_getr hf hc hn ht (by rw [tp_rdM hG hr, hv]; exact k)
theorem x_aald {c0 len t0 r : Nat} {Cn : String} (hG : tp_Gf G = true) (hf : tp_at d pc = some (.aaload, 1, x)) (hc : tp_SH c0 = .inr (.object Cn, len)) (ht : tp_tyl[t0]? = some (.object Cn)) (hn : c0 < 234) (h0 : 0 ≤ a) (h1 : a < (len : Int)) (hr : tp_RF c0 a = some r) (k : tp_g G d (pc + 1) ls (tR (some r) :: st) μ Φ) : tp_g G d pc ls (tI a :: tR (some c0) :: st) μ Φ := g_aald hf hc ht hn h0 h1 (by rw [tp_rdF hG hr]; exact k)
theorem x_iald {c0 len : Nat} {v : Int} (hf : tp_at d pc = some (.iaload, 1, x)) (hc : tp_SH c0 = .inr (.int, len)) (hn : c0 < 234) (h0 : 0 ≤ a) (h1 : a < (len : Int)) (hv : μ.1 c0 a = v) (k : tp_g G d (pc + 1) ls (tI v :: st) μ Φ) : tp_g G d pc ls (tI a :: tR (some c0) :: st) μ Φ := g_iald hf hc hn h0 h1 (by rw [hv]; exact k)
theorem x_putr {idx pos ci j c0 : Nat} {r : Option Nat} (hf : tp_at d pc = some (.putfield idx, 3, pos, ci, j)) (hc : tp_SH c0 = .inl ci) (hn : c0 < 234) (hfin : (tp_T ci j).2.2.2 = false) (ht : (∃ t, tp_ty ci j = .object t) ∨ ∃ t, tp_ty ci j = .array t) (hq : tp_RF c0 (j : Int) = none) (k : tp_g G d (pc + 3) ls st (tp_pr μ c0 (j : Int) r) Φ) : tp_g G d pc ls (tR r :: tR (some c0) :: st) μ Φ := g_putr hf hc hn hfin ht (Or.inr hq) k
end
theorem x_ireturn {G : tp_G} {d : tp_D} {pc : Nat} {ls : List (Option tp_V)} {μ : tp_M} {Φ : Option tp_V → tp_M → Prop} {x : Nat × Nat × Nat} {a : Int} (hf : tp_at d pc = some (.ireturn, 1, x)) (hr : tp_dr d = some .int) (hq : Φ (some (tI a)) μ) : tp_g G d pc ls [tI a] μ Φ := g_ireturn (st := []) hf hr hq
theorem x_zreturn {G : tp_G} {d : tp_D} {pc : Nat} {ls : List (Option tp_V)} {μ : tp_M} {Φ : Option tp_V → tp_M → Prop} {x : Nat × Nat × Nat} {a : Int} (hf : tp_at d pc = some (.ireturn, 1, x)) (hr : tp_dr d = some .boolean) (ha : a = 0 ∨ a = 1) (hq : Φ (some (tI a)) μ) : tp_g G d pc ls [tI a] μ Φ := g_zreturn (st := []) hf hr ha hq
theorem x_lreturn {G : tp_G} {d : tp_D} {pc : Nat} {ls : List (Option tp_V)} {μ : tp_M} {Φ : Option tp_V → tp_M → Prop} {x : Nat × Nat × Nat} {a : Int} (hf : tp_at d pc = some (.lreturn, 1, x)) (hr : tp_dr d = some .long) (hq : Φ (some (tL a)) μ) : tp_g G d pc ls [tL a] μ Φ := g_lreturn (st := []) hf hr hq
theorem x_areturn {G : tp_G} {d : tp_D} {pc : Nat} {ls : List (Option tp_V)} {μ : tp_M} {Φ : Option tp_V → tp_M → Prop} {x : Nat × Nat × Nat} {r : Option Nat} {nm : String} (hf : tp_at d pc = some (.areturn, 1, x)) (hr : tp_dr d = some (.object nm)) (hq : Φ (some (tR r)) μ) : tp_g G d pc ls [tR r] μ Φ := g_areturn (st := []) hf hr hq
theorem x_return {G : tp_G} {d : tp_D} {pc : Nat} {ls : List (Option tp_V)} {μ : tp_M} {Φ : Option tp_V → tp_M → Prop} {x : Nat × Nat × Nat} (hf : tp_at d pc = some (.return_, 1, x)) (hr : tp_dr d = none) (hq : Φ none μ) : tp_g G d pc ls [] μ Φ := g_return (st := []) hf hr hq
theorem tp_pi1 {μ : tp_M} {k k' : Nat} {j j' v : Int} : (tp_pi μ k j v).1 k' j' = if k' = k ∧ j' = j then v else μ.1 k' j' := rfl
theorem tp_pi2 {μ : tp_M} {k : Nat} {j v : Int} : (tp_pi μ k j v).2 = μ.2 := rfl
theorem tp_pr1 {μ : tp_M} {k : Nat} {j : Int} {r : Option Nat} : (tp_pr μ k j r).1 = μ.1 := rfl
theorem tp_pr2 {μ : tp_M} {k k' : Nat} {j j' : Int} {r : Option Nat} : (tp_pr μ k j r).2 k' j' = if k' = k ∧ j' = j then r else μ.2 k' j' := rfl
