theorem tp_styF {c0 ci j : Nat} (hc : tp_SH c0 = .inl ci) : tp_sty c0 (j : Int) = tp_ty ci j := by simp only [tp_sty, hc, Int.toNat_natCast]
theorem tp_styA {c0 len : Nat} {ty : FieldType} {i : Int} (hc : tp_SH c0 = .inr (ty, len)) : tp_sty c0 i = ty := by simp only [tp_sty, hc]
theorem g_geti {G : tp_G} {d : tp_D} {pc : Nat} {ls : List (Option tp_V)} {st : List tp_V} {μ : tp_M} {n n' bs : Nat} {Φ : Option tp_V → tp_M → Prop} {idx pos ci j c0 : Nat} (hf : tp_at d pc = some (.getfield idx, 3, pos, ci, j)) (hc : tp_SH c0 = .inl ci) (hn : c0 < n) (ht : tp_ty ci j = .int ∨ tp_ty ci j = .boolean ∨ tp_ty ci j = .byte) (k : tp_go G d (pc + 3) ls (tI (μ.1 c0 (j : Int)) :: st) μ n n' bs Φ) : tp_go G d (pc) ls (tR (some c0) :: st) μ n n' bs Φ := by
  intro p e s m args below meth c H locs cells slots lsA mc ms Z
  obtain ⟨C, hS, hR, hl, hB, hm, hs, hv⟩ := Z
  have hd := tp_dec C.1 hf
  have hx := C.2.1
  have hb := C.2.2.1
  have hown := C.2.2.2.2.2.2.2.1
  have hts := C.2.2.2.2.2.2.2.2.1
  have hK := C.2.2.2.2.2.2.2.2.2.1
  obtain ⟨hw, hj, hci⟩ := tp_lf_spec (tp_lnk C.1 hf)
  have hz := k p e s m args below meth c H locs cells slots lsA mc ms ⟨C, hS, hR, hl, hB, hm, tp_fc (tp_rng32 (hm c0 (j : Int)) (by rw [tp_styF hc]; rcases ht with h | h | h <;> rw [h] <;> decide)) (tp_f1 hs), hv⟩
  rw [List.map_cons, tp_ref hn hR.1]
  refine va_get hx hb hts (tp_cl_in ci hci) hown hK.1 hR.2 c0 (tp_ws_obj hn hc) (tp_cl_at ci hci) j hj (hts _ hw) (fun _ h => h) (tp_fl_at hj) hd ?_
  rw [tp_fv_int ht]
  exact hz
theorem g_getl {G : tp_G} {d : tp_D} {pc : Nat} {ls : List (Option tp_V)} {st : List tp_V} {μ : tp_M} {n n' bs : Nat} {Φ : Option tp_V → tp_M → Prop} {idx pos ci j c0 : Nat} (hf : tp_at d pc = some (.getfield idx, 3, pos, ci, j)) (hc : tp_SH c0 = .inl ci) (hn : c0 < n) (ht : tp_ty ci j = .long) (k : tp_go G d (pc + 3) ls (tL (μ.1 c0 (j : Int)) :: st) μ n n' bs Φ) : tp_go G d (pc) ls (tR (some c0) :: st) μ n n' bs Φ := by
  intro p e s m args below meth c H locs cells slots lsA mc ms Z
  obtain ⟨C, hS, hR, hl, hB, hm, hs, hv⟩ := Z
  have hd := tp_dec C.1 hf
  have hx := C.2.1
  have hb := C.2.2.1
  have hown := C.2.2.2.2.2.2.2.1
  have hts := C.2.2.2.2.2.2.2.2.1
  have hK := C.2.2.2.2.2.2.2.2.2.1
  obtain ⟨hw, hj, hci⟩ := tp_lf_spec (tp_lnk C.1 hf)
  have hz := k p e s m args below meth c H locs cells slots lsA mc ms ⟨C, hS, hR, hl, hB, hm, tp_fc (by have := hm c0 (j : Int); rw [tp_styF hc, ht] at this; exact this) (tp_f1 hs), hv⟩
  rw [List.map_cons, tp_ref hn hR.1]
  refine va_get hx hb hts (tp_cl_in ci hci) hown hK.1 hR.2 c0 (tp_ws_obj hn hc) (tp_cl_at ci hci) j hj (hts _ hw) (fun _ h => h) (tp_fl_at hj) hd ?_
  rw [ht, tp_fv_long]
  exact hz
theorem g_getr {G : tp_G} {d : tp_D} {pc : Nat} {ls : List (Option tp_V)} {st : List tp_V} {μ : tp_M} {n n' bs : Nat} {Φ : Option tp_V → tp_M → Prop} {idx pos ci j c0 : Nat} (hf : tp_at d pc = some (.getfield idx, 3, pos, ci, j)) (hc : tp_SH c0 = .inl ci) (hn : c0 < n) (ht : (∃ t, tp_ty ci j = .object t) ∨ ∃ t, tp_ty ci j = .array t) (k : tp_go G d (pc + 3) ls (tR (tp_rd G μ c0 (j : Int)) :: st) μ n n' bs Φ) : tp_go G d (pc) ls (tR (some c0) :: st) μ n n' bs Φ := by
  intro p e s m args below meth c H locs cells slots lsA mc ms Z
  obtain ⟨C, hS, hR, hl, hB, hm, hs, hv⟩ := Z
  have hd := tp_dec C.1 hf
  have hx := C.2.1
  have hb := C.2.2.1
  have hown := C.2.2.2.2.2.2.2.1
  have hts := C.2.2.2.2.2.2.2.2.1
  have hK := C.2.2.2.2.2.2.2.2.2.1
  obtain ⟨hw, hj, hci⟩ := tp_lf_spec (tp_lnk C.1 hf)
  have hz := k p e s m args below meth c H locs cells slots lsA mc ms ⟨C, hS, hR, hl, hB, hm, tp_fc trivial (tp_f1 hs), hv⟩
  rw [List.map_cons, tp_ref hn hR.1]
  refine va_get hx hb hts (tp_cl_in ci hci) hown hK.1 hR.2 c0 (tp_ws_obj hn hc) (tp_cl_at ci hci) j hj (hts _ hw) (fun _ h => h) (tp_fl_at hj) hd ?_
  rw [tp_fv_ref ht]
  exact hz
theorem g_puti {G : tp_G} {d : tp_D} {pc : Nat} {ls : List (Option tp_V)} {st : List tp_V} {μ : tp_M} {n n' bs : Nat} {Φ : Option tp_V → tp_M → Prop} {idx pos ci j c0 : Nat} {a : Int} (hf : tp_at d pc = some (.putfield idx, 3, pos, ci, j)) (hc : tp_SH c0 = .inl ci) (hn : c0 < n) (hfin : (tp_T ci j).2.2.2 = false) (ht : tp_ty ci j = .int) (k : tp_go G d (pc + 3) ls (st) (tp_pi μ c0 (j : Int) a) n n' bs Φ) : tp_go G d (pc) ls (tI a :: tR (some c0) :: st) μ n n' bs Φ := by
  intro p e s m args below meth c H locs cells slots lsA mc ms Z
  obtain ⟨C, hS, hR, hl, hB, hm, hs, hv⟩ := Z
  have hd := tp_dec C.1 hf
  have hx := C.2.1
  have hb := C.2.2.1
  have hown := C.2.2.2.2.2.2.2.1
  have hts := C.2.2.2.2.2.2.2.2.1
  have hK := C.2.2.2.2.2.2.2.2.2.1
  obtain ⟨hw, hj, hci⟩ := tp_lf_spec (tp_lnk C.1 hf)
  rw [List.map_cons, List.map_cons, tp_ref hn hR.1]
  refine va_put hx hb hts (tp_cl_in ci hci) (tp_ty ci) (tp_cl_ty ci hci) (tp_cl_nm ci hci) hown hK.1 hR.2 tp_wsD hS c0 (tp_ws_obj hn hc) (tp_cl_at ci hci) j hj (hts _ hw) (fun _ h => h) hfin (tp_cl_ty ci hci j hj) (by rw [ht]; rfl) (by rw [ht]; rfl) (by simp [tp_fl]; exact hj) hd (fun H1 locs1 hP1 _ hS1 => ?_)
  rw [tp_put_obj (μ' := (tp_pi μ c0 (j : Int) a)) hn hc hj tp_e_pi (fun i hi => tp_fv_pi hi) (by rw [ht]; simp only [tp_fv, tp_pi_at]; rfl)] at hP1
  exact k p e s m args below meth c H1 locs1 cells slots lsA mc ms ⟨C, hS1, ⟨hR.1, hP1⟩, hl, hB, (tp_mok_pi hm (by rw [tp_styF hc, ht]; exact tp_f0 hs)), tp_f1 (tp_f1 hs), hv⟩
theorem g_putz {G : tp_G} {d : tp_D} {pc : Nat} {ls : List (Option tp_V)} {st : List tp_V} {μ : tp_M} {n n' bs : Nat} {Φ : Option tp_V → tp_M → Prop} {idx pos ci j c0 : Nat} {a : Int} (hf : tp_at d pc = some (.putfield idx, 3, pos, ci, j)) (hc : tp_SH c0 = .inl ci) (hn : c0 < n) (hfin : (tp_T ci j).2.2.2 = false) (ht : tp_ty ci j = .boolean) (ha : a = 0 ∨ a = 1) (k : tp_go G d (pc + 3) ls (st) (tp_pi μ c0 (j : Int) a) n n' bs Φ) : tp_go G d (pc) ls (tI a :: tR (some c0) :: st) μ n n' bs Φ := by
  intro p e s m args below meth c H locs cells slots lsA mc ms Z
  obtain ⟨C, hS, hR, hl, hB, hm, hs, hv⟩ := Z
  have hd := tp_dec C.1 hf
  have hx := C.2.1
  have hb := C.2.2.1
  have hown := C.2.2.2.2.2.2.2.1
  have hts := C.2.2.2.2.2.2.2.2.1
  have hK := C.2.2.2.2.2.2.2.2.2.1
  obtain ⟨hw, hj, hci⟩ := tp_lf_spec (tp_lnk C.1 hf)
  rw [List.map_cons, List.map_cons, tp_ref hn hR.1]
  refine va_put hx hb hts (tp_cl_in ci hci) (tp_ty ci) (tp_cl_ty ci hci) (tp_cl_nm ci hci) hown hK.1 hR.2 tp_wsD hS c0 (tp_ws_obj hn hc) (tp_cl_at ci hci) j hj (hts _ hw) (fun _ h => h) hfin (tp_cl_ty ci hci j hj) (by rw [ht]; rcases ha with rfl | rfl <;> rfl) (by rw [ht]; rcases ha with rfl | rfl <;> rfl) (by simp [tp_fl]; exact hj) hd (fun H1 locs1 hP1 _ hS1 => ?_)
  rw [tp_put_obj (μ' := (tp_pi μ c0 (j : Int) a)) hn hc hj tp_e_pi (fun i hi => tp_fv_pi hi) (by rw [ht]; simp only [tp_fv, tp_pi_at]; rfl)] at hP1
  exact k p e s m args below meth c H1 locs1 cells slots lsA mc ms ⟨C, hS1, ⟨hR.1, hP1⟩, hl, hB, (tp_mok_pi hm (by rw [tp_styF hc, ht]; exact ⟨by omega, by omega⟩)), tp_f1 (tp_f1 hs), hv⟩
theorem g_putl {G : tp_G} {d : tp_D} {pc : Nat} {ls : List (Option tp_V)} {st : List tp_V} {μ : tp_M} {n n' bs : Nat} {Φ : Option tp_V → tp_M → Prop} {idx pos ci j c0 : Nat} {a : Int} (hf : tp_at d pc = some (.putfield idx, 3, pos, ci, j)) (hc : tp_SH c0 = .inl ci) (hn : c0 < n) (hfin : (tp_T ci j).2.2.2 = false) (ht : tp_ty ci j = .long) (k : tp_go G d (pc + 3) ls (st) (tp_pi μ c0 (j : Int) a) n n' bs Φ) : tp_go G d (pc) ls (tL a :: tR (some c0) :: st) μ n n' bs Φ := by
  intro p e s m args below meth c H locs cells slots lsA mc ms Z
  obtain ⟨C, hS, hR, hl, hB, hm, hs, hv⟩ := Z
  have hd := tp_dec C.1 hf
  have hx := C.2.1
  have hb := C.2.2.1
  have hown := C.2.2.2.2.2.2.2.1
  have hts := C.2.2.2.2.2.2.2.2.1
  have hK := C.2.2.2.2.2.2.2.2.2.1
  obtain ⟨hw, hj, hci⟩ := tp_lf_spec (tp_lnk C.1 hf)
  rw [List.map_cons, List.map_cons, tp_ref hn hR.1]
  refine va_put hx hb hts (tp_cl_in ci hci) (tp_ty ci) (tp_cl_ty ci hci) (tp_cl_nm ci hci) hown hK.1 hR.2 tp_wsD hS c0 (tp_ws_obj hn hc) (tp_cl_at ci hci) j hj (hts _ hw) (fun _ h => h) hfin (tp_cl_ty ci hci j hj) (by rw [ht]; rfl) (by rw [ht]; rfl) (by simp [tp_fl]; exact hj) hd (fun H1 locs1 hP1 _ hS1 => ?_)
  rw [tp_put_obj (μ' := (tp_pi μ c0 (j : Int) a)) hn hc hj tp_e_pi (fun i hi => tp_fv_pi hi) (by rw [ht]; simp only [tp_fv, tp_pi_at]; rfl)] at hP1
  exact k p e s m args below meth c H1 locs1 cells slots lsA mc ms ⟨C, hS1, ⟨hR.1, hP1⟩, hl, hB, (tp_mok_pi hm (by rw [tp_styF hc, ht]; exact tp_f0 hs)), tp_f1 (tp_f1 hs), hv⟩
theorem g_putr {G : tp_G} {d : tp_D} {pc : Nat} {ls : List (Option tp_V)} {st : List tp_V} {μ : tp_M} {n n' bs : Nat} {Φ : Option tp_V → tp_M → Prop} {idx pos ci j c0 : Nat} {r : Option Nat} (hf : tp_at d pc = some (.putfield idx, 3, pos, ci, j)) (hc : tp_SH c0 = .inl ci) (hn : c0 < n) (hfin : (tp_T ci j).2.2.2 = false) (ht : (∃ t, tp_ty ci j = .object t) ∨ ∃ t, tp_ty ci j = .array t) (hq : tp_Gf G = false ∨ tp_RF c0 (j : Int) = none) (k : tp_go G d (pc + 3) ls (st) (tp_pr μ c0 (j : Int) r) n n' bs Φ) : tp_go G d (pc) ls (tR r :: tR (some c0) :: st) μ n n' bs Φ := by
  intro p e s m args below meth c H locs cells slots lsA mc ms Z
  obtain ⟨C, hS, hR, hl, hB, hm, hs, hv⟩ := Z
  have hd := tp_dec C.1 hf
  have hx := C.2.1
  have hb := C.2.2.1
  have hown := C.2.2.2.2.2.2.2.1
  have hts := C.2.2.2.2.2.2.2.2.1
  have hK := C.2.2.2.2.2.2.2.2.2.1
  obtain ⟨hw, hj, hci⟩ := tp_lf_spec (tp_lnk C.1 hf)
  rw [List.map_cons, List.map_cons, tp_ref hn hR.1]
  refine va_put hx hb hts (tp_cl_in ci hci) (tp_ty ci) (tp_cl_ty ci hci) (tp_cl_nm ci hci) hown hK.1 hR.2 tp_wsD hS c0 (tp_ws_obj hn hc) (tp_cl_at ci hci) j hj (hts _ hw) (fun _ h => h) hfin (tp_cl_ty ci hci j hj) (by rcases ht with ⟨t, ht⟩ | ⟨t, ht⟩ <;> rw [ht] <;> cases r <;> rfl) (by rcases ht with ⟨t, ht⟩ | ⟨t, ht⟩ <;> rw [ht] <;> cases r <;> rfl) (by simp [tp_fl]; exact hj) hd (fun H1 locs1 hP1 _ hS1 => ?_)
  rw [tp_put_obj (μ' := (tp_pr μ c0 (j : Int) r)) hn hc hj tp_e_pr (fun i hi => tp_fv_pr hi) (by rw [tp_fv_ref ht]; simp only [tp_rd]; rcases hq with h | h <;> simp only [h, cond_false, tp_pr_at] <;> cases tp_Gf G <;> rfl)] at hP1
  exact k p e s m args below meth c H1 locs1 cells slots lsA mc ms ⟨C, hS1, ⟨hR.1, hP1⟩, hl, hB, (tp_mok_pr hm), tp_f1 (tp_f1 hs), hv⟩
theorem g_putF {G : tp_G} {d : tp_D} {pc : Nat} {ls : List (Option tp_V)} {st : List tp_V} {μ : tp_M} {n n' bs : Nat} {Φ : Option tp_V → tp_M → Prop} {idx pos ci j c0 : Nat} {r : Option Nat} (hf : tp_at d pc = some (.putfield idx, 3, pos, ci, j)) (hc : tp_SH c0 = .inl ci) (hn : c0 < n) (hfin : (tp_T ci j).2.2.2 = true) (hin : (tp_dn d).name = "<init>") (hdc : (tp_T ci j).1 = (tp_dn d).cls) (ht : (∃ t, tp_ty ci j = .object t) ∨ ∃ t, tp_ty ci j = .array t) (hq : tp_Gf G = false ∨ tp_RF c0 (j : Int) = none) (k : tp_go G d (pc + 3) ls (st) (tp_pr μ c0 (j : Int) r) n n' bs Φ) : tp_go G d (pc) ls (tR r :: tR (some c0) :: st) μ n n' bs Φ := by
  intro p e s m args below meth c H locs cells slots lsA mc ms Z
  obtain ⟨C, hS, hR, hl, hB, hm, hs, hv⟩ := Z
  have hd := tp_dec C.1 hf
  have hx := C.2.1
  have hb := C.2.2.1
  have hown := C.2.2.2.2.2.2.2.1
  have hts := C.2.2.2.2.2.2.2.2.1
  have hK := C.2.2.2.2.2.2.2.2.2.1
  obtain ⟨hw, hj, hci⟩ := tp_lf_spec (tp_lnk C.1 hf)
  rw [List.map_cons, List.map_cons, tp_ref hn hR.1]
  refine va_putF hx hb hts (tp_cl_in ci hci) (tp_ty ci) (tp_cl_ty ci hci) (tp_cl_nm ci hci) hown hK.1 hR.2 tp_wsD hS c0 (tp_ws_obj hn hc) (tp_cl_at ci hci) j hj (hts _ hw) (fun _ h => h) hfin (C.2.2.2.2.2.2.1 hin) hdc (tp_cl_ty ci hci j hj) (by rcases ht with ⟨t, ht⟩ | ⟨t, ht⟩ <;> rw [ht] <;> cases r <;> rfl) (by rcases ht with ⟨t, ht⟩ | ⟨t, ht⟩ <;> rw [ht] <;> cases r <;> rfl) (by simp [tp_fl]; exact hj) hd (fun H1 locs1 hP1 _ hS1 => ?_)
  rw [tp_put_obj (μ' := (tp_pr μ c0 (j : Int) r)) hn hc hj tp_e_pr (fun i hi => tp_fv_pr hi) (by rw [tp_fv_ref ht]; simp only [tp_rd]; rcases hq with h | h <;> simp only [h, cond_false, tp_pr_at] <;> cases tp_Gf G <;> rfl)] at hP1
  exact k p e s m args below meth c H1 locs1 cells slots lsA mc ms ⟨C, hS1, ⟨hR.1, hP1⟩, hl, hB, tp_mok_pr hm, tp_f1 (tp_f1 hs), hv⟩
theorem tp_ix {a : Int} {len : Nat} (h0 : 0 ≤ a) (h1 : a < (len : Int)) (hr : tp_r32 a) : vp_in (Int32.ofInt a) len ∧ ((Int32.ofInt a).toNatClampNeg : Int) = a := by
  have e : (Int32.ofInt a).toInt = a := tp_t hr
  refine ⟨vp_in_iff.mpr (by rw [e]; exact ⟨h0, h1⟩), ?_⟩
  rw [← Int32.toNat_toInt, e]
  omega
theorem tp_ac_i {G : tp_G} {μ : tp_M} {k : Nat} {ty : FieldType} (h : ty = .int ∨ ty = .byte ∨ ty = .boolean) : tp_ac G μ k ty = .inl (fun j => Int32.ofInt (μ.1 k (j : Int))) := by
  rcases h with rfl | rfl | rfl <;> rfl
theorem tp_up_i {μ : tp_M} {k : Nat} {a v : Int} {q : Nat} (h : (q : Int) = a) : upd (fun j => Int32.ofInt (μ.1 k (j : Int))) q (Int32.ofInt v) = (fun j : Nat => Int32.ofInt ((tp_pi μ k a v).1 k (j : Int))) := by
  funext j
  unfold upd
  by_cases hj : j = q
  · subst hj
    rw [if_pos rfl, ← h, tp_pi_at]
  · rw [if_neg hj]
    have : (tp_pi μ k a v).1 k (j : Int) = μ.1 k (j : Int) := if_neg (fun z => hj (by omega))
    rw [this]
theorem tp_up_l {μ : tp_M} {k : Nat} {a v : Int} {q : Nat} (h : (q : Int) = a) : vp_updL (fun j => Int64.ofInt (μ.1 k (j : Int))) q (Int64.ofInt v) = (fun j : Nat => Int64.ofInt ((tp_pi μ k a v).1 k (j : Int))) := by
  funext j
  unfold vp_updL
  by_cases hj : j = q
  · subst hj
    rw [if_pos rfl, ← h, tp_pi_at]
  · rw [if_neg hj]
    have : (tp_pi μ k a v).1 k (j : Int) = μ.1 k (j : Int) := if_neg (fun z => hj (by omega))
    rw [this]
def tp_z (a : Int) : Int := (vp_nar .boolean (Int32.ofInt a)).toInt
theorem tp_z_rng (a : Int) : 0 ≤ tp_z a ∧ tp_z a ≤ 1 := by
  have h : ∀ x : Int32, x &&& 1 = 0 ∨ x &&& 1 = 1 := fun x => by
    have e := pk_and x (m := 1) 1 (by decide)
    rw [e]
    have h2 : x.toBitVec.toNat % 2 ^ 1 = 0 ∨ x.toBitVec.toNat % 2 ^ 1 = 1 := by omega
    rcases h2 with h2 | h2 <;> rw [h2]
    · exact Or.inl rfl
    · exact Or.inr rfl
  have h1 : tp_z a = (Int32.ofInt a &&& 1).toInt := rfl
  rw [h1]
  rcases h (Int32.ofInt a) with h2 | h2 <;> rw [h2] <;> decide
theorem tp_b8_rng (a : Int) : -128 ≤ tp_b8 a ∧ tp_b8 a ≤ 127 := by
  have h1 : tp_b8 a = ((Int32.ofInt a).toInt8).toInt := by
    show ((Int32.ofInt a).toInt8.toInt32).toInt = _
    rw [Int8.toInt_toInt32]
  have h2 := Int8.le_toInt (Int32.ofInt a).toInt8
  have h3 := Int8.toInt_lt (Int32.ofInt a).toInt8
  rw [h1]
  omega
theorem g_iald {G : tp_G} {d : tp_D} {pc : Nat} {ls : List (Option tp_V)} {st : List tp_V} {μ : tp_M} {n n' bs : Nat} {Φ : Option tp_V → tp_M → Prop} {x : Nat × Nat × Nat} {a : Int} {c0 len : Nat} (hf : tp_at d pc = some (.iaload, 1, x)) (hc : tp_SH c0 = .inr (.int, len)) (hn : c0 < n) (h0 : 0 ≤ a) (h1 : a < (len : Int)) (k : tp_go G d (pc + 1) ls (tI (μ.1 c0 a) :: st) μ n n' bs Φ) : tp_go G d (pc) ls (tI a :: tR (some c0) :: st) μ n n' bs Φ := by
  intro p e s m args below meth c H locs cells slots lsA mc ms Z
  obtain ⟨C, hS, hR, hl, hB, hm, hs, hv⟩ := Z
  have hd := tp_dec C.1 hf
  have hx := C.2.1
  have hb := C.2.2.1
  have hown := C.2.2.2.2.2.2.2.1
  have hts := C.2.2.2.2.2.2.2.2.1
  have hK := C.2.2.2.2.2.2.2.2.2.1
  obtain ⟨hin, hq⟩ := tp_ix h0 h1 (tp_f0 hs)
  have hz := k p e s m args below meth c H locs cells slots lsA mc ms ⟨C, hS, hR, hl, hB, hm, tp_fc (tp_rng32 (hm c0 a) (by rw [tp_styA hc]; decide)) (tp_f1 (tp_f1 hs)), hv⟩
  rw [List.map_cons, List.map_cons, tp_ref hn hR.1]
  have ha := tp_ws_arr (G := G) (μ := μ) hn hc
  rw [tp_ac_i (Or.inl rfl)] at ha
  refine va_iald hx hb hK.1 hR.2 c0 0 ha (tp_tys_at rfl) hin hd ?_
  rw [hq]
  exact hz
theorem g_bald {G : tp_G} {d : tp_D} {pc : Nat} {ls : List (Option tp_V)} {st : List tp_V} {μ : tp_M} {n n' bs : Nat} {Φ : Option tp_V → tp_M → Prop} {x : Nat × Nat × Nat} {a : Int} {c0 len : Nat} (hf : tp_at d pc = some (.baload, 1, x)) (hc : tp_SH c0 = .inr (.byte, len)) (hn : c0 < n) (h0 : 0 ≤ a) (h1 : a < (len : Int)) (k : tp_go G d (pc + 1) ls (tI (μ.1 c0 a) :: st) μ n n' bs Φ) : tp_go G d (pc) ls (tI a :: tR (some c0) :: st) μ n n' bs Φ := by
  intro p e s m args below meth c H locs cells slots lsA mc ms Z
  obtain ⟨C, hS, hR, hl, hB, hm, hs, hv⟩ := Z
  have hd := tp_dec C.1 hf
  have hx := C.2.1
  have hb := C.2.2.1
  have hown := C.2.2.2.2.2.2.2.1
  have hts := C.2.2.2.2.2.2.2.2.1
  have hK := C.2.2.2.2.2.2.2.2.2.1
  obtain ⟨hin, hq⟩ := tp_ix h0 h1 (tp_f0 hs)
  have hz := k p e s m args below meth c H locs cells slots lsA mc ms ⟨C, hS, hR, hl, hB, hm, tp_fc (tp_rng32 (hm c0 a) (by rw [tp_styA hc]; decide)) (tp_f1 (tp_f1 hs)), hv⟩
  rw [List.map_cons, List.map_cons, tp_ref hn hR.1]
  have ha := tp_ws_arr (G := G) (μ := μ) hn hc
  rw [tp_ac_i (Or.inr (Or.inl rfl))] at ha
  refine va_bald hx hb hK.1 hR.2 c0 1 ha (tp_tys_at rfl) hin hd ?_
  rw [hq]
  exact hz
theorem g_zald {G : tp_G} {d : tp_D} {pc : Nat} {ls : List (Option tp_V)} {st : List tp_V} {μ : tp_M} {n n' bs : Nat} {Φ : Option tp_V → tp_M → Prop} {x : Nat × Nat × Nat} {a : Int} {c0 len : Nat} (hf : tp_at d pc = some (.baload, 1, x)) (hc : tp_SH c0 = .inr (.boolean, len)) (hn : c0 < n) (h0 : 0 ≤ a) (h1 : a < (len : Int)) (k : tp_go G d (pc + 1) ls (tI (μ.1 c0 a) :: st) μ n n' bs Φ) : tp_go G d (pc) ls (tI a :: tR (some c0) :: st) μ n n' bs Φ := by
  intro p e s m args below meth c H locs cells slots lsA mc ms Z
  obtain ⟨C, hS, hR, hl, hB, hm, hs, hv⟩ := Z
  have hd := tp_dec C.1 hf
  have hx := C.2.1
  have hb := C.2.2.1
  have hown := C.2.2.2.2.2.2.2.1
  have hts := C.2.2.2.2.2.2.2.2.1
  have hK := C.2.2.2.2.2.2.2.2.2.1
  obtain ⟨hin, hq⟩ := tp_ix h0 h1 (tp_f0 hs)
  have hz := k p e s m args below meth c H locs cells slots lsA mc ms ⟨C, hS, hR, hl, hB, hm, tp_fc (tp_rng32 (hm c0 a) (by rw [tp_styA hc]; decide)) (tp_f1 (tp_f1 hs)), hv⟩
  rw [List.map_cons, List.map_cons, tp_ref hn hR.1]
  have ha := tp_ws_arr (G := G) (μ := μ) hn hc
  rw [tp_ac_i (Or.inr (Or.inr rfl))] at ha
  refine va_zald hx hb hK.1 hR.2 c0 2 ha (tp_tys_at rfl) hin hd ?_
  rw [hq]
  exact hz
theorem g_lald {G : tp_G} {d : tp_D} {pc : Nat} {ls : List (Option tp_V)} {st : List tp_V} {μ : tp_M} {n n' bs : Nat} {Φ : Option tp_V → tp_M → Prop} {x : Nat × Nat × Nat} {a : Int} {c0 len : Nat} (hf : tp_at d pc = some (.laload, 1, x)) (hc : tp_SH c0 = .inr (.long, len)) (hn : c0 < n) (h0 : 0 ≤ a) (h1 : a < (len : Int)) (k : tp_go G d (pc + 1) ls (tL (μ.1 c0 a) :: st) μ n n' bs Φ) : tp_go G d (pc) ls (tI a :: tR (some c0) :: st) μ n n' bs Φ := by
  intro p e s m args below meth c H locs cells slots lsA mc ms Z
  obtain ⟨C, hS, hR, hl, hB, hm, hs, hv⟩ := Z
  have hd := tp_dec C.1 hf
  have hx := C.2.1
  have hb := C.2.2.1
  have hown := C.2.2.2.2.2.2.2.1
  have hts := C.2.2.2.2.2.2.2.2.1
  have hK := C.2.2.2.2.2.2.2.2.2.1
  obtain ⟨hin, hq⟩ := tp_ix h0 h1 (tp_f0 hs)
  have hz := k p e s m args below meth c H locs cells slots lsA mc ms ⟨C, hS, hR, hl, hB, hm, tp_fc (by have := hm c0 a; rw [tp_styA hc] at this; exact this) (tp_f1 (tp_f1 hs)), hv⟩
  rw [List.map_cons, List.map_cons, tp_ref hn hR.1]
  have ha := tp_ws_arr (G := G) (μ := μ) hn hc
  have ha : (tp_ws G μ n)[c0]? = some (tp_Gb G + c0, .inl (tp_Ga G .long, len, .inr (.inl (fun j => Int64.ofInt (μ.1 c0 (j : Int)))))) := ha
  refine va_lald hx hb hK.1 hR.2 c0 3 ha (tp_tys_at rfl) hin hd ?_
  rw [hq]
  exact hz
theorem g_aald {G : tp_G} {d : tp_D} {pc : Nat} {ls : List (Option tp_V)} {st : List tp_V} {μ : tp_M} {n n' bs : Nat} {Φ : Option tp_V → tp_M → Prop} {x : Nat × Nat × Nat} {a : Int} {c0 len t0 : Nat} {Cn : String} (hf : tp_at d pc = some (.aaload, 1, x)) (hc : tp_SH c0 = .inr (.object Cn, len)) (ht : tp_tyl[t0]? = some (.object Cn)) (hn : c0 < n) (h0 : 0 ≤ a) (h1 : a < (len : Int)) (k : tp_go G d (pc + 1) ls (tR (tp_rd G μ c0 a) :: st) μ n n' bs Φ) : tp_go G d (pc) ls (tI a :: tR (some c0) :: st) μ n n' bs Φ := by
  intro p e s m args below meth c H locs cells slots lsA mc ms Z
  obtain ⟨C, hS, hR, hl, hB, hm, hs, hv⟩ := Z
  have hd := tp_dec C.1 hf
  have hx := C.2.1
  have hb := C.2.2.1
  have hown := C.2.2.2.2.2.2.2.1
  have hts := C.2.2.2.2.2.2.2.2.1
  have hK := C.2.2.2.2.2.2.2.2.2.1
  obtain ⟨hin, hq⟩ := tp_ix h0 h1 (tp_f0 hs)
  have hz := k p e s m args below meth c H locs cells slots lsA mc ms ⟨C, hS, hR, hl, hB, hm, tp_fc trivial (tp_f1 (tp_f1 hs)), hv⟩
  rw [List.map_cons, List.map_cons, tp_ref hn hR.1]
  have ha := tp_ws_arr (G := G) (μ := μ) hn hc
  have ha : (tp_ws G μ n)[c0]? = some (tp_Gb G + c0, .inl (tp_Ga G (.object Cn), len, .inr (.inr (.inr (.inr (fun j => (tp_rd G μ c0 (j : Int)).map (tp_ad G))))))) := ha
  refine va_aldq hx hb hK.1 hR.2 c0 t0 ha (tp_tys_at ht) hin hd ?_
  rw [hq]
  exact hz
theorem g_sald {G : tp_G} {d : tp_D} {pc : Nat} {ls : List (Option tp_V)} {st : List tp_V} {μ : tp_M} {n n' bs : Nat} {Φ : Option tp_V → tp_M → Prop} {x : Nat × Nat × Nat} {a : Int} {i0 : Nat} (hf : tp_at d pc = some (.iaload, 1, x)) (hi : i0 < 8) (h0 : 0 ≤ a) (h1 : a < (tp_sl G i0 : Int)) (k : tp_go G d (pc + 1) ls (tI (tp_sv G i0 a.toNat) :: st) μ n n' bs Φ) : tp_go G d (pc) ls (tI a :: tR (some (5000 + i0)) :: st) μ n n' bs Φ := by
  intro p e s m args below meth c H locs cells slots lsA mc ms Z
  obtain ⟨C, hS, hR, hl, hB, hm, hs, hv⟩ := Z
  have hd := tp_dec C.1 hf
  have hx := C.2.1
  have hb := C.2.2.1
  have hown := C.2.2.2.2.2.2.2.1
  have hts := C.2.2.2.2.2.2.2.2.1
  have hK := C.2.2.2.2.2.2.2.2.2.1
  obtain ⟨hin, hq⟩ := tp_ix h0 h1 (tp_f0 hs)
  have hz := k p e s m args below meth c H locs cells slots lsA mc ms ⟨C, hS, hR, hl, hB, hm, tp_fc (hK.2.2.2.2.2.1 i0 a.toNat) (tp_f1 (tp_f1 hs)), hv⟩
  have hr : tp_v G (tR (some (5000 + i0))) = .ref (tp_Gs G i0) := by
    show Value.ref (tp_ad G (5000 + i0)) = _
    rw [tp_ad, if_neg (by omega), Nat.add_sub_cancel_left]
  rw [List.map_cons, List.map_cons, hr]
  refine va_ti hx hb (hK.2.2.2.1 i0 hi) hS hin rfl hd ?_
  have hq2 : (Int32.ofInt a).toNatClampNeg = a.toNat := by omega
  rw [hq2]
  exact hz
theorem g_slen {G : tp_G} {d : tp_D} {pc : Nat} {ls : List (Option tp_V)} {st : List tp_V} {μ : tp_M} {n n' bs : Nat} {Φ : Option tp_V → tp_M → Prop} {x : Nat × Nat × Nat} {i0 : Nat} (hf : tp_at d pc = some (.arraylength, 1, x)) (hi : i0 < 8) (hr : tp_r32 (tp_sl G i0 : Int)) (k : tp_go G d (pc + 1) ls (tI (tp_sl G i0 : Int) :: st) μ n n' bs Φ) : tp_go G d (pc) ls (tR (some (5000 + i0)) :: st) μ n n' bs Φ := by
  intro p e s m args below meth c H locs cells slots lsA mc ms Z
  obtain ⟨C, hS, hR, hl, hB, hm, hs, hv⟩ := Z
  have hd := tp_dec C.1 hf
  have hx := C.2.1
  have hb := C.2.2.1
  have hown := C.2.2.2.2.2.2.2.1
  have hts := C.2.2.2.2.2.2.2.2.1
  have hK := C.2.2.2.2.2.2.2.2.2.1
  have hz := k p e s m args below meth c H locs cells slots lsA mc ms ⟨C, hS, hR, hl, hB, hm, tp_fc hr (tp_f1 hs), hv⟩
  have hr : tp_v G (tR (some (5000 + i0))) = .ref (tp_Gs G i0) := by
    show Value.ref (tp_ad G (5000 + i0)) = _
    rw [tp_ad, if_neg (by omega), Nat.add_sub_cancel_left]
  rw [List.map_cons, hr]
  exact va_tlen hx hb (hK.2.2.2.1 i0 hi) hS rfl hd hz
theorem g_gets {G : tp_G} {d : tp_D} {pc : Nat} {ls : List (Option tp_V)} {st : List tp_V} {μ : tp_M} {n n' bs : Nat} {Φ : Option tp_V → tp_M → Prop} {idx pos i0 b0 : Nat} (hf : tp_at d pc = some (.getstatic idx, 3, pos, i0, b0)) (k : tp_go G d (pc + 3) ls (tR (some (5000 + (i0 + 1))) :: st) μ n n' bs Φ) : tp_go G d (pc) ls (st) μ n n' bs Φ := by
  intro p e s m args below meth c H locs cells slots lsA mc ms Z
  obtain ⟨C, hS, hR, hl, hB, hm, hs, hv⟩ := Z
  have hd := tp_dec C.1 hf
  have hx := C.2.1
  have hb := C.2.2.1
  have hown := C.2.2.2.2.2.2.2.1
  have hts := C.2.2.2.2.2.2.2.2.1
  have hK := C.2.2.2.2.2.2.2.2.2.1
  have h1 := tp_lnk C.1 hf
  simp only [tp_entlink, Bool.and_eq_true, decide_eq_true_eq] at h1
  have hi : i0 < 7 := Nat.le_of_ble_eq_true h1.2
  have hz := k p e s m args below meth c H locs cells slots lsA mc ms ⟨C, hS, hR, hl, hB, hm, tp_fc trivial hs, hv⟩
  have hr : tp_v G (tR (some (5000 + (i0 + 1)))) = .ref (tp_Gs G (i0 + 1)) := by
    show Value.ref (tp_ad G (5000 + (i0 + 1))) = _
    rw [tp_ad, if_neg (by omega), Nat.add_sub_cancel_left]
  rw [List.map_cons, hr] at hz
  exact va_gets hx hb (hK.2.2.2.2.1 i0 hi) hS hown (hts _ (tp_in pos h1.1 rfl)) (fun _ h => h) hd hz
theorem g_alen {G : tp_G} {d : tp_D} {pc : Nat} {ls : List (Option tp_V)} {st : List tp_V} {μ : tp_M} {n n' bs : Nat} {Φ : Option tp_V → tp_M → Prop} {x : Nat × Nat × Nat} {c0 len t0 : Nat} {ty : FieldType} (hf : tp_at d pc = some (.arraylength, 1, x)) (hc : tp_SH c0 = .inr (ty, len)) (ht : tp_tyl[t0]? = some ty) (hn : c0 < n) (hr : tp_r32 (len : Int)) (k : tp_go G d (pc + 1) ls (tI (len : Int) :: st) μ n n' bs Φ) : tp_go G d (pc) ls (tR (some c0) :: st) μ n n' bs Φ := by
  intro p e s m args below meth c H locs cells slots lsA mc ms Z
  obtain ⟨C, hS, hR, hl, hB, hm, hs, hv⟩ := Z
  have hd := tp_dec C.1 hf
  have hx := C.2.1
  have hb := C.2.2.1
  have hown := C.2.2.2.2.2.2.2.1
  have hts := C.2.2.2.2.2.2.2.2.1
  have hK := C.2.2.2.2.2.2.2.2.2.1
  have hz := k p e s m args below meth c H locs cells slots lsA mc ms ⟨C, hS, hR, hl, hB, hm, tp_fc hr (tp_f1 hs), hv⟩
  rw [List.map_cons, tp_ref hn hR.1]
  exact va_alen hx hb hK.1 hR.2 c0 t0 (tp_ws_arr hn hc) (tp_tys_at ht) rfl hd hz
theorem g_iast {G : tp_G} {d : tp_D} {pc : Nat} {ls : List (Option tp_V)} {st : List tp_V} {μ : tp_M} {n n' bs : Nat} {Φ : Option tp_V → tp_M → Prop} {x : Nat × Nat × Nat} {a v : Int} {c0 len : Nat} (hf : tp_at d pc = some (.iastore, 1, x)) (hc : tp_SH c0 = .inr (.int, len)) (hn : c0 < n) (h0 : 0 ≤ a) (h1 : a < (len : Int)) (k : tp_go G d (pc + 1) ls (st) (tp_pi μ c0 a v) n n' bs Φ) : tp_go G d (pc) ls (tI v :: tI a :: tR (some c0) :: st) μ n n' bs Φ := by
  intro p e s m args below meth c H locs cells slots lsA mc ms Z
  obtain ⟨C, hS, hR, hl, hB, hm, hs, hv⟩ := Z
  have hd := tp_dec C.1 hf
  have hx := C.2.1
  have hb := C.2.2.1
  have hown := C.2.2.2.2.2.2.2.1
  have hts := C.2.2.2.2.2.2.2.2.1
  have hK := C.2.2.2.2.2.2.2.2.2.1
  obtain ⟨hin, hq⟩ := tp_ix h0 h1 (tp_f0 (tp_f1 hs))
  rw [List.map_cons, List.map_cons, List.map_cons, tp_ref hn hR.1]
  have ha := tp_ws_arr (G := G) (μ := μ) hn hc
  rw [tp_ac_i (Or.inl rfl)] at ha
  refine va_iast hx hb hK.1 hR.2 tp_wsD hS c0 0 ha (tp_tys_at rfl) hin hd (fun H1 locs1 hP1 _ hS1 => ?_)
  rw [tp_up_i hq] at hP1
  rw [tp_put_arr (G := G) (μ := μ) (n := n) (μ' := (tp_pi μ c0 a v)) hn hc tp_e_pi (tp_ac_i (Or.inl rfl))] at hP1
  exact k p e s m args below meth c H1 locs1 cells slots lsA mc ms ⟨C, hS1, ⟨hR.1, hP1⟩, hl, hB, tp_mok_pi hm (by rw [tp_styA hc]; exact tp_f0 hs), tp_f1 (tp_f1 (tp_f1 hs)), hv⟩
theorem g_bast {G : tp_G} {d : tp_D} {pc : Nat} {ls : List (Option tp_V)} {st : List tp_V} {μ : tp_M} {n n' bs : Nat} {Φ : Option tp_V → tp_M → Prop} {x : Nat × Nat × Nat} {a v : Int} {c0 len : Nat} (hf : tp_at d pc = some (.bastore, 1, x)) (hc : tp_SH c0 = .inr (.byte, len)) (hn : c0 < n) (h0 : 0 ≤ a) (h1 : a < (len : Int)) (k : tp_go G d (pc + 1) ls (st) (tp_pi μ c0 a (tp_b8 v)) n n' bs Φ) : tp_go G d (pc) ls (tI v :: tI a :: tR (some c0) :: st) μ n n' bs Φ := by
  intro p e s m args below meth c H locs cells slots lsA mc ms Z
  obtain ⟨C, hS, hR, hl, hB, hm, hs, hv⟩ := Z
  have hd := tp_dec C.1 hf
  have hx := C.2.1
  have hb := C.2.2.1
  have hown := C.2.2.2.2.2.2.2.1
  have hts := C.2.2.2.2.2.2.2.2.1
  have hK := C.2.2.2.2.2.2.2.2.2.1
  obtain ⟨hin, hq⟩ := tp_ix h0 h1 (tp_f0 (tp_f1 hs))
  rw [List.map_cons, List.map_cons, List.map_cons, tp_ref hn hR.1]
  have ha := tp_ws_arr (G := G) (μ := μ) hn hc
  rw [tp_ac_i (Or.inr (Or.inl rfl))] at ha
  refine va_bast hx hb hK.1 hR.2 tp_wsD hS c0 1 ha (tp_tys_at rfl) hin hd (fun H1 locs1 hP1 _ hS1 => ?_)
  rw [vp_nar_byte, show (Int32.ofInt v).toInt8.toInt32 = Int32.ofInt (tp_b8 v) from (Int32.ofInt_toInt _).symm, tp_up_i hq] at hP1
  rw [tp_put_arr (G := G) (μ := μ) (n := n) (μ' := (tp_pi μ c0 a (tp_b8 v))) hn hc tp_e_pi (tp_ac_i (Or.inr (Or.inl rfl)))] at hP1
  exact k p e s m args below meth c H1 locs1 cells slots lsA mc ms ⟨C, hS1, ⟨hR.1, hP1⟩, hl, hB, tp_mok_pi hm (by rw [tp_styA hc]; exact tp_b8_rng v), tp_f1 (tp_f1 (tp_f1 hs)), hv⟩
theorem g_zast {G : tp_G} {d : tp_D} {pc : Nat} {ls : List (Option tp_V)} {st : List tp_V} {μ : tp_M} {n n' bs : Nat} {Φ : Option tp_V → tp_M → Prop} {x : Nat × Nat × Nat} {a v : Int} {c0 len : Nat} (hf : tp_at d pc = some (.bastore, 1, x)) (hc : tp_SH c0 = .inr (.boolean, len)) (hn : c0 < n) (h0 : 0 ≤ a) (h1 : a < (len : Int)) (k : tp_go G d (pc + 1) ls (st) (tp_pi μ c0 a (tp_z v)) n n' bs Φ) : tp_go G d (pc) ls (tI v :: tI a :: tR (some c0) :: st) μ n n' bs Φ := by
  intro p e s m args below meth c H locs cells slots lsA mc ms Z
  obtain ⟨C, hS, hR, hl, hB, hm, hs, hv⟩ := Z
  have hd := tp_dec C.1 hf
  have hx := C.2.1
  have hb := C.2.2.1
  have hown := C.2.2.2.2.2.2.2.1
  have hts := C.2.2.2.2.2.2.2.2.1
  have hK := C.2.2.2.2.2.2.2.2.2.1
  obtain ⟨hin, hq⟩ := tp_ix h0 h1 (tp_f0 (tp_f1 hs))
  rw [List.map_cons, List.map_cons, List.map_cons, tp_ref hn hR.1]
  have ha := tp_ws_arr (G := G) (μ := μ) hn hc
  rw [tp_ac_i (Or.inr (Or.inr rfl))] at ha
  refine va_zast hx hb hK.1 hR.2 tp_wsD hS c0 2 ha (tp_tys_at rfl) hin hd (fun H1 locs1 hP1 _ hS1 => ?_)
  rw [show vp_nar .boolean (Int32.ofInt v) = Int32.ofInt (tp_z v) from (Int32.ofInt_toInt _).symm, tp_up_i hq] at hP1
  rw [tp_put_arr (G := G) (μ := μ) (n := n) (μ' := (tp_pi μ c0 a (tp_z v))) hn hc tp_e_pi (tp_ac_i (Or.inr (Or.inr rfl)))] at hP1
  exact k p e s m args below meth c H1 locs1 cells slots lsA mc ms ⟨C, hS1, ⟨hR.1, hP1⟩, hl, hB, tp_mok_pi hm (by rw [tp_styA hc]; exact tp_z_rng v), tp_f1 (tp_f1 (tp_f1 hs)), hv⟩
theorem g_last {G : tp_G} {d : tp_D} {pc : Nat} {ls : List (Option tp_V)} {st : List tp_V} {μ : tp_M} {n n' bs : Nat} {Φ : Option tp_V → tp_M → Prop} {x : Nat × Nat × Nat} {a v : Int} {c0 len : Nat} (hf : tp_at d pc = some (.lastore, 1, x)) (hc : tp_SH c0 = .inr (.long, len)) (hn : c0 < n) (h0 : 0 ≤ a) (h1 : a < (len : Int)) (k : tp_go G d (pc + 1) ls (st) (tp_pi μ c0 a v) n n' bs Φ) : tp_go G d (pc) ls (tL v :: tI a :: tR (some c0) :: st) μ n n' bs Φ := by
  intro p e s m args below meth c H locs cells slots lsA mc ms Z
  obtain ⟨C, hS, hR, hl, hB, hm, hs, hv⟩ := Z
  have hd := tp_dec C.1 hf
  have hx := C.2.1
  have hb := C.2.2.1
  have hown := C.2.2.2.2.2.2.2.1
  have hts := C.2.2.2.2.2.2.2.2.1
  have hK := C.2.2.2.2.2.2.2.2.2.1
  obtain ⟨hin, hq⟩ := tp_ix h0 h1 (tp_f0 (tp_f1 hs))
  rw [List.map_cons, List.map_cons, List.map_cons, tp_ref hn hR.1]
  have ha := tp_ws_arr (G := G) (μ := μ) hn hc
  have ha : (tp_ws G μ n)[c0]? = some (tp_Gb G + c0, .inl (tp_Ga G .long, len, .inr (.inl (fun j => Int64.ofInt (μ.1 c0 (j : Int)))))) := ha
  refine va_last hx hb hK.1 hR.2 tp_wsD hS c0 3 ha (tp_tys_at rfl) hin hd (fun H1 locs1 hP1 _ hS1 => ?_)
  rw [tp_up_l hq] at hP1
  rw [tp_put_arr (G := G) (μ := μ) (n := n) (μ' := (tp_pi μ c0 a v)) hn hc tp_e_pi (show tp_ac G (tp_pi μ c0 a v) c0 .long = .inr (.inl (fun j => Int64.ofInt (((tp_pi μ c0 a v)).1 c0 (j : Int)))) from rfl)] at hP1
  exact k p e s m args below meth c H1 locs1 cells slots lsA mc ms ⟨C, hS1, ⟨hR.1, hP1⟩, hl, hB, tp_mok_pi hm (by rw [tp_styA hc]; exact tp_f0 hs), tp_f1 (tp_f1 (tp_f1 hs)), hv⟩
