theorem tp_and255 (a : Int) : 0 ≤ tp_and a 255 ∧ tp_and a 255 ≤ 255 := by
  show 0 ≤ ((Int32.ofInt a).toBitVec &&& (Int32.ofInt 255).toBitVec).toInt ∧ ((Int32.ofInt a).toBitVec &&& (Int32.ofInt 255).toBitVec).toInt ≤ 255
  have e : (Int32.ofInt 255).toBitVec = 255#32 := by decide
  have h : ((Int32.ofInt a).toBitVec &&& (Int32.ofInt 255).toBitVec).toNat ≤ 255 := by rw [e, BitVec.toNat_and]; exact Nat.and_le_right
  rw [BitVec.toInt_eq_toNat_of_lt (by omega)]; omega
theorem t_go_b {so : Int} {T : Int → Int} {len : Int} : ∀ (m : Nat) (i : Int) (st : t_S), (t_go so T len m i st).1.1 = 0 ∨ (t_go so T len m i st).1.1 = 1 := by
  intro m
  induction m with
  | zero => intro i st; exact Or.inr rfl
  | succ m ih =>
    intro i st
    rw [show t_go so T len (m + 1) i st = if t_k T len i = 0 then ((1, t_s T len i), st) else if (t_ln so T len i st).1.1 = 0 then ((0, (t_ln so T len i st).1.2), st) else t_go so T len m (t_ln so T len i st).1.2 (t_ln so T len i st).2 from rfl]
    split
    · exact Or.inr rfl
    · split
      · exact Or.inl rfl
      · exact ih _ _
/-- what a text without a fault tells -/
theorem t_wm {so : Int} {T : Int → Int} {len : Int} (hs : 0 ≤ so ∧ so ≤ 3) (hlen : 0 ≤ len) (h : (t_flt so T len).1 = 0) : t_flt so T len = (0, -1) ∧ ∃ i, t_I so i (t_all so T len).2 ∧ (t_all so T len).2.1 = 0 ∧ (so = 0 → (t_all so T len).2.2.2.2.2.1 < t_tld so T len 0) := by
  have hb : (t_all so T len).1.1 = 0 ∨ (t_all so T len).1.1 = 1 := t_go_b _ _ _
  rcases hb with b | b
  · rw [t_flt_0 b] at h; exact absurd (show (1 : Int) = 0 from h) (by decide)
  · by_cases hf : (t_all so T len).2.1 = 0
    · obtain ⟨i, hi⟩ := t_go_I (T := T) (len := len) hs (len + 1 - 0).toNat 0 (t_s0 so) (by decide) hlen (t_I0 hs) b
      by_cases h4 : so = 0 ∧ t_tld so T len 0 ≤ (t_all so T len).2.2.2.2.2.1
      · obtain ⟨u, h4⟩ := h4
        subst u
        rw [t_flt_4 b hf h4] at h; exact absurd (show (4 : Int) = 0 from h) (by decide)
      · have h5 : so = 0 → ¬ t_tld so T len 0 ≤ (t_all so T len).2.2.2.2.2.1 := fun z y => h4 ⟨z, y⟩
        exact ⟨t_flt_y b hf h5, i, hi, hf, fun z => by have := h5 z; omega⟩
    · rw [t_flt_f b hf] at h; exact absurd h hf
section
variable {T : Int → Int} {len : Int}
theorem t_wm0 (hlen : 0 ≤ len) (h : (t_flt 0 T len).1 = 0) : tp_Cw (t_tld 0 T len) := by
  obtain ⟨-, i, hi, hf, h4⟩ := t_wm ⟨by decide, by decide⟩ hlen h
  have h4 := h4 rfl
  have hit := hi.2.1
  have hD : t_tld 0 T len 0 = min 40 (t_all 0 T len).2.2.2.1 := hi.2.2.1 (by decide)
  have hW : t_W 0 (t_tld 0 T len) := hi.2.2.2.2.2.2.2.1
  have hW : _ ∧ _ := hW
  have hF : ∀ a, 0 ≤ a → a < t_tld 0 T len 0 → t_tld 0 T len (49 + a) ≤ (t_all 0 T len).2.2.2.2.2.1 := (hi.2.2.2.2.2.2.2.2.2 rfl hf).1
  generalize (t_all 0 T len).2.2.2.2.2.1 = ft at *
  generalize (t_all 0 T len).2.2.2.1 = it at *
  generalize t_tld 0 T len = D at *
  refine ⟨by omega, fun a a0 a1 => ?_, hW.2⟩
  have w := hW.1 a a0 a1
  have f := hF a a0 a1
  exact ⟨w.1, w.2.1, fun z => ⟨(w.2.2.1 z).1, by omega⟩, w.2.2.2⟩
theorem t_wm1 (hlen : 0 ≤ len) (h : (t_flt 1 T len).1 = 0) : tp_Dw (t_tld 1 T len) := by
  obtain ⟨-, i, hi, hf, h4⟩ := t_wm ⟨by decide, by decide⟩ hlen h
  have hit := hi.2.1
  have hD : t_tld 1 T len 0 = min 60 (t_all 1 T len).2.2.2.1 := hi.2.2.1 (by decide)
  have hW : t_W 1 (t_tld 1 T len) := hi.2.2.2.2.2.2.2.1
  refine ⟨by omega, hW⟩
theorem t_wm3 (hlen : 0 ≤ len) (h : (t_flt 3 T len).1 = 0) : (0 ≤ t_tld 3 T len 0 ∧ t_tld 3 T len 0 ≤ 8) ∧ ∀ i, 0 ≤ i → i < t_tld 3 T len 0 → (0 ≤ t_tld 3 T len (1 + 2 * i) ∧ t_tld 3 T len (1 + 2 * i) ≤ 39) ∧ (0 ≤ t_tld 3 T len (2 + 2 * i) ∧ t_tld 3 T len (2 + 2 * i) ≤ 99) := by
  obtain ⟨-, i, hi, hf, h4⟩ := t_wm ⟨by decide, by decide⟩ hlen h
  have hit := hi.2.1
  have hD : t_tld 3 T len 0 = min 8 (t_all 3 T len).2.2.2.1 := hi.2.2.1 (by decide)
  have hW : t_W 3 (t_tld 3 T len) := hi.2.2.2.2.2.2.2.1
  refine ⟨by omega, hW⟩
end
def m_Lc (c : Nat) : Prop := c ≠ 201 ∧ c ≠ 203 ∧ c ≠ 204 ∧ c ≠ 205 ∧ c ≠ 211
def m_Qc (μ μ' : tp_M) : Prop := ∀ q, 1 ≤ q → μ'.1 203 q = μ.1 203 q ∧ μ'.1 204 q = μ.1 204 q ∧ μ'.1 205 q = μ.1 205 q
set_option maxHeartbeats 4000000 in
set_option maxRecDepth 100000 in
theorem s_readY0 {G : tp_G} {μ : tp_M} (hG : tp_Gf G = true) {T : Int → Int} {len : Int} (hT : ∀ j, 0 ≤ T j ∧ T j ≤ 255) (hlen : 0 ≤ len ∧ len ≤ 600) (hTm : ∀ j, 0 ≤ j → j < len → tp_and (μ.1 2 j) 255 = T j) (hfl : (t_flt 0 T len).1 = 0) : tp_k G mX5_read [tR (some 41), tR (some 2), tI len, tI 0] μ (fun r μ' => r = some (tI 1) ∧ t_cont 0 (t_tld 0 T len) μ' ∧ rd_G μ μ') :=
  tp_kc (fun r μ' z => ⟨z.1.trans (by rw [if_pos hfl]), z.2.2.2.1 hfl, z.2.2.2.2⟩) (s_read0 hG hT hlen hTm)
theorem s_readN0 {G : tp_G} {μ : tp_M} (hG : tp_Gf G = true) {T : Int → Int} {len : Int} (hT : ∀ j, 0 ≤ T j ∧ T j ≤ 255) (hlen : 0 ≤ len ∧ len ≤ 600) (hTm : ∀ j, 0 ≤ j → j < len → tp_and (μ.1 2 j) 255 = T j) (hfl : (t_flt 0 T len).1 ≠ 0) : tp_k G mX5_read [tR (some 41), tR (some 2), tI len, tI 0] μ (fun r μ' => r = some (tI 0) ∧ μ'.1 41 8 = (t_flt 0 T len).1 ∧ μ'.1 41 9 = (t_flt 0 T len).2 ∧ rd_G μ μ') :=
  tp_kc (fun r μ' z => ⟨z.1.trans (by rw [if_neg hfl]), z.2.1, z.2.2.1, z.2.2.2.2⟩) (s_read0 hG hT hlen hTm)
theorem s_rtxY0 {G : tp_G} {μ : tp_M} (hG : tp_Gf G = true) {T : Int → Int} {len : Int} (hT : ∀ j, 0 ≤ T j ∧ T j ≤ 255) (hC : rd_C T len μ) (hfl : (t_flt 0 T len).1 = 0) : tp_k G mX12_readText [tR (some 201), tI 0] μ (fun r μ' => r = some (tI 1) ∧ μ'.1 204 0 = 0 ∧ μ'.1 205 0 = -1 ∧ (∀ j, 0 ≤ j → j < 129 → μ'.1 211 j = t_tld 0 T len j) ∧ m_H μ μ') :=
  tp_kc (fun r μ' z => ⟨z.1.trans (by rw [if_pos hfl]), z.2.1.trans hfl, z.2.2.1.trans (by rw [(t_wm ⟨by decide, by decide⟩ hC.2.1.1 hfl).1]), z.2.2.2.1 hfl, z.2.2.2.2⟩) (s_rtx0 hG hT hC)
theorem s_rtxN0 {G : tp_G} {μ : tp_M} (hG : tp_Gf G = true) {T : Int → Int} {len : Int} (hT : ∀ j, 0 ≤ T j ∧ T j ≤ 255) (hC : rd_C T len μ) (hfl : (t_flt 0 T len).1 ≠ 0) : tp_k G mX12_readText [tR (some 201), tI 0] μ (fun r μ' => r = some (tI 0) ∧ μ'.1 204 0 = (t_flt 0 T len).1 ∧ μ'.1 205 0 = (t_flt 0 T len).2 ∧ m_H μ μ') :=
  tp_kc (fun r μ' z => ⟨z.1.trans (by rw [if_neg hfl]), z.2.1, z.2.2.1, z.2.2.2.2⟩) (s_rtx0 hG hT hC)
set_option maxHeartbeats 4000000 in
set_option maxRecDepth 100000 in
theorem s_xt00m1 {G : tp_G} {μ : tp_M} (hG : tp_Gf G = true) {T : Int → Int} {len : Int} (hT : ∀ j, 0 ≤ T j ∧ T j ≤ 255) (hlen : 0 ≤ len ∧ len ≤ 600) (hln : μ.1 1 1 = len) (hTm : ∀ j, 0 ≤ j → j < len → tp_and (μ.1 2 j) 255 = T j) (hM : μ.1 5 0 = 0) (hfl : (t_flt 0 T len).1 = 0) : tp_k G mX11_text [tR (some 0), tI 0, tI (-1)] μ (fun r μ' => r = some (tI 0) ∧ (μ'.1 1 1 = 0 ∧ μ'.1 1 2 = 0 ∧ μ'.1 1 3 = -1) ∧ μ'.1 5 0 = 1 ∧ (∀ t, t ≠ 0 → μ'.1 5 t = μ.1 5 t) ∧ tp_Co μ'.1 6 (t_tld 0 T len) ∧ (∀ c, c ≠ 1 → c ≠ 5 → (c < 6 ∨ 10 < c) → (c < 41 ∨ 49 < c) → μ'.1 c = μ.1 c)) := by
  refine tp_ok_of mX11_text_ok rfl (Nat.le_refl _) ?_
  refine g_aload_n rfl rfl ?_
  refine x_getF (r := 1) hG rfl rfl (by decide) (Or.inl ⟨_, rfl⟩) rfl ?_
  refine x_geti (v := len) rfl rfl (by decide) (Or.inl rfl) hln ?_
  refine g_istore_n rfl rfl rfl ?_
  refine g_aload_n rfl rfl ?_
  refine x_getF (r := 1) hG rfl rfl (by decide) (Or.inl ⟨_, rfl⟩) rfl ?_
  refine g_iconst rfl ⟨by decide, by decide⟩ ?_
  refine g_puti rfl rfl (by decide) rfl rfl ?_
  refine g_aload_n rfl rfl ?_
  refine x_getF (r := 1) hG rfl rfl (by decide) (Or.inl ⟨_, rfl⟩) rfl ?_
  refine g_iconst rfl ⟨by decide, by decide⟩ ?_
  refine g_puti rfl rfl (by decide) rfl rfl ?_
  refine g_aload_n rfl rfl ?_
  refine x_getF (r := 1) hG rfl rfl (by decide) (Or.inl ⟨_, rfl⟩) rfl ?_
  refine g_iconst rfl ⟨by decide, by decide⟩ ?_
  refine g_puti rfl rfl (by decide) rfl rfl ?_
  refine g_aload_n rfl rfl ?_
  refine x_getF (r := 1) hG rfl rfl (by decide) (Or.inl ⟨_, rfl⟩) rfl ?_
  refine g_iload_n rfl rfl ?_
  refine g_iload_n rfl rfl ?_
  refine g_iV (as := [tI 0, tI (-1)]) mX9_slotFor_ok rfl rfl rfl rfl rfl rfl (by decide) rfl rfl rfl ?_
  refine g_iload_n rfl rfl ?_
  refine g_if_lt (tgt := 9) rfl (by decide) (fun hx => absurd hx (by omega)) (fun _ => ?_)
  refine g_iload_n rfl rfl ?_
  refine g_iconst rfl ⟨by decide, by decide⟩ ?_
  refine g_icmp_lt (tgt := 11) rfl (by decide) (fun _ => ?_) (fun hx => absurd hx (by omega))
  refine g_aload_n rfl rfl ?_
  refine x_getF (r := 5) hG rfl rfl (by decide) (Or.inr ⟨_, rfl⟩) rfl ?_
  refine g_iload_n rfl rfl ?_
  refine x_iald (v := 0) rfl rfl (by decide) (by decide) (by decide) hM ?_
  refine g_istore_n rfl rfl rfl ?_
  refine g_iload_n rfl rfl ?_
  refine g_iconst rfl ⟨by decide, by decide⟩ ?_
  refine g_icmp_ne (tgt := 34) rfl (by decide) (fun hx => absurd hx (by omega)) (fun _ => ?_)
  refine g_iload_n rfl rfl ?_
  refine g_iconst rfl ⟨by decide, by decide⟩ ?_
  refine g_icmp_ge (tgt := 32) rfl (by decide) (fun hx => absurd hx (by omega)) (fun _ => ?_)
  refine g_iload_n rfl rfl ?_
  refine g_goto (tgt := 33) rfl (by decide) ?_
  refine x_ireturn rfl rfl ?_
  intro _
  refine g_istore rfl rfl rfl ?_
  refine g_iload rfl rfl ?_
  refine g_iconst rfl ⟨by decide, by decide⟩ ?_
  refine g_icmp_ne (tgt := 52) rfl (by decide) (fun _ => ?_) (fun hx => absurd hx (by omega))
  refine g_aload_n rfl rfl ?_
  refine x_getF (r := 41) hG rfl rfl (by decide) (Or.inl ⟨_, rfl⟩) rfl ?_
  refine g_aload_n rfl rfl ?_
  refine x_getF (r := 1) hG rfl rfl (by decide) (Or.inl ⟨_, rfl⟩) rfl ?_
  refine x_getF (r := 2) hG rfl rfl (by decide) (Or.inr ⟨_, rfl⟩) rfl ?_
  refine g_iload_n rfl rfl ?_
  refine g_iload_n rfl rfl ?_
  refine g_cV (as := [tR (some 2), tI len, tI 0]) (s_readY0 hG hT hlen hTm hfl) rfl rfl mX5_read_ok rfl rfl rfl (by decide) rfl rfl rfl ?_
  rintro _ w1 ⟨rfl, hct, hR1⟩ _
  refine g_if_ne (tgt := 101) rfl (by decide) (fun _ => ?_) (fun hx => absurd hx (by omega))
  refine g_aload_n rfl rfl ?_
  refine x_getF (r := 1) hG rfl rfl (by decide) (Or.inl ⟨_, rfl⟩) rfl ?_
  refine g_iload_n rfl rfl ?_
  refine g_iload rfl rfl ?_
  refine g_aload_n rfl rfl ?_
  refine x_getF (r := 41) hG rfl rfl (by decide) (Or.inl ⟨_, rfl⟩) rfl ?_
  refine g_iV (as := [tI 0, tI 0, tR (some 41)]) mX9_keep_ok rfl rfl rfl rfl rfl rfl (by decide) rfl rfl rfl ?_
  refine g_iload_n rfl rfl ?_
  refine g_if_lt (tgt := 18) rfl (by decide) (fun hx => absurd hx (by omega)) (fun _ => ?_)
  refine g_iload_n rfl rfl ?_
  refine g_iconst rfl ⟨by decide, by decide⟩ ?_
  refine g_icmp_ge (tgt := 18) rfl (by decide) (fun hx => absurd hx (by omega)) (fun _ => ?_)
  refine g_iload_n rfl rfl ?_
  refine g_if_lt (tgt := 18) rfl (by decide) (fun hx => absurd hx (by omega)) (fun _ => ?_)
  refine g_iload_n rfl rfl ?_
  refine g_iconst rfl ⟨by decide, by decide⟩ ?_
  refine g_icmp_lt (tgt := 19) rfl (by decide) (fun _ => ?_) (fun hx => absurd hx (by omega))
  refine g_iload_n rfl rfl ?_
  refine g_if_ne (tgt := 39) rfl (by decide) (fun hx => absurd hx (by omega)) (fun _ => ?_)
  refine g_aload_n rfl rfl ?_
  refine x_getF (r := 3) hG rfl rfl (by decide) (Or.inr ⟨_, rfl⟩) rfl ?_
  refine g_iload_n rfl rfl ?_
  refine x_aald (t0 := 4) (r := 6) hG rfl rfl rfl (by decide) (by decide) (by decide) rfl ?_
  refine g_aload_n rfl rfl ?_
  refine x_getF (r := 42) hG rfl rfl (by decide) (Or.inl ⟨_, rfl⟩) rfl ?_
  refine g_cV (as := [tR (some 42)]) (s_ccopy hG (c := 42) (d := 6) rfl rfl (by decide) (by decide) (by decide)) rfl rfl mX0_copyFrom_ok rfl rfl rfl (by decide) rfl rfl rfl ?_
  rintro _ w2 ⟨rfl, hK2, hF2⟩ _
  have hM2 : w2.1 5 0 = 0 := by rw [hF2 5 (by omega), hR1 5 (by omega)]; exact hM
  refine g_goto (tgt := 56) rfl (by decide) ?_
  refine g_aload_n rfl rfl ?_
  refine x_getF (r := 5) hG rfl rfl (by decide) (Or.inr ⟨_, rfl⟩) rfl ?_
  refine g_iload_n rfl rfl ?_
  refine g_aload_n rfl rfl ?_
  refine x_getF (r := 5) hG rfl rfl (by decide) (Or.inr ⟨_, rfl⟩) rfl ?_
  refine g_iload_n rfl rfl ?_
  refine x_iald (v := 0) rfl rfl (by decide) (by decide) (by decide) hM2 ?_
  refine g_iload_n rfl rfl ?_
  refine g_iconst rfl ⟨by decide, by decide⟩ ?_
  refine x_iadd (z := 1) rfl (by omega) ⟨by omega, by omega⟩ ?_
  refine x_max (z := 1) rfl rfl (by omega) ?_
  refine g_iast rfl rfl (by decide) (by decide) (by decide) ?_
  refine x_return rfl rfl ?_
  intro _
  refine g_iload rfl rfl ?_
  refine x_ireturn rfl rfl ?_
  exact ⟨rfl, ⟨by rw [tp_pi_ne (by omega), hF2 1 (by omega), hR1 1 (by omega)]; rfl, by rw [tp_pi_ne (by omega), hF2 1 (by omega), hR1 1 (by omega)]; rfl, by rw [tp_pi_ne (by omega), hF2 1 (by omega), hR1 1 (by omega)]; rfl⟩, tp_pi_at.trans (by omega), fun t z => by rw [tp_pi_ix z, hF2 5 (by omega), hR1 5 (by omega)]; rfl, tp_Co_A (A := w2.1) (fun i i0 i1 => tp_pi_ne (by omega)) (x_k0 hct (t_wm0 hlen.1 hfl) hK2), fun c z1 z2 z3 z4 => by rw [tp_pi_ne z2, hF2 c (by omega), hR1 c z4, tp_pi_ne z1, tp_pi_ne z1, tp_pi_ne z1]⟩
set_option maxHeartbeats 4000000 in
set_option maxRecDepth 100000 in
theorem s_mt00m1 {G : tp_G} {μ : tp_M} (hG : tp_Gf G = true) {T : Int → Int} {len : Int} (hT : ∀ j, 0 ≤ T j ∧ T j ≤ 255) (hlen : 0 ≤ len ∧ len ≤ 600) (h203 : μ.1 203 0 = len) (hTr : ∀ j, 0 ≤ j → j < len → tp_and (μ.1 202 j) 255 = T j) (hM : μ.1 206 0 = 0) (hfl : (t_flt 0 T len).1 = 0) : tp_k G mX12_text [tR (some 201), tI 0, tI (-1)] μ (fun r μ' => r = some (tI 0) ∧ μ'.1 203 0 = 0 ∧ μ'.1 204 0 = 0 ∧ μ'.1 205 0 = -1 ∧ μ'.1 206 0 = 1 ∧ (∀ t, t ≠ 0 → μ'.1 206 t = μ.1 206 t) ∧ (∀ j, 0 ≤ j → j < 129 → μ'.1 207 (0 + j) = t_tld 0 T len j) ∧ (∀ j, (j < 0 ∨ 129 ≤ j) → μ'.1 207 j = μ.1 207 j) ∧ m_Qc μ μ' ∧ (∀ c, m_Lc c → c ≠ 206 → c ≠ 207 → μ'.1 c = μ.1 c)) := by
  refine tp_ok_of mX12_text_ok rfl (Nat.le_refl _) ?_
  refine g_aload_n rfl rfl ?_
  refine g_iconst rfl ⟨by decide, by decide⟩ ?_
  refine g_puti rfl rfl (by decide) rfl rfl ?_
  refine g_aload_n rfl rfl ?_
  refine g_aload_n rfl rfl ?_
  refine x_getF (r := 203) hG rfl rfl (by decide) (Or.inr ⟨_, rfl⟩) rfl ?_
  refine g_iconst rfl ⟨by decide, by decide⟩ ?_
  refine x_iald (v := len) rfl rfl (by decide) (by decide) (by decide) h203 ?_
  refine g_puti rfl rfl (by decide) rfl rfl ?_
  refine g_aload_n rfl rfl ?_
  refine x_getF (r := 203) hG rfl rfl (by decide) (Or.inr ⟨_, rfl⟩) rfl ?_
  refine g_iconst rfl ⟨by decide, by decide⟩ ?_
  refine g_iconst rfl ⟨by decide, by decide⟩ ?_
  refine g_iast rfl rfl (by decide) (by decide) (by decide) ?_
  refine g_aload_n rfl rfl ?_
  refine x_getF (r := 204) hG rfl rfl (by decide) (Or.inr ⟨_, rfl⟩) rfl ?_
  refine g_iconst rfl ⟨by decide, by decide⟩ ?_
  refine g_iconst rfl ⟨by decide, by decide⟩ ?_
  refine g_iast rfl rfl (by decide) (by decide) (by decide) ?_
  refine g_aload_n rfl rfl ?_
  refine x_getF (r := 205) hG rfl rfl (by decide) (Or.inr ⟨_, rfl⟩) rfl ?_
  refine g_iconst rfl ⟨by decide, by decide⟩ ?_
  refine g_iconst rfl ⟨by decide, by decide⟩ ?_
  refine g_iast rfl rfl (by decide) (by decide) (by decide) ?_
  refine g_iload_n rfl rfl ?_
  refine g_iconst rfl ⟨by decide, by decide⟩ ?_
  refine g_iconst rfl ⟨by decide, by decide⟩ ?_
  refine g_iS (as := [tI 0, tI 0, tI 3]) mX12_in_ok rfl rfl rfl rfl rfl rfl rfl ?_
  refine g_iload_n rfl rfl ?_
  refine g_iload_n rfl rfl ?_
  refine g_icmp_lt (tgt := 14) rfl (by decide) (fun hx => absurd hx (by omega)) (fun _ => ?_)
  refine g_iload_n rfl rfl ?_
  refine g_iload_n rfl rfl ?_
  refine g_icmp_gt (tgt := 14) rfl (by decide) (fun hx => absurd hx (by omega)) (fun _ => ?_)
  refine g_iconst rfl ⟨by decide, by decide⟩ ?_
  refine g_goto (tgt := 15) rfl (by decide) ?_
  refine x_zreturn rfl rfl (Or.inr rfl) ?_
  intro _
  refine g_if_eq (tgt := 72) rfl (by decide) (fun hx => absurd hx (by omega)) (fun _ => ?_)
  refine g_iload_n rfl rfl ?_
  refine g_iconst rfl ⟨by decide, by decide⟩ ?_
  refine g_icmp_ne (tgt := 63) rfl (by decide) (fun hx => absurd hx (by omega)) (fun _ => ?_)
  refine g_aload_n rfl rfl ?_
  refine x_getF (r := 206) hG rfl rfl (by decide) (Or.inr ⟨_, rfl⟩) rfl ?_
  refine g_iload_n rfl rfl ?_
  refine x_iald (v := 0) rfl rfl (by decide) (by decide) (by decide) hM ?_
  refine g_iconst rfl ⟨by decide, by decide⟩ ?_
  refine g_icmp_ne (tgt := 75) rfl (by decide) (fun _ => ?_) (fun hx => absurd hx (by omega))
  refine g_aload_n rfl rfl ?_
  refine g_iload_n rfl rfl ?_
  refine g_cV (as := [tI 0]) (s_rtxY0 (T := T) (len := len) hG hT ⟨rfl, hlen, hTr⟩ hfl) rfl rfl mX12_readText_ok rfl rfl rfl (by decide) rfl rfl rfl ?_
  rintro _ w1 ⟨rfl, h204, h205, hto, hH1⟩ _
  have hM1 : w1.1 206 0 = 0 := by rw [hH1.1 206 (by omega) (by omega) (by omega) (by omega)]; exact hM
  refine g_if_ne (tgt := 85) rfl (by decide) (fun _ => ?_) (fun hx => absurd hx (by omega))
  refine g_iload_n rfl rfl ?_
  refine g_iconst rfl ⟨by decide, by decide⟩ ?_
  refine g_icmp_ne (tgt := 99) rfl (by decide) (fun hx => absurd hx (by omega)) (fun _ => ?_)
  refine g_aload_n rfl rfl ?_
  refine x_getF (r := 206) hG rfl rfl (by decide) (Or.inr ⟨_, rfl⟩) rfl ?_
  refine g_iload_n rfl rfl ?_
  refine x_iald (v := 0) rfl rfl (by decide) (by decide) (by decide) hM1 ?_
  refine g_goto (tgt := 100) rfl (by decide) ?_
  refine g_istore_n rfl rfl rfl ?_
  refine g_aload_n rfl rfl ?_
  refine x_getF (r := 206) hG rfl rfl (by decide) (Or.inr ⟨_, rfl⟩) rfl ?_
  refine g_iload_n rfl rfl ?_
  refine g_dup2 rfl ?_
  refine x_iald (v := 0) rfl rfl (by decide) (by decide) (by decide) hM1 ?_
  refine g_iload_n rfl rfl ?_
  refine g_iconst rfl ⟨by decide, by decide⟩ ?_
  refine g_icmp_ne (tgt := 117) rfl (by decide) (fun hx => absurd hx (by omega)) (fun _ => ?_)
  refine g_iconst rfl ⟨by decide, by decide⟩ ?_
  refine g_goto (tgt := 118) rfl (by decide) ?_
  refine x_iadd (z := 1) rfl (by omega) ⟨by omega, by omega⟩ ?_
  refine g_iast rfl rfl (by decide) (by decide) (by decide) ?_
  refine g_iload_n rfl rfl ?_
  refine g_if_ne (tgt := 139) rfl (by decide) (fun hx => absurd hx (by omega)) (fun _ => ?_)
  refine g_aload_n rfl rfl ?_
  refine g_aload_n rfl rfl ?_
  refine x_getF (r := 207) hG rfl rfl (by decide) (Or.inr ⟨_, rfl⟩) rfl ?_
  refine g_sipush rfl ⟨by decide, by decide⟩ (by decide) ?_
  refine g_iload_n rfl rfl ?_
  refine g_cV (as := [tR (some 207), tI 129, tI 0]) (s_kpt00 hG) rfl rfl mX12_keep_ok rfl rfl rfl (by decide) rfl rfl rfl ?_
  rintro _ w2 ⟨rfl, hv2, hw2, hF2⟩ _
  refine g_goto (tgt := 188) rfl (by decide) ?_
  refine g_iload_n rfl rfl ?_
  refine x_ireturn rfl rfl ?_
  have q203 : w2.1 203 = _ := (hF2 203 (by omega)).trans ((tp_pi_ne (by omega)).trans (hH1.1 203 (by omega) (by omega) (by omega) (by omega)))
  have q204 : w2.1 204 = w1.1 204 := (hF2 204 (by omega)).trans (tp_pi_ne (by omega))
  have q205 : w2.1 205 = w1.1 205 := (hF2 205 (by omega)).trans (tp_pi_ne (by omega))
  have q206 : w2.1 206 = (tp_pi w1 206 0 1).1 206 := hF2 206 (by omega)
  have q211 : (tp_pi w1 206 0 1).1 211 = w1.1 211 := tp_pi_ne (by omega)
  have qrc : (tp_pi w1 206 0 1).1 207 = _ := (tp_pi_ne (by omega)).trans (hH1.1 207 (by omega) (by omega) (by omega) (by omega))
  refine ⟨rfl, (congrFun q203 0).trans rfl, (congrFun q204 0).trans h204, (congrFun q205 0).trans h205, (congrFun q206 0).trans tp_pi_at, fun t z => ?_, fun j j0 j1 => ((hv2 j j0 j1).trans (congrFun q211 j)).trans (hto j j0 (by omega)), fun j z => ((hw2 j z).trans (congrFun qrc j)).trans rfl, fun q z => ⟨?_, ?_, ?_⟩, fun c z y1 y2 => ?_⟩
  · rw [q206, tp_pi_ix z, hH1.1 206 (by omega) (by omega) (by omega) (by omega)]; rfl
  · rw [q203, tp_pi_ne (by omega), tp_pi_ne (by omega), tp_pi_ix (by omega)]; rfl
  · rw [q204, (hH1.2.2.1 q (by omega)).1, tp_pi_ne (by omega), tp_pi_ix (by omega)]; rfl
  · rw [q205, (hH1.2.2.1 q (by omega)).2, tp_pi_ix (by omega)]; rfl
  · rw [hF2 c y2, tp_pi_ne y1, hH1.1 c z.1 z.2.2.2.2 z.2.2.1 z.2.2.2.1, tp_pi_ne z.2.2.2.1, tp_pi_ne z.2.2.1, tp_pi_ne z.2.1, tp_pi_ne z.1, tp_pi_ne z.1]
set_option maxHeartbeats 4000000 in
set_option maxRecDepth 100000 in
theorem s_xt00m0 {G : tp_G} {μ : tp_M} (hG : tp_Gf G = true) {T : Int → Int} {len : Int} (hT : ∀ j, 0 ≤ T j ∧ T j ≤ 255) (hlen : 0 ≤ len ∧ len ≤ 600) (hln : μ.1 1 1 = len) (hTm : ∀ j, 0 ≤ j → j < len → tp_and (μ.1 2 j) 255 = T j) (hM : μ.1 5 0 = 0) (hfl : (t_flt 0 T len).1 ≠ 0) : tp_k G mX11_text [tR (some 0), tI 0, tI (-1)] μ (fun r μ' => r = some (tI (-1)) ∧ μ'.1 1 1 = 0 ∧ μ'.1 1 2 = (t_flt 0 T len).1 ∧ μ'.1 1 3 = (t_flt 0 T len).2 ∧ (∀ c, c ≠ 1 → (c < 41 ∨ 49 < c) → μ'.1 c = μ.1 c)) := by
  refine tp_ok_of mX11_text_ok rfl (Nat.le_refl _) ?_
  refine g_aload_n rfl rfl ?_
  refine x_getF (r := 1) hG rfl rfl (by decide) (Or.inl ⟨_, rfl⟩) rfl ?_
  refine x_geti (v := len) rfl rfl (by decide) (Or.inl rfl) hln ?_
  refine g_istore_n rfl rfl rfl ?_
  refine g_aload_n rfl rfl ?_
  refine x_getF (r := 1) hG rfl rfl (by decide) (Or.inl ⟨_, rfl⟩) rfl ?_
  refine g_iconst rfl ⟨by decide, by decide⟩ ?_
  refine g_puti rfl rfl (by decide) rfl rfl ?_
  refine g_aload_n rfl rfl ?_
  refine x_getF (r := 1) hG rfl rfl (by decide) (Or.inl ⟨_, rfl⟩) rfl ?_
  refine g_iconst rfl ⟨by decide, by decide⟩ ?_
  refine g_puti rfl rfl (by decide) rfl rfl ?_
  refine g_aload_n rfl rfl ?_
  refine x_getF (r := 1) hG rfl rfl (by decide) (Or.inl ⟨_, rfl⟩) rfl ?_
  refine g_iconst rfl ⟨by decide, by decide⟩ ?_
  refine g_puti rfl rfl (by decide) rfl rfl ?_
  refine g_aload_n rfl rfl ?_
  refine x_getF (r := 1) hG rfl rfl (by decide) (Or.inl ⟨_, rfl⟩) rfl ?_
  refine g_iload_n rfl rfl ?_
  refine g_iload_n rfl rfl ?_
  refine g_iV (as := [tI 0, tI (-1)]) mX9_slotFor_ok rfl rfl rfl rfl rfl rfl (by decide) rfl rfl rfl ?_
  refine g_iload_n rfl rfl ?_
  refine g_if_lt (tgt := 9) rfl (by decide) (fun hx => absurd hx (by omega)) (fun _ => ?_)
  refine g_iload_n rfl rfl ?_
  refine g_iconst rfl ⟨by decide, by decide⟩ ?_
  refine g_icmp_lt (tgt := 11) rfl (by decide) (fun _ => ?_) (fun hx => absurd hx (by omega))
  refine g_aload_n rfl rfl ?_
  refine x_getF (r := 5) hG rfl rfl (by decide) (Or.inr ⟨_, rfl⟩) rfl ?_
  refine g_iload_n rfl rfl ?_
  refine x_iald (v := 0) rfl rfl (by decide) (by decide) (by decide) hM ?_
  refine g_istore_n rfl rfl rfl ?_
  refine g_iload_n rfl rfl ?_
  refine g_iconst rfl ⟨by decide, by decide⟩ ?_
  refine g_icmp_ne (tgt := 34) rfl (by decide) (fun hx => absurd hx (by omega)) (fun _ => ?_)
  refine g_iload_n rfl rfl ?_
  refine g_iconst rfl ⟨by decide, by decide⟩ ?_
  refine g_icmp_ge (tgt := 32) rfl (by decide) (fun hx => absurd hx (by omega)) (fun _ => ?_)
  refine g_iload_n rfl rfl ?_
  refine g_goto (tgt := 33) rfl (by decide) ?_
  refine x_ireturn rfl rfl ?_
  intro _
  refine g_istore rfl rfl rfl ?_
  refine g_iload rfl rfl ?_
  refine g_iconst rfl ⟨by decide, by decide⟩ ?_
  refine g_icmp_ne (tgt := 52) rfl (by decide) (fun _ => ?_) (fun hx => absurd hx (by omega))
  refine g_aload_n rfl rfl ?_
  refine x_getF (r := 41) hG rfl rfl (by decide) (Or.inl ⟨_, rfl⟩) rfl ?_
  refine g_aload_n rfl rfl ?_
  refine x_getF (r := 1) hG rfl rfl (by decide) (Or.inl ⟨_, rfl⟩) rfl ?_
  refine x_getF (r := 2) hG rfl rfl (by decide) (Or.inr ⟨_, rfl⟩) rfl ?_
  refine g_iload_n rfl rfl ?_
  refine g_iload_n rfl rfl ?_
  refine g_cV (as := [tR (some 2), tI len, tI 0]) (s_readN0 hG hT hlen hTm hfl) rfl rfl mX5_read_ok rfl rfl rfl (by decide) rfl rfl rfl ?_
  rintro _ w1 ⟨rfl, h8, h9, hR1⟩ _
  refine g_if_ne (tgt := 101) rfl (by decide) (fun hx => absurd hx (by omega)) (fun _ => ?_)
  refine g_aload_n rfl rfl ?_
  refine x_getF (r := 1) hG rfl rfl (by decide) (Or.inl ⟨_, rfl⟩) rfl ?_
  refine g_aload_n rfl rfl ?_
  refine x_getF (r := 41) hG rfl rfl (by decide) (Or.inl ⟨_, rfl⟩) rfl ?_
  refine x_geti (v := ((t_flt 0 T len).1)) rfl rfl (by decide) (Or.inl rfl) h8 ?_
  refine g_puti rfl rfl (by decide) rfl rfl ?_
  refine g_aload_n rfl rfl ?_
  refine x_getF (r := 1) hG rfl rfl (by decide) (Or.inl ⟨_, rfl⟩) rfl ?_
  refine g_aload_n rfl rfl ?_
  refine x_getF (r := 41) hG rfl rfl (by decide) (Or.inl ⟨_, rfl⟩) rfl ?_
  refine x_geti (v := ((t_flt 0 T len).2)) rfl rfl (by decide) (Or.inl rfl) h9 ?_
  refine g_puti rfl rfl (by decide) rfl rfl ?_
  refine g_iconst rfl ⟨by decide, by decide⟩ ?_
  refine x_ireturn rfl rfl ?_
  exact ⟨rfl, (congrFun (hR1 1 (by omega)) 1).trans rfl, rfl, rfl, fun c z y => by rw [tp_pi_ne z, tp_pi_ne z, hR1 c y, tp_pi_ne z, tp_pi_ne z, tp_pi_ne z]⟩
set_option maxHeartbeats 4000000 in
set_option maxRecDepth 100000 in
theorem s_mt00m0 {G : tp_G} {μ : tp_M} (hG : tp_Gf G = true) {T : Int → Int} {len : Int} (hT : ∀ j, 0 ≤ T j ∧ T j ≤ 255) (hlen : 0 ≤ len ∧ len ≤ 600) (h203 : μ.1 203 0 = len) (hTr : ∀ j, 0 ≤ j → j < len → tp_and (μ.1 202 j) 255 = T j) (hM : μ.1 206 0 = 0) (hfl : (t_flt 0 T len).1 ≠ 0) : tp_k G mX12_text [tR (some 201), tI 0, tI (-1)] μ (fun r μ' => r = some (tI (-1)) ∧ μ'.1 203 0 = 0 ∧ μ'.1 204 0 = (t_flt 0 T len).1 ∧ μ'.1 205 0 = (t_flt 0 T len).2 ∧ m_Qc μ μ' ∧ (∀ c, m_Lc c → μ'.1 c = μ.1 c)) := by
  refine tp_ok_of mX12_text_ok rfl (Nat.le_refl _) ?_
  refine g_aload_n rfl rfl ?_
  refine g_iconst rfl ⟨by decide, by decide⟩ ?_
  refine g_puti rfl rfl (by decide) rfl rfl ?_
  refine g_aload_n rfl rfl ?_
  refine g_aload_n rfl rfl ?_
  refine x_getF (r := 203) hG rfl rfl (by decide) (Or.inr ⟨_, rfl⟩) rfl ?_
  refine g_iconst rfl ⟨by decide, by decide⟩ ?_
  refine x_iald (v := len) rfl rfl (by decide) (by decide) (by decide) h203 ?_
  refine g_puti rfl rfl (by decide) rfl rfl ?_
  refine g_aload_n rfl rfl ?_
  refine x_getF (r := 203) hG rfl rfl (by decide) (Or.inr ⟨_, rfl⟩) rfl ?_
  refine g_iconst rfl ⟨by decide, by decide⟩ ?_
  refine g_iconst rfl ⟨by decide, by decide⟩ ?_
  refine g_iast rfl rfl (by decide) (by decide) (by decide) ?_
  refine g_aload_n rfl rfl ?_
  refine x_getF (r := 204) hG rfl rfl (by decide) (Or.inr ⟨_, rfl⟩) rfl ?_
  refine g_iconst rfl ⟨by decide, by decide⟩ ?_
  refine g_iconst rfl ⟨by decide, by decide⟩ ?_
  refine g_iast rfl rfl (by decide) (by decide) (by decide) ?_
  refine g_aload_n rfl rfl ?_
  refine x_getF (r := 205) hG rfl rfl (by decide) (Or.inr ⟨_, rfl⟩) rfl ?_
  refine g_iconst rfl ⟨by decide, by decide⟩ ?_
  refine g_iconst rfl ⟨by decide, by decide⟩ ?_
  refine g_iast rfl rfl (by decide) (by decide) (by decide) ?_
  refine g_iload_n rfl rfl ?_
  refine g_iconst rfl ⟨by decide, by decide⟩ ?_
  refine g_iconst rfl ⟨by decide, by decide⟩ ?_
  refine g_iS (as := [tI 0, tI 0, tI 3]) mX12_in_ok rfl rfl rfl rfl rfl rfl rfl ?_
  refine g_iload_n rfl rfl ?_
  refine g_iload_n rfl rfl ?_
  refine g_icmp_lt (tgt := 14) rfl (by decide) (fun hx => absurd hx (by omega)) (fun _ => ?_)
  refine g_iload_n rfl rfl ?_
  refine g_iload_n rfl rfl ?_
  refine g_icmp_gt (tgt := 14) rfl (by decide) (fun hx => absurd hx (by omega)) (fun _ => ?_)
  refine g_iconst rfl ⟨by decide, by decide⟩ ?_
  refine g_goto (tgt := 15) rfl (by decide) ?_
  refine x_zreturn rfl rfl (Or.inr rfl) ?_
  intro _
  refine g_if_eq (tgt := 72) rfl (by decide) (fun hx => absurd hx (by omega)) (fun _ => ?_)
  refine g_iload_n rfl rfl ?_
  refine g_iconst rfl ⟨by decide, by decide⟩ ?_
  refine g_icmp_ne (tgt := 63) rfl (by decide) (fun hx => absurd hx (by omega)) (fun _ => ?_)
  refine g_aload_n rfl rfl ?_
  refine x_getF (r := 206) hG rfl rfl (by decide) (Or.inr ⟨_, rfl⟩) rfl ?_
  refine g_iload_n rfl rfl ?_
  refine x_iald (v := 0) rfl rfl (by decide) (by decide) (by decide) hM ?_
  refine g_iconst rfl ⟨by decide, by decide⟩ ?_
  refine g_icmp_ne (tgt := 75) rfl (by decide) (fun _ => ?_) (fun hx => absurd hx (by omega))
  refine g_aload_n rfl rfl ?_
  refine g_iload_n rfl rfl ?_
  refine g_cV (as := [tI 0]) (s_rtxN0 (T := T) (len := len) hG hT ⟨rfl, hlen, hTr⟩ hfl) rfl rfl mX12_readText_ok rfl rfl rfl (by decide) rfl rfl rfl ?_
  rintro _ w1 ⟨rfl, h204, h205, hH1⟩ _
  have hM1 : w1.1 206 0 = 0 := by rw [hH1.1 206 (by omega) (by omega) (by omega) (by omega)]; exact hM
  refine g_if_ne (tgt := 85) rfl (by decide) (fun hx => absurd hx (by omega)) (fun _ => ?_)
  refine g_iconst rfl ⟨by decide, by decide⟩ ?_
  refine x_ireturn rfl rfl ?_
  exact ⟨rfl, (congrFun (hH1.1 203 (by omega) (by omega) (by omega) (by omega)) 0).trans rfl, h204, h205, fun q z => ⟨(congrFun (hH1.1 203 (by omega) (by omega) (by omega) (by omega)) q).trans (by rw [tp_pi_ne (by omega), tp_pi_ne (by omega), tp_pi_ix (by omega)]; rfl), ((hH1.2.2.1 q (by omega)).1).trans (by rw [tp_pi_ne (by omega), tp_pi_ix (by omega)]; rfl), ((hH1.2.2.1 q (by omega)).2).trans (by rw [tp_pi_ix (by omega)]; rfl)⟩, fun c z => by rw [hH1.1 c z.1 z.2.2.2.2 z.2.2.1 z.2.2.2.1, tp_pi_ne z.2.2.2.1, tp_pi_ne z.2.2.1, tp_pi_ne z.2.1, tp_pi_ne z.1, tp_pi_ne z.1]⟩
set_option maxHeartbeats 4000000 in
set_option maxRecDepth 100000 in
theorem p_tx00m {G : tp_G} {μ : tp_M} (hG : tp_Gf G = true) (hR : tp_R μ) (hM : μ.1 5 0 = 0) : tp_q G mX11_text mX12_text [tI 0, tI (-1)] μ := by
  have hL := tp_R_len hR
  have hlen : 0 ≤ μ.1 1 1 ∧ μ.1 1 1 ≤ 600 := ⟨hL.1, hL.2.1⟩
  have hm9 := tp_R_many hR 0 (by decide) (by decide)
  have hT : ∀ j, 0 ≤ (fun j => tp_and (μ.1 2 j) 255 : Int → Int) j ∧ (fun j => tp_and (μ.1 2 j) 255 : Int → Int) j ≤ 255 := fun j => tp_and255 _
  generalize hTT : (fun j => tp_and (μ.1 2 j) 255 : Int → Int) = T at hT
  have hTm : ∀ j, 0 ≤ j → j < μ.1 1 1 → tp_and (μ.1 2 j) 255 = T j := fun j _ _ => by rw [← hTT]
  generalize hln : μ.1 1 1 = len at *
  by_cases hfl : (t_flt 0 T len).1 = 0
  · refine tp_kc (fun r μ1 z => ?_) (s_xt00m1 hG hT hlen hln hTm hM hfl)
    obtain ⟨z1, z2, z3, z4, z5, z6⟩ := z
    refine ⟨0, z1, tp_kc (fun r2 μ2 y => ?_) (s_mt00m1 (T := T) (len := len) hG hT hlen (by rw [z6 203 (by omega) (by omega) (by omega) (by omega)]; exact hL.2.2.symm) (fun j j0 j1 => by rw [z6 202 (by omega) (by omega) (by omega) (by omega), ← tp_R_tape hR j j0 (by omega)]; exact hTm j j0 j1) (by rw [z6 206 (by omega) (by omega) (by omega) (by omega)]; exact hm9.1.symm.trans hM) hfl)⟩
    obtain ⟨y1, y2, y3, y4, y5, y6, y7, y8, y9, y10⟩ := y
    have y5' : ∀ j, μ2.1 5 j = μ1.1 5 j := fun j => congrFun (y10 5 (by unfold m_Lc; omega) (by omega) (by omega)) j
    have yl : μ2.1 1 = μ1.1 1 := y10 1 (by unfold m_Lc; omega) (by omega) (by omega)
    refine ⟨y1, tp_R_k00 hR (fun k hk k1 k5 kc k2 kr => ?_) (fun q hq => ?_) (fun j hj => ?_) (fun t t0 t1 tn => ⟨?_, ?_⟩) ⟨?_, ?_, ?_⟩ (fun j hj => ?_) ⟨?_, y2⟩ ⟨?_, ?_⟩ ?_⟩
    · unfold tp_tl at hk
      rw [y10 k (by unfold m_Lc; omega) (by omega) kr, z6 k k1 k5 kc (by omega)]
    · rw [(y9 q hq).1, (y9 q hq).2.1, (y9 q hq).2.2, z6 203 (by omega) (by omega) (by omega) (by omega), z6 204 (by omega) (by omega) (by omega) (by omega), z6 205 (by omega) (by omega) (by omega) (by omega)]; exact ⟨rfl, rfl, rfl⟩
    · rw [y6 j (by omega), z6 206 (by omega) (by omega) (by omega) (by omega)]
    · rw [y5' t, z4 t tn]
    · rw [y6 t tn, z6 206 (by omega) (by omega) (by omega) (by omega)]
    · rw [y5' 0, z3, y5]
    · rw [y5' 0, z3]; omega
    · rw [y5' 0, z3]; omega
    · rw [y8 j hj, z6 207 (by omega) (by omega) (by omega) (by omega)]
    · rw [yl]; exact z2.1
    · rw [yl, y3]; exact z2.2.1
    · rw [yl, y4]; exact z2.2.2
    · exact tp_Co_A (A := μ1.1) (fun i i0 i1 => y10 i (by unfold m_Lc; omega) (by omega) (by omega)) (tp_Co_f (fun i i0 i1 => y7 i i0 i1) z5)
  · refine tp_kc (fun r μ1 z => ?_) (s_xt00m0 hG hT hlen hln hTm hM hfl)
    obtain ⟨z1, z2, z3, z4, z6⟩ := z
    refine ⟨-1, z1, tp_kc (fun r2 μ2 y => ?_) (s_mt00m0 (T := T) (len := len) hG hT hlen (by rw [z6 203 (by omega) (by omega)]; exact hL.2.2.symm) (fun j j0 j1 => by rw [z6 202 (by omega) (by omega), ← tp_R_tape hR j j0 (by omega)]; exact hTm j j0 j1) (by rw [z6 206 (by omega) (by omega)]; exact hm9.1.symm.trans hM) hfl)⟩
    obtain ⟨y1, y2, y3, y4, y9, y10⟩ := y
    have yl : μ2.1 1 = μ1.1 1 := y10 1 (by unfold m_Lc; omega)
    refine ⟨y1, tp_R_head hR (fun k hk k1 k2 k3 => ?_) (fun j hj => ?_) (fun q hq => ?_) ?_ (fun j j0 j1 => ?_) ⟨?_, ?_⟩⟩
    · unfold tp_tl at hk
      rw [y10 k (by unfold m_Lc; omega), z6 k k1 (by omega)]
    · rw [y10 202 (by unfold m_Lc; omega), z6 202 (by omega) (by omega)]
    · rw [(y9 q hq).1, (y9 q hq).2.1, (y9 q hq).2.2, z6 203 (by omega) (by omega), z6 204 (by omega) (by omega), z6 205 (by omega) (by omega)]; exact ⟨rfl, rfl, rfl⟩
    · rw [yl, z2, y2]; decide
    · rw [yl, z2] at j1; omega
    · rw [yl, z3, y3]
    · rw [yl, z4, y4]
set_option maxHeartbeats 4000000 in
set_option maxRecDepth 100000 in
theorem s_xt00s1 {G : tp_G} {μ : tp_M} (hG : tp_Gf G = true) {T : Int → Int} {len : Int} (hT : ∀ j, 0 ≤ T j ∧ T j ≤ 255) (hlen : 0 ≤ len ∧ len ≤ 600) (hln : μ.1 1 1 = len) (hTm : ∀ j, 0 ≤ j → j < len → tp_and (μ.1 2 j) 255 = T j) {M : Int} (hM : μ.1 5 0 = M) (hMs : 0 < M ∧ M ≤ 2) (hfl : (t_flt 0 T len).1 = 0) : tp_k G mX11_text [tR (some 0), tI 0, tI 0] μ (fun r μ' => r = some (tI 0) ∧ (μ'.1 1 1 = 0 ∧ μ'.1 1 2 = 0 ∧ μ'.1 1 3 = -1) ∧ μ'.1 5 0 = M ∧ (∀ t, t ≠ 0 → μ'.1 5 t = μ.1 5 t) ∧ tp_Co μ'.1 6 (t_tld 0 T len) ∧ (∀ c, c ≠ 1 → c ≠ 5 → (c < 6 ∨ 10 < c) → (c < 41 ∨ 49 < c) → μ'.1 c = μ.1 c)) := by
  refine tp_ok_of mX11_text_ok rfl (Nat.le_refl _) ?_
  refine g_aload_n rfl rfl ?_
  refine x_getF (r := 1) hG rfl rfl (by decide) (Or.inl ⟨_, rfl⟩) rfl ?_
  refine x_geti (v := len) rfl rfl (by decide) (Or.inl rfl) hln ?_
  refine g_istore_n rfl rfl rfl ?_
  refine g_aload_n rfl rfl ?_
  refine x_getF (r := 1) hG rfl rfl (by decide) (Or.inl ⟨_, rfl⟩) rfl ?_
  refine g_iconst rfl ⟨by decide, by decide⟩ ?_
  refine g_puti rfl rfl (by decide) rfl rfl ?_
  refine g_aload_n rfl rfl ?_
  refine x_getF (r := 1) hG rfl rfl (by decide) (Or.inl ⟨_, rfl⟩) rfl ?_
  refine g_iconst rfl ⟨by decide, by decide⟩ ?_
  refine g_puti rfl rfl (by decide) rfl rfl ?_
  refine g_aload_n rfl rfl ?_
  refine x_getF (r := 1) hG rfl rfl (by decide) (Or.inl ⟨_, rfl⟩) rfl ?_
  refine g_iconst rfl ⟨by decide, by decide⟩ ?_
  refine g_puti rfl rfl (by decide) rfl rfl ?_
  refine g_aload_n rfl rfl ?_
  refine x_getF (r := 1) hG rfl rfl (by decide) (Or.inl ⟨_, rfl⟩) rfl ?_
  refine g_iload_n rfl rfl ?_
  refine g_iload_n rfl rfl ?_
  refine g_iV (as := [tI 0, tI 0]) mX9_slotFor_ok rfl rfl rfl rfl rfl rfl (by decide) rfl rfl rfl ?_
  refine g_iload_n rfl rfl ?_
  refine g_if_lt (tgt := 9) rfl (by decide) (fun hx => absurd hx (by omega)) (fun _ => ?_)
  refine g_iload_n rfl rfl ?_
  refine g_iconst rfl ⟨by decide, by decide⟩ ?_
  refine g_icmp_lt (tgt := 11) rfl (by decide) (fun _ => ?_) (fun hx => absurd hx (by omega))
  refine g_aload_n rfl rfl ?_
  refine x_getF (r := 5) hG rfl rfl (by decide) (Or.inr ⟨_, rfl⟩) rfl ?_
  refine g_iload_n rfl rfl ?_
  refine x_iald (v := M) rfl rfl (by decide) (by decide) (by decide) hM ?_
  refine g_istore_n rfl rfl rfl ?_
  refine g_iload_n rfl rfl ?_
  refine g_iconst rfl ⟨by decide, by decide⟩ ?_
  refine g_icmp_ne (tgt := 34) rfl (by decide) (fun _ => ?_) (fun hx => absurd hx (by omega))
  refine g_iload_n rfl rfl ?_
  refine g_if_lt (tgt := 43) rfl (by decide) (fun hx => absurd hx (by omega)) (fun _ => ?_)
  refine g_iload_n rfl rfl ?_
  refine g_iload_n rfl rfl ?_
  refine g_icmp_lt (tgt := 47) rfl (by decide) (fun _ => ?_) (fun hx => absurd hx (by omega))
  refine g_iload_n rfl rfl ?_
  refine x_ireturn rfl rfl ?_
  intro _
  refine g_istore rfl rfl rfl ?_
  refine g_iload rfl rfl ?_
  refine g_iconst rfl ⟨by decide, by decide⟩ ?_
  refine g_icmp_ne (tgt := 52) rfl (by decide) (fun _ => ?_) (fun hx => absurd hx (by omega))
  refine g_aload_n rfl rfl ?_
  refine x_getF (r := 41) hG rfl rfl (by decide) (Or.inl ⟨_, rfl⟩) rfl ?_
  refine g_aload_n rfl rfl ?_
  refine x_getF (r := 1) hG rfl rfl (by decide) (Or.inl ⟨_, rfl⟩) rfl ?_
  refine x_getF (r := 2) hG rfl rfl (by decide) (Or.inr ⟨_, rfl⟩) rfl ?_
  refine g_iload_n rfl rfl ?_
  refine g_iload_n rfl rfl ?_
  refine g_cV (as := [tR (some 2), tI len, tI 0]) (s_readY0 hG hT hlen hTm hfl) rfl rfl mX5_read_ok rfl rfl rfl (by decide) rfl rfl rfl ?_
  rintro _ w1 ⟨rfl, hct, hR1⟩ _
  refine g_if_ne (tgt := 101) rfl (by decide) (fun _ => ?_) (fun hx => absurd hx (by omega))
  refine g_aload_n rfl rfl ?_
  refine x_getF (r := 1) hG rfl rfl (by decide) (Or.inl ⟨_, rfl⟩) rfl ?_
  refine g_iload_n rfl rfl ?_
  refine g_iload rfl rfl ?_
  refine g_aload_n rfl rfl ?_
  refine x_getF (r := 41) hG rfl rfl (by decide) (Or.inl ⟨_, rfl⟩) rfl ?_
  refine g_iV (as := [tI 0, tI 0, tR (some 41)]) mX9_keep_ok rfl rfl rfl rfl rfl rfl (by decide) rfl rfl rfl ?_
  refine g_iload_n rfl rfl ?_
  refine g_if_lt (tgt := 18) rfl (by decide) (fun hx => absurd hx (by omega)) (fun _ => ?_)
  refine g_iload_n rfl rfl ?_
  refine g_iconst rfl ⟨by decide, by decide⟩ ?_
  refine g_icmp_ge (tgt := 18) rfl (by decide) (fun hx => absurd hx (by omega)) (fun _ => ?_)
  refine g_iload_n rfl rfl ?_
  refine g_if_lt (tgt := 18) rfl (by decide) (fun hx => absurd hx (by omega)) (fun _ => ?_)
  refine g_iload_n rfl rfl ?_
  refine g_iconst rfl ⟨by decide, by decide⟩ ?_
  refine g_icmp_lt (tgt := 19) rfl (by decide) (fun _ => ?_) (fun hx => absurd hx (by omega))
  refine g_iload_n rfl rfl ?_
  refine g_if_ne (tgt := 39) rfl (by decide) (fun hx => absurd hx (by omega)) (fun _ => ?_)
  refine g_aload_n rfl rfl ?_
  refine x_getF (r := 3) hG rfl rfl (by decide) (Or.inr ⟨_, rfl⟩) rfl ?_
  refine g_iload_n rfl rfl ?_
  refine x_aald (t0 := 4) (r := 6) hG rfl rfl rfl (by decide) (by decide) (by decide) rfl ?_
  refine g_aload_n rfl rfl ?_
  refine x_getF (r := 42) hG rfl rfl (by decide) (Or.inl ⟨_, rfl⟩) rfl ?_
  refine g_cV (as := [tR (some 42)]) (s_ccopy hG (c := 42) (d := 6) rfl rfl (by decide) (by decide) (by decide)) rfl rfl mX0_copyFrom_ok rfl rfl rfl (by decide) rfl rfl rfl ?_
  rintro _ w2 ⟨rfl, hK2, hF2⟩ _
  have hM2 : w2.1 5 0 = M := by rw [hF2 5 (by omega), hR1 5 (by omega)]; exact hM
  refine g_goto (tgt := 56) rfl (by decide) ?_
  refine g_aload_n rfl rfl ?_
  refine x_getF (r := 5) hG rfl rfl (by decide) (Or.inr ⟨_, rfl⟩) rfl ?_
  refine g_iload_n rfl rfl ?_
  refine g_aload_n rfl rfl ?_
  refine x_getF (r := 5) hG rfl rfl (by decide) (Or.inr ⟨_, rfl⟩) rfl ?_
  refine g_iload_n rfl rfl ?_
  refine x_iald (v := M) rfl rfl (by decide) (by decide) (by decide) hM2 ?_
  refine g_iload_n rfl rfl ?_
  refine g_iconst rfl ⟨by decide, by decide⟩ ?_
  refine x_iadd (z := 1) rfl (by omega) ⟨by omega, by omega⟩ ?_
  refine x_max (z := M) rfl rfl (by omega) ?_
  refine g_iast rfl rfl (by decide) (by decide) (by decide) ?_
  refine x_return rfl rfl ?_
  intro _
  refine g_iload rfl rfl ?_
  refine x_ireturn rfl rfl ?_
  exact ⟨rfl, ⟨by rw [tp_pi_ne (by omega), hF2 1 (by omega), hR1 1 (by omega)]; rfl, by rw [tp_pi_ne (by omega), hF2 1 (by omega), hR1 1 (by omega)]; rfl, by rw [tp_pi_ne (by omega), hF2 1 (by omega), hR1 1 (by omega)]; rfl⟩, tp_pi_at.trans (by omega), fun t z => by rw [tp_pi_ix z, hF2 5 (by omega), hR1 5 (by omega)]; rfl, tp_Co_A (A := w2.1) (fun i i0 i1 => tp_pi_ne (by omega)) (x_k0 hct (t_wm0 hlen.1 hfl) hK2), fun c z1 z2 z3 z4 => by rw [tp_pi_ne z2, hF2 c (by omega), hR1 c z4, tp_pi_ne z1, tp_pi_ne z1, tp_pi_ne z1]⟩
set_option maxHeartbeats 4000000 in
set_option maxRecDepth 100000 in
theorem s_mt00s1 {G : tp_G} {μ : tp_M} (hG : tp_Gf G = true) {T : Int → Int} {len : Int} (hT : ∀ j, 0 ≤ T j ∧ T j ≤ 255) (hlen : 0 ≤ len ∧ len ≤ 600) (h203 : μ.1 203 0 = len) (hTr : ∀ j, 0 ≤ j → j < len → tp_and (μ.1 202 j) 255 = T j) {M : Int} (hM : μ.1 206 0 = M) (hMs : 0 < M ∧ M ≤ 2) (hfl : (t_flt 0 T len).1 = 0) : tp_k G mX12_text [tR (some 201), tI 0, tI 0] μ (fun r μ' => r = some (tI 0) ∧ μ'.1 203 0 = 0 ∧ μ'.1 204 0 = 0 ∧ μ'.1 205 0 = -1 ∧ μ'.1 206 0 = M ∧ (∀ t, t ≠ 0 → μ'.1 206 t = μ.1 206 t) ∧ (∀ j, 0 ≤ j → j < 129 → μ'.1 207 (0 + j) = t_tld 0 T len j) ∧ (∀ j, (j < 0 ∨ 129 ≤ j) → μ'.1 207 j = μ.1 207 j) ∧ m_Qc μ μ' ∧ (∀ c, m_Lc c → c ≠ 206 → c ≠ 207 → μ'.1 c = μ.1 c)) := by
  refine tp_ok_of mX12_text_ok rfl (Nat.le_refl _) ?_
  refine g_aload_n rfl rfl ?_
  refine g_iconst rfl ⟨by decide, by decide⟩ ?_
  refine g_puti rfl rfl (by decide) rfl rfl ?_
  refine g_aload_n rfl rfl ?_
  refine g_aload_n rfl rfl ?_
  refine x_getF (r := 203) hG rfl rfl (by decide) (Or.inr ⟨_, rfl⟩) rfl ?_
  refine g_iconst rfl ⟨by decide, by decide⟩ ?_
  refine x_iald (v := len) rfl rfl (by decide) (by decide) (by decide) h203 ?_
  refine g_puti rfl rfl (by decide) rfl rfl ?_
  refine g_aload_n rfl rfl ?_
  refine x_getF (r := 203) hG rfl rfl (by decide) (Or.inr ⟨_, rfl⟩) rfl ?_
  refine g_iconst rfl ⟨by decide, by decide⟩ ?_
  refine g_iconst rfl ⟨by decide, by decide⟩ ?_
  refine g_iast rfl rfl (by decide) (by decide) (by decide) ?_
  refine g_aload_n rfl rfl ?_
  refine x_getF (r := 204) hG rfl rfl (by decide) (Or.inr ⟨_, rfl⟩) rfl ?_
  refine g_iconst rfl ⟨by decide, by decide⟩ ?_
  refine g_iconst rfl ⟨by decide, by decide⟩ ?_
  refine g_iast rfl rfl (by decide) (by decide) (by decide) ?_
  refine g_aload_n rfl rfl ?_
  refine x_getF (r := 205) hG rfl rfl (by decide) (Or.inr ⟨_, rfl⟩) rfl ?_
  refine g_iconst rfl ⟨by decide, by decide⟩ ?_
  refine g_iconst rfl ⟨by decide, by decide⟩ ?_
  refine g_iast rfl rfl (by decide) (by decide) (by decide) ?_
  refine g_iload_n rfl rfl ?_
  refine g_iconst rfl ⟨by decide, by decide⟩ ?_
  refine g_iconst rfl ⟨by decide, by decide⟩ ?_
  refine g_iS (as := [tI 0, tI 0, tI 3]) mX12_in_ok rfl rfl rfl rfl rfl rfl rfl ?_
  refine g_iload_n rfl rfl ?_
  refine g_iload_n rfl rfl ?_
  refine g_icmp_lt (tgt := 14) rfl (by decide) (fun hx => absurd hx (by omega)) (fun _ => ?_)
  refine g_iload_n rfl rfl ?_
  refine g_iload_n rfl rfl ?_
  refine g_icmp_gt (tgt := 14) rfl (by decide) (fun hx => absurd hx (by omega)) (fun _ => ?_)
  refine g_iconst rfl ⟨by decide, by decide⟩ ?_
  refine g_goto (tgt := 15) rfl (by decide) ?_
  refine x_zreturn rfl rfl (Or.inr rfl) ?_
  intro _
  refine g_if_eq (tgt := 72) rfl (by decide) (fun hx => absurd hx (by omega)) (fun _ => ?_)
  refine g_iload_n rfl rfl ?_
  refine g_iconst rfl ⟨by decide, by decide⟩ ?_
  refine g_icmp_ne (tgt := 63) rfl (by decide) (fun _ => ?_) (fun hx => absurd hx (by omega))
  refine g_aload_n rfl rfl ?_
  refine g_iload_n rfl rfl ?_
  refine g_iload_n rfl rfl ?_
  refine g_iV (as := [tI 0, tI 0]) mX12_is_ok rfl rfl rfl rfl rfl rfl (by decide) rfl rfl rfl ?_
  refine g_iload_n rfl rfl ?_
  refine g_iconst rfl ⟨by decide, by decide⟩ ?_
  refine g_aload_n rfl rfl ?_
  refine x_getF (r := 206) hG rfl rfl (by decide) (Or.inr ⟨_, rfl⟩) rfl ?_
  refine g_iload_n rfl rfl ?_
  refine x_iald (v := M) rfl rfl (by decide) (by decide) (by decide) hM ?_
  refine g_iconst rfl ⟨by decide, by decide⟩ ?_
  refine x_isub (z := M - 1) rfl (by omega) ⟨by omega, by omega⟩ ?_
  refine g_iS (as := [tI 0, tI 0, tI (M - 1)]) mX12_in_ok rfl rfl rfl rfl rfl rfl rfl ?_
  refine g_iload_n rfl rfl ?_
  refine g_iload_n rfl rfl ?_
  refine g_icmp_lt (tgt := 14) rfl (by decide) (fun hx => absurd hx (by omega)) (fun _ => ?_)
  refine g_iload_n rfl rfl ?_
  refine g_iload_n rfl rfl ?_
  refine g_icmp_gt (tgt := 14) rfl (by decide) (fun hx => absurd hx (by omega)) (fun _ => ?_)
  refine g_iconst rfl ⟨by decide, by decide⟩ ?_
  refine g_goto (tgt := 15) rfl (by decide) ?_
  refine x_zreturn rfl rfl (Or.inr rfl) ?_
  intro _
  refine x_zreturn rfl rfl (Or.inr rfl) ?_
  intro _
  refine g_if_ne (tgt := 75) rfl (by decide) (fun _ => ?_) (fun hx => absurd hx (by omega))
  refine g_aload_n rfl rfl ?_
  refine g_iload_n rfl rfl ?_
  refine g_cV (as := [tI 0]) (s_rtxY0 (T := T) (len := len) hG hT ⟨rfl, hlen, hTr⟩ hfl) rfl rfl mX12_readText_ok rfl rfl rfl (by decide) rfl rfl rfl ?_
  rintro _ w1 ⟨rfl, h204, h205, hto, hH1⟩ _
  have hM1 : w1.1 206 0 = M := by rw [hH1.1 206 (by omega) (by omega) (by omega) (by omega)]; exact hM
  refine g_if_ne (tgt := 85) rfl (by decide) (fun _ => ?_) (fun hx => absurd hx (by omega))
  refine g_iload_n rfl rfl ?_
  refine g_iconst rfl ⟨by decide, by decide⟩ ?_
  refine g_icmp_ne (tgt := 99) rfl (by decide) (fun _ => ?_) (fun hx => absurd hx (by omega))
  refine g_iload_n rfl rfl ?_
  refine g_istore_n rfl rfl rfl ?_
  refine g_aload_n rfl rfl ?_
  refine x_getF (r := 206) hG rfl rfl (by decide) (Or.inr ⟨_, rfl⟩) rfl ?_
  refine g_iload_n rfl rfl ?_
  refine g_dup2 rfl ?_
  refine x_iald (v := M) rfl rfl (by decide) (by decide) (by decide) hM1 ?_
  refine g_iload_n rfl rfl ?_
  refine g_iconst rfl ⟨by decide, by decide⟩ ?_
  refine g_icmp_ne (tgt := 117) rfl (by decide) (fun _ => ?_) (fun hx => absurd hx (by omega))
  refine g_iconst rfl ⟨by decide, by decide⟩ ?_
  refine x_iadd (z := M) rfl (by omega) ⟨by omega, by omega⟩ ?_
  refine g_iast rfl rfl (by decide) (by decide) (by decide) ?_
  refine g_iload_n rfl rfl ?_
  refine g_if_ne (tgt := 139) rfl (by decide) (fun hx => absurd hx (by omega)) (fun _ => ?_)
  refine g_aload_n rfl rfl ?_
  refine g_aload_n rfl rfl ?_
  refine x_getF (r := 207) hG rfl rfl (by decide) (Or.inr ⟨_, rfl⟩) rfl ?_
  refine g_sipush rfl ⟨by decide, by decide⟩ (by decide) ?_
  refine g_iload_n rfl rfl ?_
  refine g_cV (as := [tR (some 207), tI 129, tI 0]) (s_kpt00 hG) rfl rfl mX12_keep_ok rfl rfl rfl (by decide) rfl rfl rfl ?_
  rintro _ w2 ⟨rfl, hv2, hw2, hF2⟩ _
  refine g_goto (tgt := 188) rfl (by decide) ?_
  refine g_iload_n rfl rfl ?_
  refine x_ireturn rfl rfl ?_
  have q203 : w2.1 203 = _ := (hF2 203 (by omega)).trans ((tp_pi_ne (by omega)).trans (hH1.1 203 (by omega) (by omega) (by omega) (by omega)))
  have q204 : w2.1 204 = w1.1 204 := (hF2 204 (by omega)).trans (tp_pi_ne (by omega))
  have q205 : w2.1 205 = w1.1 205 := (hF2 205 (by omega)).trans (tp_pi_ne (by omega))
  have q206 : w2.1 206 = (tp_pi w1 206 0 M).1 206 := hF2 206 (by omega)
  have q211 : (tp_pi w1 206 0 M).1 211 = w1.1 211 := tp_pi_ne (by omega)
  have qrc : (tp_pi w1 206 0 M).1 207 = _ := (tp_pi_ne (by omega)).trans (hH1.1 207 (by omega) (by omega) (by omega) (by omega))
  refine ⟨rfl, (congrFun q203 0).trans rfl, (congrFun q204 0).trans h204, (congrFun q205 0).trans h205, (congrFun q206 0).trans tp_pi_at, fun t z => ?_, fun j j0 j1 => ((hv2 j j0 j1).trans (congrFun q211 j)).trans (hto j j0 (by omega)), fun j z => ((hw2 j z).trans (congrFun qrc j)).trans rfl, fun q z => ⟨?_, ?_, ?_⟩, fun c z y1 y2 => ?_⟩
  · rw [q206, tp_pi_ix z, hH1.1 206 (by omega) (by omega) (by omega) (by omega)]; rfl
  · rw [q203, tp_pi_ne (by omega), tp_pi_ne (by omega), tp_pi_ix (by omega)]; rfl
  · rw [q204, (hH1.2.2.1 q (by omega)).1, tp_pi_ne (by omega), tp_pi_ix (by omega)]; rfl
  · rw [q205, (hH1.2.2.1 q (by omega)).2, tp_pi_ix (by omega)]; rfl
  · rw [hF2 c y2, tp_pi_ne y1, hH1.1 c z.1 z.2.2.2.2 z.2.2.1 z.2.2.2.1, tp_pi_ne z.2.2.2.1, tp_pi_ne z.2.2.1, tp_pi_ne z.2.1, tp_pi_ne z.1, tp_pi_ne z.1]
set_option maxHeartbeats 4000000 in
set_option maxRecDepth 100000 in
theorem s_xt00s0 {G : tp_G} {μ : tp_M} (hG : tp_Gf G = true) {T : Int → Int} {len : Int} (hT : ∀ j, 0 ≤ T j ∧ T j ≤ 255) (hlen : 0 ≤ len ∧ len ≤ 600) (hln : μ.1 1 1 = len) (hTm : ∀ j, 0 ≤ j → j < len → tp_and (μ.1 2 j) 255 = T j) {M : Int} (hM : μ.1 5 0 = M) (hMs : 0 < M ∧ M ≤ 2) (hfl : (t_flt 0 T len).1 ≠ 0) : tp_k G mX11_text [tR (some 0), tI 0, tI 0] μ (fun r μ' => r = some (tI (-1)) ∧ μ'.1 1 1 = 0 ∧ μ'.1 1 2 = (t_flt 0 T len).1 ∧ μ'.1 1 3 = (t_flt 0 T len).2 ∧ (∀ c, c ≠ 1 → (c < 41 ∨ 49 < c) → μ'.1 c = μ.1 c)) := by
  refine tp_ok_of mX11_text_ok rfl (Nat.le_refl _) ?_
  refine g_aload_n rfl rfl ?_
  refine x_getF (r := 1) hG rfl rfl (by decide) (Or.inl ⟨_, rfl⟩) rfl ?_
  refine x_geti (v := len) rfl rfl (by decide) (Or.inl rfl) hln ?_
  refine g_istore_n rfl rfl rfl ?_
  refine g_aload_n rfl rfl ?_
  refine x_getF (r := 1) hG rfl rfl (by decide) (Or.inl ⟨_, rfl⟩) rfl ?_
  refine g_iconst rfl ⟨by decide, by decide⟩ ?_
  refine g_puti rfl rfl (by decide) rfl rfl ?_
  refine g_aload_n rfl rfl ?_
  refine x_getF (r := 1) hG rfl rfl (by decide) (Or.inl ⟨_, rfl⟩) rfl ?_
  refine g_iconst rfl ⟨by decide, by decide⟩ ?_
  refine g_puti rfl rfl (by decide) rfl rfl ?_
  refine g_aload_n rfl rfl ?_
  refine x_getF (r := 1) hG rfl rfl (by decide) (Or.inl ⟨_, rfl⟩) rfl ?_
  refine g_iconst rfl ⟨by decide, by decide⟩ ?_
  refine g_puti rfl rfl (by decide) rfl rfl ?_
  refine g_aload_n rfl rfl ?_
  refine x_getF (r := 1) hG rfl rfl (by decide) (Or.inl ⟨_, rfl⟩) rfl ?_
  refine g_iload_n rfl rfl ?_
  refine g_iload_n rfl rfl ?_
  refine g_iV (as := [tI 0, tI 0]) mX9_slotFor_ok rfl rfl rfl rfl rfl rfl (by decide) rfl rfl rfl ?_
  refine g_iload_n rfl rfl ?_
  refine g_if_lt (tgt := 9) rfl (by decide) (fun hx => absurd hx (by omega)) (fun _ => ?_)
  refine g_iload_n rfl rfl ?_
  refine g_iconst rfl ⟨by decide, by decide⟩ ?_
  refine g_icmp_lt (tgt := 11) rfl (by decide) (fun _ => ?_) (fun hx => absurd hx (by omega))
  refine g_aload_n rfl rfl ?_
  refine x_getF (r := 5) hG rfl rfl (by decide) (Or.inr ⟨_, rfl⟩) rfl ?_
  refine g_iload_n rfl rfl ?_
  refine x_iald (v := M) rfl rfl (by decide) (by decide) (by decide) hM ?_
  refine g_istore_n rfl rfl rfl ?_
  refine g_iload_n rfl rfl ?_
  refine g_iconst rfl ⟨by decide, by decide⟩ ?_
  refine g_icmp_ne (tgt := 34) rfl (by decide) (fun _ => ?_) (fun hx => absurd hx (by omega))
  refine g_iload_n rfl rfl ?_
  refine g_if_lt (tgt := 43) rfl (by decide) (fun hx => absurd hx (by omega)) (fun _ => ?_)
  refine g_iload_n rfl rfl ?_
  refine g_iload_n rfl rfl ?_
  refine g_icmp_lt (tgt := 47) rfl (by decide) (fun _ => ?_) (fun hx => absurd hx (by omega))
  refine g_iload_n rfl rfl ?_
  refine x_ireturn rfl rfl ?_
  intro _
  refine g_istore rfl rfl rfl ?_
  refine g_iload rfl rfl ?_
  refine g_iconst rfl ⟨by decide, by decide⟩ ?_
  refine g_icmp_ne (tgt := 52) rfl (by decide) (fun _ => ?_) (fun hx => absurd hx (by omega))
  refine g_aload_n rfl rfl ?_
  refine x_getF (r := 41) hG rfl rfl (by decide) (Or.inl ⟨_, rfl⟩) rfl ?_
  refine g_aload_n rfl rfl ?_
  refine x_getF (r := 1) hG rfl rfl (by decide) (Or.inl ⟨_, rfl⟩) rfl ?_
  refine x_getF (r := 2) hG rfl rfl (by decide) (Or.inr ⟨_, rfl⟩) rfl ?_
  refine g_iload_n rfl rfl ?_
  refine g_iload_n rfl rfl ?_
  refine g_cV (as := [tR (some 2), tI len, tI 0]) (s_readN0 hG hT hlen hTm hfl) rfl rfl mX5_read_ok rfl rfl rfl (by decide) rfl rfl rfl ?_
  rintro _ w1 ⟨rfl, h8, h9, hR1⟩ _
  refine g_if_ne (tgt := 101) rfl (by decide) (fun hx => absurd hx (by omega)) (fun _ => ?_)
  refine g_aload_n rfl rfl ?_
  refine x_getF (r := 1) hG rfl rfl (by decide) (Or.inl ⟨_, rfl⟩) rfl ?_
  refine g_aload_n rfl rfl ?_
  refine x_getF (r := 41) hG rfl rfl (by decide) (Or.inl ⟨_, rfl⟩) rfl ?_
  refine x_geti (v := ((t_flt 0 T len).1)) rfl rfl (by decide) (Or.inl rfl) h8 ?_
  refine g_puti rfl rfl (by decide) rfl rfl ?_
  refine g_aload_n rfl rfl ?_
  refine x_getF (r := 1) hG rfl rfl (by decide) (Or.inl ⟨_, rfl⟩) rfl ?_
  refine g_aload_n rfl rfl ?_
  refine x_getF (r := 41) hG rfl rfl (by decide) (Or.inl ⟨_, rfl⟩) rfl ?_
  refine x_geti (v := ((t_flt 0 T len).2)) rfl rfl (by decide) (Or.inl rfl) h9 ?_
  refine g_puti rfl rfl (by decide) rfl rfl ?_
  refine g_iconst rfl ⟨by decide, by decide⟩ ?_
  refine x_ireturn rfl rfl ?_
  exact ⟨rfl, (congrFun (hR1 1 (by omega)) 1).trans rfl, rfl, rfl, fun c z y => by rw [tp_pi_ne z, tp_pi_ne z, hR1 c y, tp_pi_ne z, tp_pi_ne z, tp_pi_ne z]⟩
set_option maxHeartbeats 4000000 in
set_option maxRecDepth 100000 in
theorem s_mt00s0 {G : tp_G} {μ : tp_M} (hG : tp_Gf G = true) {T : Int → Int} {len : Int} (hT : ∀ j, 0 ≤ T j ∧ T j ≤ 255) (hlen : 0 ≤ len ∧ len ≤ 600) (h203 : μ.1 203 0 = len) (hTr : ∀ j, 0 ≤ j → j < len → tp_and (μ.1 202 j) 255 = T j) {M : Int} (hM : μ.1 206 0 = M) (hMs : 0 < M ∧ M ≤ 2) (hfl : (t_flt 0 T len).1 ≠ 0) : tp_k G mX12_text [tR (some 201), tI 0, tI 0] μ (fun r μ' => r = some (tI (-1)) ∧ μ'.1 203 0 = 0 ∧ μ'.1 204 0 = (t_flt 0 T len).1 ∧ μ'.1 205 0 = (t_flt 0 T len).2 ∧ m_Qc μ μ' ∧ (∀ c, m_Lc c → μ'.1 c = μ.1 c)) := by
  refine tp_ok_of mX12_text_ok rfl (Nat.le_refl _) ?_
  refine g_aload_n rfl rfl ?_
  refine g_iconst rfl ⟨by decide, by decide⟩ ?_
  refine g_puti rfl rfl (by decide) rfl rfl ?_
  refine g_aload_n rfl rfl ?_
  refine g_aload_n rfl rfl ?_
  refine x_getF (r := 203) hG rfl rfl (by decide) (Or.inr ⟨_, rfl⟩) rfl ?_
  refine g_iconst rfl ⟨by decide, by decide⟩ ?_
  refine x_iald (v := len) rfl rfl (by decide) (by decide) (by decide) h203 ?_
  refine g_puti rfl rfl (by decide) rfl rfl ?_
  refine g_aload_n rfl rfl ?_
  refine x_getF (r := 203) hG rfl rfl (by decide) (Or.inr ⟨_, rfl⟩) rfl ?_
  refine g_iconst rfl ⟨by decide, by decide⟩ ?_
  refine g_iconst rfl ⟨by decide, by decide⟩ ?_
  refine g_iast rfl rfl (by decide) (by decide) (by decide) ?_
  refine g_aload_n rfl rfl ?_
  refine x_getF (r := 204) hG rfl rfl (by decide) (Or.inr ⟨_, rfl⟩) rfl ?_
  refine g_iconst rfl ⟨by decide, by decide⟩ ?_
  refine g_iconst rfl ⟨by decide, by decide⟩ ?_
  refine g_iast rfl rfl (by decide) (by decide) (by decide) ?_
  refine g_aload_n rfl rfl ?_
  refine x_getF (r := 205) hG rfl rfl (by decide) (Or.inr ⟨_, rfl⟩) rfl ?_
  refine g_iconst rfl ⟨by decide, by decide⟩ ?_
  refine g_iconst rfl ⟨by decide, by decide⟩ ?_
  refine g_iast rfl rfl (by decide) (by decide) (by decide) ?_
  refine g_iload_n rfl rfl ?_
  refine g_iconst rfl ⟨by decide, by decide⟩ ?_
  refine g_iconst rfl ⟨by decide, by decide⟩ ?_
  refine g_iS (as := [tI 0, tI 0, tI 3]) mX12_in_ok rfl rfl rfl rfl rfl rfl rfl ?_
  refine g_iload_n rfl rfl ?_
  refine g_iload_n rfl rfl ?_
  refine g_icmp_lt (tgt := 14) rfl (by decide) (fun hx => absurd hx (by omega)) (fun _ => ?_)
  refine g_iload_n rfl rfl ?_
  refine g_iload_n rfl rfl ?_
  refine g_icmp_gt (tgt := 14) rfl (by decide) (fun hx => absurd hx (by omega)) (fun _ => ?_)
  refine g_iconst rfl ⟨by decide, by decide⟩ ?_
  refine g_goto (tgt := 15) rfl (by decide) ?_
  refine x_zreturn rfl rfl (Or.inr rfl) ?_
  intro _
  refine g_if_eq (tgt := 72) rfl (by decide) (fun hx => absurd hx (by omega)) (fun _ => ?_)
  refine g_iload_n rfl rfl ?_
  refine g_iconst rfl ⟨by decide, by decide⟩ ?_
  refine g_icmp_ne (tgt := 63) rfl (by decide) (fun _ => ?_) (fun hx => absurd hx (by omega))
  refine g_aload_n rfl rfl ?_
  refine g_iload_n rfl rfl ?_
  refine g_iload_n rfl rfl ?_
  refine g_iV (as := [tI 0, tI 0]) mX12_is_ok rfl rfl rfl rfl rfl rfl (by decide) rfl rfl rfl ?_
  refine g_iload_n rfl rfl ?_
  refine g_iconst rfl ⟨by decide, by decide⟩ ?_
  refine g_aload_n rfl rfl ?_
  refine x_getF (r := 206) hG rfl rfl (by decide) (Or.inr ⟨_, rfl⟩) rfl ?_
  refine g_iload_n rfl rfl ?_
  refine x_iald (v := M) rfl rfl (by decide) (by decide) (by decide) hM ?_
  refine g_iconst rfl ⟨by decide, by decide⟩ ?_
  refine x_isub (z := M - 1) rfl (by omega) ⟨by omega, by omega⟩ ?_
  refine g_iS (as := [tI 0, tI 0, tI (M - 1)]) mX12_in_ok rfl rfl rfl rfl rfl rfl rfl ?_
  refine g_iload_n rfl rfl ?_
  refine g_iload_n rfl rfl ?_
  refine g_icmp_lt (tgt := 14) rfl (by decide) (fun hx => absurd hx (by omega)) (fun _ => ?_)
  refine g_iload_n rfl rfl ?_
  refine g_iload_n rfl rfl ?_
  refine g_icmp_gt (tgt := 14) rfl (by decide) (fun hx => absurd hx (by omega)) (fun _ => ?_)
  refine g_iconst rfl ⟨by decide, by decide⟩ ?_
  refine g_goto (tgt := 15) rfl (by decide) ?_
  refine x_zreturn rfl rfl (Or.inr rfl) ?_
  intro _
  refine x_zreturn rfl rfl (Or.inr rfl) ?_
  intro _
  refine g_if_ne (tgt := 75) rfl (by decide) (fun _ => ?_) (fun hx => absurd hx (by omega))
  refine g_aload_n rfl rfl ?_
  refine g_iload_n rfl rfl ?_
  refine g_cV (as := [tI 0]) (s_rtxN0 (T := T) (len := len) hG hT ⟨rfl, hlen, hTr⟩ hfl) rfl rfl mX12_readText_ok rfl rfl rfl (by decide) rfl rfl rfl ?_
  rintro _ w1 ⟨rfl, h204, h205, hH1⟩ _
  have hM1 : w1.1 206 0 = M := by rw [hH1.1 206 (by omega) (by omega) (by omega) (by omega)]; exact hM
  refine g_if_ne (tgt := 85) rfl (by decide) (fun hx => absurd hx (by omega)) (fun _ => ?_)
  refine g_iconst rfl ⟨by decide, by decide⟩ ?_
  refine x_ireturn rfl rfl ?_
  exact ⟨rfl, (congrFun (hH1.1 203 (by omega) (by omega) (by omega) (by omega)) 0).trans rfl, h204, h205, fun q z => ⟨(congrFun (hH1.1 203 (by omega) (by omega) (by omega) (by omega)) q).trans (by rw [tp_pi_ne (by omega), tp_pi_ne (by omega), tp_pi_ix (by omega)]; rfl), ((hH1.2.2.1 q (by omega)).1).trans (by rw [tp_pi_ne (by omega), tp_pi_ix (by omega)]; rfl), ((hH1.2.2.1 q (by omega)).2).trans (by rw [tp_pi_ix (by omega)]; rfl)⟩, fun c z => by rw [hH1.1 c z.1 z.2.2.2.2 z.2.2.1 z.2.2.2.1, tp_pi_ne z.2.2.2.1, tp_pi_ne z.2.2.1, tp_pi_ne z.2.1, tp_pi_ne z.1, tp_pi_ne z.1]⟩
set_option maxHeartbeats 4000000 in
set_option maxRecDepth 100000 in
theorem p_tx00s {G : tp_G} {μ : tp_M} (hG : tp_Gf G = true) (hR : tp_R μ) {M : Int} (hM : μ.1 5 0 = M) (hMs : 0 < M ∧ M ≤ 2) : tp_q G mX11_text mX12_text [tI 0, tI 0] μ := by
  have hL := tp_R_len hR
  have hlen : 0 ≤ μ.1 1 1 ∧ μ.1 1 1 ≤ 600 := ⟨hL.1, hL.2.1⟩
  have hm9 := tp_R_many hR 0 (by decide) (by decide)
  have hT : ∀ j, 0 ≤ (fun j => tp_and (μ.1 2 j) 255 : Int → Int) j ∧ (fun j => tp_and (μ.1 2 j) 255 : Int → Int) j ≤ 255 := fun j => tp_and255 _
  generalize hTT : (fun j => tp_and (μ.1 2 j) 255 : Int → Int) = T at hT
  have hTm : ∀ j, 0 ≤ j → j < μ.1 1 1 → tp_and (μ.1 2 j) 255 = T j := fun j _ _ => by rw [← hTT]
  generalize hln : μ.1 1 1 = len at *
  by_cases hfl : (t_flt 0 T len).1 = 0
  · refine tp_kc (fun r μ1 z => ?_) (s_xt00s1 hG hT hlen hln hTm hM hMs hfl)
    obtain ⟨z1, z2, z3, z4, z5, z6⟩ := z
    refine ⟨0, z1, tp_kc (fun r2 μ2 y => ?_) (s_mt00s1 (T := T) (len := len) hG hT hlen (by rw [z6 203 (by omega) (by omega) (by omega) (by omega)]; exact hL.2.2.symm) (fun j j0 j1 => by rw [z6 202 (by omega) (by omega) (by omega) (by omega), ← tp_R_tape hR j j0 (by omega)]; exact hTm j j0 j1) (by rw [z6 206 (by omega) (by omega) (by omega) (by omega)]; exact hm9.1.symm.trans hM) hMs hfl)⟩
    obtain ⟨y1, y2, y3, y4, y5, y6, y7, y8, y9, y10⟩ := y
    have y5' : ∀ j, μ2.1 5 j = μ1.1 5 j := fun j => congrFun (y10 5 (by unfold m_Lc; omega) (by omega) (by omega)) j
    have yl : μ2.1 1 = μ1.1 1 := y10 1 (by unfold m_Lc; omega) (by omega) (by omega)
    refine ⟨y1, tp_R_k00 hR (fun k hk k1 k5 kc k2 kr => ?_) (fun q hq => ?_) (fun j hj => ?_) (fun t t0 t1 tn => ⟨?_, ?_⟩) ⟨?_, ?_, ?_⟩ (fun j hj => ?_) ⟨?_, y2⟩ ⟨?_, ?_⟩ ?_⟩
    · unfold tp_tl at hk
      rw [y10 k (by unfold m_Lc; omega) (by omega) kr, z6 k k1 k5 kc (by omega)]
    · rw [(y9 q hq).1, (y9 q hq).2.1, (y9 q hq).2.2, z6 203 (by omega) (by omega) (by omega) (by omega), z6 204 (by omega) (by omega) (by omega) (by omega), z6 205 (by omega) (by omega) (by omega) (by omega)]; exact ⟨rfl, rfl, rfl⟩
    · rw [y6 j (by omega), z6 206 (by omega) (by omega) (by omega) (by omega)]
    · rw [y5' t, z4 t tn]
    · rw [y6 t tn, z6 206 (by omega) (by omega) (by omega) (by omega)]
    · rw [y5' 0, z3, y5]
    · rw [y5' 0, z3]; omega
    · rw [y5' 0, z3]; omega
    · rw [y8 j hj, z6 207 (by omega) (by omega) (by omega) (by omega)]
    · rw [yl]; exact z2.1
    · rw [yl, y3]; exact z2.2.1
    · rw [yl, y4]; exact z2.2.2
    · exact tp_Co_A (A := μ1.1) (fun i i0 i1 => y10 i (by unfold m_Lc; omega) (by omega) (by omega)) (tp_Co_f (fun i i0 i1 => y7 i i0 i1) z5)
  · refine tp_kc (fun r μ1 z => ?_) (s_xt00s0 hG hT hlen hln hTm hM hMs hfl)
    obtain ⟨z1, z2, z3, z4, z6⟩ := z
    refine ⟨-1, z1, tp_kc (fun r2 μ2 y => ?_) (s_mt00s0 (T := T) (len := len) hG hT hlen (by rw [z6 203 (by omega) (by omega)]; exact hL.2.2.symm) (fun j j0 j1 => by rw [z6 202 (by omega) (by omega), ← tp_R_tape hR j j0 (by omega)]; exact hTm j j0 j1) (by rw [z6 206 (by omega) (by omega)]; exact hm9.1.symm.trans hM) hMs hfl)⟩
    obtain ⟨y1, y2, y3, y4, y9, y10⟩ := y
    have yl : μ2.1 1 = μ1.1 1 := y10 1 (by unfold m_Lc; omega)
    refine ⟨y1, tp_R_head hR (fun k hk k1 k2 k3 => ?_) (fun j hj => ?_) (fun q hq => ?_) ?_ (fun j j0 j1 => ?_) ⟨?_, ?_⟩⟩
    · unfold tp_tl at hk
      rw [y10 k (by unfold m_Lc; omega), z6 k k1 (by omega)]
    · rw [y10 202 (by unfold m_Lc; omega), z6 202 (by omega) (by omega)]
    · rw [(y9 q hq).1, (y9 q hq).2.1, (y9 q hq).2.2, z6 203 (by omega) (by omega), z6 204 (by omega) (by omega), z6 205 (by omega) (by omega)]; exact ⟨rfl, rfl, rfl⟩
    · rw [yl, z2, y2]; decide
    · rw [yl, z2] at j1; omega
    · rw [yl, z3, y3]
    · rw [yl, z4, y4]
set_option maxHeartbeats 4000000 in
set_option maxRecDepth 100000 in
theorem s_xt01m1 {G : tp_G} {μ : tp_M} (hG : tp_Gf G = true) {T : Int → Int} {len : Int} (hT : ∀ j, 0 ≤ T j ∧ T j ≤ 255) (hlen : 0 ≤ len ∧ len ≤ 600) (hln : μ.1 1 1 = len) (hTm : ∀ j, 0 ≤ j → j < len → tp_and (μ.1 2 j) 255 = T j) (hM : μ.1 5 0 = 1) (hfl : (t_flt 0 T len).1 = 0) : tp_k G mX11_text [tR (some 0), tI 0, tI (-1)] μ (fun r μ' => r = some (tI 1) ∧ (μ'.1 1 1 = 0 ∧ μ'.1 1 2 = 0 ∧ μ'.1 1 3 = -1) ∧ μ'.1 5 0 = 2 ∧ (∀ t, t ≠ 0 → μ'.1 5 t = μ.1 5 t) ∧ tp_Co μ'.1 11 (t_tld 0 T len) ∧ (∀ c, c ≠ 1 → c ≠ 5 → (c < 11 ∨ 15 < c) → (c < 41 ∨ 49 < c) → μ'.1 c = μ.1 c)) := by
  refine tp_ok_of mX11_text_ok rfl (Nat.le_refl _) ?_
  refine g_aload_n rfl rfl ?_
  refine x_getF (r := 1) hG rfl rfl (by decide) (Or.inl ⟨_, rfl⟩) rfl ?_
  refine x_geti (v := len) rfl rfl (by decide) (Or.inl rfl) hln ?_
  refine g_istore_n rfl rfl rfl ?_
  refine g_aload_n rfl rfl ?_
  refine x_getF (r := 1) hG rfl rfl (by decide) (Or.inl ⟨_, rfl⟩) rfl ?_
  refine g_iconst rfl ⟨by decide, by decide⟩ ?_
  refine g_puti rfl rfl (by decide) rfl rfl ?_
  refine g_aload_n rfl rfl ?_
  refine x_getF (r := 1) hG rfl rfl (by decide) (Or.inl ⟨_, rfl⟩) rfl ?_
  refine g_iconst rfl ⟨by decide, by decide⟩ ?_
  refine g_puti rfl rfl (by decide) rfl rfl ?_
  refine g_aload_n rfl rfl ?_
  refine x_getF (r := 1) hG rfl rfl (by decide) (Or.inl ⟨_, rfl⟩) rfl ?_
  refine g_iconst rfl ⟨by decide, by decide⟩ ?_
  refine g_puti rfl rfl (by decide) rfl rfl ?_
  refine g_aload_n rfl rfl ?_
  refine x_getF (r := 1) hG rfl rfl (by decide) (Or.inl ⟨_, rfl⟩) rfl ?_
  refine g_iload_n rfl rfl ?_
  refine g_iload_n rfl rfl ?_
  refine g_iV (as := [tI 0, tI (-1)]) mX9_slotFor_ok rfl rfl rfl rfl rfl rfl (by decide) rfl rfl rfl ?_
  refine g_iload_n rfl rfl ?_
  refine g_if_lt (tgt := 9) rfl (by decide) (fun hx => absurd hx (by omega)) (fun _ => ?_)
  refine g_iload_n rfl rfl ?_
  refine g_iconst rfl ⟨by decide, by decide⟩ ?_
  refine g_icmp_lt (tgt := 11) rfl (by decide) (fun _ => ?_) (fun hx => absurd hx (by omega))
  refine g_aload_n rfl rfl ?_
  refine x_getF (r := 5) hG rfl rfl (by decide) (Or.inr ⟨_, rfl⟩) rfl ?_
  refine g_iload_n rfl rfl ?_
  refine x_iald (v := 1) rfl rfl (by decide) (by decide) (by decide) hM ?_
  refine g_istore_n rfl rfl rfl ?_
  refine g_iload_n rfl rfl ?_
  refine g_iconst rfl ⟨by decide, by decide⟩ ?_
  refine g_icmp_ne (tgt := 34) rfl (by decide) (fun hx => absurd hx (by omega)) (fun _ => ?_)
  refine g_iload_n rfl rfl ?_
  refine g_iconst rfl ⟨by decide, by decide⟩ ?_
  refine g_icmp_ge (tgt := 32) rfl (by decide) (fun hx => absurd hx (by omega)) (fun _ => ?_)
  refine g_iload_n rfl rfl ?_
  refine g_goto (tgt := 33) rfl (by decide) ?_
  refine x_ireturn rfl rfl ?_
  intro _
  refine g_istore rfl rfl rfl ?_
  refine g_iload rfl rfl ?_
  refine g_iconst rfl ⟨by decide, by decide⟩ ?_
  refine g_icmp_ne (tgt := 52) rfl (by decide) (fun _ => ?_) (fun hx => absurd hx (by omega))
  refine g_aload_n rfl rfl ?_
  refine x_getF (r := 41) hG rfl rfl (by decide) (Or.inl ⟨_, rfl⟩) rfl ?_
  refine g_aload_n rfl rfl ?_
  refine x_getF (r := 1) hG rfl rfl (by decide) (Or.inl ⟨_, rfl⟩) rfl ?_
  refine x_getF (r := 2) hG rfl rfl (by decide) (Or.inr ⟨_, rfl⟩) rfl ?_
  refine g_iload_n rfl rfl ?_
  refine g_iload_n rfl rfl ?_
  refine g_cV (as := [tR (some 2), tI len, tI 0]) (s_readY0 hG hT hlen hTm hfl) rfl rfl mX5_read_ok rfl rfl rfl (by decide) rfl rfl rfl ?_
  rintro _ w1 ⟨rfl, hct, hR1⟩ _
  refine g_if_ne (tgt := 101) rfl (by decide) (fun _ => ?_) (fun hx => absurd hx (by omega))
  refine g_aload_n rfl rfl ?_
  refine x_getF (r := 1) hG rfl rfl (by decide) (Or.inl ⟨_, rfl⟩) rfl ?_
  refine g_iload_n rfl rfl ?_
  refine g_iload rfl rfl ?_
  refine g_aload_n rfl rfl ?_
  refine x_getF (r := 41) hG rfl rfl (by decide) (Or.inl ⟨_, rfl⟩) rfl ?_
  refine g_iV (as := [tI 0, tI 1, tR (some 41)]) mX9_keep_ok rfl rfl rfl rfl rfl rfl (by decide) rfl rfl rfl ?_
  refine g_iload_n rfl rfl ?_
  refine g_if_lt (tgt := 18) rfl (by decide) (fun hx => absurd hx (by omega)) (fun _ => ?_)
  refine g_iload_n rfl rfl ?_
  refine g_iconst rfl ⟨by decide, by decide⟩ ?_
  refine g_icmp_ge (tgt := 18) rfl (by decide) (fun hx => absurd hx (by omega)) (fun _ => ?_)
  refine g_iload_n rfl rfl ?_
  refine g_if_lt (tgt := 18) rfl (by decide) (fun hx => absurd hx (by omega)) (fun _ => ?_)
  refine g_iload_n rfl rfl ?_
  refine g_iconst rfl ⟨by decide, by decide⟩ ?_
  refine g_icmp_lt (tgt := 19) rfl (by decide) (fun _ => ?_) (fun hx => absurd hx (by omega))
  refine g_iload_n rfl rfl ?_
  refine g_if_ne (tgt := 39) rfl (by decide) (fun hx => absurd hx (by omega)) (fun _ => ?_)
  refine g_aload_n rfl rfl ?_
  refine x_getF (r := 3) hG rfl rfl (by decide) (Or.inr ⟨_, rfl⟩) rfl ?_
  refine g_iload_n rfl rfl ?_
  refine x_aald (t0 := 4) (r := 11) hG rfl rfl rfl (by decide) (by decide) (by decide) rfl ?_
  refine g_aload_n rfl rfl ?_
  refine x_getF (r := 42) hG rfl rfl (by decide) (Or.inl ⟨_, rfl⟩) rfl ?_
  refine g_cV (as := [tR (some 42)]) (s_ccopy hG (c := 42) (d := 11) rfl rfl (by decide) (by decide) (by decide)) rfl rfl mX0_copyFrom_ok rfl rfl rfl (by decide) rfl rfl rfl ?_
  rintro _ w2 ⟨rfl, hK2, hF2⟩ _
  have hM2 : w2.1 5 0 = 1 := by rw [hF2 5 (by omega), hR1 5 (by omega)]; exact hM
  refine g_goto (tgt := 56) rfl (by decide) ?_
  refine g_aload_n rfl rfl ?_
  refine x_getF (r := 5) hG rfl rfl (by decide) (Or.inr ⟨_, rfl⟩) rfl ?_
  refine g_iload_n rfl rfl ?_
  refine g_aload_n rfl rfl ?_
  refine x_getF (r := 5) hG rfl rfl (by decide) (Or.inr ⟨_, rfl⟩) rfl ?_
  refine g_iload_n rfl rfl ?_
  refine x_iald (v := 1) rfl rfl (by decide) (by decide) (by decide) hM2 ?_
  refine g_iload_n rfl rfl ?_
  refine g_iconst rfl ⟨by decide, by decide⟩ ?_
  refine x_iadd (z := 2) rfl (by omega) ⟨by omega, by omega⟩ ?_
  refine x_max (z := 2) rfl rfl (by omega) ?_
  refine g_iast rfl rfl (by decide) (by decide) (by decide) ?_
  refine x_return rfl rfl ?_
  intro _
  refine g_iload rfl rfl ?_
  refine x_ireturn rfl rfl ?_
  exact ⟨rfl, ⟨by rw [tp_pi_ne (by omega), hF2 1 (by omega), hR1 1 (by omega)]; rfl, by rw [tp_pi_ne (by omega), hF2 1 (by omega), hR1 1 (by omega)]; rfl, by rw [tp_pi_ne (by omega), hF2 1 (by omega), hR1 1 (by omega)]; rfl⟩, tp_pi_at.trans (by omega), fun t z => by rw [tp_pi_ix z, hF2 5 (by omega), hR1 5 (by omega)]; rfl, tp_Co_A (A := w2.1) (fun i i0 i1 => tp_pi_ne (by omega)) (x_k0 hct (t_wm0 hlen.1 hfl) hK2), fun c z1 z2 z3 z4 => by rw [tp_pi_ne z2, hF2 c (by omega), hR1 c z4, tp_pi_ne z1, tp_pi_ne z1, tp_pi_ne z1]⟩
set_option maxHeartbeats 4000000 in
set_option maxRecDepth 100000 in
theorem s_mt01m1 {G : tp_G} {μ : tp_M} (hG : tp_Gf G = true) {T : Int → Int} {len : Int} (hT : ∀ j, 0 ≤ T j ∧ T j ≤ 255) (hlen : 0 ≤ len ∧ len ≤ 600) (h203 : μ.1 203 0 = len) (hTr : ∀ j, 0 ≤ j → j < len → tp_and (μ.1 202 j) 255 = T j) (hM : μ.1 206 0 = 1) (hfl : (t_flt 0 T len).1 = 0) : tp_k G mX12_text [tR (some 201), tI 0, tI (-1)] μ (fun r μ' => r = some (tI 1) ∧ μ'.1 203 0 = 0 ∧ μ'.1 204 0 = 0 ∧ μ'.1 205 0 = -1 ∧ μ'.1 206 0 = 2 ∧ (∀ t, t ≠ 0 → μ'.1 206 t = μ.1 206 t) ∧ (∀ j, 0 ≤ j → j < 129 → μ'.1 207 (129 + j) = t_tld 0 T len j) ∧ (∀ j, (j < 129 ∨ 258 ≤ j) → μ'.1 207 j = μ.1 207 j) ∧ m_Qc μ μ' ∧ (∀ c, m_Lc c → c ≠ 206 → c ≠ 207 → μ'.1 c = μ.1 c)) := by
  refine tp_ok_of mX12_text_ok rfl (Nat.le_refl _) ?_
  refine g_aload_n rfl rfl ?_
  refine g_iconst rfl ⟨by decide, by decide⟩ ?_
  refine g_puti rfl rfl (by decide) rfl rfl ?_
  refine g_aload_n rfl rfl ?_
  refine g_aload_n rfl rfl ?_
  refine x_getF (r := 203) hG rfl rfl (by decide) (Or.inr ⟨_, rfl⟩) rfl ?_
  refine g_iconst rfl ⟨by decide, by decide⟩ ?_
  refine x_iald (v := len) rfl rfl (by decide) (by decide) (by decide) h203 ?_
  refine g_puti rfl rfl (by decide) rfl rfl ?_
  refine g_aload_n rfl rfl ?_
  refine x_getF (r := 203) hG rfl rfl (by decide) (Or.inr ⟨_, rfl⟩) rfl ?_
  refine g_iconst rfl ⟨by decide, by decide⟩ ?_
  refine g_iconst rfl ⟨by decide, by decide⟩ ?_
  refine g_iast rfl rfl (by decide) (by decide) (by decide) ?_
  refine g_aload_n rfl rfl ?_
  refine x_getF (r := 204) hG rfl rfl (by decide) (Or.inr ⟨_, rfl⟩) rfl ?_
  refine g_iconst rfl ⟨by decide, by decide⟩ ?_
  refine g_iconst rfl ⟨by decide, by decide⟩ ?_
  refine g_iast rfl rfl (by decide) (by decide) (by decide) ?_
  refine g_aload_n rfl rfl ?_
  refine x_getF (r := 205) hG rfl rfl (by decide) (Or.inr ⟨_, rfl⟩) rfl ?_
  refine g_iconst rfl ⟨by decide, by decide⟩ ?_
  refine g_iconst rfl ⟨by decide, by decide⟩ ?_
  refine g_iast rfl rfl (by decide) (by decide) (by decide) ?_
  refine g_iload_n rfl rfl ?_
  refine g_iconst rfl ⟨by decide, by decide⟩ ?_
  refine g_iconst rfl ⟨by decide, by decide⟩ ?_
  refine g_iS (as := [tI 0, tI 0, tI 3]) mX12_in_ok rfl rfl rfl rfl rfl rfl rfl ?_
  refine g_iload_n rfl rfl ?_
  refine g_iload_n rfl rfl ?_
  refine g_icmp_lt (tgt := 14) rfl (by decide) (fun hx => absurd hx (by omega)) (fun _ => ?_)
  refine g_iload_n rfl rfl ?_
  refine g_iload_n rfl rfl ?_
  refine g_icmp_gt (tgt := 14) rfl (by decide) (fun hx => absurd hx (by omega)) (fun _ => ?_)
  refine g_iconst rfl ⟨by decide, by decide⟩ ?_
  refine g_goto (tgt := 15) rfl (by decide) ?_
  refine x_zreturn rfl rfl (Or.inr rfl) ?_
  intro _
  refine g_if_eq (tgt := 72) rfl (by decide) (fun hx => absurd hx (by omega)) (fun _ => ?_)
  refine g_iload_n rfl rfl ?_
  refine g_iconst rfl ⟨by decide, by decide⟩ ?_
  refine g_icmp_ne (tgt := 63) rfl (by decide) (fun hx => absurd hx (by omega)) (fun _ => ?_)
  refine g_aload_n rfl rfl ?_
  refine x_getF (r := 206) hG rfl rfl (by decide) (Or.inr ⟨_, rfl⟩) rfl ?_
  refine g_iload_n rfl rfl ?_
  refine x_iald (v := 1) rfl rfl (by decide) (by decide) (by decide) hM ?_
  refine g_iconst rfl ⟨by decide, by decide⟩ ?_
  refine g_icmp_ne (tgt := 75) rfl (by decide) (fun _ => ?_) (fun hx => absurd hx (by omega))
  refine g_aload_n rfl rfl ?_
  refine g_iload_n rfl rfl ?_
  refine g_cV (as := [tI 0]) (s_rtxY0 (T := T) (len := len) hG hT ⟨rfl, hlen, hTr⟩ hfl) rfl rfl mX12_readText_ok rfl rfl rfl (by decide) rfl rfl rfl ?_
  rintro _ w1 ⟨rfl, h204, h205, hto, hH1⟩ _
  have hM1 : w1.1 206 0 = 1 := by rw [hH1.1 206 (by omega) (by omega) (by omega) (by omega)]; exact hM
  refine g_if_ne (tgt := 85) rfl (by decide) (fun _ => ?_) (fun hx => absurd hx (by omega))
  refine g_iload_n rfl rfl ?_
  refine g_iconst rfl ⟨by decide, by decide⟩ ?_
  refine g_icmp_ne (tgt := 99) rfl (by decide) (fun hx => absurd hx (by omega)) (fun _ => ?_)
  refine g_aload_n rfl rfl ?_
  refine x_getF (r := 206) hG rfl rfl (by decide) (Or.inr ⟨_, rfl⟩) rfl ?_
  refine g_iload_n rfl rfl ?_
  refine x_iald (v := 1) rfl rfl (by decide) (by decide) (by decide) hM1 ?_
  refine g_goto (tgt := 100) rfl (by decide) ?_
  refine g_istore_n rfl rfl rfl ?_
  refine g_aload_n rfl rfl ?_
  refine x_getF (r := 206) hG rfl rfl (by decide) (Or.inr ⟨_, rfl⟩) rfl ?_
  refine g_iload_n rfl rfl ?_
  refine g_dup2 rfl ?_
  refine x_iald (v := 1) rfl rfl (by decide) (by decide) (by decide) hM1 ?_
  refine g_iload_n rfl rfl ?_
  refine g_iconst rfl ⟨by decide, by decide⟩ ?_
  refine g_icmp_ne (tgt := 117) rfl (by decide) (fun hx => absurd hx (by omega)) (fun _ => ?_)
  refine g_iconst rfl ⟨by decide, by decide⟩ ?_
  refine g_goto (tgt := 118) rfl (by decide) ?_
  refine x_iadd (z := 2) rfl (by omega) ⟨by omega, by omega⟩ ?_
  refine g_iast rfl rfl (by decide) (by decide) (by decide) ?_
  refine g_iload_n rfl rfl ?_
  refine g_if_ne (tgt := 139) rfl (by decide) (fun hx => absurd hx (by omega)) (fun _ => ?_)
  refine g_aload_n rfl rfl ?_
  refine g_aload_n rfl rfl ?_
  refine x_getF (r := 207) hG rfl rfl (by decide) (Or.inr ⟨_, rfl⟩) rfl ?_
  refine g_sipush rfl ⟨by decide, by decide⟩ (by decide) ?_
  refine g_iload_n rfl rfl ?_
  refine g_cV (as := [tR (some 207), tI 129, tI 1]) (s_kpt01 hG) rfl rfl mX12_keep_ok rfl rfl rfl (by decide) rfl rfl rfl ?_
  rintro _ w2 ⟨rfl, hv2, hw2, hF2⟩ _
  refine g_goto (tgt := 188) rfl (by decide) ?_
  refine g_iload_n rfl rfl ?_
  refine x_ireturn rfl rfl ?_
  have q203 : w2.1 203 = _ := (hF2 203 (by omega)).trans ((tp_pi_ne (by omega)).trans (hH1.1 203 (by omega) (by omega) (by omega) (by omega)))
  have q204 : w2.1 204 = w1.1 204 := (hF2 204 (by omega)).trans (tp_pi_ne (by omega))
  have q205 : w2.1 205 = w1.1 205 := (hF2 205 (by omega)).trans (tp_pi_ne (by omega))
  have q206 : w2.1 206 = (tp_pi w1 206 0 2).1 206 := hF2 206 (by omega)
  have q211 : (tp_pi w1 206 0 2).1 211 = w1.1 211 := tp_pi_ne (by omega)
  have qrc : (tp_pi w1 206 0 2).1 207 = _ := (tp_pi_ne (by omega)).trans (hH1.1 207 (by omega) (by omega) (by omega) (by omega))
  refine ⟨rfl, (congrFun q203 0).trans rfl, (congrFun q204 0).trans h204, (congrFun q205 0).trans h205, (congrFun q206 0).trans tp_pi_at, fun t z => ?_, fun j j0 j1 => ((hv2 j j0 j1).trans (congrFun q211 j)).trans (hto j j0 (by omega)), fun j z => ((hw2 j z).trans (congrFun qrc j)).trans rfl, fun q z => ⟨?_, ?_, ?_⟩, fun c z y1 y2 => ?_⟩
  · rw [q206, tp_pi_ix z, hH1.1 206 (by omega) (by omega) (by omega) (by omega)]; rfl
  · rw [q203, tp_pi_ne (by omega), tp_pi_ne (by omega), tp_pi_ix (by omega)]; rfl
  · rw [q204, (hH1.2.2.1 q (by omega)).1, tp_pi_ne (by omega), tp_pi_ix (by omega)]; rfl
  · rw [q205, (hH1.2.2.1 q (by omega)).2, tp_pi_ix (by omega)]; rfl
  · rw [hF2 c y2, tp_pi_ne y1, hH1.1 c z.1 z.2.2.2.2 z.2.2.1 z.2.2.2.1, tp_pi_ne z.2.2.2.1, tp_pi_ne z.2.2.1, tp_pi_ne z.2.1, tp_pi_ne z.1, tp_pi_ne z.1]
set_option maxHeartbeats 4000000 in
set_option maxRecDepth 100000 in
theorem s_xt01m0 {G : tp_G} {μ : tp_M} (hG : tp_Gf G = true) {T : Int → Int} {len : Int} (hT : ∀ j, 0 ≤ T j ∧ T j ≤ 255) (hlen : 0 ≤ len ∧ len ≤ 600) (hln : μ.1 1 1 = len) (hTm : ∀ j, 0 ≤ j → j < len → tp_and (μ.1 2 j) 255 = T j) (hM : μ.1 5 0 = 1) (hfl : (t_flt 0 T len).1 ≠ 0) : tp_k G mX11_text [tR (some 0), tI 0, tI (-1)] μ (fun r μ' => r = some (tI (-1)) ∧ μ'.1 1 1 = 0 ∧ μ'.1 1 2 = (t_flt 0 T len).1 ∧ μ'.1 1 3 = (t_flt 0 T len).2 ∧ (∀ c, c ≠ 1 → (c < 41 ∨ 49 < c) → μ'.1 c = μ.1 c)) := by
  refine tp_ok_of mX11_text_ok rfl (Nat.le_refl _) ?_
  refine g_aload_n rfl rfl ?_
  refine x_getF (r := 1) hG rfl rfl (by decide) (Or.inl ⟨_, rfl⟩) rfl ?_
  refine x_geti (v := len) rfl rfl (by decide) (Or.inl rfl) hln ?_
  refine g_istore_n rfl rfl rfl ?_
  refine g_aload_n rfl rfl ?_
  refine x_getF (r := 1) hG rfl rfl (by decide) (Or.inl ⟨_, rfl⟩) rfl ?_
  refine g_iconst rfl ⟨by decide, by decide⟩ ?_
  refine g_puti rfl rfl (by decide) rfl rfl ?_
  refine g_aload_n rfl rfl ?_
  refine x_getF (r := 1) hG rfl rfl (by decide) (Or.inl ⟨_, rfl⟩) rfl ?_
  refine g_iconst rfl ⟨by decide, by decide⟩ ?_
  refine g_puti rfl rfl (by decide) rfl rfl ?_
  refine g_aload_n rfl rfl ?_
  refine x_getF (r := 1) hG rfl rfl (by decide) (Or.inl ⟨_, rfl⟩) rfl ?_
  refine g_iconst rfl ⟨by decide, by decide⟩ ?_
  refine g_puti rfl rfl (by decide) rfl rfl ?_
  refine g_aload_n rfl rfl ?_
  refine x_getF (r := 1) hG rfl rfl (by decide) (Or.inl ⟨_, rfl⟩) rfl ?_
  refine g_iload_n rfl rfl ?_
  refine g_iload_n rfl rfl ?_
  refine g_iV (as := [tI 0, tI (-1)]) mX9_slotFor_ok rfl rfl rfl rfl rfl rfl (by decide) rfl rfl rfl ?_
  refine g_iload_n rfl rfl ?_
  refine g_if_lt (tgt := 9) rfl (by decide) (fun hx => absurd hx (by omega)) (fun _ => ?_)
  refine g_iload_n rfl rfl ?_
  refine g_iconst rfl ⟨by decide, by decide⟩ ?_
  refine g_icmp_lt (tgt := 11) rfl (by decide) (fun _ => ?_) (fun hx => absurd hx (by omega))
  refine g_aload_n rfl rfl ?_
  refine x_getF (r := 5) hG rfl rfl (by decide) (Or.inr ⟨_, rfl⟩) rfl ?_
  refine g_iload_n rfl rfl ?_
  refine x_iald (v := 1) rfl rfl (by decide) (by decide) (by decide) hM ?_
  refine g_istore_n rfl rfl rfl ?_
  refine g_iload_n rfl rfl ?_
  refine g_iconst rfl ⟨by decide, by decide⟩ ?_
  refine g_icmp_ne (tgt := 34) rfl (by decide) (fun hx => absurd hx (by omega)) (fun _ => ?_)
  refine g_iload_n rfl rfl ?_
  refine g_iconst rfl ⟨by decide, by decide⟩ ?_
  refine g_icmp_ge (tgt := 32) rfl (by decide) (fun hx => absurd hx (by omega)) (fun _ => ?_)
  refine g_iload_n rfl rfl ?_
  refine g_goto (tgt := 33) rfl (by decide) ?_
  refine x_ireturn rfl rfl ?_
  intro _
  refine g_istore rfl rfl rfl ?_
  refine g_iload rfl rfl ?_
  refine g_iconst rfl ⟨by decide, by decide⟩ ?_
  refine g_icmp_ne (tgt := 52) rfl (by decide) (fun _ => ?_) (fun hx => absurd hx (by omega))
  refine g_aload_n rfl rfl ?_
  refine x_getF (r := 41) hG rfl rfl (by decide) (Or.inl ⟨_, rfl⟩) rfl ?_
  refine g_aload_n rfl rfl ?_
  refine x_getF (r := 1) hG rfl rfl (by decide) (Or.inl ⟨_, rfl⟩) rfl ?_
  refine x_getF (r := 2) hG rfl rfl (by decide) (Or.inr ⟨_, rfl⟩) rfl ?_
  refine g_iload_n rfl rfl ?_
  refine g_iload_n rfl rfl ?_
  refine g_cV (as := [tR (some 2), tI len, tI 0]) (s_readN0 hG hT hlen hTm hfl) rfl rfl mX5_read_ok rfl rfl rfl (by decide) rfl rfl rfl ?_
  rintro _ w1 ⟨rfl, h8, h9, hR1⟩ _
  refine g_if_ne (tgt := 101) rfl (by decide) (fun hx => absurd hx (by omega)) (fun _ => ?_)
  refine g_aload_n rfl rfl ?_
  refine x_getF (r := 1) hG rfl rfl (by decide) (Or.inl ⟨_, rfl⟩) rfl ?_
  refine g_aload_n rfl rfl ?_
  refine x_getF (r := 41) hG rfl rfl (by decide) (Or.inl ⟨_, rfl⟩) rfl ?_
  refine x_geti (v := ((t_flt 0 T len).1)) rfl rfl (by decide) (Or.inl rfl) h8 ?_
  refine g_puti rfl rfl (by decide) rfl rfl ?_
  refine g_aload_n rfl rfl ?_
  refine x_getF (r := 1) hG rfl rfl (by decide) (Or.inl ⟨_, rfl⟩) rfl ?_
  refine g_aload_n rfl rfl ?_
  refine x_getF (r := 41) hG rfl rfl (by decide) (Or.inl ⟨_, rfl⟩) rfl ?_
  refine x_geti (v := ((t_flt 0 T len).2)) rfl rfl (by decide) (Or.inl rfl) h9 ?_
  refine g_puti rfl rfl (by decide) rfl rfl ?_
  refine g_iconst rfl ⟨by decide, by decide⟩ ?_
  refine x_ireturn rfl rfl ?_
  exact ⟨rfl, (congrFun (hR1 1 (by omega)) 1).trans rfl, rfl, rfl, fun c z y => by rw [tp_pi_ne z, tp_pi_ne z, hR1 c y, tp_pi_ne z, tp_pi_ne z, tp_pi_ne z]⟩
set_option maxHeartbeats 4000000 in
set_option maxRecDepth 100000 in
theorem s_mt01m0 {G : tp_G} {μ : tp_M} (hG : tp_Gf G = true) {T : Int → Int} {len : Int} (hT : ∀ j, 0 ≤ T j ∧ T j ≤ 255) (hlen : 0 ≤ len ∧ len ≤ 600) (h203 : μ.1 203 0 = len) (hTr : ∀ j, 0 ≤ j → j < len → tp_and (μ.1 202 j) 255 = T j) (hM : μ.1 206 0 = 1) (hfl : (t_flt 0 T len).1 ≠ 0) : tp_k G mX12_text [tR (some 201), tI 0, tI (-1)] μ (fun r μ' => r = some (tI (-1)) ∧ μ'.1 203 0 = 0 ∧ μ'.1 204 0 = (t_flt 0 T len).1 ∧ μ'.1 205 0 = (t_flt 0 T len).2 ∧ m_Qc μ μ' ∧ (∀ c, m_Lc c → μ'.1 c = μ.1 c)) := by
  refine tp_ok_of mX12_text_ok rfl (Nat.le_refl _) ?_
  refine g_aload_n rfl rfl ?_
  refine g_iconst rfl ⟨by decide, by decide⟩ ?_
  refine g_puti rfl rfl (by decide) rfl rfl ?_
  refine g_aload_n rfl rfl ?_
  refine g_aload_n rfl rfl ?_
  refine x_getF (r := 203) hG rfl rfl (by decide) (Or.inr ⟨_, rfl⟩) rfl ?_
  refine g_iconst rfl ⟨by decide, by decide⟩ ?_
  refine x_iald (v := len) rfl rfl (by decide) (by decide) (by decide) h203 ?_
  refine g_puti rfl rfl (by decide) rfl rfl ?_
  refine g_aload_n rfl rfl ?_
  refine x_getF (r := 203) hG rfl rfl (by decide) (Or.inr ⟨_, rfl⟩) rfl ?_
  refine g_iconst rfl ⟨by decide, by decide⟩ ?_
  refine g_iconst rfl ⟨by decide, by decide⟩ ?_
  refine g_iast rfl rfl (by decide) (by decide) (by decide) ?_
  refine g_aload_n rfl rfl ?_
  refine x_getF (r := 204) hG rfl rfl (by decide) (Or.inr ⟨_, rfl⟩) rfl ?_
  refine g_iconst rfl ⟨by decide, by decide⟩ ?_
  refine g_iconst rfl ⟨by decide, by decide⟩ ?_
  refine g_iast rfl rfl (by decide) (by decide) (by decide) ?_
  refine g_aload_n rfl rfl ?_
  refine x_getF (r := 205) hG rfl rfl (by decide) (Or.inr ⟨_, rfl⟩) rfl ?_
  refine g_iconst rfl ⟨by decide, by decide⟩ ?_
  refine g_iconst rfl ⟨by decide, by decide⟩ ?_
  refine g_iast rfl rfl (by decide) (by decide) (by decide) ?_
  refine g_iload_n rfl rfl ?_
  refine g_iconst rfl ⟨by decide, by decide⟩ ?_
  refine g_iconst rfl ⟨by decide, by decide⟩ ?_
  refine g_iS (as := [tI 0, tI 0, tI 3]) mX12_in_ok rfl rfl rfl rfl rfl rfl rfl ?_
  refine g_iload_n rfl rfl ?_
  refine g_iload_n rfl rfl ?_
  refine g_icmp_lt (tgt := 14) rfl (by decide) (fun hx => absurd hx (by omega)) (fun _ => ?_)
  refine g_iload_n rfl rfl ?_
  refine g_iload_n rfl rfl ?_
  refine g_icmp_gt (tgt := 14) rfl (by decide) (fun hx => absurd hx (by omega)) (fun _ => ?_)
  refine g_iconst rfl ⟨by decide, by decide⟩ ?_
  refine g_goto (tgt := 15) rfl (by decide) ?_
  refine x_zreturn rfl rfl (Or.inr rfl) ?_
  intro _
  refine g_if_eq (tgt := 72) rfl (by decide) (fun hx => absurd hx (by omega)) (fun _ => ?_)
  refine g_iload_n rfl rfl ?_
  refine g_iconst rfl ⟨by decide, by decide⟩ ?_
  refine g_icmp_ne (tgt := 63) rfl (by decide) (fun hx => absurd hx (by omega)) (fun _ => ?_)
  refine g_aload_n rfl rfl ?_
  refine x_getF (r := 206) hG rfl rfl (by decide) (Or.inr ⟨_, rfl⟩) rfl ?_
  refine g_iload_n rfl rfl ?_
  refine x_iald (v := 1) rfl rfl (by decide) (by decide) (by decide) hM ?_
  refine g_iconst rfl ⟨by decide, by decide⟩ ?_
  refine g_icmp_ne (tgt := 75) rfl (by decide) (fun _ => ?_) (fun hx => absurd hx (by omega))
  refine g_aload_n rfl rfl ?_
  refine g_iload_n rfl rfl ?_
  refine g_cV (as := [tI 0]) (s_rtxN0 (T := T) (len := len) hG hT ⟨rfl, hlen, hTr⟩ hfl) rfl rfl mX12_readText_ok rfl rfl rfl (by decide) rfl rfl rfl ?_
  rintro _ w1 ⟨rfl, h204, h205, hH1⟩ _
  have hM1 : w1.1 206 0 = 1 := by rw [hH1.1 206 (by omega) (by omega) (by omega) (by omega)]; exact hM
  refine g_if_ne (tgt := 85) rfl (by decide) (fun hx => absurd hx (by omega)) (fun _ => ?_)
  refine g_iconst rfl ⟨by decide, by decide⟩ ?_
  refine x_ireturn rfl rfl ?_
  exact ⟨rfl, (congrFun (hH1.1 203 (by omega) (by omega) (by omega) (by omega)) 0).trans rfl, h204, h205, fun q z => ⟨(congrFun (hH1.1 203 (by omega) (by omega) (by omega) (by omega)) q).trans (by rw [tp_pi_ne (by omega), tp_pi_ne (by omega), tp_pi_ix (by omega)]; rfl), ((hH1.2.2.1 q (by omega)).1).trans (by rw [tp_pi_ne (by omega), tp_pi_ix (by omega)]; rfl), ((hH1.2.2.1 q (by omega)).2).trans (by rw [tp_pi_ix (by omega)]; rfl)⟩, fun c z => by rw [hH1.1 c z.1 z.2.2.2.2 z.2.2.1 z.2.2.2.1, tp_pi_ne z.2.2.2.1, tp_pi_ne z.2.2.1, tp_pi_ne z.2.1, tp_pi_ne z.1, tp_pi_ne z.1]⟩
set_option maxHeartbeats 4000000 in
set_option maxRecDepth 100000 in
theorem p_tx01m {G : tp_G} {μ : tp_M} (hG : tp_Gf G = true) (hR : tp_R μ) (hM : μ.1 5 0 = 1) : tp_q G mX11_text mX12_text [tI 0, tI (-1)] μ := by
  have hL := tp_R_len hR
  have hlen : 0 ≤ μ.1 1 1 ∧ μ.1 1 1 ≤ 600 := ⟨hL.1, hL.2.1⟩
  have hm9 := tp_R_many hR 0 (by decide) (by decide)
  have hT : ∀ j, 0 ≤ (fun j => tp_and (μ.1 2 j) 255 : Int → Int) j ∧ (fun j => tp_and (μ.1 2 j) 255 : Int → Int) j ≤ 255 := fun j => tp_and255 _
  generalize hTT : (fun j => tp_and (μ.1 2 j) 255 : Int → Int) = T at hT
  have hTm : ∀ j, 0 ≤ j → j < μ.1 1 1 → tp_and (μ.1 2 j) 255 = T j := fun j _ _ => by rw [← hTT]
  generalize hln : μ.1 1 1 = len at *
  by_cases hfl : (t_flt 0 T len).1 = 0
  · refine tp_kc (fun r μ1 z => ?_) (s_xt01m1 hG hT hlen hln hTm hM hfl)
    obtain ⟨z1, z2, z3, z4, z5, z6⟩ := z
    refine ⟨1, z1, tp_kc (fun r2 μ2 y => ?_) (s_mt01m1 (T := T) (len := len) hG hT hlen (by rw [z6 203 (by omega) (by omega) (by omega) (by omega)]; exact hL.2.2.symm) (fun j j0 j1 => by rw [z6 202 (by omega) (by omega) (by omega) (by omega), ← tp_R_tape hR j j0 (by omega)]; exact hTm j j0 j1) (by rw [z6 206 (by omega) (by omega) (by omega) (by omega)]; exact hm9.1.symm.trans hM) hfl)⟩
    obtain ⟨y1, y2, y3, y4, y5, y6, y7, y8, y9, y10⟩ := y
    have y5' : ∀ j, μ2.1 5 j = μ1.1 5 j := fun j => congrFun (y10 5 (by unfold m_Lc; omega) (by omega) (by omega)) j
    have yl : μ2.1 1 = μ1.1 1 := y10 1 (by unfold m_Lc; omega) (by omega) (by omega)
    refine ⟨y1, tp_R_k01 hR (fun k hk k1 k5 kc k2 kr => ?_) (fun q hq => ?_) (fun j hj => ?_) (fun t t0 t1 tn => ⟨?_, ?_⟩) ⟨?_, ?_, ?_⟩ (fun j hj => ?_) ⟨?_, y2⟩ ⟨?_, ?_⟩ ?_⟩
    · unfold tp_tl at hk
      rw [y10 k (by unfold m_Lc; omega) (by omega) kr, z6 k k1 k5 kc (by omega)]
    · rw [(y9 q hq).1, (y9 q hq).2.1, (y9 q hq).2.2, z6 203 (by omega) (by omega) (by omega) (by omega), z6 204 (by omega) (by omega) (by omega) (by omega), z6 205 (by omega) (by omega) (by omega) (by omega)]; exact ⟨rfl, rfl, rfl⟩
    · rw [y6 j (by omega), z6 206 (by omega) (by omega) (by omega) (by omega)]
    · rw [y5' t, z4 t tn]
    · rw [y6 t tn, z6 206 (by omega) (by omega) (by omega) (by omega)]
    · rw [y5' 0, z3, y5]
    · rw [y5' 0, z3]; omega
    · rw [y5' 0, z3]; omega
    · rw [y8 j hj, z6 207 (by omega) (by omega) (by omega) (by omega)]
    · rw [yl]; exact z2.1
    · rw [yl, y3]; exact z2.2.1
    · rw [yl, y4]; exact z2.2.2
    · exact tp_Co_A (A := μ1.1) (fun i i0 i1 => y10 i (by unfold m_Lc; omega) (by omega) (by omega)) (tp_Co_f (fun i i0 i1 => y7 i i0 i1) z5)
  · refine tp_kc (fun r μ1 z => ?_) (s_xt01m0 hG hT hlen hln hTm hM hfl)
    obtain ⟨z1, z2, z3, z4, z6⟩ := z
    refine ⟨-1, z1, tp_kc (fun r2 μ2 y => ?_) (s_mt01m0 (T := T) (len := len) hG hT hlen (by rw [z6 203 (by omega) (by omega)]; exact hL.2.2.symm) (fun j j0 j1 => by rw [z6 202 (by omega) (by omega), ← tp_R_tape hR j j0 (by omega)]; exact hTm j j0 j1) (by rw [z6 206 (by omega) (by omega)]; exact hm9.1.symm.trans hM) hfl)⟩
    obtain ⟨y1, y2, y3, y4, y9, y10⟩ := y
    have yl : μ2.1 1 = μ1.1 1 := y10 1 (by unfold m_Lc; omega)
    refine ⟨y1, tp_R_head hR (fun k hk k1 k2 k3 => ?_) (fun j hj => ?_) (fun q hq => ?_) ?_ (fun j j0 j1 => ?_) ⟨?_, ?_⟩⟩
    · unfold tp_tl at hk
      rw [y10 k (by unfold m_Lc; omega), z6 k k1 (by omega)]
    · rw [y10 202 (by unfold m_Lc; omega), z6 202 (by omega) (by omega)]
    · rw [(y9 q hq).1, (y9 q hq).2.1, (y9 q hq).2.2, z6 203 (by omega) (by omega), z6 204 (by omega) (by omega), z6 205 (by omega) (by omega)]; exact ⟨rfl, rfl, rfl⟩
    · rw [yl, z2, y2]; decide
    · rw [yl, z2] at j1; omega
    · rw [yl, z3, y3]
    · rw [yl, z4, y4]
set_option maxHeartbeats 4000000 in
set_option maxRecDepth 100000 in
theorem s_xt01s1 {G : tp_G} {μ : tp_M} (hG : tp_Gf G = true) {T : Int → Int} {len : Int} (hT : ∀ j, 0 ≤ T j ∧ T j ≤ 255) (hlen : 0 ≤ len ∧ len ≤ 600) (hln : μ.1 1 1 = len) (hTm : ∀ j, 0 ≤ j → j < len → tp_and (μ.1 2 j) 255 = T j) {M : Int} (hM : μ.1 5 0 = M) (hMs : 1 < M ∧ M ≤ 2) (hfl : (t_flt 0 T len).1 = 0) : tp_k G mX11_text [tR (some 0), tI 0, tI 1] μ (fun r μ' => r = some (tI 1) ∧ (μ'.1 1 1 = 0 ∧ μ'.1 1 2 = 0 ∧ μ'.1 1 3 = -1) ∧ μ'.1 5 0 = M ∧ (∀ t, t ≠ 0 → μ'.1 5 t = μ.1 5 t) ∧ tp_Co μ'.1 11 (t_tld 0 T len) ∧ (∀ c, c ≠ 1 → c ≠ 5 → (c < 11 ∨ 15 < c) → (c < 41 ∨ 49 < c) → μ'.1 c = μ.1 c)) := by
  refine tp_ok_of mX11_text_ok rfl (Nat.le_refl _) ?_
  refine g_aload_n rfl rfl ?_
  refine x_getF (r := 1) hG rfl rfl (by decide) (Or.inl ⟨_, rfl⟩) rfl ?_
  refine x_geti (v := len) rfl rfl (by decide) (Or.inl rfl) hln ?_
  refine g_istore_n rfl rfl rfl ?_
  refine g_aload_n rfl rfl ?_
  refine x_getF (r := 1) hG rfl rfl (by decide) (Or.inl ⟨_, rfl⟩) rfl ?_
  refine g_iconst rfl ⟨by decide, by decide⟩ ?_
  refine g_puti rfl rfl (by decide) rfl rfl ?_
  refine g_aload_n rfl rfl ?_
  refine x_getF (r := 1) hG rfl rfl (by decide) (Or.inl ⟨_, rfl⟩) rfl ?_
  refine g_iconst rfl ⟨by decide, by decide⟩ ?_
  refine g_puti rfl rfl (by decide) rfl rfl ?_
  refine g_aload_n rfl rfl ?_
  refine x_getF (r := 1) hG rfl rfl (by decide) (Or.inl ⟨_, rfl⟩) rfl ?_
  refine g_iconst rfl ⟨by decide, by decide⟩ ?_
  refine g_puti rfl rfl (by decide) rfl rfl ?_
  refine g_aload_n rfl rfl ?_
  refine x_getF (r := 1) hG rfl rfl (by decide) (Or.inl ⟨_, rfl⟩) rfl ?_
  refine g_iload_n rfl rfl ?_
  refine g_iload_n rfl rfl ?_
  refine g_iV (as := [tI 0, tI 1]) mX9_slotFor_ok rfl rfl rfl rfl rfl rfl (by decide) rfl rfl rfl ?_
  refine g_iload_n rfl rfl ?_
  refine g_if_lt (tgt := 9) rfl (by decide) (fun hx => absurd hx (by omega)) (fun _ => ?_)
  refine g_iload_n rfl rfl ?_
  refine g_iconst rfl ⟨by decide, by decide⟩ ?_
  refine g_icmp_lt (tgt := 11) rfl (by decide) (fun _ => ?_) (fun hx => absurd hx (by omega))
  refine g_aload_n rfl rfl ?_
  refine x_getF (r := 5) hG rfl rfl (by decide) (Or.inr ⟨_, rfl⟩) rfl ?_
  refine g_iload_n rfl rfl ?_
  refine x_iald (v := M) rfl rfl (by decide) (by decide) (by decide) hM ?_
  refine g_istore_n rfl rfl rfl ?_
  refine g_iload_n rfl rfl ?_
  refine g_iconst rfl ⟨by decide, by decide⟩ ?_
  refine g_icmp_ne (tgt := 34) rfl (by decide) (fun _ => ?_) (fun hx => absurd hx (by omega))
  refine g_iload_n rfl rfl ?_
  refine g_if_lt (tgt := 43) rfl (by decide) (fun hx => absurd hx (by omega)) (fun _ => ?_)
  refine g_iload_n rfl rfl ?_
  refine g_iload_n rfl rfl ?_
  refine g_icmp_lt (tgt := 47) rfl (by decide) (fun _ => ?_) (fun hx => absurd hx (by omega))
  refine g_iload_n rfl rfl ?_
  refine x_ireturn rfl rfl ?_
  intro _
  refine g_istore rfl rfl rfl ?_
  refine g_iload rfl rfl ?_
  refine g_iconst rfl ⟨by decide, by decide⟩ ?_
  refine g_icmp_ne (tgt := 52) rfl (by decide) (fun _ => ?_) (fun hx => absurd hx (by omega))
  refine g_aload_n rfl rfl ?_
  refine x_getF (r := 41) hG rfl rfl (by decide) (Or.inl ⟨_, rfl⟩) rfl ?_
  refine g_aload_n rfl rfl ?_
  refine x_getF (r := 1) hG rfl rfl (by decide) (Or.inl ⟨_, rfl⟩) rfl ?_
  refine x_getF (r := 2) hG rfl rfl (by decide) (Or.inr ⟨_, rfl⟩) rfl ?_
  refine g_iload_n rfl rfl ?_
  refine g_iload_n rfl rfl ?_
  refine g_cV (as := [tR (some 2), tI len, tI 0]) (s_readY0 hG hT hlen hTm hfl) rfl rfl mX5_read_ok rfl rfl rfl (by decide) rfl rfl rfl ?_
  rintro _ w1 ⟨rfl, hct, hR1⟩ _
  refine g_if_ne (tgt := 101) rfl (by decide) (fun _ => ?_) (fun hx => absurd hx (by omega))
  refine g_aload_n rfl rfl ?_
  refine x_getF (r := 1) hG rfl rfl (by decide) (Or.inl ⟨_, rfl⟩) rfl ?_
  refine g_iload_n rfl rfl ?_
  refine g_iload rfl rfl ?_
  refine g_aload_n rfl rfl ?_
  refine x_getF (r := 41) hG rfl rfl (by decide) (Or.inl ⟨_, rfl⟩) rfl ?_
  refine g_iV (as := [tI 0, tI 1, tR (some 41)]) mX9_keep_ok rfl rfl rfl rfl rfl rfl (by decide) rfl rfl rfl ?_
  refine g_iload_n rfl rfl ?_
  refine g_if_lt (tgt := 18) rfl (by decide) (fun hx => absurd hx (by omega)) (fun _ => ?_)
  refine g_iload_n rfl rfl ?_
  refine g_iconst rfl ⟨by decide, by decide⟩ ?_
  refine g_icmp_ge (tgt := 18) rfl (by decide) (fun hx => absurd hx (by omega)) (fun _ => ?_)
  refine g_iload_n rfl rfl ?_
  refine g_if_lt (tgt := 18) rfl (by decide) (fun hx => absurd hx (by omega)) (fun _ => ?_)
  refine g_iload_n rfl rfl ?_
  refine g_iconst rfl ⟨by decide, by decide⟩ ?_
  refine g_icmp_lt (tgt := 19) rfl (by decide) (fun _ => ?_) (fun hx => absurd hx (by omega))
  refine g_iload_n rfl rfl ?_
  refine g_if_ne (tgt := 39) rfl (by decide) (fun hx => absurd hx (by omega)) (fun _ => ?_)
  refine g_aload_n rfl rfl ?_
  refine x_getF (r := 3) hG rfl rfl (by decide) (Or.inr ⟨_, rfl⟩) rfl ?_
  refine g_iload_n rfl rfl ?_
  refine x_aald (t0 := 4) (r := 11) hG rfl rfl rfl (by decide) (by decide) (by decide) rfl ?_
  refine g_aload_n rfl rfl ?_
  refine x_getF (r := 42) hG rfl rfl (by decide) (Or.inl ⟨_, rfl⟩) rfl ?_
  refine g_cV (as := [tR (some 42)]) (s_ccopy hG (c := 42) (d := 11) rfl rfl (by decide) (by decide) (by decide)) rfl rfl mX0_copyFrom_ok rfl rfl rfl (by decide) rfl rfl rfl ?_
  rintro _ w2 ⟨rfl, hK2, hF2⟩ _
  have hM2 : w2.1 5 0 = M := by rw [hF2 5 (by omega), hR1 5 (by omega)]; exact hM
  refine g_goto (tgt := 56) rfl (by decide) ?_
  refine g_aload_n rfl rfl ?_
  refine x_getF (r := 5) hG rfl rfl (by decide) (Or.inr ⟨_, rfl⟩) rfl ?_
  refine g_iload_n rfl rfl ?_
  refine g_aload_n rfl rfl ?_
  refine x_getF (r := 5) hG rfl rfl (by decide) (Or.inr ⟨_, rfl⟩) rfl ?_
  refine g_iload_n rfl rfl ?_
  refine x_iald (v := M) rfl rfl (by decide) (by decide) (by decide) hM2 ?_
  refine g_iload_n rfl rfl ?_
  refine g_iconst rfl ⟨by decide, by decide⟩ ?_
  refine x_iadd (z := 2) rfl (by omega) ⟨by omega, by omega⟩ ?_
  refine x_max (z := 2) rfl rfl (by omega) ?_
  refine g_iast rfl rfl (by decide) (by decide) (by decide) ?_
  refine x_return rfl rfl ?_
  intro _
  refine g_iload rfl rfl ?_
  refine x_ireturn rfl rfl ?_
  exact ⟨rfl, ⟨by rw [tp_pi_ne (by omega), hF2 1 (by omega), hR1 1 (by omega)]; rfl, by rw [tp_pi_ne (by omega), hF2 1 (by omega), hR1 1 (by omega)]; rfl, by rw [tp_pi_ne (by omega), hF2 1 (by omega), hR1 1 (by omega)]; rfl⟩, tp_pi_at.trans (by omega), fun t z => by rw [tp_pi_ix z, hF2 5 (by omega), hR1 5 (by omega)]; rfl, tp_Co_A (A := w2.1) (fun i i0 i1 => tp_pi_ne (by omega)) (x_k0 hct (t_wm0 hlen.1 hfl) hK2), fun c z1 z2 z3 z4 => by rw [tp_pi_ne z2, hF2 c (by omega), hR1 c z4, tp_pi_ne z1, tp_pi_ne z1, tp_pi_ne z1]⟩
set_option maxHeartbeats 4000000 in
set_option maxRecDepth 100000 in
theorem s_mt01s1 {G : tp_G} {μ : tp_M} (hG : tp_Gf G = true) {T : Int → Int} {len : Int} (hT : ∀ j, 0 ≤ T j ∧ T j ≤ 255) (hlen : 0 ≤ len ∧ len ≤ 600) (h203 : μ.1 203 0 = len) (hTr : ∀ j, 0 ≤ j → j < len → tp_and (μ.1 202 j) 255 = T j) {M : Int} (hM : μ.1 206 0 = M) (hMs : 1 < M ∧ M ≤ 2) (hfl : (t_flt 0 T len).1 = 0) : tp_k G mX12_text [tR (some 201), tI 0, tI 1] μ (fun r μ' => r = some (tI 1) ∧ μ'.1 203 0 = 0 ∧ μ'.1 204 0 = 0 ∧ μ'.1 205 0 = -1 ∧ μ'.1 206 0 = M ∧ (∀ t, t ≠ 0 → μ'.1 206 t = μ.1 206 t) ∧ (∀ j, 0 ≤ j → j < 129 → μ'.1 207 (129 + j) = t_tld 0 T len j) ∧ (∀ j, (j < 129 ∨ 258 ≤ j) → μ'.1 207 j = μ.1 207 j) ∧ m_Qc μ μ' ∧ (∀ c, m_Lc c → c ≠ 206 → c ≠ 207 → μ'.1 c = μ.1 c)) := by
  refine tp_ok_of mX12_text_ok rfl (Nat.le_refl _) ?_
  refine g_aload_n rfl rfl ?_
  refine g_iconst rfl ⟨by decide, by decide⟩ ?_
  refine g_puti rfl rfl (by decide) rfl rfl ?_
  refine g_aload_n rfl rfl ?_
  refine g_aload_n rfl rfl ?_
  refine x_getF (r := 203) hG rfl rfl (by decide) (Or.inr ⟨_, rfl⟩) rfl ?_
  refine g_iconst rfl ⟨by decide, by decide⟩ ?_
  refine x_iald (v := len) rfl rfl (by decide) (by decide) (by decide) h203 ?_
  refine g_puti rfl rfl (by decide) rfl rfl ?_
  refine g_aload_n rfl rfl ?_
  refine x_getF (r := 203) hG rfl rfl (by decide) (Or.inr ⟨_, rfl⟩) rfl ?_
  refine g_iconst rfl ⟨by decide, by decide⟩ ?_
  refine g_iconst rfl ⟨by decide, by decide⟩ ?_
  refine g_iast rfl rfl (by decide) (by decide) (by decide) ?_
  refine g_aload_n rfl rfl ?_
  refine x_getF (r := 204) hG rfl rfl (by decide) (Or.inr ⟨_, rfl⟩) rfl ?_
  refine g_iconst rfl ⟨by decide, by decide⟩ ?_
  refine g_iconst rfl ⟨by decide, by decide⟩ ?_
  refine g_iast rfl rfl (by decide) (by decide) (by decide) ?_
  refine g_aload_n rfl rfl ?_
  refine x_getF (r := 205) hG rfl rfl (by decide) (Or.inr ⟨_, rfl⟩) rfl ?_
  refine g_iconst rfl ⟨by decide, by decide⟩ ?_
  refine g_iconst rfl ⟨by decide, by decide⟩ ?_
  refine g_iast rfl rfl (by decide) (by decide) (by decide) ?_
  refine g_iload_n rfl rfl ?_
  refine g_iconst rfl ⟨by decide, by decide⟩ ?_
  refine g_iconst rfl ⟨by decide, by decide⟩ ?_
  refine g_iS (as := [tI 0, tI 0, tI 3]) mX12_in_ok rfl rfl rfl rfl rfl rfl rfl ?_
  refine g_iload_n rfl rfl ?_
  refine g_iload_n rfl rfl ?_
  refine g_icmp_lt (tgt := 14) rfl (by decide) (fun hx => absurd hx (by omega)) (fun _ => ?_)
  refine g_iload_n rfl rfl ?_
  refine g_iload_n rfl rfl ?_
  refine g_icmp_gt (tgt := 14) rfl (by decide) (fun hx => absurd hx (by omega)) (fun _ => ?_)
  refine g_iconst rfl ⟨by decide, by decide⟩ ?_
  refine g_goto (tgt := 15) rfl (by decide) ?_
  refine x_zreturn rfl rfl (Or.inr rfl) ?_
  intro _
  refine g_if_eq (tgt := 72) rfl (by decide) (fun hx => absurd hx (by omega)) (fun _ => ?_)
  refine g_iload_n rfl rfl ?_
  refine g_iconst rfl ⟨by decide, by decide⟩ ?_
  refine g_icmp_ne (tgt := 63) rfl (by decide) (fun _ => ?_) (fun hx => absurd hx (by omega))
  refine g_aload_n rfl rfl ?_
  refine g_iload_n rfl rfl ?_
  refine g_iload_n rfl rfl ?_
  refine g_iV (as := [tI 0, tI 1]) mX12_is_ok rfl rfl rfl rfl rfl rfl (by decide) rfl rfl rfl ?_
  refine g_iload_n rfl rfl ?_
  refine g_iconst rfl ⟨by decide, by decide⟩ ?_
  refine g_aload_n rfl rfl ?_
  refine x_getF (r := 206) hG rfl rfl (by decide) (Or.inr ⟨_, rfl⟩) rfl ?_
  refine g_iload_n rfl rfl ?_
  refine x_iald (v := M) rfl rfl (by decide) (by decide) (by decide) hM ?_
  refine g_iconst rfl ⟨by decide, by decide⟩ ?_
  refine x_isub (z := M - 1) rfl (by omega) ⟨by omega, by omega⟩ ?_
  refine g_iS (as := [tI 1, tI 0, tI (M - 1)]) mX12_in_ok rfl rfl rfl rfl rfl rfl rfl ?_
  refine g_iload_n rfl rfl ?_
  refine g_iload_n rfl rfl ?_
  refine g_icmp_lt (tgt := 14) rfl (by decide) (fun hx => absurd hx (by omega)) (fun _ => ?_)
  refine g_iload_n rfl rfl ?_
  refine g_iload_n rfl rfl ?_
  refine g_icmp_gt (tgt := 14) rfl (by decide) (fun hx => absurd hx (by omega)) (fun _ => ?_)
  refine g_iconst rfl ⟨by decide, by decide⟩ ?_
  refine g_goto (tgt := 15) rfl (by decide) ?_
  refine x_zreturn rfl rfl (Or.inr rfl) ?_
  intro _
  refine x_zreturn rfl rfl (Or.inr rfl) ?_
  intro _
  refine g_if_ne (tgt := 75) rfl (by decide) (fun _ => ?_) (fun hx => absurd hx (by omega))
  refine g_aload_n rfl rfl ?_
  refine g_iload_n rfl rfl ?_
  refine g_cV (as := [tI 0]) (s_rtxY0 (T := T) (len := len) hG hT ⟨rfl, hlen, hTr⟩ hfl) rfl rfl mX12_readText_ok rfl rfl rfl (by decide) rfl rfl rfl ?_
  rintro _ w1 ⟨rfl, h204, h205, hto, hH1⟩ _
  have hM1 : w1.1 206 0 = M := by rw [hH1.1 206 (by omega) (by omega) (by omega) (by omega)]; exact hM
  refine g_if_ne (tgt := 85) rfl (by decide) (fun _ => ?_) (fun hx => absurd hx (by omega))
  refine g_iload_n rfl rfl ?_
  refine g_iconst rfl ⟨by decide, by decide⟩ ?_
  refine g_icmp_ne (tgt := 99) rfl (by decide) (fun _ => ?_) (fun hx => absurd hx (by omega))
  refine g_iload_n rfl rfl ?_
  refine g_istore_n rfl rfl rfl ?_
  refine g_aload_n rfl rfl ?_
  refine x_getF (r := 206) hG rfl rfl (by decide) (Or.inr ⟨_, rfl⟩) rfl ?_
  refine g_iload_n rfl rfl ?_
  refine g_dup2 rfl ?_
  refine x_iald (v := M) rfl rfl (by decide) (by decide) (by decide) hM1 ?_
  refine g_iload_n rfl rfl ?_
  refine g_iconst rfl ⟨by decide, by decide⟩ ?_
  refine g_icmp_ne (tgt := 117) rfl (by decide) (fun _ => ?_) (fun hx => absurd hx (by omega))
  refine g_iconst rfl ⟨by decide, by decide⟩ ?_
  refine x_iadd (z := M) rfl (by omega) ⟨by omega, by omega⟩ ?_
  refine g_iast rfl rfl (by decide) (by decide) (by decide) ?_
  refine g_iload_n rfl rfl ?_
  refine g_if_ne (tgt := 139) rfl (by decide) (fun hx => absurd hx (by omega)) (fun _ => ?_)
  refine g_aload_n rfl rfl ?_
  refine g_aload_n rfl rfl ?_
  refine x_getF (r := 207) hG rfl rfl (by decide) (Or.inr ⟨_, rfl⟩) rfl ?_
  refine g_sipush rfl ⟨by decide, by decide⟩ (by decide) ?_
  refine g_iload_n rfl rfl ?_
  refine g_cV (as := [tR (some 207), tI 129, tI 1]) (s_kpt01 hG) rfl rfl mX12_keep_ok rfl rfl rfl (by decide) rfl rfl rfl ?_
  rintro _ w2 ⟨rfl, hv2, hw2, hF2⟩ _
  refine g_goto (tgt := 188) rfl (by decide) ?_
  refine g_iload_n rfl rfl ?_
  refine x_ireturn rfl rfl ?_
  have q203 : w2.1 203 = _ := (hF2 203 (by omega)).trans ((tp_pi_ne (by omega)).trans (hH1.1 203 (by omega) (by omega) (by omega) (by omega)))
  have q204 : w2.1 204 = w1.1 204 := (hF2 204 (by omega)).trans (tp_pi_ne (by omega))
  have q205 : w2.1 205 = w1.1 205 := (hF2 205 (by omega)).trans (tp_pi_ne (by omega))
  have q206 : w2.1 206 = (tp_pi w1 206 0 M).1 206 := hF2 206 (by omega)
  have q211 : (tp_pi w1 206 0 M).1 211 = w1.1 211 := tp_pi_ne (by omega)
  have qrc : (tp_pi w1 206 0 M).1 207 = _ := (tp_pi_ne (by omega)).trans (hH1.1 207 (by omega) (by omega) (by omega) (by omega))
  refine ⟨rfl, (congrFun q203 0).trans rfl, (congrFun q204 0).trans h204, (congrFun q205 0).trans h205, (congrFun q206 0).trans tp_pi_at, fun t z => ?_, fun j j0 j1 => ((hv2 j j0 j1).trans (congrFun q211 j)).trans (hto j j0 (by omega)), fun j z => ((hw2 j z).trans (congrFun qrc j)).trans rfl, fun q z => ⟨?_, ?_, ?_⟩, fun c z y1 y2 => ?_⟩
  · rw [q206, tp_pi_ix z, hH1.1 206 (by omega) (by omega) (by omega) (by omega)]; rfl
  · rw [q203, tp_pi_ne (by omega), tp_pi_ne (by omega), tp_pi_ix (by omega)]; rfl
  · rw [q204, (hH1.2.2.1 q (by omega)).1, tp_pi_ne (by omega), tp_pi_ix (by omega)]; rfl
  · rw [q205, (hH1.2.2.1 q (by omega)).2, tp_pi_ix (by omega)]; rfl
  · rw [hF2 c y2, tp_pi_ne y1, hH1.1 c z.1 z.2.2.2.2 z.2.2.1 z.2.2.2.1, tp_pi_ne z.2.2.2.1, tp_pi_ne z.2.2.1, tp_pi_ne z.2.1, tp_pi_ne z.1, tp_pi_ne z.1]
set_option maxHeartbeats 4000000 in
set_option maxRecDepth 100000 in
theorem s_xt01s0 {G : tp_G} {μ : tp_M} (hG : tp_Gf G = true) {T : Int → Int} {len : Int} (hT : ∀ j, 0 ≤ T j ∧ T j ≤ 255) (hlen : 0 ≤ len ∧ len ≤ 600) (hln : μ.1 1 1 = len) (hTm : ∀ j, 0 ≤ j → j < len → tp_and (μ.1 2 j) 255 = T j) {M : Int} (hM : μ.1 5 0 = M) (hMs : 1 < M ∧ M ≤ 2) (hfl : (t_flt 0 T len).1 ≠ 0) : tp_k G mX11_text [tR (some 0), tI 0, tI 1] μ (fun r μ' => r = some (tI (-1)) ∧ μ'.1 1 1 = 0 ∧ μ'.1 1 2 = (t_flt 0 T len).1 ∧ μ'.1 1 3 = (t_flt 0 T len).2 ∧ (∀ c, c ≠ 1 → (c < 41 ∨ 49 < c) → μ'.1 c = μ.1 c)) := by
  refine tp_ok_of mX11_text_ok rfl (Nat.le_refl _) ?_
  refine g_aload_n rfl rfl ?_
  refine x_getF (r := 1) hG rfl rfl (by decide) (Or.inl ⟨_, rfl⟩) rfl ?_
  refine x_geti (v := len) rfl rfl (by decide) (Or.inl rfl) hln ?_
  refine g_istore_n rfl rfl rfl ?_
  refine g_aload_n rfl rfl ?_
  refine x_getF (r := 1) hG rfl rfl (by decide) (Or.inl ⟨_, rfl⟩) rfl ?_
  refine g_iconst rfl ⟨by decide, by decide⟩ ?_
  refine g_puti rfl rfl (by decide) rfl rfl ?_
  refine g_aload_n rfl rfl ?_
  refine x_getF (r := 1) hG rfl rfl (by decide) (Or.inl ⟨_, rfl⟩) rfl ?_
  refine g_iconst rfl ⟨by decide, by decide⟩ ?_
  refine g_puti rfl rfl (by decide) rfl rfl ?_
  refine g_aload_n rfl rfl ?_
  refine x_getF (r := 1) hG rfl rfl (by decide) (Or.inl ⟨_, rfl⟩) rfl ?_
  refine g_iconst rfl ⟨by decide, by decide⟩ ?_
  refine g_puti rfl rfl (by decide) rfl rfl ?_
  refine g_aload_n rfl rfl ?_
  refine x_getF (r := 1) hG rfl rfl (by decide) (Or.inl ⟨_, rfl⟩) rfl ?_
  refine g_iload_n rfl rfl ?_
  refine g_iload_n rfl rfl ?_
  refine g_iV (as := [tI 0, tI 1]) mX9_slotFor_ok rfl rfl rfl rfl rfl rfl (by decide) rfl rfl rfl ?_
  refine g_iload_n rfl rfl ?_
  refine g_if_lt (tgt := 9) rfl (by decide) (fun hx => absurd hx (by omega)) (fun _ => ?_)
  refine g_iload_n rfl rfl ?_
  refine g_iconst rfl ⟨by decide, by decide⟩ ?_
  refine g_icmp_lt (tgt := 11) rfl (by decide) (fun _ => ?_) (fun hx => absurd hx (by omega))
  refine g_aload_n rfl rfl ?_
  refine x_getF (r := 5) hG rfl rfl (by decide) (Or.inr ⟨_, rfl⟩) rfl ?_
  refine g_iload_n rfl rfl ?_
  refine x_iald (v := M) rfl rfl (by decide) (by decide) (by decide) hM ?_
  refine g_istore_n rfl rfl rfl ?_
  refine g_iload_n rfl rfl ?_
  refine g_iconst rfl ⟨by decide, by decide⟩ ?_
  refine g_icmp_ne (tgt := 34) rfl (by decide) (fun _ => ?_) (fun hx => absurd hx (by omega))
  refine g_iload_n rfl rfl ?_
  refine g_if_lt (tgt := 43) rfl (by decide) (fun hx => absurd hx (by omega)) (fun _ => ?_)
  refine g_iload_n rfl rfl ?_
  refine g_iload_n rfl rfl ?_
  refine g_icmp_lt (tgt := 47) rfl (by decide) (fun _ => ?_) (fun hx => absurd hx (by omega))
  refine g_iload_n rfl rfl ?_
  refine x_ireturn rfl rfl ?_
  intro _
  refine g_istore rfl rfl rfl ?_
  refine g_iload rfl rfl ?_
  refine g_iconst rfl ⟨by decide, by decide⟩ ?_
  refine g_icmp_ne (tgt := 52) rfl (by decide) (fun _ => ?_) (fun hx => absurd hx (by omega))
  refine g_aload_n rfl rfl ?_
  refine x_getF (r := 41) hG rfl rfl (by decide) (Or.inl ⟨_, rfl⟩) rfl ?_
  refine g_aload_n rfl rfl ?_
  refine x_getF (r := 1) hG rfl rfl (by decide) (Or.inl ⟨_, rfl⟩) rfl ?_
  refine x_getF (r := 2) hG rfl rfl (by decide) (Or.inr ⟨_, rfl⟩) rfl ?_
  refine g_iload_n rfl rfl ?_
  refine g_iload_n rfl rfl ?_
  refine g_cV (as := [tR (some 2), tI len, tI 0]) (s_readN0 hG hT hlen hTm hfl) rfl rfl mX5_read_ok rfl rfl rfl (by decide) rfl rfl rfl ?_
  rintro _ w1 ⟨rfl, h8, h9, hR1⟩ _
  refine g_if_ne (tgt := 101) rfl (by decide) (fun hx => absurd hx (by omega)) (fun _ => ?_)
  refine g_aload_n rfl rfl ?_
  refine x_getF (r := 1) hG rfl rfl (by decide) (Or.inl ⟨_, rfl⟩) rfl ?_
  refine g_aload_n rfl rfl ?_
  refine x_getF (r := 41) hG rfl rfl (by decide) (Or.inl ⟨_, rfl⟩) rfl ?_
  refine x_geti (v := ((t_flt 0 T len).1)) rfl rfl (by decide) (Or.inl rfl) h8 ?_
  refine g_puti rfl rfl (by decide) rfl rfl ?_
  refine g_aload_n rfl rfl ?_
  refine x_getF (r := 1) hG rfl rfl (by decide) (Or.inl ⟨_, rfl⟩) rfl ?_
  refine g_aload_n rfl rfl ?_
  refine x_getF (r := 41) hG rfl rfl (by decide) (Or.inl ⟨_, rfl⟩) rfl ?_
  refine x_geti (v := ((t_flt 0 T len).2)) rfl rfl (by decide) (Or.inl rfl) h9 ?_
  refine g_puti rfl rfl (by decide) rfl rfl ?_
  refine g_iconst rfl ⟨by decide, by decide⟩ ?_
  refine x_ireturn rfl rfl ?_
  exact ⟨rfl, (congrFun (hR1 1 (by omega)) 1).trans rfl, rfl, rfl, fun c z y => by rw [tp_pi_ne z, tp_pi_ne z, hR1 c y, tp_pi_ne z, tp_pi_ne z, tp_pi_ne z]⟩
set_option maxHeartbeats 4000000 in
set_option maxRecDepth 100000 in
theorem s_mt01s0 {G : tp_G} {μ : tp_M} (hG : tp_Gf G = true) {T : Int → Int} {len : Int} (hT : ∀ j, 0 ≤ T j ∧ T j ≤ 255) (hlen : 0 ≤ len ∧ len ≤ 600) (h203 : μ.1 203 0 = len) (hTr : ∀ j, 0 ≤ j → j < len → tp_and (μ.1 202 j) 255 = T j) {M : Int} (hM : μ.1 206 0 = M) (hMs : 1 < M ∧ M ≤ 2) (hfl : (t_flt 0 T len).1 ≠ 0) : tp_k G mX12_text [tR (some 201), tI 0, tI 1] μ (fun r μ' => r = some (tI (-1)) ∧ μ'.1 203 0 = 0 ∧ μ'.1 204 0 = (t_flt 0 T len).1 ∧ μ'.1 205 0 = (t_flt 0 T len).2 ∧ m_Qc μ μ' ∧ (∀ c, m_Lc c → μ'.1 c = μ.1 c)) := by
  refine tp_ok_of mX12_text_ok rfl (Nat.le_refl _) ?_
  refine g_aload_n rfl rfl ?_
  refine g_iconst rfl ⟨by decide, by decide⟩ ?_
  refine g_puti rfl rfl (by decide) rfl rfl ?_
  refine g_aload_n rfl rfl ?_
  refine g_aload_n rfl rfl ?_
  refine x_getF (r := 203) hG rfl rfl (by decide) (Or.inr ⟨_, rfl⟩) rfl ?_
  refine g_iconst rfl ⟨by decide, by decide⟩ ?_
  refine x_iald (v := len) rfl rfl (by decide) (by decide) (by decide) h203 ?_
  refine g_puti rfl rfl (by decide) rfl rfl ?_
  refine g_aload_n rfl rfl ?_
  refine x_getF (r := 203) hG rfl rfl (by decide) (Or.inr ⟨_, rfl⟩) rfl ?_
  refine g_iconst rfl ⟨by decide, by decide⟩ ?_
  refine g_iconst rfl ⟨by decide, by decide⟩ ?_
  refine g_iast rfl rfl (by decide) (by decide) (by decide) ?_
  refine g_aload_n rfl rfl ?_
  refine x_getF (r := 204) hG rfl rfl (by decide) (Or.inr ⟨_, rfl⟩) rfl ?_
  refine g_iconst rfl ⟨by decide, by decide⟩ ?_
  refine g_iconst rfl ⟨by decide, by decide⟩ ?_
  refine g_iast rfl rfl (by decide) (by decide) (by decide) ?_
  refine g_aload_n rfl rfl ?_
  refine x_getF (r := 205) hG rfl rfl (by decide) (Or.inr ⟨_, rfl⟩) rfl ?_
  refine g_iconst rfl ⟨by decide, by decide⟩ ?_
  refine g_iconst rfl ⟨by decide, by decide⟩ ?_
  refine g_iast rfl rfl (by decide) (by decide) (by decide) ?_
  refine g_iload_n rfl rfl ?_
  refine g_iconst rfl ⟨by decide, by decide⟩ ?_
  refine g_iconst rfl ⟨by decide, by decide⟩ ?_
  refine g_iS (as := [tI 0, tI 0, tI 3]) mX12_in_ok rfl rfl rfl rfl rfl rfl rfl ?_
  refine g_iload_n rfl rfl ?_
  refine g_iload_n rfl rfl ?_
  refine g_icmp_lt (tgt := 14) rfl (by decide) (fun hx => absurd hx (by omega)) (fun _ => ?_)
  refine g_iload_n rfl rfl ?_
  refine g_iload_n rfl rfl ?_
  refine g_icmp_gt (tgt := 14) rfl (by decide) (fun hx => absurd hx (by omega)) (fun _ => ?_)
  refine g_iconst rfl ⟨by decide, by decide⟩ ?_
  refine g_goto (tgt := 15) rfl (by decide) ?_
  refine x_zreturn rfl rfl (Or.inr rfl) ?_
  intro _
  refine g_if_eq (tgt := 72) rfl (by decide) (fun hx => absurd hx (by omega)) (fun _ => ?_)
  refine g_iload_n rfl rfl ?_
  refine g_iconst rfl ⟨by decide, by decide⟩ ?_
  refine g_icmp_ne (tgt := 63) rfl (by decide) (fun _ => ?_) (fun hx => absurd hx (by omega))
  refine g_aload_n rfl rfl ?_
  refine g_iload_n rfl rfl ?_
  refine g_iload_n rfl rfl ?_
  refine g_iV (as := [tI 0, tI 1]) mX12_is_ok rfl rfl rfl rfl rfl rfl (by decide) rfl rfl rfl ?_
  refine g_iload_n rfl rfl ?_
  refine g_iconst rfl ⟨by decide, by decide⟩ ?_
  refine g_aload_n rfl rfl ?_
  refine x_getF (r := 206) hG rfl rfl (by decide) (Or.inr ⟨_, rfl⟩) rfl ?_
  refine g_iload_n rfl rfl ?_
  refine x_iald (v := M) rfl rfl (by decide) (by decide) (by decide) hM ?_
  refine g_iconst rfl ⟨by decide, by decide⟩ ?_
  refine x_isub (z := M - 1) rfl (by omega) ⟨by omega, by omega⟩ ?_
  refine g_iS (as := [tI 1, tI 0, tI (M - 1)]) mX12_in_ok rfl rfl rfl rfl rfl rfl rfl ?_
  refine g_iload_n rfl rfl ?_
  refine g_iload_n rfl rfl ?_
  refine g_icmp_lt (tgt := 14) rfl (by decide) (fun hx => absurd hx (by omega)) (fun _ => ?_)
  refine g_iload_n rfl rfl ?_
  refine g_iload_n rfl rfl ?_
  refine g_icmp_gt (tgt := 14) rfl (by decide) (fun hx => absurd hx (by omega)) (fun _ => ?_)
  refine g_iconst rfl ⟨by decide, by decide⟩ ?_
  refine g_goto (tgt := 15) rfl (by decide) ?_
  refine x_zreturn rfl rfl (Or.inr rfl) ?_
  intro _
  refine x_zreturn rfl rfl (Or.inr rfl) ?_
  intro _
  refine g_if_ne (tgt := 75) rfl (by decide) (fun _ => ?_) (fun hx => absurd hx (by omega))
  refine g_aload_n rfl rfl ?_
  refine g_iload_n rfl rfl ?_
  refine g_cV (as := [tI 0]) (s_rtxN0 (T := T) (len := len) hG hT ⟨rfl, hlen, hTr⟩ hfl) rfl rfl mX12_readText_ok rfl rfl rfl (by decide) rfl rfl rfl ?_
  rintro _ w1 ⟨rfl, h204, h205, hH1⟩ _
  have hM1 : w1.1 206 0 = M := by rw [hH1.1 206 (by omega) (by omega) (by omega) (by omega)]; exact hM
  refine g_if_ne (tgt := 85) rfl (by decide) (fun hx => absurd hx (by omega)) (fun _ => ?_)
  refine g_iconst rfl ⟨by decide, by decide⟩ ?_
  refine x_ireturn rfl rfl ?_
  exact ⟨rfl, (congrFun (hH1.1 203 (by omega) (by omega) (by omega) (by omega)) 0).trans rfl, h204, h205, fun q z => ⟨(congrFun (hH1.1 203 (by omega) (by omega) (by omega) (by omega)) q).trans (by rw [tp_pi_ne (by omega), tp_pi_ne (by omega), tp_pi_ix (by omega)]; rfl), ((hH1.2.2.1 q (by omega)).1).trans (by rw [tp_pi_ne (by omega), tp_pi_ix (by omega)]; rfl), ((hH1.2.2.1 q (by omega)).2).trans (by rw [tp_pi_ix (by omega)]; rfl)⟩, fun c z => by rw [hH1.1 c z.1 z.2.2.2.2 z.2.2.1 z.2.2.2.1, tp_pi_ne z.2.2.2.1, tp_pi_ne z.2.2.1, tp_pi_ne z.2.1, tp_pi_ne z.1, tp_pi_ne z.1]⟩
set_option maxHeartbeats 4000000 in
set_option maxRecDepth 100000 in
theorem p_tx01s {G : tp_G} {μ : tp_M} (hG : tp_Gf G = true) (hR : tp_R μ) {M : Int} (hM : μ.1 5 0 = M) (hMs : 1 < M ∧ M ≤ 2) : tp_q G mX11_text mX12_text [tI 0, tI 1] μ := by
  have hL := tp_R_len hR
  have hlen : 0 ≤ μ.1 1 1 ∧ μ.1 1 1 ≤ 600 := ⟨hL.1, hL.2.1⟩
  have hm9 := tp_R_many hR 0 (by decide) (by decide)
  have hT : ∀ j, 0 ≤ (fun j => tp_and (μ.1 2 j) 255 : Int → Int) j ∧ (fun j => tp_and (μ.1 2 j) 255 : Int → Int) j ≤ 255 := fun j => tp_and255 _
  generalize hTT : (fun j => tp_and (μ.1 2 j) 255 : Int → Int) = T at hT
  have hTm : ∀ j, 0 ≤ j → j < μ.1 1 1 → tp_and (μ.1 2 j) 255 = T j := fun j _ _ => by rw [← hTT]
  generalize hln : μ.1 1 1 = len at *
  by_cases hfl : (t_flt 0 T len).1 = 0
  · refine tp_kc (fun r μ1 z => ?_) (s_xt01s1 hG hT hlen hln hTm hM hMs hfl)
    obtain ⟨z1, z2, z3, z4, z5, z6⟩ := z
    refine ⟨1, z1, tp_kc (fun r2 μ2 y => ?_) (s_mt01s1 (T := T) (len := len) hG hT hlen (by rw [z6 203 (by omega) (by omega) (by omega) (by omega)]; exact hL.2.2.symm) (fun j j0 j1 => by rw [z6 202 (by omega) (by omega) (by omega) (by omega), ← tp_R_tape hR j j0 (by omega)]; exact hTm j j0 j1) (by rw [z6 206 (by omega) (by omega) (by omega) (by omega)]; exact hm9.1.symm.trans hM) hMs hfl)⟩
    obtain ⟨y1, y2, y3, y4, y5, y6, y7, y8, y9, y10⟩ := y
    have y5' : ∀ j, μ2.1 5 j = μ1.1 5 j := fun j => congrFun (y10 5 (by unfold m_Lc; omega) (by omega) (by omega)) j
    have yl : μ2.1 1 = μ1.1 1 := y10 1 (by unfold m_Lc; omega) (by omega) (by omega)
    refine ⟨y1, tp_R_k01 hR (fun k hk k1 k5 kc k2 kr => ?_) (fun q hq => ?_) (fun j hj => ?_) (fun t t0 t1 tn => ⟨?_, ?_⟩) ⟨?_, ?_, ?_⟩ (fun j hj => ?_) ⟨?_, y2⟩ ⟨?_, ?_⟩ ?_⟩
    · unfold tp_tl at hk
      rw [y10 k (by unfold m_Lc; omega) (by omega) kr, z6 k k1 k5 kc (by omega)]
    · rw [(y9 q hq).1, (y9 q hq).2.1, (y9 q hq).2.2, z6 203 (by omega) (by omega) (by omega) (by omega), z6 204 (by omega) (by omega) (by omega) (by omega), z6 205 (by omega) (by omega) (by omega) (by omega)]; exact ⟨rfl, rfl, rfl⟩
    · rw [y6 j (by omega), z6 206 (by omega) (by omega) (by omega) (by omega)]
    · rw [y5' t, z4 t tn]
    · rw [y6 t tn, z6 206 (by omega) (by omega) (by omega) (by omega)]
    · rw [y5' 0, z3, y5]
    · rw [y5' 0, z3]; omega
    · rw [y5' 0, z3]; omega
    · rw [y8 j hj, z6 207 (by omega) (by omega) (by omega) (by omega)]
    · rw [yl]; exact z2.1
    · rw [yl, y3]; exact z2.2.1
    · rw [yl, y4]; exact z2.2.2
    · exact tp_Co_A (A := μ1.1) (fun i i0 i1 => y10 i (by unfold m_Lc; omega) (by omega) (by omega)) (tp_Co_f (fun i i0 i1 => y7 i i0 i1) z5)
  · refine tp_kc (fun r μ1 z => ?_) (s_xt01s0 hG hT hlen hln hTm hM hMs hfl)
    obtain ⟨z1, z2, z3, z4, z6⟩ := z
    refine ⟨-1, z1, tp_kc (fun r2 μ2 y => ?_) (s_mt01s0 (T := T) (len := len) hG hT hlen (by rw [z6 203 (by omega) (by omega)]; exact hL.2.2.symm) (fun j j0 j1 => by rw [z6 202 (by omega) (by omega), ← tp_R_tape hR j j0 (by omega)]; exact hTm j j0 j1) (by rw [z6 206 (by omega) (by omega)]; exact hm9.1.symm.trans hM) hMs hfl)⟩
    obtain ⟨y1, y2, y3, y4, y9, y10⟩ := y
    have yl : μ2.1 1 = μ1.1 1 := y10 1 (by unfold m_Lc; omega)
    refine ⟨y1, tp_R_head hR (fun k hk k1 k2 k3 => ?_) (fun j hj => ?_) (fun q hq => ?_) ?_ (fun j j0 j1 => ?_) ⟨?_, ?_⟩⟩
    · unfold tp_tl at hk
      rw [y10 k (by unfold m_Lc; omega), z6 k k1 (by omega)]
    · rw [y10 202 (by unfold m_Lc; omega), z6 202 (by omega) (by omega)]
    · rw [(y9 q hq).1, (y9 q hq).2.1, (y9 q hq).2.2, z6 203 (by omega) (by omega), z6 204 (by omega) (by omega), z6 205 (by omega) (by omega)]; exact ⟨rfl, rfl, rfl⟩
    · rw [yl, z2, y2]; decide
    · rw [yl, z2] at j1; omega
    · rw [yl, z3, y3]
    · rw [yl, z4, y4]
set_option maxHeartbeats 4000000 in
set_option maxRecDepth 100000 in
theorem s_readY1 {G : tp_G} {μ : tp_M} (hG : tp_Gf G = true) {T : Int → Int} {len : Int} (hT : ∀ j, 0 ≤ T j ∧ T j ≤ 255) (hlen : 0 ≤ len ∧ len ≤ 600) (hTm : ∀ j, 0 ≤ j → j < len → tp_and (μ.1 2 j) 255 = T j) (hfl : (t_flt 1 T len).1 = 0) : tp_k G mX5_read [tR (some 41), tR (some 2), tI len, tI 1] μ (fun r μ' => r = some (tI 1) ∧ t_cont 1 (t_tld 1 T len) μ' ∧ rd_G μ μ') :=
  tp_kc (fun r μ' z => ⟨z.1.trans (by rw [if_pos hfl]), z.2.2.2.1 hfl, z.2.2.2.2⟩) (s_read1 hG hT hlen hTm)
theorem s_readN1 {G : tp_G} {μ : tp_M} (hG : tp_Gf G = true) {T : Int → Int} {len : Int} (hT : ∀ j, 0 ≤ T j ∧ T j ≤ 255) (hlen : 0 ≤ len ∧ len ≤ 600) (hTm : ∀ j, 0 ≤ j → j < len → tp_and (μ.1 2 j) 255 = T j) (hfl : (t_flt 1 T len).1 ≠ 0) : tp_k G mX5_read [tR (some 41), tR (some 2), tI len, tI 1] μ (fun r μ' => r = some (tI 0) ∧ μ'.1 41 8 = (t_flt 1 T len).1 ∧ μ'.1 41 9 = (t_flt 1 T len).2 ∧ rd_G μ μ') :=
  tp_kc (fun r μ' z => ⟨z.1.trans (by rw [if_neg hfl]), z.2.1, z.2.2.1, z.2.2.2.2⟩) (s_read1 hG hT hlen hTm)
theorem s_rtxY1 {G : tp_G} {μ : tp_M} (hG : tp_Gf G = true) {T : Int → Int} {len : Int} (hT : ∀ j, 0 ≤ T j ∧ T j ≤ 255) (hC : rd_C T len μ) (hfl : (t_flt 1 T len).1 = 0) : tp_k G mX12_readText [tR (some 201), tI 1] μ (fun r μ' => r = some (tI 1) ∧ μ'.1 204 0 = 0 ∧ μ'.1 205 0 = -1 ∧ (∀ j, 0 ≤ j → j < 129 → μ'.1 211 j = t_tld 1 T len j) ∧ m_H μ μ') :=
  tp_kc (fun r μ' z => ⟨z.1.trans (by rw [if_pos hfl]), z.2.1.trans hfl, z.2.2.1.trans (by rw [(t_wm ⟨by decide, by decide⟩ hC.2.1.1 hfl).1]), z.2.2.2.1 hfl, z.2.2.2.2⟩) (s_rtx1 hG hT hC)
theorem s_rtxN1 {G : tp_G} {μ : tp_M} (hG : tp_Gf G = true) {T : Int → Int} {len : Int} (hT : ∀ j, 0 ≤ T j ∧ T j ≤ 255) (hC : rd_C T len μ) (hfl : (t_flt 1 T len).1 ≠ 0) : tp_k G mX12_readText [tR (some 201), tI 1] μ (fun r μ' => r = some (tI 0) ∧ μ'.1 204 0 = (t_flt 1 T len).1 ∧ μ'.1 205 0 = (t_flt 1 T len).2 ∧ m_H μ μ') :=
  tp_kc (fun r μ' z => ⟨z.1.trans (by rw [if_neg hfl]), z.2.1, z.2.2.1, z.2.2.2.2⟩) (s_rtx1 hG hT hC)
set_option maxHeartbeats 4000000 in
set_option maxRecDepth 100000 in
theorem s_xt10m1 {G : tp_G} {μ : tp_M} (hG : tp_Gf G = true) {T : Int → Int} {len : Int} (hT : ∀ j, 0 ≤ T j ∧ T j ≤ 255) (hlen : 0 ≤ len ∧ len ≤ 600) (hln : μ.1 1 1 = len) (hTm : ∀ j, 0 ≤ j → j < len → tp_and (μ.1 2 j) 255 = T j) (hM : μ.1 5 1 = 0) (hfl : (t_flt 1 T len).1 = 0) : tp_k G mX11_text [tR (some 0), tI 1, tI (-1)] μ (fun r μ' => r = some (tI 0) ∧ (μ'.1 1 1 = 0 ∧ μ'.1 1 2 = 0 ∧ μ'.1 1 3 = -1) ∧ μ'.1 5 1 = 1 ∧ (∀ t, t ≠ 1 → μ'.1 5 t = μ.1 5 t) ∧ tp_Dr μ'.1 22 (t_tld 1 T len) ∧ (∀ c, c ≠ 1 → c ≠ 5 → (c < 22 ∨ 24 < c) → (c < 41 ∨ 49 < c) → μ'.1 c = μ.1 c)) := by
  refine tp_ok_of mX11_text_ok rfl (Nat.le_refl _) ?_
  refine g_aload_n rfl rfl ?_
  refine x_getF (r := 1) hG rfl rfl (by decide) (Or.inl ⟨_, rfl⟩) rfl ?_
  refine x_geti (v := len) rfl rfl (by decide) (Or.inl rfl) hln ?_
  refine g_istore_n rfl rfl rfl ?_
  refine g_aload_n rfl rfl ?_
  refine x_getF (r := 1) hG rfl rfl (by decide) (Or.inl ⟨_, rfl⟩) rfl ?_
  refine g_iconst rfl ⟨by decide, by decide⟩ ?_
  refine g_puti rfl rfl (by decide) rfl rfl ?_
  refine g_aload_n rfl rfl ?_
  refine x_getF (r := 1) hG rfl rfl (by decide) (Or.inl ⟨_, rfl⟩) rfl ?_
  refine g_iconst rfl ⟨by decide, by decide⟩ ?_
  refine g_puti rfl rfl (by decide) rfl rfl ?_
  refine g_aload_n rfl rfl ?_
  refine x_getF (r := 1) hG rfl rfl (by decide) (Or.inl ⟨_, rfl⟩) rfl ?_
  refine g_iconst rfl ⟨by decide, by decide⟩ ?_
  refine g_puti rfl rfl (by decide) rfl rfl ?_
  refine g_aload_n rfl rfl ?_
  refine x_getF (r := 1) hG rfl rfl (by decide) (Or.inl ⟨_, rfl⟩) rfl ?_
  refine g_iload_n rfl rfl ?_
  refine g_iload_n rfl rfl ?_
  refine g_iV (as := [tI 1, tI (-1)]) mX9_slotFor_ok rfl rfl rfl rfl rfl rfl (by decide) rfl rfl rfl ?_
  refine g_iload_n rfl rfl ?_
  refine g_if_lt (tgt := 9) rfl (by decide) (fun hx => absurd hx (by omega)) (fun _ => ?_)
  refine g_iload_n rfl rfl ?_
  refine g_iconst rfl ⟨by decide, by decide⟩ ?_
  refine g_icmp_lt (tgt := 11) rfl (by decide) (fun _ => ?_) (fun hx => absurd hx (by omega))
  refine g_aload_n rfl rfl ?_
  refine x_getF (r := 5) hG rfl rfl (by decide) (Or.inr ⟨_, rfl⟩) rfl ?_
  refine g_iload_n rfl rfl ?_
  refine x_iald (v := 0) rfl rfl (by decide) (by decide) (by decide) hM ?_
  refine g_istore_n rfl rfl rfl ?_
  refine g_iload_n rfl rfl ?_
  refine g_iconst rfl ⟨by decide, by decide⟩ ?_
  refine g_icmp_ne (tgt := 34) rfl (by decide) (fun hx => absurd hx (by omega)) (fun _ => ?_)
  refine g_iload_n rfl rfl ?_
  refine g_iconst rfl ⟨by decide, by decide⟩ ?_
  refine g_icmp_ge (tgt := 32) rfl (by decide) (fun hx => absurd hx (by omega)) (fun _ => ?_)
  refine g_iload_n rfl rfl ?_
  refine g_goto (tgt := 33) rfl (by decide) ?_
  refine x_ireturn rfl rfl ?_
  intro _
  refine g_istore rfl rfl rfl ?_
  refine g_iload rfl rfl ?_
  refine g_iconst rfl ⟨by decide, by decide⟩ ?_
  refine g_icmp_ne (tgt := 52) rfl (by decide) (fun _ => ?_) (fun hx => absurd hx (by omega))
  refine g_aload_n rfl rfl ?_
  refine x_getF (r := 41) hG rfl rfl (by decide) (Or.inl ⟨_, rfl⟩) rfl ?_
  refine g_aload_n rfl rfl ?_
  refine x_getF (r := 1) hG rfl rfl (by decide) (Or.inl ⟨_, rfl⟩) rfl ?_
  refine x_getF (r := 2) hG rfl rfl (by decide) (Or.inr ⟨_, rfl⟩) rfl ?_
  refine g_iload_n rfl rfl ?_
  refine g_iload_n rfl rfl ?_
  refine g_cV (as := [tR (some 2), tI len, tI 1]) (s_readY1 hG hT hlen hTm hfl) rfl rfl mX5_read_ok rfl rfl rfl (by decide) rfl rfl rfl ?_
  rintro _ w1 ⟨rfl, hct, hR1⟩ _
  have hwm := t_wm1 hlen.1 hfl
  have hsz9 : 0 ≤ w1.1 47 2 ∧ w1.1 47 2 ≤ 60 := by have := hct.1; have := hwm.1; omega
  refine g_if_ne (tgt := 101) rfl (by decide) (fun _ => ?_) (fun hx => absurd hx (by omega))
  refine g_aload_n rfl rfl ?_
  refine x_getF (r := 1) hG rfl rfl (by decide) (Or.inl ⟨_, rfl⟩) rfl ?_
  refine g_iload_n rfl rfl ?_
  refine g_iload rfl rfl ?_
  refine g_aload_n rfl rfl ?_
  refine x_getF (r := 41) hG rfl rfl (by decide) (Or.inl ⟨_, rfl⟩) rfl ?_
  refine g_iV (as := [tI 1, tI 0, tR (some 41)]) mX9_keep_ok rfl rfl rfl rfl rfl rfl (by decide) rfl rfl rfl ?_
  refine g_iload_n rfl rfl ?_
  refine g_if_lt (tgt := 18) rfl (by decide) (fun hx => absurd hx (by omega)) (fun _ => ?_)
  refine g_iload_n rfl rfl ?_
  refine g_iconst rfl ⟨by decide, by decide⟩ ?_
  refine g_icmp_ge (tgt := 18) rfl (by decide) (fun hx => absurd hx (by omega)) (fun _ => ?_)
  refine g_iload_n rfl rfl ?_
  refine g_if_lt (tgt := 18) rfl (by decide) (fun hx => absurd hx (by omega)) (fun _ => ?_)
  refine g_iload_n rfl rfl ?_
  refine g_iconst rfl ⟨by decide, by decide⟩ ?_
  refine g_icmp_lt (tgt := 19) rfl (by decide) (fun _ => ?_) (fun hx => absurd hx (by omega))
  refine g_iload_n rfl rfl ?_
  refine g_if_ne (tgt := 39) rfl (by decide) (fun _ => ?_) (fun hx => absurd hx (by omega))
  refine g_aload_n rfl rfl ?_
  refine x_getF (r := 4) hG rfl rfl (by decide) (Or.inr ⟨_, rfl⟩) rfl ?_
  refine g_iload_n rfl rfl ?_
  refine g_iconst rfl ⟨by decide, by decide⟩ ?_
  refine x_imul (z := 2) rfl (by omega) ⟨by omega, by omega⟩ ?_
  refine g_iload_n rfl rfl ?_
  refine x_iadd (z := 2) rfl (by omega) ⟨by omega, by omega⟩ ?_
  refine x_aald (t0 := 5) (r := 22) hG rfl rfl rfl (by decide) (by decide) (by decide) rfl ?_
  refine g_aload_n rfl rfl ?_
  refine x_getF (r := 47) hG rfl rfl (by decide) (Or.inl ⟨_, rfl⟩) rfl ?_
  refine g_cV (as := [tR (some 47)]) (s_rcop2 hG (c := 47) (d := 22) rfl rfl (by decide) (by decide) (by decide) hsz9.1 (show w1.1 47 2 ≤ (60 : Int) by omega) (show w1.1 47 2 ≤ (60 : Int) by omega) (by omega)) rfl rfl mX6_copyFrom_ok rfl rfl rfl (by decide) rfl rfl rfl ?_
  rintro _ w2 ⟨rfl, hK2, hK3, hF2⟩ _
  have hM2 : w2.1 5 1 = 0 := by rw [hF2 5 (by omega), hR1 5 (by omega)]; exact hM
  refine g_aload_n rfl rfl ?_
  refine x_getF (r := 5) hG rfl rfl (by decide) (Or.inr ⟨_, rfl⟩) rfl ?_
  refine g_iload_n rfl rfl ?_
  refine g_aload_n rfl rfl ?_
  refine x_getF (r := 5) hG rfl rfl (by decide) (Or.inr ⟨_, rfl⟩) rfl ?_
  refine g_iload_n rfl rfl ?_
  refine x_iald (v := 0) rfl rfl (by decide) (by decide) (by decide) hM2 ?_
  refine g_iload_n rfl rfl ?_
  refine g_iconst rfl ⟨by decide, by decide⟩ ?_
  refine x_iadd (z := 1) rfl (by omega) ⟨by omega, by omega⟩ ?_
  refine x_max (z := 1) rfl rfl (by omega) ?_
  refine g_iast rfl rfl (by decide) (by decide) (by decide) ?_
  refine x_return rfl rfl ?_
  intro _
  refine g_iload rfl rfl ?_
  refine x_ireturn rfl rfl ?_
  exact ⟨rfl, ⟨by rw [tp_pi_ne (by omega), hF2 1 (by omega), hR1 1 (by omega)]; rfl, by rw [tp_pi_ne (by omega), hF2 1 (by omega), hR1 1 (by omega)]; rfl, by rw [tp_pi_ne (by omega), hF2 1 (by omega), hR1 1 (by omega)]; rfl⟩, tp_pi_at.trans (by omega), fun t z => by rw [tp_pi_ix z, hF2 5 (by omega), hR1 5 (by omega)]; rfl, tp_Dr_A (A := w2.1) (fun i i0 i1 => tp_pi_ne (by omega)) (x_k1 hct hwm ⟨hK2, hK3⟩), fun c z1 z2 z3 z4 => by rw [tp_pi_ne z2, hF2 c (by omega), hR1 c z4, tp_pi_ne z1, tp_pi_ne z1, tp_pi_ne z1]⟩
set_option maxHeartbeats 4000000 in
set_option maxRecDepth 100000 in
theorem s_mt10m1 {G : tp_G} {μ : tp_M} (hG : tp_Gf G = true) {T : Int → Int} {len : Int} (hT : ∀ j, 0 ≤ T j ∧ T j ≤ 255) (hlen : 0 ≤ len ∧ len ≤ 600) (h203 : μ.1 203 0 = len) (hTr : ∀ j, 0 ≤ j → j < len → tp_and (μ.1 202 j) 255 = T j) (hM : μ.1 206 1 = 0) (hfl : (t_flt 1 T len).1 = 0) : tp_k G mX12_text [tR (some 201), tI 1, tI (-1)] μ (fun r μ' => r = some (tI 0) ∧ μ'.1 203 0 = 0 ∧ μ'.1 204 0 = 0 ∧ μ'.1 205 0 = -1 ∧ μ'.1 206 1 = 1 ∧ (∀ t, t ≠ 1 → μ'.1 206 t = μ.1 206 t) ∧ (∀ j, 0 ≤ j → j < 61 → μ'.1 208 (0 + j) = t_tld 1 T len j) ∧ (∀ j, (j < 0 ∨ 61 ≤ j) → μ'.1 208 j = μ.1 208 j) ∧ m_Qc μ μ' ∧ (∀ c, m_Lc c → c ≠ 206 → c ≠ 208 → μ'.1 c = μ.1 c)) := by
  refine tp_ok_of mX12_text_ok rfl (Nat.le_refl _) ?_
  refine g_aload_n rfl rfl ?_
  refine g_iconst rfl ⟨by decide, by decide⟩ ?_
  refine g_puti rfl rfl (by decide) rfl rfl ?_
  refine g_aload_n rfl rfl ?_
  refine g_aload_n rfl rfl ?_
  refine x_getF (r := 203) hG rfl rfl (by decide) (Or.inr ⟨_, rfl⟩) rfl ?_
  refine g_iconst rfl ⟨by decide, by decide⟩ ?_
  refine x_iald (v := len) rfl rfl (by decide) (by decide) (by decide) h203 ?_
  refine g_puti rfl rfl (by decide) rfl rfl ?_
  refine g_aload_n rfl rfl ?_
  refine x_getF (r := 203) hG rfl rfl (by decide) (Or.inr ⟨_, rfl⟩) rfl ?_
  refine g_iconst rfl ⟨by decide, by decide⟩ ?_
  refine g_iconst rfl ⟨by decide, by decide⟩ ?_
  refine g_iast rfl rfl (by decide) (by decide) (by decide) ?_
  refine g_aload_n rfl rfl ?_
  refine x_getF (r := 204) hG rfl rfl (by decide) (Or.inr ⟨_, rfl⟩) rfl ?_
  refine g_iconst rfl ⟨by decide, by decide⟩ ?_
  refine g_iconst rfl ⟨by decide, by decide⟩ ?_
  refine g_iast rfl rfl (by decide) (by decide) (by decide) ?_
  refine g_aload_n rfl rfl ?_
  refine x_getF (r := 205) hG rfl rfl (by decide) (Or.inr ⟨_, rfl⟩) rfl ?_
  refine g_iconst rfl ⟨by decide, by decide⟩ ?_
  refine g_iconst rfl ⟨by decide, by decide⟩ ?_
  refine g_iast rfl rfl (by decide) (by decide) (by decide) ?_
  refine g_iload_n rfl rfl ?_
  refine g_iconst rfl ⟨by decide, by decide⟩ ?_
  refine g_iconst rfl ⟨by decide, by decide⟩ ?_
  refine g_iS (as := [tI 1, tI 0, tI 3]) mX12_in_ok rfl rfl rfl rfl rfl rfl rfl ?_
  refine g_iload_n rfl rfl ?_
  refine g_iload_n rfl rfl ?_
  refine g_icmp_lt (tgt := 14) rfl (by decide) (fun hx => absurd hx (by omega)) (fun _ => ?_)
  refine g_iload_n rfl rfl ?_
  refine g_iload_n rfl rfl ?_
  refine g_icmp_gt (tgt := 14) rfl (by decide) (fun hx => absurd hx (by omega)) (fun _ => ?_)
  refine g_iconst rfl ⟨by decide, by decide⟩ ?_
  refine g_goto (tgt := 15) rfl (by decide) ?_
  refine x_zreturn rfl rfl (Or.inr rfl) ?_
  intro _
  refine g_if_eq (tgt := 72) rfl (by decide) (fun hx => absurd hx (by omega)) (fun _ => ?_)
  refine g_iload_n rfl rfl ?_
  refine g_iconst rfl ⟨by decide, by decide⟩ ?_
  refine g_icmp_ne (tgt := 63) rfl (by decide) (fun hx => absurd hx (by omega)) (fun _ => ?_)
  refine g_aload_n rfl rfl ?_
  refine x_getF (r := 206) hG rfl rfl (by decide) (Or.inr ⟨_, rfl⟩) rfl ?_
  refine g_iload_n rfl rfl ?_
  refine x_iald (v := 0) rfl rfl (by decide) (by decide) (by decide) hM ?_
  refine g_iconst rfl ⟨by decide, by decide⟩ ?_
  refine g_icmp_ne (tgt := 75) rfl (by decide) (fun _ => ?_) (fun hx => absurd hx (by omega))
  refine g_aload_n rfl rfl ?_
  refine g_iload_n rfl rfl ?_
  refine g_cV (as := [tI 1]) (s_rtxY1 (T := T) (len := len) hG hT ⟨rfl, hlen, hTr⟩ hfl) rfl rfl mX12_readText_ok rfl rfl rfl (by decide) rfl rfl rfl ?_
  rintro _ w1 ⟨rfl, h204, h205, hto, hH1⟩ _
  have hM1 : w1.1 206 1 = 0 := by rw [hH1.1 206 (by omega) (by omega) (by omega) (by omega)]; exact hM
  refine g_if_ne (tgt := 85) rfl (by decide) (fun _ => ?_) (fun hx => absurd hx (by omega))
  refine g_iload_n rfl rfl ?_
  refine g_iconst rfl ⟨by decide, by decide⟩ ?_
  refine g_icmp_ne (tgt := 99) rfl (by decide) (fun hx => absurd hx (by omega)) (fun _ => ?_)
  refine g_aload_n rfl rfl ?_
  refine x_getF (r := 206) hG rfl rfl (by decide) (Or.inr ⟨_, rfl⟩) rfl ?_
  refine g_iload_n rfl rfl ?_
  refine x_iald (v := 0) rfl rfl (by decide) (by decide) (by decide) hM1 ?_
  refine g_goto (tgt := 100) rfl (by decide) ?_
  refine g_istore_n rfl rfl rfl ?_
  refine g_aload_n rfl rfl ?_
  refine x_getF (r := 206) hG rfl rfl (by decide) (Or.inr ⟨_, rfl⟩) rfl ?_
  refine g_iload_n rfl rfl ?_
  refine g_dup2 rfl ?_
  refine x_iald (v := 0) rfl rfl (by decide) (by decide) (by decide) hM1 ?_
  refine g_iload_n rfl rfl ?_
  refine g_iconst rfl ⟨by decide, by decide⟩ ?_
  refine g_icmp_ne (tgt := 117) rfl (by decide) (fun hx => absurd hx (by omega)) (fun _ => ?_)
  refine g_iconst rfl ⟨by decide, by decide⟩ ?_
  refine g_goto (tgt := 118) rfl (by decide) ?_
  refine x_iadd (z := 1) rfl (by omega) ⟨by omega, by omega⟩ ?_
  refine g_iast rfl rfl (by decide) (by decide) (by decide) ?_
  refine g_iload_n rfl rfl ?_
  refine g_if_ne (tgt := 139) rfl (by decide) (fun _ => ?_) (fun hx => absurd hx (by omega))
  refine g_iload_n rfl rfl ?_
  refine g_iconst rfl ⟨by decide, by decide⟩ ?_
  refine g_icmp_ne (tgt := 158) rfl (by decide) (fun hx => absurd hx (by omega)) (fun _ => ?_)
  refine g_aload_n rfl rfl ?_
  refine g_aload_n rfl rfl ?_
  refine x_getF (r := 208) hG rfl rfl (by decide) (Or.inr ⟨_, rfl⟩) rfl ?_
  refine g_bipush rfl ⟨by decide, by decide⟩ (by decide) ?_
  refine g_iload_n rfl rfl ?_
  refine g_cV (as := [tR (some 208), tI 61, tI 0]) (s_kpt10 hG) rfl rfl mX12_keep_ok rfl rfl rfl (by decide) rfl rfl rfl ?_
  rintro _ w2 ⟨rfl, hv2, hw2, hF2⟩ _
  refine g_goto (tgt := 188) rfl (by decide) ?_
  refine g_iload_n rfl rfl ?_
  refine x_ireturn rfl rfl ?_
  have q203 : w2.1 203 = _ := (hF2 203 (by omega)).trans ((tp_pi_ne (by omega)).trans (hH1.1 203 (by omega) (by omega) (by omega) (by omega)))
  have q204 : w2.1 204 = w1.1 204 := (hF2 204 (by omega)).trans (tp_pi_ne (by omega))
  have q205 : w2.1 205 = w1.1 205 := (hF2 205 (by omega)).trans (tp_pi_ne (by omega))
  have q206 : w2.1 206 = (tp_pi w1 206 1 1).1 206 := hF2 206 (by omega)
  have q211 : (tp_pi w1 206 1 1).1 211 = w1.1 211 := tp_pi_ne (by omega)
  have qrc : (tp_pi w1 206 1 1).1 208 = _ := (tp_pi_ne (by omega)).trans (hH1.1 208 (by omega) (by omega) (by omega) (by omega))
  refine ⟨rfl, (congrFun q203 0).trans rfl, (congrFun q204 0).trans h204, (congrFun q205 0).trans h205, (congrFun q206 1).trans tp_pi_at, fun t z => ?_, fun j j0 j1 => ((hv2 j j0 j1).trans (congrFun q211 j)).trans (hto j j0 (by omega)), fun j z => ((hw2 j z).trans (congrFun qrc j)).trans rfl, fun q z => ⟨?_, ?_, ?_⟩, fun c z y1 y2 => ?_⟩
  · rw [q206, tp_pi_ix z, hH1.1 206 (by omega) (by omega) (by omega) (by omega)]; rfl
  · rw [q203, tp_pi_ne (by omega), tp_pi_ne (by omega), tp_pi_ix (by omega)]; rfl
  · rw [q204, (hH1.2.2.1 q (by omega)).1, tp_pi_ne (by omega), tp_pi_ix (by omega)]; rfl
  · rw [q205, (hH1.2.2.1 q (by omega)).2, tp_pi_ix (by omega)]; rfl
  · rw [hF2 c y2, tp_pi_ne y1, hH1.1 c z.1 z.2.2.2.2 z.2.2.1 z.2.2.2.1, tp_pi_ne z.2.2.2.1, tp_pi_ne z.2.2.1, tp_pi_ne z.2.1, tp_pi_ne z.1, tp_pi_ne z.1]
set_option maxHeartbeats 4000000 in
set_option maxRecDepth 100000 in
theorem s_xt10m0 {G : tp_G} {μ : tp_M} (hG : tp_Gf G = true) {T : Int → Int} {len : Int} (hT : ∀ j, 0 ≤ T j ∧ T j ≤ 255) (hlen : 0 ≤ len ∧ len ≤ 600) (hln : μ.1 1 1 = len) (hTm : ∀ j, 0 ≤ j → j < len → tp_and (μ.1 2 j) 255 = T j) (hM : μ.1 5 1 = 0) (hfl : (t_flt 1 T len).1 ≠ 0) : tp_k G mX11_text [tR (some 0), tI 1, tI (-1)] μ (fun r μ' => r = some (tI (-1)) ∧ μ'.1 1 1 = 0 ∧ μ'.1 1 2 = (t_flt 1 T len).1 ∧ μ'.1 1 3 = (t_flt 1 T len).2 ∧ (∀ c, c ≠ 1 → (c < 41 ∨ 49 < c) → μ'.1 c = μ.1 c)) := by
  refine tp_ok_of mX11_text_ok rfl (Nat.le_refl _) ?_
  refine g_aload_n rfl rfl ?_
  refine x_getF (r := 1) hG rfl rfl (by decide) (Or.inl ⟨_, rfl⟩) rfl ?_
  refine x_geti (v := len) rfl rfl (by decide) (Or.inl rfl) hln ?_
  refine g_istore_n rfl rfl rfl ?_
  refine g_aload_n rfl rfl ?_
  refine x_getF (r := 1) hG rfl rfl (by decide) (Or.inl ⟨_, rfl⟩) rfl ?_
  refine g_iconst rfl ⟨by decide, by decide⟩ ?_
  refine g_puti rfl rfl (by decide) rfl rfl ?_
  refine g_aload_n rfl rfl ?_
  refine x_getF (r := 1) hG rfl rfl (by decide) (Or.inl ⟨_, rfl⟩) rfl ?_
  refine g_iconst rfl ⟨by decide, by decide⟩ ?_
  refine g_puti rfl rfl (by decide) rfl rfl ?_
  refine g_aload_n rfl rfl ?_
  refine x_getF (r := 1) hG rfl rfl (by decide) (Or.inl ⟨_, rfl⟩) rfl ?_
  refine g_iconst rfl ⟨by decide, by decide⟩ ?_
  refine g_puti rfl rfl (by decide) rfl rfl ?_
  refine g_aload_n rfl rfl ?_
  refine x_getF (r := 1) hG rfl rfl (by decide) (Or.inl ⟨_, rfl⟩) rfl ?_
  refine g_iload_n rfl rfl ?_
  refine g_iload_n rfl rfl ?_
  refine g_iV (as := [tI 1, tI (-1)]) mX9_slotFor_ok rfl rfl rfl rfl rfl rfl (by decide) rfl rfl rfl ?_
  refine g_iload_n rfl rfl ?_
  refine g_if_lt (tgt := 9) rfl (by decide) (fun hx => absurd hx (by omega)) (fun _ => ?_)
  refine g_iload_n rfl rfl ?_
  refine g_iconst rfl ⟨by decide, by decide⟩ ?_
  refine g_icmp_lt (tgt := 11) rfl (by decide) (fun _ => ?_) (fun hx => absurd hx (by omega))
  refine g_aload_n rfl rfl ?_
  refine x_getF (r := 5) hG rfl rfl (by decide) (Or.inr ⟨_, rfl⟩) rfl ?_
  refine g_iload_n rfl rfl ?_
  refine x_iald (v := 0) rfl rfl (by decide) (by decide) (by decide) hM ?_
  refine g_istore_n rfl rfl rfl ?_
  refine g_iload_n rfl rfl ?_
  refine g_iconst rfl ⟨by decide, by decide⟩ ?_
  refine g_icmp_ne (tgt := 34) rfl (by decide) (fun hx => absurd hx (by omega)) (fun _ => ?_)
  refine g_iload_n rfl rfl ?_
  refine g_iconst rfl ⟨by decide, by decide⟩ ?_
  refine g_icmp_ge (tgt := 32) rfl (by decide) (fun hx => absurd hx (by omega)) (fun _ => ?_)
  refine g_iload_n rfl rfl ?_
  refine g_goto (tgt := 33) rfl (by decide) ?_
  refine x_ireturn rfl rfl ?_
  intro _
  refine g_istore rfl rfl rfl ?_
  refine g_iload rfl rfl ?_
  refine g_iconst rfl ⟨by decide, by decide⟩ ?_
  refine g_icmp_ne (tgt := 52) rfl (by decide) (fun _ => ?_) (fun hx => absurd hx (by omega))
  refine g_aload_n rfl rfl ?_
  refine x_getF (r := 41) hG rfl rfl (by decide) (Or.inl ⟨_, rfl⟩) rfl ?_
  refine g_aload_n rfl rfl ?_
  refine x_getF (r := 1) hG rfl rfl (by decide) (Or.inl ⟨_, rfl⟩) rfl ?_
  refine x_getF (r := 2) hG rfl rfl (by decide) (Or.inr ⟨_, rfl⟩) rfl ?_
  refine g_iload_n rfl rfl ?_
  refine g_iload_n rfl rfl ?_
  refine g_cV (as := [tR (some 2), tI len, tI 1]) (s_readN1 hG hT hlen hTm hfl) rfl rfl mX5_read_ok rfl rfl rfl (by decide) rfl rfl rfl ?_
  rintro _ w1 ⟨rfl, h8, h9, hR1⟩ _
  refine g_if_ne (tgt := 101) rfl (by decide) (fun hx => absurd hx (by omega)) (fun _ => ?_)
  refine g_aload_n rfl rfl ?_
  refine x_getF (r := 1) hG rfl rfl (by decide) (Or.inl ⟨_, rfl⟩) rfl ?_
  refine g_aload_n rfl rfl ?_
  refine x_getF (r := 41) hG rfl rfl (by decide) (Or.inl ⟨_, rfl⟩) rfl ?_
  refine x_geti (v := ((t_flt 1 T len).1)) rfl rfl (by decide) (Or.inl rfl) h8 ?_
  refine g_puti rfl rfl (by decide) rfl rfl ?_
  refine g_aload_n rfl rfl ?_
  refine x_getF (r := 1) hG rfl rfl (by decide) (Or.inl ⟨_, rfl⟩) rfl ?_
  refine g_aload_n rfl rfl ?_
  refine x_getF (r := 41) hG rfl rfl (by decide) (Or.inl ⟨_, rfl⟩) rfl ?_
  refine x_geti (v := ((t_flt 1 T len).2)) rfl rfl (by decide) (Or.inl rfl) h9 ?_
  refine g_puti rfl rfl (by decide) rfl rfl ?_
  refine g_iconst rfl ⟨by decide, by decide⟩ ?_
  refine x_ireturn rfl rfl ?_
  exact ⟨rfl, (congrFun (hR1 1 (by omega)) 1).trans rfl, rfl, rfl, fun c z y => by rw [tp_pi_ne z, tp_pi_ne z, hR1 c y, tp_pi_ne z, tp_pi_ne z, tp_pi_ne z]⟩
set_option maxHeartbeats 4000000 in
set_option maxRecDepth 100000 in
theorem s_mt10m0 {G : tp_G} {μ : tp_M} (hG : tp_Gf G = true) {T : Int → Int} {len : Int} (hT : ∀ j, 0 ≤ T j ∧ T j ≤ 255) (hlen : 0 ≤ len ∧ len ≤ 600) (h203 : μ.1 203 0 = len) (hTr : ∀ j, 0 ≤ j → j < len → tp_and (μ.1 202 j) 255 = T j) (hM : μ.1 206 1 = 0) (hfl : (t_flt 1 T len).1 ≠ 0) : tp_k G mX12_text [tR (some 201), tI 1, tI (-1)] μ (fun r μ' => r = some (tI (-1)) ∧ μ'.1 203 0 = 0 ∧ μ'.1 204 0 = (t_flt 1 T len).1 ∧ μ'.1 205 0 = (t_flt 1 T len).2 ∧ m_Qc μ μ' ∧ (∀ c, m_Lc c → μ'.1 c = μ.1 c)) := by
  refine tp_ok_of mX12_text_ok rfl (Nat.le_refl _) ?_
  refine g_aload_n rfl rfl ?_
  refine g_iconst rfl ⟨by decide, by decide⟩ ?_
  refine g_puti rfl rfl (by decide) rfl rfl ?_
  refine g_aload_n rfl rfl ?_
  refine g_aload_n rfl rfl ?_
  refine x_getF (r := 203) hG rfl rfl (by decide) (Or.inr ⟨_, rfl⟩) rfl ?_
  refine g_iconst rfl ⟨by decide, by decide⟩ ?_
  refine x_iald (v := len) rfl rfl (by decide) (by decide) (by decide) h203 ?_
  refine g_puti rfl rfl (by decide) rfl rfl ?_
  refine g_aload_n rfl rfl ?_
  refine x_getF (r := 203) hG rfl rfl (by decide) (Or.inr ⟨_, rfl⟩) rfl ?_
  refine g_iconst rfl ⟨by decide, by decide⟩ ?_
  refine g_iconst rfl ⟨by decide, by decide⟩ ?_
  refine g_iast rfl rfl (by decide) (by decide) (by decide) ?_
  refine g_aload_n rfl rfl ?_
  refine x_getF (r := 204) hG rfl rfl (by decide) (Or.inr ⟨_, rfl⟩) rfl ?_
  refine g_iconst rfl ⟨by decide, by decide⟩ ?_
  refine g_iconst rfl ⟨by decide, by decide⟩ ?_
  refine g_iast rfl rfl (by decide) (by decide) (by decide) ?_
  refine g_aload_n rfl rfl ?_
  refine x_getF (r := 205) hG rfl rfl (by decide) (Or.inr ⟨_, rfl⟩) rfl ?_
  refine g_iconst rfl ⟨by decide, by decide⟩ ?_
  refine g_iconst rfl ⟨by decide, by decide⟩ ?_
  refine g_iast rfl rfl (by decide) (by decide) (by decide) ?_
  refine g_iload_n rfl rfl ?_
  refine g_iconst rfl ⟨by decide, by decide⟩ ?_
  refine g_iconst rfl ⟨by decide, by decide⟩ ?_
  refine g_iS (as := [tI 1, tI 0, tI 3]) mX12_in_ok rfl rfl rfl rfl rfl rfl rfl ?_
  refine g_iload_n rfl rfl ?_
  refine g_iload_n rfl rfl ?_
  refine g_icmp_lt (tgt := 14) rfl (by decide) (fun hx => absurd hx (by omega)) (fun _ => ?_)
  refine g_iload_n rfl rfl ?_
  refine g_iload_n rfl rfl ?_
  refine g_icmp_gt (tgt := 14) rfl (by decide) (fun hx => absurd hx (by omega)) (fun _ => ?_)
  refine g_iconst rfl ⟨by decide, by decide⟩ ?_
  refine g_goto (tgt := 15) rfl (by decide) ?_
  refine x_zreturn rfl rfl (Or.inr rfl) ?_
  intro _
  refine g_if_eq (tgt := 72) rfl (by decide) (fun hx => absurd hx (by omega)) (fun _ => ?_)
  refine g_iload_n rfl rfl ?_
  refine g_iconst rfl ⟨by decide, by decide⟩ ?_
  refine g_icmp_ne (tgt := 63) rfl (by decide) (fun hx => absurd hx (by omega)) (fun _ => ?_)
  refine g_aload_n rfl rfl ?_
  refine x_getF (r := 206) hG rfl rfl (by decide) (Or.inr ⟨_, rfl⟩) rfl ?_
  refine g_iload_n rfl rfl ?_
  refine x_iald (v := 0) rfl rfl (by decide) (by decide) (by decide) hM ?_
  refine g_iconst rfl ⟨by decide, by decide⟩ ?_
  refine g_icmp_ne (tgt := 75) rfl (by decide) (fun _ => ?_) (fun hx => absurd hx (by omega))
  refine g_aload_n rfl rfl ?_
  refine g_iload_n rfl rfl ?_
  refine g_cV (as := [tI 1]) (s_rtxN1 (T := T) (len := len) hG hT ⟨rfl, hlen, hTr⟩ hfl) rfl rfl mX12_readText_ok rfl rfl rfl (by decide) rfl rfl rfl ?_
  rintro _ w1 ⟨rfl, h204, h205, hH1⟩ _
  have hM1 : w1.1 206 1 = 0 := by rw [hH1.1 206 (by omega) (by omega) (by omega) (by omega)]; exact hM
  refine g_if_ne (tgt := 85) rfl (by decide) (fun hx => absurd hx (by omega)) (fun _ => ?_)
  refine g_iconst rfl ⟨by decide, by decide⟩ ?_
  refine x_ireturn rfl rfl ?_
  exact ⟨rfl, (congrFun (hH1.1 203 (by omega) (by omega) (by omega) (by omega)) 0).trans rfl, h204, h205, fun q z => ⟨(congrFun (hH1.1 203 (by omega) (by omega) (by omega) (by omega)) q).trans (by rw [tp_pi_ne (by omega), tp_pi_ne (by omega), tp_pi_ix (by omega)]; rfl), ((hH1.2.2.1 q (by omega)).1).trans (by rw [tp_pi_ne (by omega), tp_pi_ix (by omega)]; rfl), ((hH1.2.2.1 q (by omega)).2).trans (by rw [tp_pi_ix (by omega)]; rfl)⟩, fun c z => by rw [hH1.1 c z.1 z.2.2.2.2 z.2.2.1 z.2.2.2.1, tp_pi_ne z.2.2.2.1, tp_pi_ne z.2.2.1, tp_pi_ne z.2.1, tp_pi_ne z.1, tp_pi_ne z.1]⟩
set_option maxHeartbeats 4000000 in
set_option maxRecDepth 100000 in
theorem p_tx10m {G : tp_G} {μ : tp_M} (hG : tp_Gf G = true) (hR : tp_R μ) (hM : μ.1 5 1 = 0) : tp_q G mX11_text mX12_text [tI 1, tI (-1)] μ := by
  have hL := tp_R_len hR
  have hlen : 0 ≤ μ.1 1 1 ∧ μ.1 1 1 ≤ 600 := ⟨hL.1, hL.2.1⟩
  have hm9 := tp_R_many hR 1 (by decide) (by decide)
  have hT : ∀ j, 0 ≤ (fun j => tp_and (μ.1 2 j) 255 : Int → Int) j ∧ (fun j => tp_and (μ.1 2 j) 255 : Int → Int) j ≤ 255 := fun j => tp_and255 _
  generalize hTT : (fun j => tp_and (μ.1 2 j) 255 : Int → Int) = T at hT
  have hTm : ∀ j, 0 ≤ j → j < μ.1 1 1 → tp_and (μ.1 2 j) 255 = T j := fun j _ _ => by rw [← hTT]
  generalize hln : μ.1 1 1 = len at *
  by_cases hfl : (t_flt 1 T len).1 = 0
  · refine tp_kc (fun r μ1 z => ?_) (s_xt10m1 hG hT hlen hln hTm hM hfl)
    obtain ⟨z1, z2, z3, z4, z5, z6⟩ := z
    refine ⟨0, z1, tp_kc (fun r2 μ2 y => ?_) (s_mt10m1 (T := T) (len := len) hG hT hlen (by rw [z6 203 (by omega) (by omega) (by omega) (by omega)]; exact hL.2.2.symm) (fun j j0 j1 => by rw [z6 202 (by omega) (by omega) (by omega) (by omega), ← tp_R_tape hR j j0 (by omega)]; exact hTm j j0 j1) (by rw [z6 206 (by omega) (by omega) (by omega) (by omega)]; exact hm9.1.symm.trans hM) hfl)⟩
    obtain ⟨y1, y2, y3, y4, y5, y6, y7, y8, y9, y10⟩ := y
    have y5' : ∀ j, μ2.1 5 j = μ1.1 5 j := fun j => congrFun (y10 5 (by unfold m_Lc; omega) (by omega) (by omega)) j
    have yl : μ2.1 1 = μ1.1 1 := y10 1 (by unfold m_Lc; omega) (by omega) (by omega)
    refine ⟨y1, tp_R_k10 hR (fun k hk k1 k5 kc k2 kr => ?_) (fun q hq => ?_) (fun j hj => ?_) (fun t t0 t1 tn => ⟨?_, ?_⟩) ⟨?_, ?_, ?_⟩ (fun j hj => ?_) ⟨?_, y2⟩ ⟨?_, ?_⟩ ?_⟩
    · unfold tp_tl at hk
      rw [y10 k (by unfold m_Lc; omega) (by omega) kr, z6 k k1 k5 kc (by omega)]
    · rw [(y9 q hq).1, (y9 q hq).2.1, (y9 q hq).2.2, z6 203 (by omega) (by omega) (by omega) (by omega), z6 204 (by omega) (by omega) (by omega) (by omega), z6 205 (by omega) (by omega) (by omega) (by omega)]; exact ⟨rfl, rfl, rfl⟩
    · rw [y6 j (by omega), z6 206 (by omega) (by omega) (by omega) (by omega)]
    · rw [y5' t, z4 t tn]
    · rw [y6 t tn, z6 206 (by omega) (by omega) (by omega) (by omega)]
    · rw [y5' 1, z3, y5]
    · rw [y5' 1, z3]; omega
    · rw [y5' 1, z3]; omega
    · rw [y8 j hj, z6 208 (by omega) (by omega) (by omega) (by omega)]
    · rw [yl]; exact z2.1
    · rw [yl, y3]; exact z2.2.1
    · rw [yl, y4]; exact z2.2.2
    · exact tp_Dr_A (A := μ1.1) (fun i i0 i1 => y10 i (by unfold m_Lc; omega) (by omega) (by omega)) (tp_Dr_f (fun i i0 i1 => y7 i i0 i1) z5)
  · refine tp_kc (fun r μ1 z => ?_) (s_xt10m0 hG hT hlen hln hTm hM hfl)
    obtain ⟨z1, z2, z3, z4, z6⟩ := z
    refine ⟨-1, z1, tp_kc (fun r2 μ2 y => ?_) (s_mt10m0 (T := T) (len := len) hG hT hlen (by rw [z6 203 (by omega) (by omega)]; exact hL.2.2.symm) (fun j j0 j1 => by rw [z6 202 (by omega) (by omega), ← tp_R_tape hR j j0 (by omega)]; exact hTm j j0 j1) (by rw [z6 206 (by omega) (by omega)]; exact hm9.1.symm.trans hM) hfl)⟩
    obtain ⟨y1, y2, y3, y4, y9, y10⟩ := y
    have yl : μ2.1 1 = μ1.1 1 := y10 1 (by unfold m_Lc; omega)
    refine ⟨y1, tp_R_head hR (fun k hk k1 k2 k3 => ?_) (fun j hj => ?_) (fun q hq => ?_) ?_ (fun j j0 j1 => ?_) ⟨?_, ?_⟩⟩
    · unfold tp_tl at hk
      rw [y10 k (by unfold m_Lc; omega), z6 k k1 (by omega)]
    · rw [y10 202 (by unfold m_Lc; omega), z6 202 (by omega) (by omega)]
    · rw [(y9 q hq).1, (y9 q hq).2.1, (y9 q hq).2.2, z6 203 (by omega) (by omega), z6 204 (by omega) (by omega), z6 205 (by omega) (by omega)]; exact ⟨rfl, rfl, rfl⟩
    · rw [yl, z2, y2]; decide
    · rw [yl, z2] at j1; omega
    · rw [yl, z3, y3]
    · rw [yl, z4, y4]
set_option maxHeartbeats 4000000 in
set_option maxRecDepth 100000 in
theorem s_xt10s1 {G : tp_G} {μ : tp_M} (hG : tp_Gf G = true) {T : Int → Int} {len : Int} (hT : ∀ j, 0 ≤ T j ∧ T j ≤ 255) (hlen : 0 ≤ len ∧ len ≤ 600) (hln : μ.1 1 1 = len) (hTm : ∀ j, 0 ≤ j → j < len → tp_and (μ.1 2 j) 255 = T j) {M : Int} (hM : μ.1 5 1 = M) (hMs : 0 < M ∧ M ≤ 2) (hfl : (t_flt 1 T len).1 = 0) : tp_k G mX11_text [tR (some 0), tI 1, tI 0] μ (fun r μ' => r = some (tI 0) ∧ (μ'.1 1 1 = 0 ∧ μ'.1 1 2 = 0 ∧ μ'.1 1 3 = -1) ∧ μ'.1 5 1 = M ∧ (∀ t, t ≠ 1 → μ'.1 5 t = μ.1 5 t) ∧ tp_Dr μ'.1 22 (t_tld 1 T len) ∧ (∀ c, c ≠ 1 → c ≠ 5 → (c < 22 ∨ 24 < c) → (c < 41 ∨ 49 < c) → μ'.1 c = μ.1 c)) := by
  refine tp_ok_of mX11_text_ok rfl (Nat.le_refl _) ?_
  refine g_aload_n rfl rfl ?_
  refine x_getF (r := 1) hG rfl rfl (by decide) (Or.inl ⟨_, rfl⟩) rfl ?_
  refine x_geti (v := len) rfl rfl (by decide) (Or.inl rfl) hln ?_
  refine g_istore_n rfl rfl rfl ?_
  refine g_aload_n rfl rfl ?_
  refine x_getF (r := 1) hG rfl rfl (by decide) (Or.inl ⟨_, rfl⟩) rfl ?_
  refine g_iconst rfl ⟨by decide, by decide⟩ ?_
  refine g_puti rfl rfl (by decide) rfl rfl ?_
  refine g_aload_n rfl rfl ?_
  refine x_getF (r := 1) hG rfl rfl (by decide) (Or.inl ⟨_, rfl⟩) rfl ?_
  refine g_iconst rfl ⟨by decide, by decide⟩ ?_
  refine g_puti rfl rfl (by decide) rfl rfl ?_
  refine g_aload_n rfl rfl ?_
  refine x_getF (r := 1) hG rfl rfl (by decide) (Or.inl ⟨_, rfl⟩) rfl ?_
  refine g_iconst rfl ⟨by decide, by decide⟩ ?_
  refine g_puti rfl rfl (by decide) rfl rfl ?_
  refine g_aload_n rfl rfl ?_
  refine x_getF (r := 1) hG rfl rfl (by decide) (Or.inl ⟨_, rfl⟩) rfl ?_
  refine g_iload_n rfl rfl ?_
  refine g_iload_n rfl rfl ?_
  refine g_iV (as := [tI 1, tI 0]) mX9_slotFor_ok rfl rfl rfl rfl rfl rfl (by decide) rfl rfl rfl ?_
  refine g_iload_n rfl rfl ?_
  refine g_if_lt (tgt := 9) rfl (by decide) (fun hx => absurd hx (by omega)) (fun _ => ?_)
  refine g_iload_n rfl rfl ?_
  refine g_iconst rfl ⟨by decide, by decide⟩ ?_
  refine g_icmp_lt (tgt := 11) rfl (by decide) (fun _ => ?_) (fun hx => absurd hx (by omega))
  refine g_aload_n rfl rfl ?_
  refine x_getF (r := 5) hG rfl rfl (by decide) (Or.inr ⟨_, rfl⟩) rfl ?_
  refine g_iload_n rfl rfl ?_
  refine x_iald (v := M) rfl rfl (by decide) (by decide) (by decide) hM ?_
  refine g_istore_n rfl rfl rfl ?_
  refine g_iload_n rfl rfl ?_
  refine g_iconst rfl ⟨by decide, by decide⟩ ?_
  refine g_icmp_ne (tgt := 34) rfl (by decide) (fun _ => ?_) (fun hx => absurd hx (by omega))
  refine g_iload_n rfl rfl ?_
  refine g_if_lt (tgt := 43) rfl (by decide) (fun hx => absurd hx (by omega)) (fun _ => ?_)
  refine g_iload_n rfl rfl ?_
  refine g_iload_n rfl rfl ?_
  refine g_icmp_lt (tgt := 47) rfl (by decide) (fun _ => ?_) (fun hx => absurd hx (by omega))
  refine g_iload_n rfl rfl ?_
  refine x_ireturn rfl rfl ?_
  intro _
  refine g_istore rfl rfl rfl ?_
  refine g_iload rfl rfl ?_
  refine g_iconst rfl ⟨by decide, by decide⟩ ?_
  refine g_icmp_ne (tgt := 52) rfl (by decide) (fun _ => ?_) (fun hx => absurd hx (by omega))
  refine g_aload_n rfl rfl ?_
  refine x_getF (r := 41) hG rfl rfl (by decide) (Or.inl ⟨_, rfl⟩) rfl ?_
  refine g_aload_n rfl rfl ?_
  refine x_getF (r := 1) hG rfl rfl (by decide) (Or.inl ⟨_, rfl⟩) rfl ?_
  refine x_getF (r := 2) hG rfl rfl (by decide) (Or.inr ⟨_, rfl⟩) rfl ?_
  refine g_iload_n rfl rfl ?_
  refine g_iload_n rfl rfl ?_
  refine g_cV (as := [tR (some 2), tI len, tI 1]) (s_readY1 hG hT hlen hTm hfl) rfl rfl mX5_read_ok rfl rfl rfl (by decide) rfl rfl rfl ?_
  rintro _ w1 ⟨rfl, hct, hR1⟩ _
  have hwm := t_wm1 hlen.1 hfl
  have hsz9 : 0 ≤ w1.1 47 2 ∧ w1.1 47 2 ≤ 60 := by have := hct.1; have := hwm.1; omega
  refine g_if_ne (tgt := 101) rfl (by decide) (fun _ => ?_) (fun hx => absurd hx (by omega))
  refine g_aload_n rfl rfl ?_
  refine x_getF (r := 1) hG rfl rfl (by decide) (Or.inl ⟨_, rfl⟩) rfl ?_
  refine g_iload_n rfl rfl ?_
  refine g_iload rfl rfl ?_
  refine g_aload_n rfl rfl ?_
  refine x_getF (r := 41) hG rfl rfl (by decide) (Or.inl ⟨_, rfl⟩) rfl ?_
  refine g_iV (as := [tI 1, tI 0, tR (some 41)]) mX9_keep_ok rfl rfl rfl rfl rfl rfl (by decide) rfl rfl rfl ?_
  refine g_iload_n rfl rfl ?_
  refine g_if_lt (tgt := 18) rfl (by decide) (fun hx => absurd hx (by omega)) (fun _ => ?_)
  refine g_iload_n rfl rfl ?_
  refine g_iconst rfl ⟨by decide, by decide⟩ ?_
  refine g_icmp_ge (tgt := 18) rfl (by decide) (fun hx => absurd hx (by omega)) (fun _ => ?_)
  refine g_iload_n rfl rfl ?_
  refine g_if_lt (tgt := 18) rfl (by decide) (fun hx => absurd hx (by omega)) (fun _ => ?_)
  refine g_iload_n rfl rfl ?_
  refine g_iconst rfl ⟨by decide, by decide⟩ ?_
  refine g_icmp_lt (tgt := 19) rfl (by decide) (fun _ => ?_) (fun hx => absurd hx (by omega))
  refine g_iload_n rfl rfl ?_
  refine g_if_ne (tgt := 39) rfl (by decide) (fun _ => ?_) (fun hx => absurd hx (by omega))
  refine g_aload_n rfl rfl ?_
  refine x_getF (r := 4) hG rfl rfl (by decide) (Or.inr ⟨_, rfl⟩) rfl ?_
  refine g_iload_n rfl rfl ?_
  refine g_iconst rfl ⟨by decide, by decide⟩ ?_
  refine x_imul (z := 2) rfl (by omega) ⟨by omega, by omega⟩ ?_
  refine g_iload_n rfl rfl ?_
  refine x_iadd (z := 2) rfl (by omega) ⟨by omega, by omega⟩ ?_
  refine x_aald (t0 := 5) (r := 22) hG rfl rfl rfl (by decide) (by decide) (by decide) rfl ?_
  refine g_aload_n rfl rfl ?_
  refine x_getF (r := 47) hG rfl rfl (by decide) (Or.inl ⟨_, rfl⟩) rfl ?_
  refine g_cV (as := [tR (some 47)]) (s_rcop2 hG (c := 47) (d := 22) rfl rfl (by decide) (by decide) (by decide) hsz9.1 (show w1.1 47 2 ≤ (60 : Int) by omega) (show w1.1 47 2 ≤ (60 : Int) by omega) (by omega)) rfl rfl mX6_copyFrom_ok rfl rfl rfl (by decide) rfl rfl rfl ?_
  rintro _ w2 ⟨rfl, hK2, hK3, hF2⟩ _
  have hM2 : w2.1 5 1 = M := by rw [hF2 5 (by omega), hR1 5 (by omega)]; exact hM
  refine g_aload_n rfl rfl ?_
  refine x_getF (r := 5) hG rfl rfl (by decide) (Or.inr ⟨_, rfl⟩) rfl ?_
  refine g_iload_n rfl rfl ?_
  refine g_aload_n rfl rfl ?_
  refine x_getF (r := 5) hG rfl rfl (by decide) (Or.inr ⟨_, rfl⟩) rfl ?_
  refine g_iload_n rfl rfl ?_
  refine x_iald (v := M) rfl rfl (by decide) (by decide) (by decide) hM2 ?_
  refine g_iload_n rfl rfl ?_
  refine g_iconst rfl ⟨by decide, by decide⟩ ?_
  refine x_iadd (z := 1) rfl (by omega) ⟨by omega, by omega⟩ ?_
  refine x_max (z := M) rfl rfl (by omega) ?_
  refine g_iast rfl rfl (by decide) (by decide) (by decide) ?_
  refine x_return rfl rfl ?_
  intro _
  refine g_iload rfl rfl ?_
  refine x_ireturn rfl rfl ?_
  exact ⟨rfl, ⟨by rw [tp_pi_ne (by omega), hF2 1 (by omega), hR1 1 (by omega)]; rfl, by rw [tp_pi_ne (by omega), hF2 1 (by omega), hR1 1 (by omega)]; rfl, by rw [tp_pi_ne (by omega), hF2 1 (by omega), hR1 1 (by omega)]; rfl⟩, tp_pi_at.trans (by omega), fun t z => by rw [tp_pi_ix z, hF2 5 (by omega), hR1 5 (by omega)]; rfl, tp_Dr_A (A := w2.1) (fun i i0 i1 => tp_pi_ne (by omega)) (x_k1 hct hwm ⟨hK2, hK3⟩), fun c z1 z2 z3 z4 => by rw [tp_pi_ne z2, hF2 c (by omega), hR1 c z4, tp_pi_ne z1, tp_pi_ne z1, tp_pi_ne z1]⟩
set_option maxHeartbeats 4000000 in
set_option maxRecDepth 100000 in
theorem s_mt10s1 {G : tp_G} {μ : tp_M} (hG : tp_Gf G = true) {T : Int → Int} {len : Int} (hT : ∀ j, 0 ≤ T j ∧ T j ≤ 255) (hlen : 0 ≤ len ∧ len ≤ 600) (h203 : μ.1 203 0 = len) (hTr : ∀ j, 0 ≤ j → j < len → tp_and (μ.1 202 j) 255 = T j) {M : Int} (hM : μ.1 206 1 = M) (hMs : 0 < M ∧ M ≤ 2) (hfl : (t_flt 1 T len).1 = 0) : tp_k G mX12_text [tR (some 201), tI 1, tI 0] μ (fun r μ' => r = some (tI 0) ∧ μ'.1 203 0 = 0 ∧ μ'.1 204 0 = 0 ∧ μ'.1 205 0 = -1 ∧ μ'.1 206 1 = M ∧ (∀ t, t ≠ 1 → μ'.1 206 t = μ.1 206 t) ∧ (∀ j, 0 ≤ j → j < 61 → μ'.1 208 (0 + j) = t_tld 1 T len j) ∧ (∀ j, (j < 0 ∨ 61 ≤ j) → μ'.1 208 j = μ.1 208 j) ∧ m_Qc μ μ' ∧ (∀ c, m_Lc c → c ≠ 206 → c ≠ 208 → μ'.1 c = μ.1 c)) := by
  refine tp_ok_of mX12_text_ok rfl (Nat.le_refl _) ?_
  refine g_aload_n rfl rfl ?_
  refine g_iconst rfl ⟨by decide, by decide⟩ ?_
  refine g_puti rfl rfl (by decide) rfl rfl ?_
  refine g_aload_n rfl rfl ?_
  refine g_aload_n rfl rfl ?_
  refine x_getF (r := 203) hG rfl rfl (by decide) (Or.inr ⟨_, rfl⟩) rfl ?_
  refine g_iconst rfl ⟨by decide, by decide⟩ ?_
  refine x_iald (v := len) rfl rfl (by decide) (by decide) (by decide) h203 ?_
  refine g_puti rfl rfl (by decide) rfl rfl ?_
  refine g_aload_n rfl rfl ?_
  refine x_getF (r := 203) hG rfl rfl (by decide) (Or.inr ⟨_, rfl⟩) rfl ?_
  refine g_iconst rfl ⟨by decide, by decide⟩ ?_
  refine g_iconst rfl ⟨by decide, by decide⟩ ?_
  refine g_iast rfl rfl (by decide) (by decide) (by decide) ?_
  refine g_aload_n rfl rfl ?_
  refine x_getF (r := 204) hG rfl rfl (by decide) (Or.inr ⟨_, rfl⟩) rfl ?_
  refine g_iconst rfl ⟨by decide, by decide⟩ ?_
  refine g_iconst rfl ⟨by decide, by decide⟩ ?_
  refine g_iast rfl rfl (by decide) (by decide) (by decide) ?_
  refine g_aload_n rfl rfl ?_
  refine x_getF (r := 205) hG rfl rfl (by decide) (Or.inr ⟨_, rfl⟩) rfl ?_
  refine g_iconst rfl ⟨by decide, by decide⟩ ?_
  refine g_iconst rfl ⟨by decide, by decide⟩ ?_
  refine g_iast rfl rfl (by decide) (by decide) (by decide) ?_
  refine g_iload_n rfl rfl ?_
  refine g_iconst rfl ⟨by decide, by decide⟩ ?_
  refine g_iconst rfl ⟨by decide, by decide⟩ ?_
  refine g_iS (as := [tI 1, tI 0, tI 3]) mX12_in_ok rfl rfl rfl rfl rfl rfl rfl ?_
  refine g_iload_n rfl rfl ?_
  refine g_iload_n rfl rfl ?_
  refine g_icmp_lt (tgt := 14) rfl (by decide) (fun hx => absurd hx (by omega)) (fun _ => ?_)
  refine g_iload_n rfl rfl ?_
  refine g_iload_n rfl rfl ?_
  refine g_icmp_gt (tgt := 14) rfl (by decide) (fun hx => absurd hx (by omega)) (fun _ => ?_)
  refine g_iconst rfl ⟨by decide, by decide⟩ ?_
  refine g_goto (tgt := 15) rfl (by decide) ?_
  refine x_zreturn rfl rfl (Or.inr rfl) ?_
  intro _
  refine g_if_eq (tgt := 72) rfl (by decide) (fun hx => absurd hx (by omega)) (fun _ => ?_)
  refine g_iload_n rfl rfl ?_
  refine g_iconst rfl ⟨by decide, by decide⟩ ?_
  refine g_icmp_ne (tgt := 63) rfl (by decide) (fun _ => ?_) (fun hx => absurd hx (by omega))
  refine g_aload_n rfl rfl ?_
  refine g_iload_n rfl rfl ?_
  refine g_iload_n rfl rfl ?_
  refine g_iV (as := [tI 1, tI 0]) mX12_is_ok rfl rfl rfl rfl rfl rfl (by decide) rfl rfl rfl ?_
  refine g_iload_n rfl rfl ?_
  refine g_iconst rfl ⟨by decide, by decide⟩ ?_
  refine g_aload_n rfl rfl ?_
  refine x_getF (r := 206) hG rfl rfl (by decide) (Or.inr ⟨_, rfl⟩) rfl ?_
  refine g_iload_n rfl rfl ?_
  refine x_iald (v := M) rfl rfl (by decide) (by decide) (by decide) hM ?_
  refine g_iconst rfl ⟨by decide, by decide⟩ ?_
  refine x_isub (z := M - 1) rfl (by omega) ⟨by omega, by omega⟩ ?_
  refine g_iS (as := [tI 0, tI 0, tI (M - 1)]) mX12_in_ok rfl rfl rfl rfl rfl rfl rfl ?_
  refine g_iload_n rfl rfl ?_
  refine g_iload_n rfl rfl ?_
  refine g_icmp_lt (tgt := 14) rfl (by decide) (fun hx => absurd hx (by omega)) (fun _ => ?_)
  refine g_iload_n rfl rfl ?_
  refine g_iload_n rfl rfl ?_
  refine g_icmp_gt (tgt := 14) rfl (by decide) (fun hx => absurd hx (by omega)) (fun _ => ?_)
  refine g_iconst rfl ⟨by decide, by decide⟩ ?_
  refine g_goto (tgt := 15) rfl (by decide) ?_
  refine x_zreturn rfl rfl (Or.inr rfl) ?_
  intro _
  refine x_zreturn rfl rfl (Or.inr rfl) ?_
  intro _
  refine g_if_ne (tgt := 75) rfl (by decide) (fun _ => ?_) (fun hx => absurd hx (by omega))
  refine g_aload_n rfl rfl ?_
  refine g_iload_n rfl rfl ?_
  refine g_cV (as := [tI 1]) (s_rtxY1 (T := T) (len := len) hG hT ⟨rfl, hlen, hTr⟩ hfl) rfl rfl mX12_readText_ok rfl rfl rfl (by decide) rfl rfl rfl ?_
  rintro _ w1 ⟨rfl, h204, h205, hto, hH1⟩ _
  have hM1 : w1.1 206 1 = M := by rw [hH1.1 206 (by omega) (by omega) (by omega) (by omega)]; exact hM
  refine g_if_ne (tgt := 85) rfl (by decide) (fun _ => ?_) (fun hx => absurd hx (by omega))
  refine g_iload_n rfl rfl ?_
  refine g_iconst rfl ⟨by decide, by decide⟩ ?_
  refine g_icmp_ne (tgt := 99) rfl (by decide) (fun _ => ?_) (fun hx => absurd hx (by omega))
  refine g_iload_n rfl rfl ?_
  refine g_istore_n rfl rfl rfl ?_
  refine g_aload_n rfl rfl ?_
  refine x_getF (r := 206) hG rfl rfl (by decide) (Or.inr ⟨_, rfl⟩) rfl ?_
  refine g_iload_n rfl rfl ?_
  refine g_dup2 rfl ?_
  refine x_iald (v := M) rfl rfl (by decide) (by decide) (by decide) hM1 ?_
  refine g_iload_n rfl rfl ?_
  refine g_iconst rfl ⟨by decide, by decide⟩ ?_
  refine g_icmp_ne (tgt := 117) rfl (by decide) (fun _ => ?_) (fun hx => absurd hx (by omega))
  refine g_iconst rfl ⟨by decide, by decide⟩ ?_
  refine x_iadd (z := M) rfl (by omega) ⟨by omega, by omega⟩ ?_
  refine g_iast rfl rfl (by decide) (by decide) (by decide) ?_
  refine g_iload_n rfl rfl ?_
  refine g_if_ne (tgt := 139) rfl (by decide) (fun _ => ?_) (fun hx => absurd hx (by omega))
  refine g_iload_n rfl rfl ?_
  refine g_iconst rfl ⟨by decide, by decide⟩ ?_
  refine g_icmp_ne (tgt := 158) rfl (by decide) (fun hx => absurd hx (by omega)) (fun _ => ?_)
  refine g_aload_n rfl rfl ?_
  refine g_aload_n rfl rfl ?_
  refine x_getF (r := 208) hG rfl rfl (by decide) (Or.inr ⟨_, rfl⟩) rfl ?_
  refine g_bipush rfl ⟨by decide, by decide⟩ (by decide) ?_
  refine g_iload_n rfl rfl ?_
  refine g_cV (as := [tR (some 208), tI 61, tI 0]) (s_kpt10 hG) rfl rfl mX12_keep_ok rfl rfl rfl (by decide) rfl rfl rfl ?_
  rintro _ w2 ⟨rfl, hv2, hw2, hF2⟩ _
  refine g_goto (tgt := 188) rfl (by decide) ?_
  refine g_iload_n rfl rfl ?_
  refine x_ireturn rfl rfl ?_
  have q203 : w2.1 203 = _ := (hF2 203 (by omega)).trans ((tp_pi_ne (by omega)).trans (hH1.1 203 (by omega) (by omega) (by omega) (by omega)))
  have q204 : w2.1 204 = w1.1 204 := (hF2 204 (by omega)).trans (tp_pi_ne (by omega))
  have q205 : w2.1 205 = w1.1 205 := (hF2 205 (by omega)).trans (tp_pi_ne (by omega))
  have q206 : w2.1 206 = (tp_pi w1 206 1 M).1 206 := hF2 206 (by omega)
  have q211 : (tp_pi w1 206 1 M).1 211 = w1.1 211 := tp_pi_ne (by omega)
  have qrc : (tp_pi w1 206 1 M).1 208 = _ := (tp_pi_ne (by omega)).trans (hH1.1 208 (by omega) (by omega) (by omega) (by omega))
  refine ⟨rfl, (congrFun q203 0).trans rfl, (congrFun q204 0).trans h204, (congrFun q205 0).trans h205, (congrFun q206 1).trans tp_pi_at, fun t z => ?_, fun j j0 j1 => ((hv2 j j0 j1).trans (congrFun q211 j)).trans (hto j j0 (by omega)), fun j z => ((hw2 j z).trans (congrFun qrc j)).trans rfl, fun q z => ⟨?_, ?_, ?_⟩, fun c z y1 y2 => ?_⟩
  · rw [q206, tp_pi_ix z, hH1.1 206 (by omega) (by omega) (by omega) (by omega)]; rfl
  · rw [q203, tp_pi_ne (by omega), tp_pi_ne (by omega), tp_pi_ix (by omega)]; rfl
  · rw [q204, (hH1.2.2.1 q (by omega)).1, tp_pi_ne (by omega), tp_pi_ix (by omega)]; rfl
  · rw [q205, (hH1.2.2.1 q (by omega)).2, tp_pi_ix (by omega)]; rfl
  · rw [hF2 c y2, tp_pi_ne y1, hH1.1 c z.1 z.2.2.2.2 z.2.2.1 z.2.2.2.1, tp_pi_ne z.2.2.2.1, tp_pi_ne z.2.2.1, tp_pi_ne z.2.1, tp_pi_ne z.1, tp_pi_ne z.1]
set_option maxHeartbeats 4000000 in
set_option maxRecDepth 100000 in
theorem s_xt10s0 {G : tp_G} {μ : tp_M} (hG : tp_Gf G = true) {T : Int → Int} {len : Int} (hT : ∀ j, 0 ≤ T j ∧ T j ≤ 255) (hlen : 0 ≤ len ∧ len ≤ 600) (hln : μ.1 1 1 = len) (hTm : ∀ j, 0 ≤ j → j < len → tp_and (μ.1 2 j) 255 = T j) {M : Int} (hM : μ.1 5 1 = M) (hMs : 0 < M ∧ M ≤ 2) (hfl : (t_flt 1 T len).1 ≠ 0) : tp_k G mX11_text [tR (some 0), tI 1, tI 0] μ (fun r μ' => r = some (tI (-1)) ∧ μ'.1 1 1 = 0 ∧ μ'.1 1 2 = (t_flt 1 T len).1 ∧ μ'.1 1 3 = (t_flt 1 T len).2 ∧ (∀ c, c ≠ 1 → (c < 41 ∨ 49 < c) → μ'.1 c = μ.1 c)) := by
  refine tp_ok_of mX11_text_ok rfl (Nat.le_refl _) ?_
  refine g_aload_n rfl rfl ?_
  refine x_getF (r := 1) hG rfl rfl (by decide) (Or.inl ⟨_, rfl⟩) rfl ?_
  refine x_geti (v := len) rfl rfl (by decide) (Or.inl rfl) hln ?_
  refine g_istore_n rfl rfl rfl ?_
  refine g_aload_n rfl rfl ?_
  refine x_getF (r := 1) hG rfl rfl (by decide) (Or.inl ⟨_, rfl⟩) rfl ?_
  refine g_iconst rfl ⟨by decide, by decide⟩ ?_
  refine g_puti rfl rfl (by decide) rfl rfl ?_
  refine g_aload_n rfl rfl ?_
  refine x_getF (r := 1) hG rfl rfl (by decide) (Or.inl ⟨_, rfl⟩) rfl ?_
  refine g_iconst rfl ⟨by decide, by decide⟩ ?_
  refine g_puti rfl rfl (by decide) rfl rfl ?_
  refine g_aload_n rfl rfl ?_
  refine x_getF (r := 1) hG rfl rfl (by decide) (Or.inl ⟨_, rfl⟩) rfl ?_
  refine g_iconst rfl ⟨by decide, by decide⟩ ?_
  refine g_puti rfl rfl (by decide) rfl rfl ?_
  refine g_aload_n rfl rfl ?_
  refine x_getF (r := 1) hG rfl rfl (by decide) (Or.inl ⟨_, rfl⟩) rfl ?_
  refine g_iload_n rfl rfl ?_
  refine g_iload_n rfl rfl ?_
  refine g_iV (as := [tI 1, tI 0]) mX9_slotFor_ok rfl rfl rfl rfl rfl rfl (by decide) rfl rfl rfl ?_
  refine g_iload_n rfl rfl ?_
  refine g_if_lt (tgt := 9) rfl (by decide) (fun hx => absurd hx (by omega)) (fun _ => ?_)
  refine g_iload_n rfl rfl ?_
  refine g_iconst rfl ⟨by decide, by decide⟩ ?_
  refine g_icmp_lt (tgt := 11) rfl (by decide) (fun _ => ?_) (fun hx => absurd hx (by omega))
  refine g_aload_n rfl rfl ?_
  refine x_getF (r := 5) hG rfl rfl (by decide) (Or.inr ⟨_, rfl⟩) rfl ?_
  refine g_iload_n rfl rfl ?_
  refine x_iald (v := M) rfl rfl (by decide) (by decide) (by decide) hM ?_
  refine g_istore_n rfl rfl rfl ?_
  refine g_iload_n rfl rfl ?_
  refine g_iconst rfl ⟨by decide, by decide⟩ ?_
  refine g_icmp_ne (tgt := 34) rfl (by decide) (fun _ => ?_) (fun hx => absurd hx (by omega))
  refine g_iload_n rfl rfl ?_
  refine g_if_lt (tgt := 43) rfl (by decide) (fun hx => absurd hx (by omega)) (fun _ => ?_)
  refine g_iload_n rfl rfl ?_
  refine g_iload_n rfl rfl ?_
  refine g_icmp_lt (tgt := 47) rfl (by decide) (fun _ => ?_) (fun hx => absurd hx (by omega))
  refine g_iload_n rfl rfl ?_
  refine x_ireturn rfl rfl ?_
  intro _
  refine g_istore rfl rfl rfl ?_
  refine g_iload rfl rfl ?_
  refine g_iconst rfl ⟨by decide, by decide⟩ ?_
  refine g_icmp_ne (tgt := 52) rfl (by decide) (fun _ => ?_) (fun hx => absurd hx (by omega))
  refine g_aload_n rfl rfl ?_
  refine x_getF (r := 41) hG rfl rfl (by decide) (Or.inl ⟨_, rfl⟩) rfl ?_
  refine g_aload_n rfl rfl ?_
  refine x_getF (r := 1) hG rfl rfl (by decide) (Or.inl ⟨_, rfl⟩) rfl ?_
  refine x_getF (r := 2) hG rfl rfl (by decide) (Or.inr ⟨_, rfl⟩) rfl ?_
  refine g_iload_n rfl rfl ?_
  refine g_iload_n rfl rfl ?_
  refine g_cV (as := [tR (some 2), tI len, tI 1]) (s_readN1 hG hT hlen hTm hfl) rfl rfl mX5_read_ok rfl rfl rfl (by decide) rfl rfl rfl ?_
  rintro _ w1 ⟨rfl, h8, h9, hR1⟩ _
  refine g_if_ne (tgt := 101) rfl (by decide) (fun hx => absurd hx (by omega)) (fun _ => ?_)
  refine g_aload_n rfl rfl ?_
  refine x_getF (r := 1) hG rfl rfl (by decide) (Or.inl ⟨_, rfl⟩) rfl ?_
  refine g_aload_n rfl rfl ?_
  refine x_getF (r := 41) hG rfl rfl (by decide) (Or.inl ⟨_, rfl⟩) rfl ?_
  refine x_geti (v := ((t_flt 1 T len).1)) rfl rfl (by decide) (Or.inl rfl) h8 ?_
  refine g_puti rfl rfl (by decide) rfl rfl ?_
  refine g_aload_n rfl rfl ?_
  refine x_getF (r := 1) hG rfl rfl (by decide) (Or.inl ⟨_, rfl⟩) rfl ?_
  refine g_aload_n rfl rfl ?_
  refine x_getF (r := 41) hG rfl rfl (by decide) (Or.inl ⟨_, rfl⟩) rfl ?_
  refine x_geti (v := ((t_flt 1 T len).2)) rfl rfl (by decide) (Or.inl rfl) h9 ?_
  refine g_puti rfl rfl (by decide) rfl rfl ?_
  refine g_iconst rfl ⟨by decide, by decide⟩ ?_
  refine x_ireturn rfl rfl ?_
  exact ⟨rfl, (congrFun (hR1 1 (by omega)) 1).trans rfl, rfl, rfl, fun c z y => by rw [tp_pi_ne z, tp_pi_ne z, hR1 c y, tp_pi_ne z, tp_pi_ne z, tp_pi_ne z]⟩
set_option maxHeartbeats 4000000 in
set_option maxRecDepth 100000 in
theorem s_mt10s0 {G : tp_G} {μ : tp_M} (hG : tp_Gf G = true) {T : Int → Int} {len : Int} (hT : ∀ j, 0 ≤ T j ∧ T j ≤ 255) (hlen : 0 ≤ len ∧ len ≤ 600) (h203 : μ.1 203 0 = len) (hTr : ∀ j, 0 ≤ j → j < len → tp_and (μ.1 202 j) 255 = T j) {M : Int} (hM : μ.1 206 1 = M) (hMs : 0 < M ∧ M ≤ 2) (hfl : (t_flt 1 T len).1 ≠ 0) : tp_k G mX12_text [tR (some 201), tI 1, tI 0] μ (fun r μ' => r = some (tI (-1)) ∧ μ'.1 203 0 = 0 ∧ μ'.1 204 0 = (t_flt 1 T len).1 ∧ μ'.1 205 0 = (t_flt 1 T len).2 ∧ m_Qc μ μ' ∧ (∀ c, m_Lc c → μ'.1 c = μ.1 c)) := by
  refine tp_ok_of mX12_text_ok rfl (Nat.le_refl _) ?_
  refine g_aload_n rfl rfl ?_
  refine g_iconst rfl ⟨by decide, by decide⟩ ?_
  refine g_puti rfl rfl (by decide) rfl rfl ?_
  refine g_aload_n rfl rfl ?_
  refine g_aload_n rfl rfl ?_
  refine x_getF (r := 203) hG rfl rfl (by decide) (Or.inr ⟨_, rfl⟩) rfl ?_
  refine g_iconst rfl ⟨by decide, by decide⟩ ?_
  refine x_iald (v := len) rfl rfl (by decide) (by decide) (by decide) h203 ?_
  refine g_puti rfl rfl (by decide) rfl rfl ?_
  refine g_aload_n rfl rfl ?_
  refine x_getF (r := 203) hG rfl rfl (by decide) (Or.inr ⟨_, rfl⟩) rfl ?_
  refine g_iconst rfl ⟨by decide, by decide⟩ ?_
  refine g_iconst rfl ⟨by decide, by decide⟩ ?_
  refine g_iast rfl rfl (by decide) (by decide) (by decide) ?_
  refine g_aload_n rfl rfl ?_
  refine x_getF (r := 204) hG rfl rfl (by decide) (Or.inr ⟨_, rfl⟩) rfl ?_
  refine g_iconst rfl ⟨by decide, by decide⟩ ?_
  refine g_iconst rfl ⟨by decide, by decide⟩ ?_
  refine g_iast rfl rfl (by decide) (by decide) (by decide) ?_
  refine g_aload_n rfl rfl ?_
  refine x_getF (r := 205) hG rfl rfl (by decide) (Or.inr ⟨_, rfl⟩) rfl ?_
  refine g_iconst rfl ⟨by decide, by decide⟩ ?_
  refine g_iconst rfl ⟨by decide, by decide⟩ ?_
  refine g_iast rfl rfl (by decide) (by decide) (by decide) ?_
  refine g_iload_n rfl rfl ?_
  refine g_iconst rfl ⟨by decide, by decide⟩ ?_
  refine g_iconst rfl ⟨by decide, by decide⟩ ?_
  refine g_iS (as := [tI 1, tI 0, tI 3]) mX12_in_ok rfl rfl rfl rfl rfl rfl rfl ?_
  refine g_iload_n rfl rfl ?_
  refine g_iload_n rfl rfl ?_
  refine g_icmp_lt (tgt := 14) rfl (by decide) (fun hx => absurd hx (by omega)) (fun _ => ?_)
  refine g_iload_n rfl rfl ?_
  refine g_iload_n rfl rfl ?_
  refine g_icmp_gt (tgt := 14) rfl (by decide) (fun hx => absurd hx (by omega)) (fun _ => ?_)
  refine g_iconst rfl ⟨by decide, by decide⟩ ?_
  refine g_goto (tgt := 15) rfl (by decide) ?_
  refine x_zreturn rfl rfl (Or.inr rfl) ?_
  intro _
  refine g_if_eq (tgt := 72) rfl (by decide) (fun hx => absurd hx (by omega)) (fun _ => ?_)
  refine g_iload_n rfl rfl ?_
  refine g_iconst rfl ⟨by decide, by decide⟩ ?_
  refine g_icmp_ne (tgt := 63) rfl (by decide) (fun _ => ?_) (fun hx => absurd hx (by omega))
  refine g_aload_n rfl rfl ?_
  refine g_iload_n rfl rfl ?_
  refine g_iload_n rfl rfl ?_
  refine g_iV (as := [tI 1, tI 0]) mX12_is_ok rfl rfl rfl rfl rfl rfl (by decide) rfl rfl rfl ?_
  refine g_iload_n rfl rfl ?_
  refine g_iconst rfl ⟨by decide, by decide⟩ ?_
  refine g_aload_n rfl rfl ?_
  refine x_getF (r := 206) hG rfl rfl (by decide) (Or.inr ⟨_, rfl⟩) rfl ?_
  refine g_iload_n rfl rfl ?_
  refine x_iald (v := M) rfl rfl (by decide) (by decide) (by decide) hM ?_
  refine g_iconst rfl ⟨by decide, by decide⟩ ?_
  refine x_isub (z := M - 1) rfl (by omega) ⟨by omega, by omega⟩ ?_
  refine g_iS (as := [tI 0, tI 0, tI (M - 1)]) mX12_in_ok rfl rfl rfl rfl rfl rfl rfl ?_
  refine g_iload_n rfl rfl ?_
  refine g_iload_n rfl rfl ?_
  refine g_icmp_lt (tgt := 14) rfl (by decide) (fun hx => absurd hx (by omega)) (fun _ => ?_)
  refine g_iload_n rfl rfl ?_
  refine g_iload_n rfl rfl ?_
  refine g_icmp_gt (tgt := 14) rfl (by decide) (fun hx => absurd hx (by omega)) (fun _ => ?_)
  refine g_iconst rfl ⟨by decide, by decide⟩ ?_
  refine g_goto (tgt := 15) rfl (by decide) ?_
  refine x_zreturn rfl rfl (Or.inr rfl) ?_
  intro _
  refine x_zreturn rfl rfl (Or.inr rfl) ?_
  intro _
  refine g_if_ne (tgt := 75) rfl (by decide) (fun _ => ?_) (fun hx => absurd hx (by omega))
  refine g_aload_n rfl rfl ?_
  refine g_iload_n rfl rfl ?_
  refine g_cV (as := [tI 1]) (s_rtxN1 (T := T) (len := len) hG hT ⟨rfl, hlen, hTr⟩ hfl) rfl rfl mX12_readText_ok rfl rfl rfl (by decide) rfl rfl rfl ?_
  rintro _ w1 ⟨rfl, h204, h205, hH1⟩ _
  have hM1 : w1.1 206 1 = M := by rw [hH1.1 206 (by omega) (by omega) (by omega) (by omega)]; exact hM
  refine g_if_ne (tgt := 85) rfl (by decide) (fun hx => absurd hx (by omega)) (fun _ => ?_)
  refine g_iconst rfl ⟨by decide, by decide⟩ ?_
  refine x_ireturn rfl rfl ?_
  exact ⟨rfl, (congrFun (hH1.1 203 (by omega) (by omega) (by omega) (by omega)) 0).trans rfl, h204, h205, fun q z => ⟨(congrFun (hH1.1 203 (by omega) (by omega) (by omega) (by omega)) q).trans (by rw [tp_pi_ne (by omega), tp_pi_ne (by omega), tp_pi_ix (by omega)]; rfl), ((hH1.2.2.1 q (by omega)).1).trans (by rw [tp_pi_ne (by omega), tp_pi_ix (by omega)]; rfl), ((hH1.2.2.1 q (by omega)).2).trans (by rw [tp_pi_ix (by omega)]; rfl)⟩, fun c z => by rw [hH1.1 c z.1 z.2.2.2.2 z.2.2.1 z.2.2.2.1, tp_pi_ne z.2.2.2.1, tp_pi_ne z.2.2.1, tp_pi_ne z.2.1, tp_pi_ne z.1, tp_pi_ne z.1]⟩
set_option maxHeartbeats 4000000 in
set_option maxRecDepth 100000 in
theorem p_tx10s {G : tp_G} {μ : tp_M} (hG : tp_Gf G = true) (hR : tp_R μ) {M : Int} (hM : μ.1 5 1 = M) (hMs : 0 < M ∧ M ≤ 2) : tp_q G mX11_text mX12_text [tI 1, tI 0] μ := by
  have hL := tp_R_len hR
  have hlen : 0 ≤ μ.1 1 1 ∧ μ.1 1 1 ≤ 600 := ⟨hL.1, hL.2.1⟩
  have hm9 := tp_R_many hR 1 (by decide) (by decide)
  have hT : ∀ j, 0 ≤ (fun j => tp_and (μ.1 2 j) 255 : Int → Int) j ∧ (fun j => tp_and (μ.1 2 j) 255 : Int → Int) j ≤ 255 := fun j => tp_and255 _
  generalize hTT : (fun j => tp_and (μ.1 2 j) 255 : Int → Int) = T at hT
  have hTm : ∀ j, 0 ≤ j → j < μ.1 1 1 → tp_and (μ.1 2 j) 255 = T j := fun j _ _ => by rw [← hTT]
  generalize hln : μ.1 1 1 = len at *
  by_cases hfl : (t_flt 1 T len).1 = 0
  · refine tp_kc (fun r μ1 z => ?_) (s_xt10s1 hG hT hlen hln hTm hM hMs hfl)
    obtain ⟨z1, z2, z3, z4, z5, z6⟩ := z
    refine ⟨0, z1, tp_kc (fun r2 μ2 y => ?_) (s_mt10s1 (T := T) (len := len) hG hT hlen (by rw [z6 203 (by omega) (by omega) (by omega) (by omega)]; exact hL.2.2.symm) (fun j j0 j1 => by rw [z6 202 (by omega) (by omega) (by omega) (by omega), ← tp_R_tape hR j j0 (by omega)]; exact hTm j j0 j1) (by rw [z6 206 (by omega) (by omega) (by omega) (by omega)]; exact hm9.1.symm.trans hM) hMs hfl)⟩
    obtain ⟨y1, y2, y3, y4, y5, y6, y7, y8, y9, y10⟩ := y
    have y5' : ∀ j, μ2.1 5 j = μ1.1 5 j := fun j => congrFun (y10 5 (by unfold m_Lc; omega) (by omega) (by omega)) j
    have yl : μ2.1 1 = μ1.1 1 := y10 1 (by unfold m_Lc; omega) (by omega) (by omega)
    refine ⟨y1, tp_R_k10 hR (fun k hk k1 k5 kc k2 kr => ?_) (fun q hq => ?_) (fun j hj => ?_) (fun t t0 t1 tn => ⟨?_, ?_⟩) ⟨?_, ?_, ?_⟩ (fun j hj => ?_) ⟨?_, y2⟩ ⟨?_, ?_⟩ ?_⟩
    · unfold tp_tl at hk
      rw [y10 k (by unfold m_Lc; omega) (by omega) kr, z6 k k1 k5 kc (by omega)]
    · rw [(y9 q hq).1, (y9 q hq).2.1, (y9 q hq).2.2, z6 203 (by omega) (by omega) (by omega) (by omega), z6 204 (by omega) (by omega) (by omega) (by omega), z6 205 (by omega) (by omega) (by omega) (by omega)]; exact ⟨rfl, rfl, rfl⟩
    · rw [y6 j (by omega), z6 206 (by omega) (by omega) (by omega) (by omega)]
    · rw [y5' t, z4 t tn]
    · rw [y6 t tn, z6 206 (by omega) (by omega) (by omega) (by omega)]
    · rw [y5' 1, z3, y5]
    · rw [y5' 1, z3]; omega
    · rw [y5' 1, z3]; omega
    · rw [y8 j hj, z6 208 (by omega) (by omega) (by omega) (by omega)]
    · rw [yl]; exact z2.1
    · rw [yl, y3]; exact z2.2.1
    · rw [yl, y4]; exact z2.2.2
    · exact tp_Dr_A (A := μ1.1) (fun i i0 i1 => y10 i (by unfold m_Lc; omega) (by omega) (by omega)) (tp_Dr_f (fun i i0 i1 => y7 i i0 i1) z5)
  · refine tp_kc (fun r μ1 z => ?_) (s_xt10s0 hG hT hlen hln hTm hM hMs hfl)
    obtain ⟨z1, z2, z3, z4, z6⟩ := z
    refine ⟨-1, z1, tp_kc (fun r2 μ2 y => ?_) (s_mt10s0 (T := T) (len := len) hG hT hlen (by rw [z6 203 (by omega) (by omega)]; exact hL.2.2.symm) (fun j j0 j1 => by rw [z6 202 (by omega) (by omega), ← tp_R_tape hR j j0 (by omega)]; exact hTm j j0 j1) (by rw [z6 206 (by omega) (by omega)]; exact hm9.1.symm.trans hM) hMs hfl)⟩
    obtain ⟨y1, y2, y3, y4, y9, y10⟩ := y
    have yl : μ2.1 1 = μ1.1 1 := y10 1 (by unfold m_Lc; omega)
    refine ⟨y1, tp_R_head hR (fun k hk k1 k2 k3 => ?_) (fun j hj => ?_) (fun q hq => ?_) ?_ (fun j j0 j1 => ?_) ⟨?_, ?_⟩⟩
    · unfold tp_tl at hk
      rw [y10 k (by unfold m_Lc; omega), z6 k k1 (by omega)]
    · rw [y10 202 (by unfold m_Lc; omega), z6 202 (by omega) (by omega)]
    · rw [(y9 q hq).1, (y9 q hq).2.1, (y9 q hq).2.2, z6 203 (by omega) (by omega), z6 204 (by omega) (by omega), z6 205 (by omega) (by omega)]; exact ⟨rfl, rfl, rfl⟩
    · rw [yl, z2, y2]; decide
    · rw [yl, z2] at j1; omega
    · rw [yl, z3, y3]
    · rw [yl, z4, y4]
set_option maxHeartbeats 4000000 in
set_option maxRecDepth 100000 in
theorem s_xt11m1 {G : tp_G} {μ : tp_M} (hG : tp_Gf G = true) {T : Int → Int} {len : Int} (hT : ∀ j, 0 ≤ T j ∧ T j ≤ 255) (hlen : 0 ≤ len ∧ len ≤ 600) (hln : μ.1 1 1 = len) (hTm : ∀ j, 0 ≤ j → j < len → tp_and (μ.1 2 j) 255 = T j) (hM : μ.1 5 1 = 1) (hfl : (t_flt 1 T len).1 = 0) : tp_k G mX11_text [tR (some 0), tI 1, tI (-1)] μ (fun r μ' => r = some (tI 1) ∧ (μ'.1 1 1 = 0 ∧ μ'.1 1 2 = 0 ∧ μ'.1 1 3 = -1) ∧ μ'.1 5 1 = 2 ∧ (∀ t, t ≠ 1 → μ'.1 5 t = μ.1 5 t) ∧ tp_Dr μ'.1 25 (t_tld 1 T len) ∧ (∀ c, c ≠ 1 → c ≠ 5 → (c < 25 ∨ 27 < c) → (c < 41 ∨ 49 < c) → μ'.1 c = μ.1 c)) := by
  refine tp_ok_of mX11_text_ok rfl (Nat.le_refl _) ?_
  refine g_aload_n rfl rfl ?_
  refine x_getF (r := 1) hG rfl rfl (by decide) (Or.inl ⟨_, rfl⟩) rfl ?_
  refine x_geti (v := len) rfl rfl (by decide) (Or.inl rfl) hln ?_
  refine g_istore_n rfl rfl rfl ?_
  refine g_aload_n rfl rfl ?_
  refine x_getF (r := 1) hG rfl rfl (by decide) (Or.inl ⟨_, rfl⟩) rfl ?_
  refine g_iconst rfl ⟨by decide, by decide⟩ ?_
  refine g_puti rfl rfl (by decide) rfl rfl ?_
  refine g_aload_n rfl rfl ?_
  refine x_getF (r := 1) hG rfl rfl (by decide) (Or.inl ⟨_, rfl⟩) rfl ?_
  refine g_iconst rfl ⟨by decide, by decide⟩ ?_
  refine g_puti rfl rfl (by decide) rfl rfl ?_
  refine g_aload_n rfl rfl ?_
  refine x_getF (r := 1) hG rfl rfl (by decide) (Or.inl ⟨_, rfl⟩) rfl ?_
  refine g_iconst rfl ⟨by decide, by decide⟩ ?_
  refine g_puti rfl rfl (by decide) rfl rfl ?_
  refine g_aload_n rfl rfl ?_
  refine x_getF (r := 1) hG rfl rfl (by decide) (Or.inl ⟨_, rfl⟩) rfl ?_
  refine g_iload_n rfl rfl ?_
  refine g_iload_n rfl rfl ?_
  refine g_iV (as := [tI 1, tI (-1)]) mX9_slotFor_ok rfl rfl rfl rfl rfl rfl (by decide) rfl rfl rfl ?_
  refine g_iload_n rfl rfl ?_
  refine g_if_lt (tgt := 9) rfl (by decide) (fun hx => absurd hx (by omega)) (fun _ => ?_)
  refine g_iload_n rfl rfl ?_
  refine g_iconst rfl ⟨by decide, by decide⟩ ?_
  refine g_icmp_lt (tgt := 11) rfl (by decide) (fun _ => ?_) (fun hx => absurd hx (by omega))
  refine g_aload_n rfl rfl ?_
  refine x_getF (r := 5) hG rfl rfl (by decide) (Or.inr ⟨_, rfl⟩) rfl ?_
  refine g_iload_n rfl rfl ?_
  refine x_iald (v := 1) rfl rfl (by decide) (by decide) (by decide) hM ?_
  refine g_istore_n rfl rfl rfl ?_
  refine g_iload_n rfl rfl ?_
  refine g_iconst rfl ⟨by decide, by decide⟩ ?_
  refine g_icmp_ne (tgt := 34) rfl (by decide) (fun hx => absurd hx (by omega)) (fun _ => ?_)
  refine g_iload_n rfl rfl ?_
  refine g_iconst rfl ⟨by decide, by decide⟩ ?_
  refine g_icmp_ge (tgt := 32) rfl (by decide) (fun hx => absurd hx (by omega)) (fun _ => ?_)
  refine g_iload_n rfl rfl ?_
  refine g_goto (tgt := 33) rfl (by decide) ?_
  refine x_ireturn rfl rfl ?_
  intro _
  refine g_istore rfl rfl rfl ?_
  refine g_iload rfl rfl ?_
  refine g_iconst rfl ⟨by decide, by decide⟩ ?_
  refine g_icmp_ne (tgt := 52) rfl (by decide) (fun _ => ?_) (fun hx => absurd hx (by omega))
  refine g_aload_n rfl rfl ?_
  refine x_getF (r := 41) hG rfl rfl (by decide) (Or.inl ⟨_, rfl⟩) rfl ?_
  refine g_aload_n rfl rfl ?_
  refine x_getF (r := 1) hG rfl rfl (by decide) (Or.inl ⟨_, rfl⟩) rfl ?_
  refine x_getF (r := 2) hG rfl rfl (by decide) (Or.inr ⟨_, rfl⟩) rfl ?_
  refine g_iload_n rfl rfl ?_
  refine g_iload_n rfl rfl ?_
  refine g_cV (as := [tR (some 2), tI len, tI 1]) (s_readY1 hG hT hlen hTm hfl) rfl rfl mX5_read_ok rfl rfl rfl (by decide) rfl rfl rfl ?_
  rintro _ w1 ⟨rfl, hct, hR1⟩ _
  have hwm := t_wm1 hlen.1 hfl
  have hsz9 : 0 ≤ w1.1 47 2 ∧ w1.1 47 2 ≤ 60 := by have := hct.1; have := hwm.1; omega
  refine g_if_ne (tgt := 101) rfl (by decide) (fun _ => ?_) (fun hx => absurd hx (by omega))
  refine g_aload_n rfl rfl ?_
  refine x_getF (r := 1) hG rfl rfl (by decide) (Or.inl ⟨_, rfl⟩) rfl ?_
  refine g_iload_n rfl rfl ?_
  refine g_iload rfl rfl ?_
  refine g_aload_n rfl rfl ?_
  refine x_getF (r := 41) hG rfl rfl (by decide) (Or.inl ⟨_, rfl⟩) rfl ?_
  refine g_iV (as := [tI 1, tI 1, tR (some 41)]) mX9_keep_ok rfl rfl rfl rfl rfl rfl (by decide) rfl rfl rfl ?_
  refine g_iload_n rfl rfl ?_
  refine g_if_lt (tgt := 18) rfl (by decide) (fun hx => absurd hx (by omega)) (fun _ => ?_)
  refine g_iload_n rfl rfl ?_
  refine g_iconst rfl ⟨by decide, by decide⟩ ?_
  refine g_icmp_ge (tgt := 18) rfl (by decide) (fun hx => absurd hx (by omega)) (fun _ => ?_)
  refine g_iload_n rfl rfl ?_
  refine g_if_lt (tgt := 18) rfl (by decide) (fun hx => absurd hx (by omega)) (fun _ => ?_)
  refine g_iload_n rfl rfl ?_
  refine g_iconst rfl ⟨by decide, by decide⟩ ?_
  refine g_icmp_lt (tgt := 19) rfl (by decide) (fun _ => ?_) (fun hx => absurd hx (by omega))
  refine g_iload_n rfl rfl ?_
  refine g_if_ne (tgt := 39) rfl (by decide) (fun _ => ?_) (fun hx => absurd hx (by omega))
  refine g_aload_n rfl rfl ?_
  refine x_getF (r := 4) hG rfl rfl (by decide) (Or.inr ⟨_, rfl⟩) rfl ?_
  refine g_iload_n rfl rfl ?_
  refine g_iconst rfl ⟨by decide, by decide⟩ ?_
  refine x_imul (z := 2) rfl (by omega) ⟨by omega, by omega⟩ ?_
  refine g_iload_n rfl rfl ?_
  refine x_iadd (z := 3) rfl (by omega) ⟨by omega, by omega⟩ ?_
  refine x_aald (t0 := 5) (r := 25) hG rfl rfl rfl (by decide) (by decide) (by decide) rfl ?_
  refine g_aload_n rfl rfl ?_
  refine x_getF (r := 47) hG rfl rfl (by decide) (Or.inl ⟨_, rfl⟩) rfl ?_
  refine g_cV (as := [tR (some 47)]) (s_rcop2 hG (c := 47) (d := 25) rfl rfl (by decide) (by decide) (by decide) hsz9.1 (show w1.1 47 2 ≤ (60 : Int) by omega) (show w1.1 47 2 ≤ (60 : Int) by omega) (by omega)) rfl rfl mX6_copyFrom_ok rfl rfl rfl (by decide) rfl rfl rfl ?_
  rintro _ w2 ⟨rfl, hK2, hK3, hF2⟩ _
  have hM2 : w2.1 5 1 = 1 := by rw [hF2 5 (by omega), hR1 5 (by omega)]; exact hM
  refine g_aload_n rfl rfl ?_
  refine x_getF (r := 5) hG rfl rfl (by decide) (Or.inr ⟨_, rfl⟩) rfl ?_
  refine g_iload_n rfl rfl ?_
  refine g_aload_n rfl rfl ?_
  refine x_getF (r := 5) hG rfl rfl (by decide) (Or.inr ⟨_, rfl⟩) rfl ?_
  refine g_iload_n rfl rfl ?_
  refine x_iald (v := 1) rfl rfl (by decide) (by decide) (by decide) hM2 ?_
  refine g_iload_n rfl rfl ?_
  refine g_iconst rfl ⟨by decide, by decide⟩ ?_
  refine x_iadd (z := 2) rfl (by omega) ⟨by omega, by omega⟩ ?_
  refine x_max (z := 2) rfl rfl (by omega) ?_
  refine g_iast rfl rfl (by decide) (by decide) (by decide) ?_
  refine x_return rfl rfl ?_
  intro _
  refine g_iload rfl rfl ?_
  refine x_ireturn rfl rfl ?_
  exact ⟨rfl, ⟨by rw [tp_pi_ne (by omega), hF2 1 (by omega), hR1 1 (by omega)]; rfl, by rw [tp_pi_ne (by omega), hF2 1 (by omega), hR1 1 (by omega)]; rfl, by rw [tp_pi_ne (by omega), hF2 1 (by omega), hR1 1 (by omega)]; rfl⟩, tp_pi_at.trans (by omega), fun t z => by rw [tp_pi_ix z, hF2 5 (by omega), hR1 5 (by omega)]; rfl, tp_Dr_A (A := w2.1) (fun i i0 i1 => tp_pi_ne (by omega)) (x_k1 hct hwm ⟨hK2, hK3⟩), fun c z1 z2 z3 z4 => by rw [tp_pi_ne z2, hF2 c (by omega), hR1 c z4, tp_pi_ne z1, tp_pi_ne z1, tp_pi_ne z1]⟩
set_option maxHeartbeats 4000000 in
set_option maxRecDepth 100000 in
theorem s_mt11m1 {G : tp_G} {μ : tp_M} (hG : tp_Gf G = true) {T : Int → Int} {len : Int} (hT : ∀ j, 0 ≤ T j ∧ T j ≤ 255) (hlen : 0 ≤ len ∧ len ≤ 600) (h203 : μ.1 203 0 = len) (hTr : ∀ j, 0 ≤ j → j < len → tp_and (μ.1 202 j) 255 = T j) (hM : μ.1 206 1 = 1) (hfl : (t_flt 1 T len).1 = 0) : tp_k G mX12_text [tR (some 201), tI 1, tI (-1)] μ (fun r μ' => r = some (tI 1) ∧ μ'.1 203 0 = 0 ∧ μ'.1 204 0 = 0 ∧ μ'.1 205 0 = -1 ∧ μ'.1 206 1 = 2 ∧ (∀ t, t ≠ 1 → μ'.1 206 t = μ.1 206 t) ∧ (∀ j, 0 ≤ j → j < 61 → μ'.1 208 (61 + j) = t_tld 1 T len j) ∧ (∀ j, (j < 61 ∨ 122 ≤ j) → μ'.1 208 j = μ.1 208 j) ∧ m_Qc μ μ' ∧ (∀ c, m_Lc c → c ≠ 206 → c ≠ 208 → μ'.1 c = μ.1 c)) := by
  refine tp_ok_of mX12_text_ok rfl (Nat.le_refl _) ?_
  refine g_aload_n rfl rfl ?_
  refine g_iconst rfl ⟨by decide, by decide⟩ ?_
  refine g_puti rfl rfl (by decide) rfl rfl ?_
  refine g_aload_n rfl rfl ?_
  refine g_aload_n rfl rfl ?_
  refine x_getF (r := 203) hG rfl rfl (by decide) (Or.inr ⟨_, rfl⟩) rfl ?_
  refine g_iconst rfl ⟨by decide, by decide⟩ ?_
  refine x_iald (v := len) rfl rfl (by decide) (by decide) (by decide) h203 ?_
  refine g_puti rfl rfl (by decide) rfl rfl ?_
  refine g_aload_n rfl rfl ?_
  refine x_getF (r := 203) hG rfl rfl (by decide) (Or.inr ⟨_, rfl⟩) rfl ?_
  refine g_iconst rfl ⟨by decide, by decide⟩ ?_
  refine g_iconst rfl ⟨by decide, by decide⟩ ?_
  refine g_iast rfl rfl (by decide) (by decide) (by decide) ?_
  refine g_aload_n rfl rfl ?_
  refine x_getF (r := 204) hG rfl rfl (by decide) (Or.inr ⟨_, rfl⟩) rfl ?_
  refine g_iconst rfl ⟨by decide, by decide⟩ ?_
  refine g_iconst rfl ⟨by decide, by decide⟩ ?_
  refine g_iast rfl rfl (by decide) (by decide) (by decide) ?_
  refine g_aload_n rfl rfl ?_
  refine x_getF (r := 205) hG rfl rfl (by decide) (Or.inr ⟨_, rfl⟩) rfl ?_
  refine g_iconst rfl ⟨by decide, by decide⟩ ?_
  refine g_iconst rfl ⟨by decide, by decide⟩ ?_
  refine g_iast rfl rfl (by decide) (by decide) (by decide) ?_
  refine g_iload_n rfl rfl ?_
  refine g_iconst rfl ⟨by decide, by decide⟩ ?_
  refine g_iconst rfl ⟨by decide, by decide⟩ ?_
  refine g_iS (as := [tI 1, tI 0, tI 3]) mX12_in_ok rfl rfl rfl rfl rfl rfl rfl ?_
  refine g_iload_n rfl rfl ?_
  refine g_iload_n rfl rfl ?_
  refine g_icmp_lt (tgt := 14) rfl (by decide) (fun hx => absurd hx (by omega)) (fun _ => ?_)
  refine g_iload_n rfl rfl ?_
  refine g_iload_n rfl rfl ?_
  refine g_icmp_gt (tgt := 14) rfl (by decide) (fun hx => absurd hx (by omega)) (fun _ => ?_)
  refine g_iconst rfl ⟨by decide, by decide⟩ ?_
  refine g_goto (tgt := 15) rfl (by decide) ?_
  refine x_zreturn rfl rfl (Or.inr rfl) ?_
  intro _
  refine g_if_eq (tgt := 72) rfl (by decide) (fun hx => absurd hx (by omega)) (fun _ => ?_)
  refine g_iload_n rfl rfl ?_
  refine g_iconst rfl ⟨by decide, by decide⟩ ?_
  refine g_icmp_ne (tgt := 63) rfl (by decide) (fun hx => absurd hx (by omega)) (fun _ => ?_)
  refine g_aload_n rfl rfl ?_
  refine x_getF (r := 206) hG rfl rfl (by decide) (Or.inr ⟨_, rfl⟩) rfl ?_
  refine g_iload_n rfl rfl ?_
  refine x_iald (v := 1) rfl rfl (by decide) (by decide) (by decide) hM ?_
  refine g_iconst rfl ⟨by decide, by decide⟩ ?_
  refine g_icmp_ne (tgt := 75) rfl (by decide) (fun _ => ?_) (fun hx => absurd hx (by omega))
  refine g_aload_n rfl rfl ?_
  refine g_iload_n rfl rfl ?_
  refine g_cV (as := [tI 1]) (s_rtxY1 (T := T) (len := len) hG hT ⟨rfl, hlen, hTr⟩ hfl) rfl rfl mX12_readText_ok rfl rfl rfl (by decide) rfl rfl rfl ?_
  rintro _ w1 ⟨rfl, h204, h205, hto, hH1⟩ _
  have hM1 : w1.1 206 1 = 1 := by rw [hH1.1 206 (by omega) (by omega) (by omega) (by omega)]; exact hM
  refine g_if_ne (tgt := 85) rfl (by decide) (fun _ => ?_) (fun hx => absurd hx (by omega))
  refine g_iload_n rfl rfl ?_
  refine g_iconst rfl ⟨by decide, by decide⟩ ?_
  refine g_icmp_ne (tgt := 99) rfl (by decide) (fun hx => absurd hx (by omega)) (fun _ => ?_)
  refine g_aload_n rfl rfl ?_
  refine x_getF (r := 206) hG rfl rfl (by decide) (Or.inr ⟨_, rfl⟩) rfl ?_
  refine g_iload_n rfl rfl ?_
  refine x_iald (v := 1) rfl rfl (by decide) (by decide) (by decide) hM1 ?_
  refine g_goto (tgt := 100) rfl (by decide) ?_
  refine g_istore_n rfl rfl rfl ?_
  refine g_aload_n rfl rfl ?_
  refine x_getF (r := 206) hG rfl rfl (by decide) (Or.inr ⟨_, rfl⟩) rfl ?_
  refine g_iload_n rfl rfl ?_
  refine g_dup2 rfl ?_
  refine x_iald (v := 1) rfl rfl (by decide) (by decide) (by decide) hM1 ?_
  refine g_iload_n rfl rfl ?_
  refine g_iconst rfl ⟨by decide, by decide⟩ ?_
  refine g_icmp_ne (tgt := 117) rfl (by decide) (fun hx => absurd hx (by omega)) (fun _ => ?_)
  refine g_iconst rfl ⟨by decide, by decide⟩ ?_
  refine g_goto (tgt := 118) rfl (by decide) ?_
  refine x_iadd (z := 2) rfl (by omega) ⟨by omega, by omega⟩ ?_
  refine g_iast rfl rfl (by decide) (by decide) (by decide) ?_
  refine g_iload_n rfl rfl ?_
  refine g_if_ne (tgt := 139) rfl (by decide) (fun _ => ?_) (fun hx => absurd hx (by omega))
  refine g_iload_n rfl rfl ?_
  refine g_iconst rfl ⟨by decide, by decide⟩ ?_
  refine g_icmp_ne (tgt := 158) rfl (by decide) (fun hx => absurd hx (by omega)) (fun _ => ?_)
  refine g_aload_n rfl rfl ?_
  refine g_aload_n rfl rfl ?_
  refine x_getF (r := 208) hG rfl rfl (by decide) (Or.inr ⟨_, rfl⟩) rfl ?_
  refine g_bipush rfl ⟨by decide, by decide⟩ (by decide) ?_
  refine g_iload_n rfl rfl ?_
  refine g_cV (as := [tR (some 208), tI 61, tI 1]) (s_kpt11 hG) rfl rfl mX12_keep_ok rfl rfl rfl (by decide) rfl rfl rfl ?_
  rintro _ w2 ⟨rfl, hv2, hw2, hF2⟩ _
  refine g_goto (tgt := 188) rfl (by decide) ?_
  refine g_iload_n rfl rfl ?_
  refine x_ireturn rfl rfl ?_
  have q203 : w2.1 203 = _ := (hF2 203 (by omega)).trans ((tp_pi_ne (by omega)).trans (hH1.1 203 (by omega) (by omega) (by omega) (by omega)))
  have q204 : w2.1 204 = w1.1 204 := (hF2 204 (by omega)).trans (tp_pi_ne (by omega))
  have q205 : w2.1 205 = w1.1 205 := (hF2 205 (by omega)).trans (tp_pi_ne (by omega))
  have q206 : w2.1 206 = (tp_pi w1 206 1 2).1 206 := hF2 206 (by omega)
  have q211 : (tp_pi w1 206 1 2).1 211 = w1.1 211 := tp_pi_ne (by omega)
  have qrc : (tp_pi w1 206 1 2).1 208 = _ := (tp_pi_ne (by omega)).trans (hH1.1 208 (by omega) (by omega) (by omega) (by omega))
  refine ⟨rfl, (congrFun q203 0).trans rfl, (congrFun q204 0).trans h204, (congrFun q205 0).trans h205, (congrFun q206 1).trans tp_pi_at, fun t z => ?_, fun j j0 j1 => ((hv2 j j0 j1).trans (congrFun q211 j)).trans (hto j j0 (by omega)), fun j z => ((hw2 j z).trans (congrFun qrc j)).trans rfl, fun q z => ⟨?_, ?_, ?_⟩, fun c z y1 y2 => ?_⟩
  · rw [q206, tp_pi_ix z, hH1.1 206 (by omega) (by omega) (by omega) (by omega)]; rfl
  · rw [q203, tp_pi_ne (by omega), tp_pi_ne (by omega), tp_pi_ix (by omega)]; rfl
  · rw [q204, (hH1.2.2.1 q (by omega)).1, tp_pi_ne (by omega), tp_pi_ix (by omega)]; rfl
  · rw [q205, (hH1.2.2.1 q (by omega)).2, tp_pi_ix (by omega)]; rfl
  · rw [hF2 c y2, tp_pi_ne y1, hH1.1 c z.1 z.2.2.2.2 z.2.2.1 z.2.2.2.1, tp_pi_ne z.2.2.2.1, tp_pi_ne z.2.2.1, tp_pi_ne z.2.1, tp_pi_ne z.1, tp_pi_ne z.1]
set_option maxHeartbeats 4000000 in
set_option maxRecDepth 100000 in
theorem s_xt11m0 {G : tp_G} {μ : tp_M} (hG : tp_Gf G = true) {T : Int → Int} {len : Int} (hT : ∀ j, 0 ≤ T j ∧ T j ≤ 255) (hlen : 0 ≤ len ∧ len ≤ 600) (hln : μ.1 1 1 = len) (hTm : ∀ j, 0 ≤ j → j < len → tp_and (μ.1 2 j) 255 = T j) (hM : μ.1 5 1 = 1) (hfl : (t_flt 1 T len).1 ≠ 0) : tp_k G mX11_text [tR (some 0), tI 1, tI (-1)] μ (fun r μ' => r = some (tI (-1)) ∧ μ'.1 1 1 = 0 ∧ μ'.1 1 2 = (t_flt 1 T len).1 ∧ μ'.1 1 3 = (t_flt 1 T len).2 ∧ (∀ c, c ≠ 1 → (c < 41 ∨ 49 < c) → μ'.1 c = μ.1 c)) := by
  refine tp_ok_of mX11_text_ok rfl (Nat.le_refl _) ?_
  refine g_aload_n rfl rfl ?_
  refine x_getF (r := 1) hG rfl rfl (by decide) (Or.inl ⟨_, rfl⟩) rfl ?_
  refine x_geti (v := len) rfl rfl (by decide) (Or.inl rfl) hln ?_
  refine g_istore_n rfl rfl rfl ?_
  refine g_aload_n rfl rfl ?_
  refine x_getF (r := 1) hG rfl rfl (by decide) (Or.inl ⟨_, rfl⟩) rfl ?_
  refine g_iconst rfl ⟨by decide, by decide⟩ ?_
  refine g_puti rfl rfl (by decide) rfl rfl ?_
  refine g_aload_n rfl rfl ?_
  refine x_getF (r := 1) hG rfl rfl (by decide) (Or.inl ⟨_, rfl⟩) rfl ?_
  refine g_iconst rfl ⟨by decide, by decide⟩ ?_
  refine g_puti rfl rfl (by decide) rfl rfl ?_
  refine g_aload_n rfl rfl ?_
  refine x_getF (r := 1) hG rfl rfl (by decide) (Or.inl ⟨_, rfl⟩) rfl ?_
  refine g_iconst rfl ⟨by decide, by decide⟩ ?_
  refine g_puti rfl rfl (by decide) rfl rfl ?_
  refine g_aload_n rfl rfl ?_
  refine x_getF (r := 1) hG rfl rfl (by decide) (Or.inl ⟨_, rfl⟩) rfl ?_
  refine g_iload_n rfl rfl ?_
  refine g_iload_n rfl rfl ?_
  refine g_iV (as := [tI 1, tI (-1)]) mX9_slotFor_ok rfl rfl rfl rfl rfl rfl (by decide) rfl rfl rfl ?_
  refine g_iload_n rfl rfl ?_
  refine g_if_lt (tgt := 9) rfl (by decide) (fun hx => absurd hx (by omega)) (fun _ => ?_)
  refine g_iload_n rfl rfl ?_
  refine g_iconst rfl ⟨by decide, by decide⟩ ?_
  refine g_icmp_lt (tgt := 11) rfl (by decide) (fun _ => ?_) (fun hx => absurd hx (by omega))
  refine g_aload_n rfl rfl ?_
  refine x_getF (r := 5) hG rfl rfl (by decide) (Or.inr ⟨_, rfl⟩) rfl ?_
  refine g_iload_n rfl rfl ?_
  refine x_iald (v := 1) rfl rfl (by decide) (by decide) (by decide) hM ?_
  refine g_istore_n rfl rfl rfl ?_
  refine g_iload_n rfl rfl ?_
  refine g_iconst rfl ⟨by decide, by decide⟩ ?_
  refine g_icmp_ne (tgt := 34) rfl (by decide) (fun hx => absurd hx (by omega)) (fun _ => ?_)
  refine g_iload_n rfl rfl ?_
  refine g_iconst rfl ⟨by decide, by decide⟩ ?_
  refine g_icmp_ge (tgt := 32) rfl (by decide) (fun hx => absurd hx (by omega)) (fun _ => ?_)
  refine g_iload_n rfl rfl ?_
  refine g_goto (tgt := 33) rfl (by decide) ?_
  refine x_ireturn rfl rfl ?_
  intro _
  refine g_istore rfl rfl rfl ?_
  refine g_iload rfl rfl ?_
  refine g_iconst rfl ⟨by decide, by decide⟩ ?_
  refine g_icmp_ne (tgt := 52) rfl (by decide) (fun _ => ?_) (fun hx => absurd hx (by omega))
  refine g_aload_n rfl rfl ?_
  refine x_getF (r := 41) hG rfl rfl (by decide) (Or.inl ⟨_, rfl⟩) rfl ?_
  refine g_aload_n rfl rfl ?_
  refine x_getF (r := 1) hG rfl rfl (by decide) (Or.inl ⟨_, rfl⟩) rfl ?_
  refine x_getF (r := 2) hG rfl rfl (by decide) (Or.inr ⟨_, rfl⟩) rfl ?_
  refine g_iload_n rfl rfl ?_
  refine g_iload_n rfl rfl ?_
  refine g_cV (as := [tR (some 2), tI len, tI 1]) (s_readN1 hG hT hlen hTm hfl) rfl rfl mX5_read_ok rfl rfl rfl (by decide) rfl rfl rfl ?_
  rintro _ w1 ⟨rfl, h8, h9, hR1⟩ _
  refine g_if_ne (tgt := 101) rfl (by decide) (fun hx => absurd hx (by omega)) (fun _ => ?_)
  refine g_aload_n rfl rfl ?_
  refine x_getF (r := 1) hG rfl rfl (by decide) (Or.inl ⟨_, rfl⟩) rfl ?_
  refine g_aload_n rfl rfl ?_
  refine x_getF (r := 41) hG rfl rfl (by decide) (Or.inl ⟨_, rfl⟩) rfl ?_
  refine x_geti (v := ((t_flt 1 T len).1)) rfl rfl (by decide) (Or.inl rfl) h8 ?_
  refine g_puti rfl rfl (by decide) rfl rfl ?_
  refine g_aload_n rfl rfl ?_
  refine x_getF (r := 1) hG rfl rfl (by decide) (Or.inl ⟨_, rfl⟩) rfl ?_
  refine g_aload_n rfl rfl ?_
  refine x_getF (r := 41) hG rfl rfl (by decide) (Or.inl ⟨_, rfl⟩) rfl ?_
  refine x_geti (v := ((t_flt 1 T len).2)) rfl rfl (by decide) (Or.inl rfl) h9 ?_
  refine g_puti rfl rfl (by decide) rfl rfl ?_
  refine g_iconst rfl ⟨by decide, by decide⟩ ?_
  refine x_ireturn rfl rfl ?_
  exact ⟨rfl, (congrFun (hR1 1 (by omega)) 1).trans rfl, rfl, rfl, fun c z y => by rw [tp_pi_ne z, tp_pi_ne z, hR1 c y, tp_pi_ne z, tp_pi_ne z, tp_pi_ne z]⟩
set_option maxHeartbeats 4000000 in
set_option maxRecDepth 100000 in
theorem s_mt11m0 {G : tp_G} {μ : tp_M} (hG : tp_Gf G = true) {T : Int → Int} {len : Int} (hT : ∀ j, 0 ≤ T j ∧ T j ≤ 255) (hlen : 0 ≤ len ∧ len ≤ 600) (h203 : μ.1 203 0 = len) (hTr : ∀ j, 0 ≤ j → j < len → tp_and (μ.1 202 j) 255 = T j) (hM : μ.1 206 1 = 1) (hfl : (t_flt 1 T len).1 ≠ 0) : tp_k G mX12_text [tR (some 201), tI 1, tI (-1)] μ (fun r μ' => r = some (tI (-1)) ∧ μ'.1 203 0 = 0 ∧ μ'.1 204 0 = (t_flt 1 T len).1 ∧ μ'.1 205 0 = (t_flt 1 T len).2 ∧ m_Qc μ μ' ∧ (∀ c, m_Lc c → μ'.1 c = μ.1 c)) := by
  refine tp_ok_of mX12_text_ok rfl (Nat.le_refl _) ?_
  refine g_aload_n rfl rfl ?_
  refine g_iconst rfl ⟨by decide, by decide⟩ ?_
  refine g_puti rfl rfl (by decide) rfl rfl ?_
  refine g_aload_n rfl rfl ?_
  refine g_aload_n rfl rfl ?_
  refine x_getF (r := 203) hG rfl rfl (by decide) (Or.inr ⟨_, rfl⟩) rfl ?_
  refine g_iconst rfl ⟨by decide, by decide⟩ ?_
  refine x_iald (v := len) rfl rfl (by decide) (by decide) (by decide) h203 ?_
  refine g_puti rfl rfl (by decide) rfl rfl ?_
  refine g_aload_n rfl rfl ?_
  refine x_getF (r := 203) hG rfl rfl (by decide) (Or.inr ⟨_, rfl⟩) rfl ?_
  refine g_iconst rfl ⟨by decide, by decide⟩ ?_
  refine g_iconst rfl ⟨by decide, by decide⟩ ?_
  refine g_iast rfl rfl (by decide) (by decide) (by decide) ?_
  refine g_aload_n rfl rfl ?_
  refine x_getF (r := 204) hG rfl rfl (by decide) (Or.inr ⟨_, rfl⟩) rfl ?_
  refine g_iconst rfl ⟨by decide, by decide⟩ ?_
  refine g_iconst rfl ⟨by decide, by decide⟩ ?_
  refine g_iast rfl rfl (by decide) (by decide) (by decide) ?_
  refine g_aload_n rfl rfl ?_
  refine x_getF (r := 205) hG rfl rfl (by decide) (Or.inr ⟨_, rfl⟩) rfl ?_
  refine g_iconst rfl ⟨by decide, by decide⟩ ?_
  refine g_iconst rfl ⟨by decide, by decide⟩ ?_
  refine g_iast rfl rfl (by decide) (by decide) (by decide) ?_
  refine g_iload_n rfl rfl ?_
  refine g_iconst rfl ⟨by decide, by decide⟩ ?_
  refine g_iconst rfl ⟨by decide, by decide⟩ ?_
  refine g_iS (as := [tI 1, tI 0, tI 3]) mX12_in_ok rfl rfl rfl rfl rfl rfl rfl ?_
  refine g_iload_n rfl rfl ?_
  refine g_iload_n rfl rfl ?_
  refine g_icmp_lt (tgt := 14) rfl (by decide) (fun hx => absurd hx (by omega)) (fun _ => ?_)
  refine g_iload_n rfl rfl ?_
  refine g_iload_n rfl rfl ?_
  refine g_icmp_gt (tgt := 14) rfl (by decide) (fun hx => absurd hx (by omega)) (fun _ => ?_)
  refine g_iconst rfl ⟨by decide, by decide⟩ ?_
  refine g_goto (tgt := 15) rfl (by decide) ?_
  refine x_zreturn rfl rfl (Or.inr rfl) ?_
  intro _
  refine g_if_eq (tgt := 72) rfl (by decide) (fun hx => absurd hx (by omega)) (fun _ => ?_)
  refine g_iload_n rfl rfl ?_
  refine g_iconst rfl ⟨by decide, by decide⟩ ?_
  refine g_icmp_ne (tgt := 63) rfl (by decide) (fun hx => absurd hx (by omega)) (fun _ => ?_)
  refine g_aload_n rfl rfl ?_
  refine x_getF (r := 206) hG rfl rfl (by decide) (Or.inr ⟨_, rfl⟩) rfl ?_
  refine g_iload_n rfl rfl ?_
  refine x_iald (v := 1) rfl rfl (by decide) (by decide) (by decide) hM ?_
  refine g_iconst rfl ⟨by decide, by decide⟩ ?_
  refine g_icmp_ne (tgt := 75) rfl (by decide) (fun _ => ?_) (fun hx => absurd hx (by omega))
  refine g_aload_n rfl rfl ?_
  refine g_iload_n rfl rfl ?_
  refine g_cV (as := [tI 1]) (s_rtxN1 (T := T) (len := len) hG hT ⟨rfl, hlen, hTr⟩ hfl) rfl rfl mX12_readText_ok rfl rfl rfl (by decide) rfl rfl rfl ?_
  rintro _ w1 ⟨rfl, h204, h205, hH1⟩ _
  have hM1 : w1.1 206 1 = 1 := by rw [hH1.1 206 (by omega) (by omega) (by omega) (by omega)]; exact hM
  refine g_if_ne (tgt := 85) rfl (by decide) (fun hx => absurd hx (by omega)) (fun _ => ?_)
  refine g_iconst rfl ⟨by decide, by decide⟩ ?_
  refine x_ireturn rfl rfl ?_
  exact ⟨rfl, (congrFun (hH1.1 203 (by omega) (by omega) (by omega) (by omega)) 0).trans rfl, h204, h205, fun q z => ⟨(congrFun (hH1.1 203 (by omega) (by omega) (by omega) (by omega)) q).trans (by rw [tp_pi_ne (by omega), tp_pi_ne (by omega), tp_pi_ix (by omega)]; rfl), ((hH1.2.2.1 q (by omega)).1).trans (by rw [tp_pi_ne (by omega), tp_pi_ix (by omega)]; rfl), ((hH1.2.2.1 q (by omega)).2).trans (by rw [tp_pi_ix (by omega)]; rfl)⟩, fun c z => by rw [hH1.1 c z.1 z.2.2.2.2 z.2.2.1 z.2.2.2.1, tp_pi_ne z.2.2.2.1, tp_pi_ne z.2.2.1, tp_pi_ne z.2.1, tp_pi_ne z.1, tp_pi_ne z.1]⟩
set_option maxHeartbeats 4000000 in
set_option maxRecDepth 100000 in
theorem p_tx11m {G : tp_G} {μ : tp_M} (hG : tp_Gf G = true) (hR : tp_R μ) (hM : μ.1 5 1 = 1) : tp_q G mX11_text mX12_text [tI 1, tI (-1)] μ := by
  have hL := tp_R_len hR
  have hlen : 0 ≤ μ.1 1 1 ∧ μ.1 1 1 ≤ 600 := ⟨hL.1, hL.2.1⟩
  have hm9 := tp_R_many hR 1 (by decide) (by decide)
  have hT : ∀ j, 0 ≤ (fun j => tp_and (μ.1 2 j) 255 : Int → Int) j ∧ (fun j => tp_and (μ.1 2 j) 255 : Int → Int) j ≤ 255 := fun j => tp_and255 _
  generalize hTT : (fun j => tp_and (μ.1 2 j) 255 : Int → Int) = T at hT
  have hTm : ∀ j, 0 ≤ j → j < μ.1 1 1 → tp_and (μ.1 2 j) 255 = T j := fun j _ _ => by rw [← hTT]
  generalize hln : μ.1 1 1 = len at *
  by_cases hfl : (t_flt 1 T len).1 = 0
  · refine tp_kc (fun r μ1 z => ?_) (s_xt11m1 hG hT hlen hln hTm hM hfl)
    obtain ⟨z1, z2, z3, z4, z5, z6⟩ := z
    refine ⟨1, z1, tp_kc (fun r2 μ2 y => ?_) (s_mt11m1 (T := T) (len := len) hG hT hlen (by rw [z6 203 (by omega) (by omega) (by omega) (by omega)]; exact hL.2.2.symm) (fun j j0 j1 => by rw [z6 202 (by omega) (by omega) (by omega) (by omega), ← tp_R_tape hR j j0 (by omega)]; exact hTm j j0 j1) (by rw [z6 206 (by omega) (by omega) (by omega) (by omega)]; exact hm9.1.symm.trans hM) hfl)⟩
    obtain ⟨y1, y2, y3, y4, y5, y6, y7, y8, y9, y10⟩ := y
    have y5' : ∀ j, μ2.1 5 j = μ1.1 5 j := fun j => congrFun (y10 5 (by unfold m_Lc; omega) (by omega) (by omega)) j
    have yl : μ2.1 1 = μ1.1 1 := y10 1 (by unfold m_Lc; omega) (by omega) (by omega)
    refine ⟨y1, tp_R_k11 hR (fun k hk k1 k5 kc k2 kr => ?_) (fun q hq => ?_) (fun j hj => ?_) (fun t t0 t1 tn => ⟨?_, ?_⟩) ⟨?_, ?_, ?_⟩ (fun j hj => ?_) ⟨?_, y2⟩ ⟨?_, ?_⟩ ?_⟩
    · unfold tp_tl at hk
      rw [y10 k (by unfold m_Lc; omega) (by omega) kr, z6 k k1 k5 kc (by omega)]
    · rw [(y9 q hq).1, (y9 q hq).2.1, (y9 q hq).2.2, z6 203 (by omega) (by omega) (by omega) (by omega), z6 204 (by omega) (by omega) (by omega) (by omega), z6 205 (by omega) (by omega) (by omega) (by omega)]; exact ⟨rfl, rfl, rfl⟩
    · rw [y6 j (by omega), z6 206 (by omega) (by omega) (by omega) (by omega)]
    · rw [y5' t, z4 t tn]
    · rw [y6 t tn, z6 206 (by omega) (by omega) (by omega) (by omega)]
    · rw [y5' 1, z3, y5]
    · rw [y5' 1, z3]; omega
    · rw [y5' 1, z3]; omega
    · rw [y8 j hj, z6 208 (by omega) (by omega) (by omega) (by omega)]
    · rw [yl]; exact z2.1
    · rw [yl, y3]; exact z2.2.1
    · rw [yl, y4]; exact z2.2.2
    · exact tp_Dr_A (A := μ1.1) (fun i i0 i1 => y10 i (by unfold m_Lc; omega) (by omega) (by omega)) (tp_Dr_f (fun i i0 i1 => y7 i i0 i1) z5)
  · refine tp_kc (fun r μ1 z => ?_) (s_xt11m0 hG hT hlen hln hTm hM hfl)
    obtain ⟨z1, z2, z3, z4, z6⟩ := z
    refine ⟨-1, z1, tp_kc (fun r2 μ2 y => ?_) (s_mt11m0 (T := T) (len := len) hG hT hlen (by rw [z6 203 (by omega) (by omega)]; exact hL.2.2.symm) (fun j j0 j1 => by rw [z6 202 (by omega) (by omega), ← tp_R_tape hR j j0 (by omega)]; exact hTm j j0 j1) (by rw [z6 206 (by omega) (by omega)]; exact hm9.1.symm.trans hM) hfl)⟩
    obtain ⟨y1, y2, y3, y4, y9, y10⟩ := y
    have yl : μ2.1 1 = μ1.1 1 := y10 1 (by unfold m_Lc; omega)
    refine ⟨y1, tp_R_head hR (fun k hk k1 k2 k3 => ?_) (fun j hj => ?_) (fun q hq => ?_) ?_ (fun j j0 j1 => ?_) ⟨?_, ?_⟩⟩
    · unfold tp_tl at hk
      rw [y10 k (by unfold m_Lc; omega), z6 k k1 (by omega)]
    · rw [y10 202 (by unfold m_Lc; omega), z6 202 (by omega) (by omega)]
    · rw [(y9 q hq).1, (y9 q hq).2.1, (y9 q hq).2.2, z6 203 (by omega) (by omega), z6 204 (by omega) (by omega), z6 205 (by omega) (by omega)]; exact ⟨rfl, rfl, rfl⟩
    · rw [yl, z2, y2]; decide
    · rw [yl, z2] at j1; omega
    · rw [yl, z3, y3]
    · rw [yl, z4, y4]
set_option maxHeartbeats 4000000 in
set_option maxRecDepth 100000 in
theorem s_xt11s1 {G : tp_G} {μ : tp_M} (hG : tp_Gf G = true) {T : Int → Int} {len : Int} (hT : ∀ j, 0 ≤ T j ∧ T j ≤ 255) (hlen : 0 ≤ len ∧ len ≤ 600) (hln : μ.1 1 1 = len) (hTm : ∀ j, 0 ≤ j → j < len → tp_and (μ.1 2 j) 255 = T j) {M : Int} (hM : μ.1 5 1 = M) (hMs : 1 < M ∧ M ≤ 2) (hfl : (t_flt 1 T len).1 = 0) : tp_k G mX11_text [tR (some 0), tI 1, tI 1] μ (fun r μ' => r = some (tI 1) ∧ (μ'.1 1 1 = 0 ∧ μ'.1 1 2 = 0 ∧ μ'.1 1 3 = -1) ∧ μ'.1 5 1 = M ∧ (∀ t, t ≠ 1 → μ'.1 5 t = μ.1 5 t) ∧ tp_Dr μ'.1 25 (t_tld 1 T len) ∧ (∀ c, c ≠ 1 → c ≠ 5 → (c < 25 ∨ 27 < c) → (c < 41 ∨ 49 < c) → μ'.1 c = μ.1 c)) := by
  refine tp_ok_of mX11_text_ok rfl (Nat.le_refl _) ?_
  refine g_aload_n rfl rfl ?_
  refine x_getF (r := 1) hG rfl rfl (by decide) (Or.inl ⟨_, rfl⟩) rfl ?_
  refine x_geti (v := len) rfl rfl (by decide) (Or.inl rfl) hln ?_
  refine g_istore_n rfl rfl rfl ?_
  refine g_aload_n rfl rfl ?_
  refine x_getF (r := 1) hG rfl rfl (by decide) (Or.inl ⟨_, rfl⟩) rfl ?_
  refine g_iconst rfl ⟨by decide, by decide⟩ ?_
  refine g_puti rfl rfl (by decide) rfl rfl ?_
  refine g_aload_n rfl rfl ?_
  refine x_getF (r := 1) hG rfl rfl (by decide) (Or.inl ⟨_, rfl⟩) rfl ?_
  refine g_iconst rfl ⟨by decide, by decide⟩ ?_
  refine g_puti rfl rfl (by decide) rfl rfl ?_
  refine g_aload_n rfl rfl ?_
  refine x_getF (r := 1) hG rfl rfl (by decide) (Or.inl ⟨_, rfl⟩) rfl ?_
  refine g_iconst rfl ⟨by decide, by decide⟩ ?_
  refine g_puti rfl rfl (by decide) rfl rfl ?_
  refine g_aload_n rfl rfl ?_
  refine x_getF (r := 1) hG rfl rfl (by decide) (Or.inl ⟨_, rfl⟩) rfl ?_
  refine g_iload_n rfl rfl ?_
  refine g_iload_n rfl rfl ?_
  refine g_iV (as := [tI 1, tI 1]) mX9_slotFor_ok rfl rfl rfl rfl rfl rfl (by decide) rfl rfl rfl ?_
  refine g_iload_n rfl rfl ?_
  refine g_if_lt (tgt := 9) rfl (by decide) (fun hx => absurd hx (by omega)) (fun _ => ?_)
  refine g_iload_n rfl rfl ?_
  refine g_iconst rfl ⟨by decide, by decide⟩ ?_
  refine g_icmp_lt (tgt := 11) rfl (by decide) (fun _ => ?_) (fun hx => absurd hx (by omega))
  refine g_aload_n rfl rfl ?_
  refine x_getF (r := 5) hG rfl rfl (by decide) (Or.inr ⟨_, rfl⟩) rfl ?_
  refine g_iload_n rfl rfl ?_
  refine x_iald (v := M) rfl rfl (by decide) (by decide) (by decide) hM ?_
  refine g_istore_n rfl rfl rfl ?_
  refine g_iload_n rfl rfl ?_
  refine g_iconst rfl ⟨by decide, by decide⟩ ?_
  refine g_icmp_ne (tgt := 34) rfl (by decide) (fun _ => ?_) (fun hx => absurd hx (by omega))
  refine g_iload_n rfl rfl ?_
  refine g_if_lt (tgt := 43) rfl (by decide) (fun hx => absurd hx (by omega)) (fun _ => ?_)
  refine g_iload_n rfl rfl ?_
  refine g_iload_n rfl rfl ?_
  refine g_icmp_lt (tgt := 47) rfl (by decide) (fun _ => ?_) (fun hx => absurd hx (by omega))
  refine g_iload_n rfl rfl ?_
  refine x_ireturn rfl rfl ?_
  intro _
  refine g_istore rfl rfl rfl ?_
  refine g_iload rfl rfl ?_
  refine g_iconst rfl ⟨by decide, by decide⟩ ?_
  refine g_icmp_ne (tgt := 52) rfl (by decide) (fun _ => ?_) (fun hx => absurd hx (by omega))
  refine g_aload_n rfl rfl ?_
  refine x_getF (r := 41) hG rfl rfl (by decide) (Or.inl ⟨_, rfl⟩) rfl ?_
  refine g_aload_n rfl rfl ?_
  refine x_getF (r := 1) hG rfl rfl (by decide) (Or.inl ⟨_, rfl⟩) rfl ?_
  refine x_getF (r := 2) hG rfl rfl (by decide) (Or.inr ⟨_, rfl⟩) rfl ?_
  refine g_iload_n rfl rfl ?_
  refine g_iload_n rfl rfl ?_
  refine g_cV (as := [tR (some 2), tI len, tI 1]) (s_readY1 hG hT hlen hTm hfl) rfl rfl mX5_read_ok rfl rfl rfl (by decide) rfl rfl rfl ?_
  rintro _ w1 ⟨rfl, hct, hR1⟩ _
  have hwm := t_wm1 hlen.1 hfl
  have hsz9 : 0 ≤ w1.1 47 2 ∧ w1.1 47 2 ≤ 60 := by have := hct.1; have := hwm.1; omega
  refine g_if_ne (tgt := 101) rfl (by decide) (fun _ => ?_) (fun hx => absurd hx (by omega))
  refine g_aload_n rfl rfl ?_
  refine x_getF (r := 1) hG rfl rfl (by decide) (Or.inl ⟨_, rfl⟩) rfl ?_
  refine g_iload_n rfl rfl ?_
  refine g_iload rfl rfl ?_
  refine g_aload_n rfl rfl ?_
  refine x_getF (r := 41) hG rfl rfl (by decide) (Or.inl ⟨_, rfl⟩) rfl ?_
  refine g_iV (as := [tI 1, tI 1, tR (some 41)]) mX9_keep_ok rfl rfl rfl rfl rfl rfl (by decide) rfl rfl rfl ?_
  refine g_iload_n rfl rfl ?_
  refine g_if_lt (tgt := 18) rfl (by decide) (fun hx => absurd hx (by omega)) (fun _ => ?_)
  refine g_iload_n rfl rfl ?_
  refine g_iconst rfl ⟨by decide, by decide⟩ ?_
  refine g_icmp_ge (tgt := 18) rfl (by decide) (fun hx => absurd hx (by omega)) (fun _ => ?_)
  refine g_iload_n rfl rfl ?_
  refine g_if_lt (tgt := 18) rfl (by decide) (fun hx => absurd hx (by omega)) (fun _ => ?_)
  refine g_iload_n rfl rfl ?_
  refine g_iconst rfl ⟨by decide, by decide⟩ ?_
  refine g_icmp_lt (tgt := 19) rfl (by decide) (fun _ => ?_) (fun hx => absurd hx (by omega))
  refine g_iload_n rfl rfl ?_
  refine g_if_ne (tgt := 39) rfl (by decide) (fun _ => ?_) (fun hx => absurd hx (by omega))
  refine g_aload_n rfl rfl ?_
  refine x_getF (r := 4) hG rfl rfl (by decide) (Or.inr ⟨_, rfl⟩) rfl ?_
  refine g_iload_n rfl rfl ?_
  refine g_iconst rfl ⟨by decide, by decide⟩ ?_
  refine x_imul (z := 2) rfl (by omega) ⟨by omega, by omega⟩ ?_
  refine g_iload_n rfl rfl ?_
  refine x_iadd (z := 3) rfl (by omega) ⟨by omega, by omega⟩ ?_
  refine x_aald (t0 := 5) (r := 25) hG rfl rfl rfl (by decide) (by decide) (by decide) rfl ?_
  refine g_aload_n rfl rfl ?_
  refine x_getF (r := 47) hG rfl rfl (by decide) (Or.inl ⟨_, rfl⟩) rfl ?_
  refine g_cV (as := [tR (some 47)]) (s_rcop2 hG (c := 47) (d := 25) rfl rfl (by decide) (by decide) (by decide) hsz9.1 (show w1.1 47 2 ≤ (60 : Int) by omega) (show w1.1 47 2 ≤ (60 : Int) by omega) (by omega)) rfl rfl mX6_copyFrom_ok rfl rfl rfl (by decide) rfl rfl rfl ?_
  rintro _ w2 ⟨rfl, hK2, hK3, hF2⟩ _
  have hM2 : w2.1 5 1 = M := by rw [hF2 5 (by omega), hR1 5 (by omega)]; exact hM
  refine g_aload_n rfl rfl ?_
  refine x_getF (r := 5) hG rfl rfl (by decide) (Or.inr ⟨_, rfl⟩) rfl ?_
  refine g_iload_n rfl rfl ?_
  refine g_aload_n rfl rfl ?_
  refine x_getF (r := 5) hG rfl rfl (by decide) (Or.inr ⟨_, rfl⟩) rfl ?_
  refine g_iload_n rfl rfl ?_
  refine x_iald (v := M) rfl rfl (by decide) (by decide) (by decide) hM2 ?_
  refine g_iload_n rfl rfl ?_
  refine g_iconst rfl ⟨by decide, by decide⟩ ?_
  refine x_iadd (z := 2) rfl (by omega) ⟨by omega, by omega⟩ ?_
  refine x_max (z := 2) rfl rfl (by omega) ?_
  refine g_iast rfl rfl (by decide) (by decide) (by decide) ?_
  refine x_return rfl rfl ?_
  intro _
  refine g_iload rfl rfl ?_
  refine x_ireturn rfl rfl ?_
  exact ⟨rfl, ⟨by rw [tp_pi_ne (by omega), hF2 1 (by omega), hR1 1 (by omega)]; rfl, by rw [tp_pi_ne (by omega), hF2 1 (by omega), hR1 1 (by omega)]; rfl, by rw [tp_pi_ne (by omega), hF2 1 (by omega), hR1 1 (by omega)]; rfl⟩, tp_pi_at.trans (by omega), fun t z => by rw [tp_pi_ix z, hF2 5 (by omega), hR1 5 (by omega)]; rfl, tp_Dr_A (A := w2.1) (fun i i0 i1 => tp_pi_ne (by omega)) (x_k1 hct hwm ⟨hK2, hK3⟩), fun c z1 z2 z3 z4 => by rw [tp_pi_ne z2, hF2 c (by omega), hR1 c z4, tp_pi_ne z1, tp_pi_ne z1, tp_pi_ne z1]⟩
set_option maxHeartbeats 4000000 in
set_option maxRecDepth 100000 in
theorem s_mt11s1 {G : tp_G} {μ : tp_M} (hG : tp_Gf G = true) {T : Int → Int} {len : Int} (hT : ∀ j, 0 ≤ T j ∧ T j ≤ 255) (hlen : 0 ≤ len ∧ len ≤ 600) (h203 : μ.1 203 0 = len) (hTr : ∀ j, 0 ≤ j → j < len → tp_and (μ.1 202 j) 255 = T j) {M : Int} (hM : μ.1 206 1 = M) (hMs : 1 < M ∧ M ≤ 2) (hfl : (t_flt 1 T len).1 = 0) : tp_k G mX12_text [tR (some 201), tI 1, tI 1] μ (fun r μ' => r = some (tI 1) ∧ μ'.1 203 0 = 0 ∧ μ'.1 204 0 = 0 ∧ μ'.1 205 0 = -1 ∧ μ'.1 206 1 = M ∧ (∀ t, t ≠ 1 → μ'.1 206 t = μ.1 206 t) ∧ (∀ j, 0 ≤ j → j < 61 → μ'.1 208 (61 + j) = t_tld 1 T len j) ∧ (∀ j, (j < 61 ∨ 122 ≤ j) → μ'.1 208 j = μ.1 208 j) ∧ m_Qc μ μ' ∧ (∀ c, m_Lc c → c ≠ 206 → c ≠ 208 → μ'.1 c = μ.1 c)) := by
  refine tp_ok_of mX12_text_ok rfl (Nat.le_refl _) ?_
  refine g_aload_n rfl rfl ?_
  refine g_iconst rfl ⟨by decide, by decide⟩ ?_
  refine g_puti rfl rfl (by decide) rfl rfl ?_
  refine g_aload_n rfl rfl ?_
  refine g_aload_n rfl rfl ?_
  refine x_getF (r := 203) hG rfl rfl (by decide) (Or.inr ⟨_, rfl⟩) rfl ?_
  refine g_iconst rfl ⟨by decide, by decide⟩ ?_
  refine x_iald (v := len) rfl rfl (by decide) (by decide) (by decide) h203 ?_
  refine g_puti rfl rfl (by decide) rfl rfl ?_
  refine g_aload_n rfl rfl ?_
  refine x_getF (r := 203) hG rfl rfl (by decide) (Or.inr ⟨_, rfl⟩) rfl ?_
  refine g_iconst rfl ⟨by decide, by decide⟩ ?_
  refine g_iconst rfl ⟨by decide, by decide⟩ ?_
  refine g_iast rfl rfl (by decide) (by decide) (by decide) ?_
  refine g_aload_n rfl rfl ?_
  refine x_getF (r := 204) hG rfl rfl (by decide) (Or.inr ⟨_, rfl⟩) rfl ?_
  refine g_iconst rfl ⟨by decide, by decide⟩ ?_
  refine g_iconst rfl ⟨by decide, by decide⟩ ?_
  refine g_iast rfl rfl (by decide) (by decide) (by decide) ?_
  refine g_aload_n rfl rfl ?_
  refine x_getF (r := 205) hG rfl rfl (by decide) (Or.inr ⟨_, rfl⟩) rfl ?_
  refine g_iconst rfl ⟨by decide, by decide⟩ ?_
  refine g_iconst rfl ⟨by decide, by decide⟩ ?_
  refine g_iast rfl rfl (by decide) (by decide) (by decide) ?_
  refine g_iload_n rfl rfl ?_
  refine g_iconst rfl ⟨by decide, by decide⟩ ?_
  refine g_iconst rfl ⟨by decide, by decide⟩ ?_
  refine g_iS (as := [tI 1, tI 0, tI 3]) mX12_in_ok rfl rfl rfl rfl rfl rfl rfl ?_
  refine g_iload_n rfl rfl ?_
  refine g_iload_n rfl rfl ?_
  refine g_icmp_lt (tgt := 14) rfl (by decide) (fun hx => absurd hx (by omega)) (fun _ => ?_)
  refine g_iload_n rfl rfl ?_
  refine g_iload_n rfl rfl ?_
  refine g_icmp_gt (tgt := 14) rfl (by decide) (fun hx => absurd hx (by omega)) (fun _ => ?_)
  refine g_iconst rfl ⟨by decide, by decide⟩ ?_
  refine g_goto (tgt := 15) rfl (by decide) ?_
  refine x_zreturn rfl rfl (Or.inr rfl) ?_
  intro _
  refine g_if_eq (tgt := 72) rfl (by decide) (fun hx => absurd hx (by omega)) (fun _ => ?_)
  refine g_iload_n rfl rfl ?_
  refine g_iconst rfl ⟨by decide, by decide⟩ ?_
  refine g_icmp_ne (tgt := 63) rfl (by decide) (fun _ => ?_) (fun hx => absurd hx (by omega))
  refine g_aload_n rfl rfl ?_
  refine g_iload_n rfl rfl ?_
  refine g_iload_n rfl rfl ?_
  refine g_iV (as := [tI 1, tI 1]) mX12_is_ok rfl rfl rfl rfl rfl rfl (by decide) rfl rfl rfl ?_
  refine g_iload_n rfl rfl ?_
  refine g_iconst rfl ⟨by decide, by decide⟩ ?_
  refine g_aload_n rfl rfl ?_
  refine x_getF (r := 206) hG rfl rfl (by decide) (Or.inr ⟨_, rfl⟩) rfl ?_
  refine g_iload_n rfl rfl ?_
  refine x_iald (v := M) rfl rfl (by decide) (by decide) (by decide) hM ?_
  refine g_iconst rfl ⟨by decide, by decide⟩ ?_
  refine x_isub (z := M - 1) rfl (by omega) ⟨by omega, by omega⟩ ?_
  refine g_iS (as := [tI 1, tI 0, tI (M - 1)]) mX12_in_ok rfl rfl rfl rfl rfl rfl rfl ?_
  refine g_iload_n rfl rfl ?_
  refine g_iload_n rfl rfl ?_
  refine g_icmp_lt (tgt := 14) rfl (by decide) (fun hx => absurd hx (by omega)) (fun _ => ?_)
  refine g_iload_n rfl rfl ?_
  refine g_iload_n rfl rfl ?_
  refine g_icmp_gt (tgt := 14) rfl (by decide) (fun hx => absurd hx (by omega)) (fun _ => ?_)
  refine g_iconst rfl ⟨by decide, by decide⟩ ?_
  refine g_goto (tgt := 15) rfl (by decide) ?_
  refine x_zreturn rfl rfl (Or.inr rfl) ?_
  intro _
  refine x_zreturn rfl rfl (Or.inr rfl) ?_
  intro _
  refine g_if_ne (tgt := 75) rfl (by decide) (fun _ => ?_) (fun hx => absurd hx (by omega))
  refine g_aload_n rfl rfl ?_
  refine g_iload_n rfl rfl ?_
  refine g_cV (as := [tI 1]) (s_rtxY1 (T := T) (len := len) hG hT ⟨rfl, hlen, hTr⟩ hfl) rfl rfl mX12_readText_ok rfl rfl rfl (by decide) rfl rfl rfl ?_
  rintro _ w1 ⟨rfl, h204, h205, hto, hH1⟩ _
  have hM1 : w1.1 206 1 = M := by rw [hH1.1 206 (by omega) (by omega) (by omega) (by omega)]; exact hM
  refine g_if_ne (tgt := 85) rfl (by decide) (fun _ => ?_) (fun hx => absurd hx (by omega))
  refine g_iload_n rfl rfl ?_
  refine g_iconst rfl ⟨by decide, by decide⟩ ?_
  refine g_icmp_ne (tgt := 99) rfl (by decide) (fun _ => ?_) (fun hx => absurd hx (by omega))
  refine g_iload_n rfl rfl ?_
  refine g_istore_n rfl rfl rfl ?_
  refine g_aload_n rfl rfl ?_
  refine x_getF (r := 206) hG rfl rfl (by decide) (Or.inr ⟨_, rfl⟩) rfl ?_
  refine g_iload_n rfl rfl ?_
  refine g_dup2 rfl ?_
  refine x_iald (v := M) rfl rfl (by decide) (by decide) (by decide) hM1 ?_
  refine g_iload_n rfl rfl ?_
  refine g_iconst rfl ⟨by decide, by decide⟩ ?_
  refine g_icmp_ne (tgt := 117) rfl (by decide) (fun _ => ?_) (fun hx => absurd hx (by omega))
  refine g_iconst rfl ⟨by decide, by decide⟩ ?_
  refine x_iadd (z := M) rfl (by omega) ⟨by omega, by omega⟩ ?_
  refine g_iast rfl rfl (by decide) (by decide) (by decide) ?_
  refine g_iload_n rfl rfl ?_
  refine g_if_ne (tgt := 139) rfl (by decide) (fun _ => ?_) (fun hx => absurd hx (by omega))
  refine g_iload_n rfl rfl ?_
  refine g_iconst rfl ⟨by decide, by decide⟩ ?_
  refine g_icmp_ne (tgt := 158) rfl (by decide) (fun hx => absurd hx (by omega)) (fun _ => ?_)
  refine g_aload_n rfl rfl ?_
  refine g_aload_n rfl rfl ?_
  refine x_getF (r := 208) hG rfl rfl (by decide) (Or.inr ⟨_, rfl⟩) rfl ?_
  refine g_bipush rfl ⟨by decide, by decide⟩ (by decide) ?_
  refine g_iload_n rfl rfl ?_
  refine g_cV (as := [tR (some 208), tI 61, tI 1]) (s_kpt11 hG) rfl rfl mX12_keep_ok rfl rfl rfl (by decide) rfl rfl rfl ?_
  rintro _ w2 ⟨rfl, hv2, hw2, hF2⟩ _
  refine g_goto (tgt := 188) rfl (by decide) ?_
  refine g_iload_n rfl rfl ?_
  refine x_ireturn rfl rfl ?_
  have q203 : w2.1 203 = _ := (hF2 203 (by omega)).trans ((tp_pi_ne (by omega)).trans (hH1.1 203 (by omega) (by omega) (by omega) (by omega)))
  have q204 : w2.1 204 = w1.1 204 := (hF2 204 (by omega)).trans (tp_pi_ne (by omega))
  have q205 : w2.1 205 = w1.1 205 := (hF2 205 (by omega)).trans (tp_pi_ne (by omega))
  have q206 : w2.1 206 = (tp_pi w1 206 1 M).1 206 := hF2 206 (by omega)
  have q211 : (tp_pi w1 206 1 M).1 211 = w1.1 211 := tp_pi_ne (by omega)
  have qrc : (tp_pi w1 206 1 M).1 208 = _ := (tp_pi_ne (by omega)).trans (hH1.1 208 (by omega) (by omega) (by omega) (by omega))
  refine ⟨rfl, (congrFun q203 0).trans rfl, (congrFun q204 0).trans h204, (congrFun q205 0).trans h205, (congrFun q206 1).trans tp_pi_at, fun t z => ?_, fun j j0 j1 => ((hv2 j j0 j1).trans (congrFun q211 j)).trans (hto j j0 (by omega)), fun j z => ((hw2 j z).trans (congrFun qrc j)).trans rfl, fun q z => ⟨?_, ?_, ?_⟩, fun c z y1 y2 => ?_⟩
  · rw [q206, tp_pi_ix z, hH1.1 206 (by omega) (by omega) (by omega) (by omega)]; rfl
  · rw [q203, tp_pi_ne (by omega), tp_pi_ne (by omega), tp_pi_ix (by omega)]; rfl
  · rw [q204, (hH1.2.2.1 q (by omega)).1, tp_pi_ne (by omega), tp_pi_ix (by omega)]; rfl
  · rw [q205, (hH1.2.2.1 q (by omega)).2, tp_pi_ix (by omega)]; rfl
  · rw [hF2 c y2, tp_pi_ne y1, hH1.1 c z.1 z.2.2.2.2 z.2.2.1 z.2.2.2.1, tp_pi_ne z.2.2.2.1, tp_pi_ne z.2.2.1, tp_pi_ne z.2.1, tp_pi_ne z.1, tp_pi_ne z.1]
set_option maxHeartbeats 4000000 in
set_option maxRecDepth 100000 in
theorem s_xt11s0 {G : tp_G} {μ : tp_M} (hG : tp_Gf G = true) {T : Int → Int} {len : Int} (hT : ∀ j, 0 ≤ T j ∧ T j ≤ 255) (hlen : 0 ≤ len ∧ len ≤ 600) (hln : μ.1 1 1 = len) (hTm : ∀ j, 0 ≤ j → j < len → tp_and (μ.1 2 j) 255 = T j) {M : Int} (hM : μ.1 5 1 = M) (hMs : 1 < M ∧ M ≤ 2) (hfl : (t_flt 1 T len).1 ≠ 0) : tp_k G mX11_text [tR (some 0), tI 1, tI 1] μ (fun r μ' => r = some (tI (-1)) ∧ μ'.1 1 1 = 0 ∧ μ'.1 1 2 = (t_flt 1 T len).1 ∧ μ'.1 1 3 = (t_flt 1 T len).2 ∧ (∀ c, c ≠ 1 → (c < 41 ∨ 49 < c) → μ'.1 c = μ.1 c)) := by
  refine tp_ok_of mX11_text_ok rfl (Nat.le_refl _) ?_
  refine g_aload_n rfl rfl ?_
  refine x_getF (r := 1) hG rfl rfl (by decide) (Or.inl ⟨_, rfl⟩) rfl ?_
  refine x_geti (v := len) rfl rfl (by decide) (Or.inl rfl) hln ?_
  refine g_istore_n rfl rfl rfl ?_
  refine g_aload_n rfl rfl ?_
  refine x_getF (r := 1) hG rfl rfl (by decide) (Or.inl ⟨_, rfl⟩) rfl ?_
  refine g_iconst rfl ⟨by decide, by decide⟩ ?_
  refine g_puti rfl rfl (by decide) rfl rfl ?_
  refine g_aload_n rfl rfl ?_
  refine x_getF (r := 1) hG rfl rfl (by decide) (Or.inl ⟨_, rfl⟩) rfl ?_
  refine g_iconst rfl ⟨by decide, by decide⟩ ?_
  refine g_puti rfl rfl (by decide) rfl rfl ?_
  refine g_aload_n rfl rfl ?_
  refine x_getF (r := 1) hG rfl rfl (by decide) (Or.inl ⟨_, rfl⟩) rfl ?_
  refine g_iconst rfl ⟨by decide, by decide⟩ ?_
  refine g_puti rfl rfl (by decide) rfl rfl ?_
  refine g_aload_n rfl rfl ?_
  refine x_getF (r := 1) hG rfl rfl (by decide) (Or.inl ⟨_, rfl⟩) rfl ?_
  refine g_iload_n rfl rfl ?_
  refine g_iload_n rfl rfl ?_
  refine g_iV (as := [tI 1, tI 1]) mX9_slotFor_ok rfl rfl rfl rfl rfl rfl (by decide) rfl rfl rfl ?_
  refine g_iload_n rfl rfl ?_
  refine g_if_lt (tgt := 9) rfl (by decide) (fun hx => absurd hx (by omega)) (fun _ => ?_)
  refine g_iload_n rfl rfl ?_
  refine g_iconst rfl ⟨by decide, by decide⟩ ?_
  refine g_icmp_lt (tgt := 11) rfl (by decide) (fun _ => ?_) (fun hx => absurd hx (by omega))
  refine g_aload_n rfl rfl ?_
  refine x_getF (r := 5) hG rfl rfl (by decide) (Or.inr ⟨_, rfl⟩) rfl ?_
  refine g_iload_n rfl rfl ?_
  refine x_iald (v := M) rfl rfl (by decide) (by decide) (by decide) hM ?_
  refine g_istore_n rfl rfl rfl ?_
  refine g_iload_n rfl rfl ?_
  refine g_iconst rfl ⟨by decide, by decide⟩ ?_
  refine g_icmp_ne (tgt := 34) rfl (by decide) (fun _ => ?_) (fun hx => absurd hx (by omega))
  refine g_iload_n rfl rfl ?_
  refine g_if_lt (tgt := 43) rfl (by decide) (fun hx => absurd hx (by omega)) (fun _ => ?_)
  refine g_iload_n rfl rfl ?_
  refine g_iload_n rfl rfl ?_
  refine g_icmp_lt (tgt := 47) rfl (by decide) (fun _ => ?_) (fun hx => absurd hx (by omega))
  refine g_iload_n rfl rfl ?_
  refine x_ireturn rfl rfl ?_
  intro _
  refine g_istore rfl rfl rfl ?_
  refine g_iload rfl rfl ?_
  refine g_iconst rfl ⟨by decide, by decide⟩ ?_
  refine g_icmp_ne (tgt := 52) rfl (by decide) (fun _ => ?_) (fun hx => absurd hx (by omega))
  refine g_aload_n rfl rfl ?_
  refine x_getF (r := 41) hG rfl rfl (by decide) (Or.inl ⟨_, rfl⟩) rfl ?_
  refine g_aload_n rfl rfl ?_
  refine x_getF (r := 1) hG rfl rfl (by decide) (Or.inl ⟨_, rfl⟩) rfl ?_
  refine x_getF (r := 2) hG rfl rfl (by decide) (Or.inr ⟨_, rfl⟩) rfl ?_
  refine g_iload_n rfl rfl ?_
  refine g_iload_n rfl rfl ?_
  refine g_cV (as := [tR (some 2), tI len, tI 1]) (s_readN1 hG hT hlen hTm hfl) rfl rfl mX5_read_ok rfl rfl rfl (by decide) rfl rfl rfl ?_
  rintro _ w1 ⟨rfl, h8, h9, hR1⟩ _
  refine g_if_ne (tgt := 101) rfl (by decide) (fun hx => absurd hx (by omega)) (fun _ => ?_)
  refine g_aload_n rfl rfl ?_
  refine x_getF (r := 1) hG rfl rfl (by decide) (Or.inl ⟨_, rfl⟩) rfl ?_
  refine g_aload_n rfl rfl ?_
  refine x_getF (r := 41) hG rfl rfl (by decide) (Or.inl ⟨_, rfl⟩) rfl ?_
  refine x_geti (v := ((t_flt 1 T len).1)) rfl rfl (by decide) (Or.inl rfl) h8 ?_
  refine g_puti rfl rfl (by decide) rfl rfl ?_
  refine g_aload_n rfl rfl ?_
  refine x_getF (r := 1) hG rfl rfl (by decide) (Or.inl ⟨_, rfl⟩) rfl ?_
  refine g_aload_n rfl rfl ?_
  refine x_getF (r := 41) hG rfl rfl (by decide) (Or.inl ⟨_, rfl⟩) rfl ?_
  refine x_geti (v := ((t_flt 1 T len).2)) rfl rfl (by decide) (Or.inl rfl) h9 ?_
  refine g_puti rfl rfl (by decide) rfl rfl ?_
  refine g_iconst rfl ⟨by decide, by decide⟩ ?_
  refine x_ireturn rfl rfl ?_
  exact ⟨rfl, (congrFun (hR1 1 (by omega)) 1).trans rfl, rfl, rfl, fun c z y => by rw [tp_pi_ne z, tp_pi_ne z, hR1 c y, tp_pi_ne z, tp_pi_ne z, tp_pi_ne z]⟩
set_option maxHeartbeats 4000000 in
set_option maxRecDepth 100000 in
theorem s_mt11s0 {G : tp_G} {μ : tp_M} (hG : tp_Gf G = true) {T : Int → Int} {len : Int} (hT : ∀ j, 0 ≤ T j ∧ T j ≤ 255) (hlen : 0 ≤ len ∧ len ≤ 600) (h203 : μ.1 203 0 = len) (hTr : ∀ j, 0 ≤ j → j < len → tp_and (μ.1 202 j) 255 = T j) {M : Int} (hM : μ.1 206 1 = M) (hMs : 1 < M ∧ M ≤ 2) (hfl : (t_flt 1 T len).1 ≠ 0) : tp_k G mX12_text [tR (some 201), tI 1, tI 1] μ (fun r μ' => r = some (tI (-1)) ∧ μ'.1 203 0 = 0 ∧ μ'.1 204 0 = (t_flt 1 T len).1 ∧ μ'.1 205 0 = (t_flt 1 T len).2 ∧ m_Qc μ μ' ∧ (∀ c, m_Lc c → μ'.1 c = μ.1 c)) := by
  refine tp_ok_of mX12_text_ok rfl (Nat.le_refl _) ?_
  refine g_aload_n rfl rfl ?_
  refine g_iconst rfl ⟨by decide, by decide⟩ ?_
  refine g_puti rfl rfl (by decide) rfl rfl ?_
  refine g_aload_n rfl rfl ?_
  refine g_aload_n rfl rfl ?_
  refine x_getF (r := 203) hG rfl rfl (by decide) (Or.inr ⟨_, rfl⟩) rfl ?_
  refine g_iconst rfl ⟨by decide, by decide⟩ ?_
  refine x_iald (v := len) rfl rfl (by decide) (by decide) (by decide) h203 ?_
  refine g_puti rfl rfl (by decide) rfl rfl ?_
  refine g_aload_n rfl rfl ?_
  refine x_getF (r := 203) hG rfl rfl (by decide) (Or.inr ⟨_, rfl⟩) rfl ?_
  refine g_iconst rfl ⟨by decide, by decide⟩ ?_
  refine g_iconst rfl ⟨by decide, by decide⟩ ?_
  refine g_iast rfl rfl (by decide) (by decide) (by decide) ?_
  refine g_aload_n rfl rfl ?_
  refine x_getF (r := 204) hG rfl rfl (by decide) (Or.inr ⟨_, rfl⟩) rfl ?_
  refine g_iconst rfl ⟨by decide, by decide⟩ ?_
  refine g_iconst rfl ⟨by decide, by decide⟩ ?_
  refine g_iast rfl rfl (by decide) (by decide) (by decide) ?_
  refine g_aload_n rfl rfl ?_
  refine x_getF (r := 205) hG rfl rfl (by decide) (Or.inr ⟨_, rfl⟩) rfl ?_
  refine g_iconst rfl ⟨by decide, by decide⟩ ?_
  refine g_iconst rfl ⟨by decide, by decide⟩ ?_
  refine g_iast rfl rfl (by decide) (by decide) (by decide) ?_
  refine g_iload_n rfl rfl ?_
  refine g_iconst rfl ⟨by decide, by decide⟩ ?_
  refine g_iconst rfl ⟨by decide, by decide⟩ ?_
  refine g_iS (as := [tI 1, tI 0, tI 3]) mX12_in_ok rfl rfl rfl rfl rfl rfl rfl ?_
  refine g_iload_n rfl rfl ?_
  refine g_iload_n rfl rfl ?_
  refine g_icmp_lt (tgt := 14) rfl (by decide) (fun hx => absurd hx (by omega)) (fun _ => ?_)
  refine g_iload_n rfl rfl ?_
  refine g_iload_n rfl rfl ?_
  refine g_icmp_gt (tgt := 14) rfl (by decide) (fun hx => absurd hx (by omega)) (fun _ => ?_)
  refine g_iconst rfl ⟨by decide, by decide⟩ ?_
  refine g_goto (tgt := 15) rfl (by decide) ?_
  refine x_zreturn rfl rfl (Or.inr rfl) ?_
  intro _
  refine g_if_eq (tgt := 72) rfl (by decide) (fun hx => absurd hx (by omega)) (fun _ => ?_)
  refine g_iload_n rfl rfl ?_
  refine g_iconst rfl ⟨by decide, by decide⟩ ?_
  refine g_icmp_ne (tgt := 63) rfl (by decide) (fun _ => ?_) (fun hx => absurd hx (by omega))
  refine g_aload_n rfl rfl ?_
  refine g_iload_n rfl rfl ?_
  refine g_iload_n rfl rfl ?_
  refine g_iV (as := [tI 1, tI 1]) mX12_is_ok rfl rfl rfl rfl rfl rfl (by decide) rfl rfl rfl ?_
  refine g_iload_n rfl rfl ?_
  refine g_iconst rfl ⟨by decide, by decide⟩ ?_
  refine g_aload_n rfl rfl ?_
  refine x_getF (r := 206) hG rfl rfl (by decide) (Or.inr ⟨_, rfl⟩) rfl ?_
  refine g_iload_n rfl rfl ?_
  refine x_iald (v := M) rfl rfl (by decide) (by decide) (by decide) hM ?_
  refine g_iconst rfl ⟨by decide, by decide⟩ ?_
  refine x_isub (z := M - 1) rfl (by omega) ⟨by omega, by omega⟩ ?_
  refine g_iS (as := [tI 1, tI 0, tI (M - 1)]) mX12_in_ok rfl rfl rfl rfl rfl rfl rfl ?_
  refine g_iload_n rfl rfl ?_
  refine g_iload_n rfl rfl ?_
  refine g_icmp_lt (tgt := 14) rfl (by decide) (fun hx => absurd hx (by omega)) (fun _ => ?_)
  refine g_iload_n rfl rfl ?_
  refine g_iload_n rfl rfl ?_
  refine g_icmp_gt (tgt := 14) rfl (by decide) (fun hx => absurd hx (by omega)) (fun _ => ?_)
  refine g_iconst rfl ⟨by decide, by decide⟩ ?_
  refine g_goto (tgt := 15) rfl (by decide) ?_
  refine x_zreturn rfl rfl (Or.inr rfl) ?_
  intro _
  refine x_zreturn rfl rfl (Or.inr rfl) ?_
  intro _
  refine g_if_ne (tgt := 75) rfl (by decide) (fun _ => ?_) (fun hx => absurd hx (by omega))
  refine g_aload_n rfl rfl ?_
  refine g_iload_n rfl rfl ?_
  refine g_cV (as := [tI 1]) (s_rtxN1 (T := T) (len := len) hG hT ⟨rfl, hlen, hTr⟩ hfl) rfl rfl mX12_readText_ok rfl rfl rfl (by decide) rfl rfl rfl ?_
  rintro _ w1 ⟨rfl, h204, h205, hH1⟩ _
  have hM1 : w1.1 206 1 = M := by rw [hH1.1 206 (by omega) (by omega) (by omega) (by omega)]; exact hM
  refine g_if_ne (tgt := 85) rfl (by decide) (fun hx => absurd hx (by omega)) (fun _ => ?_)
  refine g_iconst rfl ⟨by decide, by decide⟩ ?_
  refine x_ireturn rfl rfl ?_
  exact ⟨rfl, (congrFun (hH1.1 203 (by omega) (by omega) (by omega) (by omega)) 0).trans rfl, h204, h205, fun q z => ⟨(congrFun (hH1.1 203 (by omega) (by omega) (by omega) (by omega)) q).trans (by rw [tp_pi_ne (by omega), tp_pi_ne (by omega), tp_pi_ix (by omega)]; rfl), ((hH1.2.2.1 q (by omega)).1).trans (by rw [tp_pi_ne (by omega), tp_pi_ix (by omega)]; rfl), ((hH1.2.2.1 q (by omega)).2).trans (by rw [tp_pi_ix (by omega)]; rfl)⟩, fun c z => by rw [hH1.1 c z.1 z.2.2.2.2 z.2.2.1 z.2.2.2.1, tp_pi_ne z.2.2.2.1, tp_pi_ne z.2.2.1, tp_pi_ne z.2.1, tp_pi_ne z.1, tp_pi_ne z.1]⟩
set_option maxHeartbeats 4000000 in
set_option maxRecDepth 100000 in
theorem p_tx11s {G : tp_G} {μ : tp_M} (hG : tp_Gf G = true) (hR : tp_R μ) {M : Int} (hM : μ.1 5 1 = M) (hMs : 1 < M ∧ M ≤ 2) : tp_q G mX11_text mX12_text [tI 1, tI 1] μ := by
  have hL := tp_R_len hR
  have hlen : 0 ≤ μ.1 1 1 ∧ μ.1 1 1 ≤ 600 := ⟨hL.1, hL.2.1⟩
  have hm9 := tp_R_many hR 1 (by decide) (by decide)
  have hT : ∀ j, 0 ≤ (fun j => tp_and (μ.1 2 j) 255 : Int → Int) j ∧ (fun j => tp_and (μ.1 2 j) 255 : Int → Int) j ≤ 255 := fun j => tp_and255 _
  generalize hTT : (fun j => tp_and (μ.1 2 j) 255 : Int → Int) = T at hT
  have hTm : ∀ j, 0 ≤ j → j < μ.1 1 1 → tp_and (μ.1 2 j) 255 = T j := fun j _ _ => by rw [← hTT]
  generalize hln : μ.1 1 1 = len at *
  by_cases hfl : (t_flt 1 T len).1 = 0
  · refine tp_kc (fun r μ1 z => ?_) (s_xt11s1 hG hT hlen hln hTm hM hMs hfl)
    obtain ⟨z1, z2, z3, z4, z5, z6⟩ := z
    refine ⟨1, z1, tp_kc (fun r2 μ2 y => ?_) (s_mt11s1 (T := T) (len := len) hG hT hlen (by rw [z6 203 (by omega) (by omega) (by omega) (by omega)]; exact hL.2.2.symm) (fun j j0 j1 => by rw [z6 202 (by omega) (by omega) (by omega) (by omega), ← tp_R_tape hR j j0 (by omega)]; exact hTm j j0 j1) (by rw [z6 206 (by omega) (by omega) (by omega) (by omega)]; exact hm9.1.symm.trans hM) hMs hfl)⟩
    obtain ⟨y1, y2, y3, y4, y5, y6, y7, y8, y9, y10⟩ := y
    have y5' : ∀ j, μ2.1 5 j = μ1.1 5 j := fun j => congrFun (y10 5 (by unfold m_Lc; omega) (by omega) (by omega)) j
    have yl : μ2.1 1 = μ1.1 1 := y10 1 (by unfold m_Lc; omega) (by omega) (by omega)
    refine ⟨y1, tp_R_k11 hR (fun k hk k1 k5 kc k2 kr => ?_) (fun q hq => ?_) (fun j hj => ?_) (fun t t0 t1 tn => ⟨?_, ?_⟩) ⟨?_, ?_, ?_⟩ (fun j hj => ?_) ⟨?_, y2⟩ ⟨?_, ?_⟩ ?_⟩
    · unfold tp_tl at hk
      rw [y10 k (by unfold m_Lc; omega) (by omega) kr, z6 k k1 k5 kc (by omega)]
    · rw [(y9 q hq).1, (y9 q hq).2.1, (y9 q hq).2.2, z6 203 (by omega) (by omega) (by omega) (by omega), z6 204 (by omega) (by omega) (by omega) (by omega), z6 205 (by omega) (by omega) (by omega) (by omega)]; exact ⟨rfl, rfl, rfl⟩
    · rw [y6 j (by omega), z6 206 (by omega) (by omega) (by omega) (by omega)]
    · rw [y5' t, z4 t tn]
    · rw [y6 t tn, z6 206 (by omega) (by omega) (by omega) (by omega)]
    · rw [y5' 1, z3, y5]
    · rw [y5' 1, z3]; omega
    · rw [y5' 1, z3]; omega
    · rw [y8 j hj, z6 208 (by omega) (by omega) (by omega) (by omega)]
    · rw [yl]; exact z2.1
    · rw [yl, y3]; exact z2.2.1
    · rw [yl, y4]; exact z2.2.2
    · exact tp_Dr_A (A := μ1.1) (fun i i0 i1 => y10 i (by unfold m_Lc; omega) (by omega) (by omega)) (tp_Dr_f (fun i i0 i1 => y7 i i0 i1) z5)
  · refine tp_kc (fun r μ1 z => ?_) (s_xt11s0 hG hT hlen hln hTm hM hMs hfl)
    obtain ⟨z1, z2, z3, z4, z6⟩ := z
    refine ⟨-1, z1, tp_kc (fun r2 μ2 y => ?_) (s_mt11s0 (T := T) (len := len) hG hT hlen (by rw [z6 203 (by omega) (by omega)]; exact hL.2.2.symm) (fun j j0 j1 => by rw [z6 202 (by omega) (by omega), ← tp_R_tape hR j j0 (by omega)]; exact hTm j j0 j1) (by rw [z6 206 (by omega) (by omega)]; exact hm9.1.symm.trans hM) hMs hfl)⟩
    obtain ⟨y1, y2, y3, y4, y9, y10⟩ := y
    have yl : μ2.1 1 = μ1.1 1 := y10 1 (by unfold m_Lc; omega)
    refine ⟨y1, tp_R_head hR (fun k hk k1 k2 k3 => ?_) (fun j hj => ?_) (fun q hq => ?_) ?_ (fun j j0 j1 => ?_) ⟨?_, ?_⟩⟩
    · unfold tp_tl at hk
      rw [y10 k (by unfold m_Lc; omega), z6 k k1 (by omega)]
    · rw [y10 202 (by unfold m_Lc; omega), z6 202 (by omega) (by omega)]
    · rw [(y9 q hq).1, (y9 q hq).2.1, (y9 q hq).2.2, z6 203 (by omega) (by omega), z6 204 (by omega) (by omega), z6 205 (by omega) (by omega)]; exact ⟨rfl, rfl, rfl⟩
    · rw [yl, z2, y2]; decide
    · rw [yl, z2] at j1; omega
    · rw [yl, z3, y3]
    · rw [yl, z4, y4]
set_option maxHeartbeats 4000000 in
set_option maxRecDepth 100000 in
theorem s_readY2 {G : tp_G} {μ : tp_M} (hG : tp_Gf G = true) {T : Int → Int} {len : Int} (hT : ∀ j, 0 ≤ T j ∧ T j ≤ 255) (hlen : 0 ≤ len ∧ len ≤ 600) (hTm : ∀ j, 0 ≤ j → j < len → tp_and (μ.1 2 j) 255 = T j) (hfl : (t_flt 2 T len).1 = 0) : tp_k G mX5_read [tR (some 41), tR (some 2), tI len, tI 2] μ (fun r μ' => r = some (tI 1) ∧ t_cont 2 (t_tld 2 T len) μ' ∧ rd_G μ μ') :=
  tp_kc (fun r μ' z => ⟨z.1.trans (by rw [if_pos hfl]), z.2.2.2.1 hfl, z.2.2.2.2⟩) (s_read2 hG hT hlen hTm)
theorem s_readN2 {G : tp_G} {μ : tp_M} (hG : tp_Gf G = true) {T : Int → Int} {len : Int} (hT : ∀ j, 0 ≤ T j ∧ T j ≤ 255) (hlen : 0 ≤ len ∧ len ≤ 600) (hTm : ∀ j, 0 ≤ j → j < len → tp_and (μ.1 2 j) 255 = T j) (hfl : (t_flt 2 T len).1 ≠ 0) : tp_k G mX5_read [tR (some 41), tR (some 2), tI len, tI 2] μ (fun r μ' => r = some (tI 0) ∧ μ'.1 41 8 = (t_flt 2 T len).1 ∧ μ'.1 41 9 = (t_flt 2 T len).2 ∧ rd_G μ μ') :=
  tp_kc (fun r μ' z => ⟨z.1.trans (by rw [if_neg hfl]), z.2.1, z.2.2.1, z.2.2.2.2⟩) (s_read2 hG hT hlen hTm)
theorem s_rtxY2 {G : tp_G} {μ : tp_M} (hG : tp_Gf G = true) {T : Int → Int} {len : Int} (hT : ∀ j, 0 ≤ T j ∧ T j ≤ 255) (hC : rd_C T len μ) (hfl : (t_flt 2 T len).1 = 0) : tp_k G mX12_readText [tR (some 201), tI 2] μ (fun r μ' => r = some (tI 1) ∧ μ'.1 204 0 = 0 ∧ μ'.1 205 0 = -1 ∧ (∀ j, 0 ≤ j → j < 129 → μ'.1 211 j = t_tld 2 T len j) ∧ m_H μ μ') :=
  tp_kc (fun r μ' z => ⟨z.1.trans (by rw [if_pos hfl]), z.2.1.trans hfl, z.2.2.1.trans (by rw [(t_wm ⟨by decide, by decide⟩ hC.2.1.1 hfl).1]), z.2.2.2.1 hfl, z.2.2.2.2⟩) (s_rtx2 hG hT hC)
theorem s_rtxN2 {G : tp_G} {μ : tp_M} (hG : tp_Gf G = true) {T : Int → Int} {len : Int} (hT : ∀ j, 0 ≤ T j ∧ T j ≤ 255) (hC : rd_C T len μ) (hfl : (t_flt 2 T len).1 ≠ 0) : tp_k G mX12_readText [tR (some 201), tI 2] μ (fun r μ' => r = some (tI 0) ∧ μ'.1 204 0 = (t_flt 2 T len).1 ∧ μ'.1 205 0 = (t_flt 2 T len).2 ∧ m_H μ μ') :=
  tp_kc (fun r μ' z => ⟨z.1.trans (by rw [if_neg hfl]), z.2.1, z.2.2.1, z.2.2.2.2⟩) (s_rtx2 hG hT hC)
set_option maxHeartbeats 4000000 in
set_option maxRecDepth 100000 in
theorem s_xt20m1 {G : tp_G} {μ : tp_M} (hG : tp_Gf G = true) {T : Int → Int} {len : Int} (hT : ∀ j, 0 ≤ T j ∧ T j ≤ 255) (hlen : 0 ≤ len ∧ len ≤ 600) (hln : μ.1 1 1 = len) (hTm : ∀ j, 0 ≤ j → j < len → tp_and (μ.1 2 j) 255 = T j) (hM : μ.1 5 2 = 0) (hfl : (t_flt 2 T len).1 = 0) : tp_k G mX11_text [tR (some 0), tI 2, tI (-1)] μ (fun r μ' => r = some (tI 0) ∧ (μ'.1 1 1 = 0 ∧ μ'.1 1 2 = 0 ∧ μ'.1 1 3 = -1) ∧ μ'.1 5 2 = 1 ∧ (∀ t, t ≠ 2 → μ'.1 5 t = μ.1 5 t) ∧ tp_Lo μ'.1 28 (t_tld 2 T len) ∧ (∀ c, c ≠ 1 → c ≠ 5 → (c < 28 ∨ 30 < c) → (c < 41 ∨ 49 < c) → μ'.1 c = μ.1 c)) := by
  refine tp_ok_of mX11_text_ok rfl (Nat.le_refl _) ?_
  refine g_aload_n rfl rfl ?_
  refine x_getF (r := 1) hG rfl rfl (by decide) (Or.inl ⟨_, rfl⟩) rfl ?_
  refine x_geti (v := len) rfl rfl (by decide) (Or.inl rfl) hln ?_
  refine g_istore_n rfl rfl rfl ?_
  refine g_aload_n rfl rfl ?_
  refine x_getF (r := 1) hG rfl rfl (by decide) (Or.inl ⟨_, rfl⟩) rfl ?_
  refine g_iconst rfl ⟨by decide, by decide⟩ ?_
  refine g_puti rfl rfl (by decide) rfl rfl ?_
  refine g_aload_n rfl rfl ?_
  refine x_getF (r := 1) hG rfl rfl (by decide) (Or.inl ⟨_, rfl⟩) rfl ?_
  refine g_iconst rfl ⟨by decide, by decide⟩ ?_
  refine g_puti rfl rfl (by decide) rfl rfl ?_
  refine g_aload_n rfl rfl ?_
  refine x_getF (r := 1) hG rfl rfl (by decide) (Or.inl ⟨_, rfl⟩) rfl ?_
  refine g_iconst rfl ⟨by decide, by decide⟩ ?_
  refine g_puti rfl rfl (by decide) rfl rfl ?_
  refine g_aload_n rfl rfl ?_
  refine x_getF (r := 1) hG rfl rfl (by decide) (Or.inl ⟨_, rfl⟩) rfl ?_
  refine g_iload_n rfl rfl ?_
  refine g_iload_n rfl rfl ?_
  refine g_iV (as := [tI 2, tI (-1)]) mX9_slotFor_ok rfl rfl rfl rfl rfl rfl (by decide) rfl rfl rfl ?_
  refine g_iload_n rfl rfl ?_
  refine g_if_lt (tgt := 9) rfl (by decide) (fun hx => absurd hx (by omega)) (fun _ => ?_)
  refine g_iload_n rfl rfl ?_
  refine g_iconst rfl ⟨by decide, by decide⟩ ?_
  refine g_icmp_lt (tgt := 11) rfl (by decide) (fun _ => ?_) (fun hx => absurd hx (by omega))
  refine g_aload_n rfl rfl ?_
  refine x_getF (r := 5) hG rfl rfl (by decide) (Or.inr ⟨_, rfl⟩) rfl ?_
  refine g_iload_n rfl rfl ?_
  refine x_iald (v := 0) rfl rfl (by decide) (by decide) (by decide) hM ?_
  refine g_istore_n rfl rfl rfl ?_
  refine g_iload_n rfl rfl ?_
  refine g_iconst rfl ⟨by decide, by decide⟩ ?_
  refine g_icmp_ne (tgt := 34) rfl (by decide) (fun hx => absurd hx (by omega)) (fun _ => ?_)
  refine g_iload_n rfl rfl ?_
  refine g_iconst rfl ⟨by decide, by decide⟩ ?_
  refine g_icmp_ge (tgt := 32) rfl (by decide) (fun hx => absurd hx (by omega)) (fun _ => ?_)
  refine g_iload_n rfl rfl ?_
  refine g_goto (tgt := 33) rfl (by decide) ?_
  refine x_ireturn rfl rfl ?_
  intro _
  refine g_istore rfl rfl rfl ?_
  refine g_iload rfl rfl ?_
  refine g_iconst rfl ⟨by decide, by decide⟩ ?_
  refine g_icmp_ne (tgt := 52) rfl (by decide) (fun _ => ?_) (fun hx => absurd hx (by omega))
  refine g_aload_n rfl rfl ?_
  refine x_getF (r := 41) hG rfl rfl (by decide) (Or.inl ⟨_, rfl⟩) rfl ?_
  refine g_aload_n rfl rfl ?_
  refine x_getF (r := 1) hG rfl rfl (by decide) (Or.inl ⟨_, rfl⟩) rfl ?_
  refine x_getF (r := 2) hG rfl rfl (by decide) (Or.inr ⟨_, rfl⟩) rfl ?_
  refine g_iload_n rfl rfl ?_
  refine g_iload_n rfl rfl ?_
  refine g_cV (as := [tR (some 2), tI len, tI 2]) (s_readY2 hG hT hlen hTm hfl) rfl rfl mX5_read_ok rfl rfl rfl (by decide) rfl rfl rfl ?_
  rintro _ w1 ⟨rfl, hct, hR1⟩ _
  have hct2 : tp_Lo w1.1 47 (t_tld 2 T len) := hct
  have hsz9 : 0 ≤ w1.1 47 2 ∧ w1.1 47 2 ≤ 12 := by have := hct2.1; have := hct2.2.1; omega
  refine g_if_ne (tgt := 101) rfl (by decide) (fun _ => ?_) (fun hx => absurd hx (by omega))
  refine g_aload_n rfl rfl ?_
  refine x_getF (r := 1) hG rfl rfl (by decide) (Or.inl ⟨_, rfl⟩) rfl ?_
  refine g_iload_n rfl rfl ?_
  refine g_iload rfl rfl ?_
  refine g_aload_n rfl rfl ?_
  refine x_getF (r := 41) hG rfl rfl (by decide) (Or.inl ⟨_, rfl⟩) rfl ?_
  refine g_iV (as := [tI 2, tI 0, tR (some 41)]) mX9_keep_ok rfl rfl rfl rfl rfl rfl (by decide) rfl rfl rfl ?_
  refine g_iload_n rfl rfl ?_
  refine g_if_lt (tgt := 18) rfl (by decide) (fun hx => absurd hx (by omega)) (fun _ => ?_)
  refine g_iload_n rfl rfl ?_
  refine g_iconst rfl ⟨by decide, by decide⟩ ?_
  refine g_icmp_ge (tgt := 18) rfl (by decide) (fun hx => absurd hx (by omega)) (fun _ => ?_)
  refine g_iload_n rfl rfl ?_
  refine g_if_lt (tgt := 18) rfl (by decide) (fun hx => absurd hx (by omega)) (fun _ => ?_)
  refine g_iload_n rfl rfl ?_
  refine g_iconst rfl ⟨by decide, by decide⟩ ?_
  refine g_icmp_lt (tgt := 19) rfl (by decide) (fun _ => ?_) (fun hx => absurd hx (by omega))
  refine g_iload_n rfl rfl ?_
  refine g_if_ne (tgt := 39) rfl (by decide) (fun _ => ?_) (fun hx => absurd hx (by omega))
  refine g_aload_n rfl rfl ?_
  refine x_getF (r := 4) hG rfl rfl (by decide) (Or.inr ⟨_, rfl⟩) rfl ?_
  refine g_iload_n rfl rfl ?_
  refine g_iconst rfl ⟨by decide, by decide⟩ ?_
  refine x_imul (z := 4) rfl (by omega) ⟨by omega, by omega⟩ ?_
  refine g_iload_n rfl rfl ?_
  refine x_iadd (z := 4) rfl (by omega) ⟨by omega, by omega⟩ ?_
  refine x_aald (t0 := 5) (r := 28) hG rfl rfl rfl (by decide) (by decide) (by decide) rfl ?_
  refine g_aload_n rfl rfl ?_
  refine x_getF (r := 47) hG rfl rfl (by decide) (Or.inl ⟨_, rfl⟩) rfl ?_
  refine g_cV (as := [tR (some 47)]) (s_rcop2 hG (c := 47) (d := 28) rfl rfl (by decide) (by decide) (by decide) hsz9.1 (show w1.1 47 2 ≤ (60 : Int) by omega) (show w1.1 47 2 ≤ (12 : Int) by omega) (by omega)) rfl rfl mX6_copyFrom_ok rfl rfl rfl (by decide) rfl rfl rfl ?_
  rintro _ w2 ⟨rfl, hK2, hK3, hF2⟩ _
  have hM2 : w2.1 5 2 = 0 := by rw [hF2 5 (by omega), hR1 5 (by omega)]; exact hM
  refine g_aload_n rfl rfl ?_
  refine x_getF (r := 5) hG rfl rfl (by decide) (Or.inr ⟨_, rfl⟩) rfl ?_
  refine g_iload_n rfl rfl ?_
  refine g_aload_n rfl rfl ?_
  refine x_getF (r := 5) hG rfl rfl (by decide) (Or.inr ⟨_, rfl⟩) rfl ?_
  refine g_iload_n rfl rfl ?_
  refine x_iald (v := 0) rfl rfl (by decide) (by decide) (by decide) hM2 ?_
  refine g_iload_n rfl rfl ?_
  refine g_iconst rfl ⟨by decide, by decide⟩ ?_
  refine x_iadd (z := 1) rfl (by omega) ⟨by omega, by omega⟩ ?_
  refine x_max (z := 1) rfl rfl (by omega) ?_
  refine g_iast rfl rfl (by decide) (by decide) (by decide) ?_
  refine x_return rfl rfl ?_
  intro _
  refine g_iload rfl rfl ?_
  refine x_ireturn rfl rfl ?_
  exact ⟨rfl, ⟨by rw [tp_pi_ne (by omega), hF2 1 (by omega), hR1 1 (by omega)]; rfl, by rw [tp_pi_ne (by omega), hF2 1 (by omega), hR1 1 (by omega)]; rfl, by rw [tp_pi_ne (by omega), hF2 1 (by omega), hR1 1 (by omega)]; rfl⟩, tp_pi_at.trans (by omega), fun t z => by rw [tp_pi_ix z, hF2 5 (by omega), hR1 5 (by omega)]; rfl, tp_Lo_A (A := w2.1) (fun i i0 i1 => tp_pi_ne (by omega)) (x_k2 hct ⟨hK2, hK3⟩), fun c z1 z2 z3 z4 => by rw [tp_pi_ne z2, hF2 c (by omega), hR1 c z4, tp_pi_ne z1, tp_pi_ne z1, tp_pi_ne z1]⟩
set_option maxHeartbeats 4000000 in
set_option maxRecDepth 100000 in
theorem s_mt20m1 {G : tp_G} {μ : tp_M} (hG : tp_Gf G = true) {T : Int → Int} {len : Int} (hT : ∀ j, 0 ≤ T j ∧ T j ≤ 255) (hlen : 0 ≤ len ∧ len ≤ 600) (h203 : μ.1 203 0 = len) (hTr : ∀ j, 0 ≤ j → j < len → tp_and (μ.1 202 j) 255 = T j) (hM : μ.1 206 2 = 0) (hfl : (t_flt 2 T len).1 = 0) : tp_k G mX12_text [tR (some 201), tI 2, tI (-1)] μ (fun r μ' => r = some (tI 0) ∧ μ'.1 203 0 = 0 ∧ μ'.1 204 0 = 0 ∧ μ'.1 205 0 = -1 ∧ μ'.1 206 2 = 1 ∧ (∀ t, t ≠ 2 → μ'.1 206 t = μ.1 206 t) ∧ (∀ j, 0 ≤ j → j < 101 → μ'.1 209 (0 + j) = t_tld 2 T len j) ∧ (∀ j, (j < 0 ∨ 101 ≤ j) → μ'.1 209 j = μ.1 209 j) ∧ m_Qc μ μ' ∧ (∀ c, m_Lc c → c ≠ 206 → c ≠ 209 → μ'.1 c = μ.1 c)) := by
  refine tp_ok_of mX12_text_ok rfl (Nat.le_refl _) ?_
  refine g_aload_n rfl rfl ?_
  refine g_iconst rfl ⟨by decide, by decide⟩ ?_
  refine g_puti rfl rfl (by decide) rfl rfl ?_
  refine g_aload_n rfl rfl ?_
  refine g_aload_n rfl rfl ?_
  refine x_getF (r := 203) hG rfl rfl (by decide) (Or.inr ⟨_, rfl⟩) rfl ?_
  refine g_iconst rfl ⟨by decide, by decide⟩ ?_
  refine x_iald (v := len) rfl rfl (by decide) (by decide) (by decide) h203 ?_
  refine g_puti rfl rfl (by decide) rfl rfl ?_
  refine g_aload_n rfl rfl ?_
  refine x_getF (r := 203) hG rfl rfl (by decide) (Or.inr ⟨_, rfl⟩) rfl ?_
  refine g_iconst rfl ⟨by decide, by decide⟩ ?_
  refine g_iconst rfl ⟨by decide, by decide⟩ ?_
  refine g_iast rfl rfl (by decide) (by decide) (by decide) ?_
  refine g_aload_n rfl rfl ?_
  refine x_getF (r := 204) hG rfl rfl (by decide) (Or.inr ⟨_, rfl⟩) rfl ?_
  refine g_iconst rfl ⟨by decide, by decide⟩ ?_
  refine g_iconst rfl ⟨by decide, by decide⟩ ?_
  refine g_iast rfl rfl (by decide) (by decide) (by decide) ?_
  refine g_aload_n rfl rfl ?_
  refine x_getF (r := 205) hG rfl rfl (by decide) (Or.inr ⟨_, rfl⟩) rfl ?_
  refine g_iconst rfl ⟨by decide, by decide⟩ ?_
  refine g_iconst rfl ⟨by decide, by decide⟩ ?_
  refine g_iast rfl rfl (by decide) (by decide) (by decide) ?_
  refine g_iload_n rfl rfl ?_
  refine g_iconst rfl ⟨by decide, by decide⟩ ?_
  refine g_iconst rfl ⟨by decide, by decide⟩ ?_
  refine g_iS (as := [tI 2, tI 0, tI 3]) mX12_in_ok rfl rfl rfl rfl rfl rfl rfl ?_
  refine g_iload_n rfl rfl ?_
  refine g_iload_n rfl rfl ?_
  refine g_icmp_lt (tgt := 14) rfl (by decide) (fun hx => absurd hx (by omega)) (fun _ => ?_)
  refine g_iload_n rfl rfl ?_
  refine g_iload_n rfl rfl ?_
  refine g_icmp_gt (tgt := 14) rfl (by decide) (fun hx => absurd hx (by omega)) (fun _ => ?_)
  refine g_iconst rfl ⟨by decide, by decide⟩ ?_
  refine g_goto (tgt := 15) rfl (by decide) ?_
  refine x_zreturn rfl rfl (Or.inr rfl) ?_
  intro _
  refine g_if_eq (tgt := 72) rfl (by decide) (fun hx => absurd hx (by omega)) (fun _ => ?_)
  refine g_iload_n rfl rfl ?_
  refine g_iconst rfl ⟨by decide, by decide⟩ ?_
  refine g_icmp_ne (tgt := 63) rfl (by decide) (fun hx => absurd hx (by omega)) (fun _ => ?_)
  refine g_aload_n rfl rfl ?_
  refine x_getF (r := 206) hG rfl rfl (by decide) (Or.inr ⟨_, rfl⟩) rfl ?_
  refine g_iload_n rfl rfl ?_
  refine x_iald (v := 0) rfl rfl (by decide) (by decide) (by decide) hM ?_
  refine g_iconst rfl ⟨by decide, by decide⟩ ?_
  refine g_icmp_ne (tgt := 75) rfl (by decide) (fun _ => ?_) (fun hx => absurd hx (by omega))
  refine g_aload_n rfl rfl ?_
  refine g_iload_n rfl rfl ?_
  refine g_cV (as := [tI 2]) (s_rtxY2 (T := T) (len := len) hG hT ⟨rfl, hlen, hTr⟩ hfl) rfl rfl mX12_readText_ok rfl rfl rfl (by decide) rfl rfl rfl ?_
  rintro _ w1 ⟨rfl, h204, h205, hto, hH1⟩ _
  have hM1 : w1.1 206 2 = 0 := by rw [hH1.1 206 (by omega) (by omega) (by omega) (by omega)]; exact hM
  refine g_if_ne (tgt := 85) rfl (by decide) (fun _ => ?_) (fun hx => absurd hx (by omega))
  refine g_iload_n rfl rfl ?_
  refine g_iconst rfl ⟨by decide, by decide⟩ ?_
  refine g_icmp_ne (tgt := 99) rfl (by decide) (fun hx => absurd hx (by omega)) (fun _ => ?_)
  refine g_aload_n rfl rfl ?_
  refine x_getF (r := 206) hG rfl rfl (by decide) (Or.inr ⟨_, rfl⟩) rfl ?_
  refine g_iload_n rfl rfl ?_
  refine x_iald (v := 0) rfl rfl (by decide) (by decide) (by decide) hM1 ?_
  refine g_goto (tgt := 100) rfl (by decide) ?_
  refine g_istore_n rfl rfl rfl ?_
  refine g_aload_n rfl rfl ?_
  refine x_getF (r := 206) hG rfl rfl (by decide) (Or.inr ⟨_, rfl⟩) rfl ?_
  refine g_iload_n rfl rfl ?_
  refine g_dup2 rfl ?_
  refine x_iald (v := 0) rfl rfl (by decide) (by decide) (by decide) hM1 ?_
  refine g_iload_n rfl rfl ?_
  refine g_iconst rfl ⟨by decide, by decide⟩ ?_
  refine g_icmp_ne (tgt := 117) rfl (by decide) (fun hx => absurd hx (by omega)) (fun _ => ?_)
  refine g_iconst rfl ⟨by decide, by decide⟩ ?_
  refine g_goto (tgt := 118) rfl (by decide) ?_
  refine x_iadd (z := 1) rfl (by omega) ⟨by omega, by omega⟩ ?_
  refine g_iast rfl rfl (by decide) (by decide) (by decide) ?_
  refine g_iload_n rfl rfl ?_
  refine g_if_ne (tgt := 139) rfl (by decide) (fun _ => ?_) (fun hx => absurd hx (by omega))
  refine g_iload_n rfl rfl ?_
  refine g_iconst rfl ⟨by decide, by decide⟩ ?_
  refine g_icmp_ne (tgt := 158) rfl (by decide) (fun _ => ?_) (fun hx => absurd hx (by omega))
  refine g_iload_n rfl rfl ?_
  refine g_iconst rfl ⟨by decide, by decide⟩ ?_
  refine g_icmp_ne (tgt := 177) rfl (by decide) (fun hx => absurd hx (by omega)) (fun _ => ?_)
  refine g_aload_n rfl rfl ?_
  refine g_aload_n rfl rfl ?_
  refine x_getF (r := 209) hG rfl rfl (by decide) (Or.inr ⟨_, rfl⟩) rfl ?_
  refine g_bipush rfl ⟨by decide, by decide⟩ (by decide) ?_
  refine g_iload_n rfl rfl ?_
  refine g_cV (as := [tR (some 209), tI 101, tI 0]) (s_kpt20 hG) rfl rfl mX12_keep_ok rfl rfl rfl (by decide) rfl rfl rfl ?_
  rintro _ w2 ⟨rfl, hv2, hw2, hF2⟩ _
  refine g_goto (tgt := 188) rfl (by decide) ?_
  refine g_iload_n rfl rfl ?_
  refine x_ireturn rfl rfl ?_
  have q203 : w2.1 203 = _ := (hF2 203 (by omega)).trans ((tp_pi_ne (by omega)).trans (hH1.1 203 (by omega) (by omega) (by omega) (by omega)))
  have q204 : w2.1 204 = w1.1 204 := (hF2 204 (by omega)).trans (tp_pi_ne (by omega))
  have q205 : w2.1 205 = w1.1 205 := (hF2 205 (by omega)).trans (tp_pi_ne (by omega))
  have q206 : w2.1 206 = (tp_pi w1 206 2 1).1 206 := hF2 206 (by omega)
  have q211 : (tp_pi w1 206 2 1).1 211 = w1.1 211 := tp_pi_ne (by omega)
  have qrc : (tp_pi w1 206 2 1).1 209 = _ := (tp_pi_ne (by omega)).trans (hH1.1 209 (by omega) (by omega) (by omega) (by omega))
  refine ⟨rfl, (congrFun q203 0).trans rfl, (congrFun q204 0).trans h204, (congrFun q205 0).trans h205, (congrFun q206 2).trans tp_pi_at, fun t z => ?_, fun j j0 j1 => ((hv2 j j0 j1).trans (congrFun q211 j)).trans (hto j j0 (by omega)), fun j z => ((hw2 j z).trans (congrFun qrc j)).trans rfl, fun q z => ⟨?_, ?_, ?_⟩, fun c z y1 y2 => ?_⟩
  · rw [q206, tp_pi_ix z, hH1.1 206 (by omega) (by omega) (by omega) (by omega)]; rfl
  · rw [q203, tp_pi_ne (by omega), tp_pi_ne (by omega), tp_pi_ix (by omega)]; rfl
  · rw [q204, (hH1.2.2.1 q (by omega)).1, tp_pi_ne (by omega), tp_pi_ix (by omega)]; rfl
  · rw [q205, (hH1.2.2.1 q (by omega)).2, tp_pi_ix (by omega)]; rfl
  · rw [hF2 c y2, tp_pi_ne y1, hH1.1 c z.1 z.2.2.2.2 z.2.2.1 z.2.2.2.1, tp_pi_ne z.2.2.2.1, tp_pi_ne z.2.2.1, tp_pi_ne z.2.1, tp_pi_ne z.1, tp_pi_ne z.1]
set_option maxHeartbeats 4000000 in
set_option maxRecDepth 100000 in
theorem s_xt20m0 {G : tp_G} {μ : tp_M} (hG : tp_Gf G = true) {T : Int → Int} {len : Int} (hT : ∀ j, 0 ≤ T j ∧ T j ≤ 255) (hlen : 0 ≤ len ∧ len ≤ 600) (hln : μ.1 1 1 = len) (hTm : ∀ j, 0 ≤ j → j < len → tp_and (μ.1 2 j) 255 = T j) (hM : μ.1 5 2 = 0) (hfl : (t_flt 2 T len).1 ≠ 0) : tp_k G mX11_text [tR (some 0), tI 2, tI (-1)] μ (fun r μ' => r = some (tI (-1)) ∧ μ'.1 1 1 = 0 ∧ μ'.1 1 2 = (t_flt 2 T len).1 ∧ μ'.1 1 3 = (t_flt 2 T len).2 ∧ (∀ c, c ≠ 1 → (c < 41 ∨ 49 < c) → μ'.1 c = μ.1 c)) := by
  refine tp_ok_of mX11_text_ok rfl (Nat.le_refl _) ?_
  refine g_aload_n rfl rfl ?_
  refine x_getF (r := 1) hG rfl rfl (by decide) (Or.inl ⟨_, rfl⟩) rfl ?_
  refine x_geti (v := len) rfl rfl (by decide) (Or.inl rfl) hln ?_
  refine g_istore_n rfl rfl rfl ?_
  refine g_aload_n rfl rfl ?_
  refine x_getF (r := 1) hG rfl rfl (by decide) (Or.inl ⟨_, rfl⟩) rfl ?_
  refine g_iconst rfl ⟨by decide, by decide⟩ ?_
  refine g_puti rfl rfl (by decide) rfl rfl ?_
  refine g_aload_n rfl rfl ?_
  refine x_getF (r := 1) hG rfl rfl (by decide) (Or.inl ⟨_, rfl⟩) rfl ?_
  refine g_iconst rfl ⟨by decide, by decide⟩ ?_
  refine g_puti rfl rfl (by decide) rfl rfl ?_
  refine g_aload_n rfl rfl ?_
  refine x_getF (r := 1) hG rfl rfl (by decide) (Or.inl ⟨_, rfl⟩) rfl ?_
  refine g_iconst rfl ⟨by decide, by decide⟩ ?_
  refine g_puti rfl rfl (by decide) rfl rfl ?_
  refine g_aload_n rfl rfl ?_
  refine x_getF (r := 1) hG rfl rfl (by decide) (Or.inl ⟨_, rfl⟩) rfl ?_
  refine g_iload_n rfl rfl ?_
  refine g_iload_n rfl rfl ?_
  refine g_iV (as := [tI 2, tI (-1)]) mX9_slotFor_ok rfl rfl rfl rfl rfl rfl (by decide) rfl rfl rfl ?_
  refine g_iload_n rfl rfl ?_
  refine g_if_lt (tgt := 9) rfl (by decide) (fun hx => absurd hx (by omega)) (fun _ => ?_)
  refine g_iload_n rfl rfl ?_
  refine g_iconst rfl ⟨by decide, by decide⟩ ?_
  refine g_icmp_lt (tgt := 11) rfl (by decide) (fun _ => ?_) (fun hx => absurd hx (by omega))
  refine g_aload_n rfl rfl ?_
  refine x_getF (r := 5) hG rfl rfl (by decide) (Or.inr ⟨_, rfl⟩) rfl ?_
  refine g_iload_n rfl rfl ?_
  refine x_iald (v := 0) rfl rfl (by decide) (by decide) (by decide) hM ?_
  refine g_istore_n rfl rfl rfl ?_
  refine g_iload_n rfl rfl ?_
  refine g_iconst rfl ⟨by decide, by decide⟩ ?_
  refine g_icmp_ne (tgt := 34) rfl (by decide) (fun hx => absurd hx (by omega)) (fun _ => ?_)
  refine g_iload_n rfl rfl ?_
  refine g_iconst rfl ⟨by decide, by decide⟩ ?_
  refine g_icmp_ge (tgt := 32) rfl (by decide) (fun hx => absurd hx (by omega)) (fun _ => ?_)
  refine g_iload_n rfl rfl ?_
  refine g_goto (tgt := 33) rfl (by decide) ?_
  refine x_ireturn rfl rfl ?_
  intro _
  refine g_istore rfl rfl rfl ?_
  refine g_iload rfl rfl ?_
  refine g_iconst rfl ⟨by decide, by decide⟩ ?_
  refine g_icmp_ne (tgt := 52) rfl (by decide) (fun _ => ?_) (fun hx => absurd hx (by omega))
  refine g_aload_n rfl rfl ?_
  refine x_getF (r := 41) hG rfl rfl (by decide) (Or.inl ⟨_, rfl⟩) rfl ?_
  refine g_aload_n rfl rfl ?_
  refine x_getF (r := 1) hG rfl rfl (by decide) (Or.inl ⟨_, rfl⟩) rfl ?_
  refine x_getF (r := 2) hG rfl rfl (by decide) (Or.inr ⟨_, rfl⟩) rfl ?_
  refine g_iload_n rfl rfl ?_
  refine g_iload_n rfl rfl ?_
  refine g_cV (as := [tR (some 2), tI len, tI 2]) (s_readN2 hG hT hlen hTm hfl) rfl rfl mX5_read_ok rfl rfl rfl (by decide) rfl rfl rfl ?_
  rintro _ w1 ⟨rfl, h8, h9, hR1⟩ _
  refine g_if_ne (tgt := 101) rfl (by decide) (fun hx => absurd hx (by omega)) (fun _ => ?_)
  refine g_aload_n rfl rfl ?_
  refine x_getF (r := 1) hG rfl rfl (by decide) (Or.inl ⟨_, rfl⟩) rfl ?_
  refine g_aload_n rfl rfl ?_
  refine x_getF (r := 41) hG rfl rfl (by decide) (Or.inl ⟨_, rfl⟩) rfl ?_
  refine x_geti (v := ((t_flt 2 T len).1)) rfl rfl (by decide) (Or.inl rfl) h8 ?_
  refine g_puti rfl rfl (by decide) rfl rfl ?_
  refine g_aload_n rfl rfl ?_
  refine x_getF (r := 1) hG rfl rfl (by decide) (Or.inl ⟨_, rfl⟩) rfl ?_
  refine g_aload_n rfl rfl ?_
  refine x_getF (r := 41) hG rfl rfl (by decide) (Or.inl ⟨_, rfl⟩) rfl ?_
  refine x_geti (v := ((t_flt 2 T len).2)) rfl rfl (by decide) (Or.inl rfl) h9 ?_
  refine g_puti rfl rfl (by decide) rfl rfl ?_
  refine g_iconst rfl ⟨by decide, by decide⟩ ?_
  refine x_ireturn rfl rfl ?_
  exact ⟨rfl, (congrFun (hR1 1 (by omega)) 1).trans rfl, rfl, rfl, fun c z y => by rw [tp_pi_ne z, tp_pi_ne z, hR1 c y, tp_pi_ne z, tp_pi_ne z, tp_pi_ne z]⟩
set_option maxHeartbeats 4000000 in
set_option maxRecDepth 100000 in
theorem s_mt20m0 {G : tp_G} {μ : tp_M} (hG : tp_Gf G = true) {T : Int → Int} {len : Int} (hT : ∀ j, 0 ≤ T j ∧ T j ≤ 255) (hlen : 0 ≤ len ∧ len ≤ 600) (h203 : μ.1 203 0 = len) (hTr : ∀ j, 0 ≤ j → j < len → tp_and (μ.1 202 j) 255 = T j) (hM : μ.1 206 2 = 0) (hfl : (t_flt 2 T len).1 ≠ 0) : tp_k G mX12_text [tR (some 201), tI 2, tI (-1)] μ (fun r μ' => r = some (tI (-1)) ∧ μ'.1 203 0 = 0 ∧ μ'.1 204 0 = (t_flt 2 T len).1 ∧ μ'.1 205 0 = (t_flt 2 T len).2 ∧ m_Qc μ μ' ∧ (∀ c, m_Lc c → μ'.1 c = μ.1 c)) := by
  refine tp_ok_of mX12_text_ok rfl (Nat.le_refl _) ?_
  refine g_aload_n rfl rfl ?_
  refine g_iconst rfl ⟨by decide, by decide⟩ ?_
  refine g_puti rfl rfl (by decide) rfl rfl ?_
  refine g_aload_n rfl rfl ?_
  refine g_aload_n rfl rfl ?_
  refine x_getF (r := 203) hG rfl rfl (by decide) (Or.inr ⟨_, rfl⟩) rfl ?_
  refine g_iconst rfl ⟨by decide, by decide⟩ ?_
  refine x_iald (v := len) rfl rfl (by decide) (by decide) (by decide) h203 ?_
  refine g_puti rfl rfl (by decide) rfl rfl ?_
  refine g_aload_n rfl rfl ?_
  refine x_getF (r := 203) hG rfl rfl (by decide) (Or.inr ⟨_, rfl⟩) rfl ?_
  refine g_iconst rfl ⟨by decide, by decide⟩ ?_
  refine g_iconst rfl ⟨by decide, by decide⟩ ?_
  refine g_iast rfl rfl (by decide) (by decide) (by decide) ?_
  refine g_aload_n rfl rfl ?_
  refine x_getF (r := 204) hG rfl rfl (by decide) (Or.inr ⟨_, rfl⟩) rfl ?_
  refine g_iconst rfl ⟨by decide, by decide⟩ ?_
  refine g_iconst rfl ⟨by decide, by decide⟩ ?_
  refine g_iast rfl rfl (by decide) (by decide) (by decide) ?_
  refine g_aload_n rfl rfl ?_
  refine x_getF (r := 205) hG rfl rfl (by decide) (Or.inr ⟨_, rfl⟩) rfl ?_
  refine g_iconst rfl ⟨by decide, by decide⟩ ?_
  refine g_iconst rfl ⟨by decide, by decide⟩ ?_
  refine g_iast rfl rfl (by decide) (by decide) (by decide) ?_
  refine g_iload_n rfl rfl ?_
  refine g_iconst rfl ⟨by decide, by decide⟩ ?_
  refine g_iconst rfl ⟨by decide, by decide⟩ ?_
  refine g_iS (as := [tI 2, tI 0, tI 3]) mX12_in_ok rfl rfl rfl rfl rfl rfl rfl ?_
  refine g_iload_n rfl rfl ?_
  refine g_iload_n rfl rfl ?_
  refine g_icmp_lt (tgt := 14) rfl (by decide) (fun hx => absurd hx (by omega)) (fun _ => ?_)
  refine g_iload_n rfl rfl ?_
  refine g_iload_n rfl rfl ?_
  refine g_icmp_gt (tgt := 14) rfl (by decide) (fun hx => absurd hx (by omega)) (fun _ => ?_)
  refine g_iconst rfl ⟨by decide, by decide⟩ ?_
  refine g_goto (tgt := 15) rfl (by decide) ?_
  refine x_zreturn rfl rfl (Or.inr rfl) ?_
  intro _
  refine g_if_eq (tgt := 72) rfl (by decide) (fun hx => absurd hx (by omega)) (fun _ => ?_)
  refine g_iload_n rfl rfl ?_
  refine g_iconst rfl ⟨by decide, by decide⟩ ?_
  refine g_icmp_ne (tgt := 63) rfl (by decide) (fun hx => absurd hx (by omega)) (fun _ => ?_)
  refine g_aload_n rfl rfl ?_
  refine x_getF (r := 206) hG rfl rfl (by decide) (Or.inr ⟨_, rfl⟩) rfl ?_
  refine g_iload_n rfl rfl ?_
  refine x_iald (v := 0) rfl rfl (by decide) (by decide) (by decide) hM ?_
  refine g_iconst rfl ⟨by decide, by decide⟩ ?_
  refine g_icmp_ne (tgt := 75) rfl (by decide) (fun _ => ?_) (fun hx => absurd hx (by omega))
  refine g_aload_n rfl rfl ?_
  refine g_iload_n rfl rfl ?_
  refine g_cV (as := [tI 2]) (s_rtxN2 (T := T) (len := len) hG hT ⟨rfl, hlen, hTr⟩ hfl) rfl rfl mX12_readText_ok rfl rfl rfl (by decide) rfl rfl rfl ?_
  rintro _ w1 ⟨rfl, h204, h205, hH1⟩ _
  have hM1 : w1.1 206 2 = 0 := by rw [hH1.1 206 (by omega) (by omega) (by omega) (by omega)]; exact hM
  refine g_if_ne (tgt := 85) rfl (by decide) (fun hx => absurd hx (by omega)) (fun _ => ?_)
  refine g_iconst rfl ⟨by decide, by decide⟩ ?_
  refine x_ireturn rfl rfl ?_
  exact ⟨rfl, (congrFun (hH1.1 203 (by omega) (by omega) (by omega) (by omega)) 0).trans rfl, h204, h205, fun q z => ⟨(congrFun (hH1.1 203 (by omega) (by omega) (by omega) (by omega)) q).trans (by rw [tp_pi_ne (by omega), tp_pi_ne (by omega), tp_pi_ix (by omega)]; rfl), ((hH1.2.2.1 q (by omega)).1).trans (by rw [tp_pi_ne (by omega), tp_pi_ix (by omega)]; rfl), ((hH1.2.2.1 q (by omega)).2).trans (by rw [tp_pi_ix (by omega)]; rfl)⟩, fun c z => by rw [hH1.1 c z.1 z.2.2.2.2 z.2.2.1 z.2.2.2.1, tp_pi_ne z.2.2.2.1, tp_pi_ne z.2.2.1, tp_pi_ne z.2.1, tp_pi_ne z.1, tp_pi_ne z.1]⟩
set_option maxHeartbeats 4000000 in
set_option maxRecDepth 100000 in
theorem p_tx20m {G : tp_G} {μ : tp_M} (hG : tp_Gf G = true) (hR : tp_R μ) (hM : μ.1 5 2 = 0) : tp_q G mX11_text mX12_text [tI 2, tI (-1)] μ := by
  have hL := tp_R_len hR
  have hlen : 0 ≤ μ.1 1 1 ∧ μ.1 1 1 ≤ 600 := ⟨hL.1, hL.2.1⟩
  have hm9 := tp_R_many hR 2 (by decide) (by decide)
  have hT : ∀ j, 0 ≤ (fun j => tp_and (μ.1 2 j) 255 : Int → Int) j ∧ (fun j => tp_and (μ.1 2 j) 255 : Int → Int) j ≤ 255 := fun j => tp_and255 _
  generalize hTT : (fun j => tp_and (μ.1 2 j) 255 : Int → Int) = T at hT
  have hTm : ∀ j, 0 ≤ j → j < μ.1 1 1 → tp_and (μ.1 2 j) 255 = T j := fun j _ _ => by rw [← hTT]
  generalize hln : μ.1 1 1 = len at *
  by_cases hfl : (t_flt 2 T len).1 = 0
  · refine tp_kc (fun r μ1 z => ?_) (s_xt20m1 hG hT hlen hln hTm hM hfl)
    obtain ⟨z1, z2, z3, z4, z5, z6⟩ := z
    refine ⟨0, z1, tp_kc (fun r2 μ2 y => ?_) (s_mt20m1 (T := T) (len := len) hG hT hlen (by rw [z6 203 (by omega) (by omega) (by omega) (by omega)]; exact hL.2.2.symm) (fun j j0 j1 => by rw [z6 202 (by omega) (by omega) (by omega) (by omega), ← tp_R_tape hR j j0 (by omega)]; exact hTm j j0 j1) (by rw [z6 206 (by omega) (by omega) (by omega) (by omega)]; exact hm9.1.symm.trans hM) hfl)⟩
    obtain ⟨y1, y2, y3, y4, y5, y6, y7, y8, y9, y10⟩ := y
    have y5' : ∀ j, μ2.1 5 j = μ1.1 5 j := fun j => congrFun (y10 5 (by unfold m_Lc; omega) (by omega) (by omega)) j
    have yl : μ2.1 1 = μ1.1 1 := y10 1 (by unfold m_Lc; omega) (by omega) (by omega)
    refine ⟨y1, tp_R_k20 hR (fun k hk k1 k5 kc k2 kr => ?_) (fun q hq => ?_) (fun j hj => ?_) (fun t t0 t1 tn => ⟨?_, ?_⟩) ⟨?_, ?_, ?_⟩ (fun j hj => ?_) ⟨?_, y2⟩ ⟨?_, ?_⟩ ?_⟩
    · unfold tp_tl at hk
      rw [y10 k (by unfold m_Lc; omega) (by omega) kr, z6 k k1 k5 kc (by omega)]
    · rw [(y9 q hq).1, (y9 q hq).2.1, (y9 q hq).2.2, z6 203 (by omega) (by omega) (by omega) (by omega), z6 204 (by omega) (by omega) (by omega) (by omega), z6 205 (by omega) (by omega) (by omega) (by omega)]; exact ⟨rfl, rfl, rfl⟩
    · rw [y6 j (by omega), z6 206 (by omega) (by omega) (by omega) (by omega)]
    · rw [y5' t, z4 t tn]
    · rw [y6 t tn, z6 206 (by omega) (by omega) (by omega) (by omega)]
    · rw [y5' 2, z3, y5]
    · rw [y5' 2, z3]; omega
    · rw [y5' 2, z3]; omega
    · rw [y8 j hj, z6 209 (by omega) (by omega) (by omega) (by omega)]
    · rw [yl]; exact z2.1
    · rw [yl, y3]; exact z2.2.1
    · rw [yl, y4]; exact z2.2.2
    · exact tp_Lo_A (A := μ1.1) (fun i i0 i1 => y10 i (by unfold m_Lc; omega) (by omega) (by omega)) (tp_Lo_f (fun i i0 i1 => y7 i i0 i1) z5)
  · refine tp_kc (fun r μ1 z => ?_) (s_xt20m0 hG hT hlen hln hTm hM hfl)
    obtain ⟨z1, z2, z3, z4, z6⟩ := z
    refine ⟨-1, z1, tp_kc (fun r2 μ2 y => ?_) (s_mt20m0 (T := T) (len := len) hG hT hlen (by rw [z6 203 (by omega) (by omega)]; exact hL.2.2.symm) (fun j j0 j1 => by rw [z6 202 (by omega) (by omega), ← tp_R_tape hR j j0 (by omega)]; exact hTm j j0 j1) (by rw [z6 206 (by omega) (by omega)]; exact hm9.1.symm.trans hM) hfl)⟩
    obtain ⟨y1, y2, y3, y4, y9, y10⟩ := y
    have yl : μ2.1 1 = μ1.1 1 := y10 1 (by unfold m_Lc; omega)
    refine ⟨y1, tp_R_head hR (fun k hk k1 k2 k3 => ?_) (fun j hj => ?_) (fun q hq => ?_) ?_ (fun j j0 j1 => ?_) ⟨?_, ?_⟩⟩
    · unfold tp_tl at hk
      rw [y10 k (by unfold m_Lc; omega), z6 k k1 (by omega)]
    · rw [y10 202 (by unfold m_Lc; omega), z6 202 (by omega) (by omega)]
    · rw [(y9 q hq).1, (y9 q hq).2.1, (y9 q hq).2.2, z6 203 (by omega) (by omega), z6 204 (by omega) (by omega), z6 205 (by omega) (by omega)]; exact ⟨rfl, rfl, rfl⟩
    · rw [yl, z2, y2]; decide
    · rw [yl, z2] at j1; omega
    · rw [yl, z3, y3]
    · rw [yl, z4, y4]
set_option maxHeartbeats 4000000 in
set_option maxRecDepth 100000 in
theorem s_xt20s1 {G : tp_G} {μ : tp_M} (hG : tp_Gf G = true) {T : Int → Int} {len : Int} (hT : ∀ j, 0 ≤ T j ∧ T j ≤ 255) (hlen : 0 ≤ len ∧ len ≤ 600) (hln : μ.1 1 1 = len) (hTm : ∀ j, 0 ≤ j → j < len → tp_and (μ.1 2 j) 255 = T j) {M : Int} (hM : μ.1 5 2 = M) (hMs : 0 < M ∧ M ≤ 2) (hfl : (t_flt 2 T len).1 = 0) : tp_k G mX11_text [tR (some 0), tI 2, tI 0] μ (fun r μ' => r = some (tI 0) ∧ (μ'.1 1 1 = 0 ∧ μ'.1 1 2 = 0 ∧ μ'.1 1 3 = -1) ∧ μ'.1 5 2 = M ∧ (∀ t, t ≠ 2 → μ'.1 5 t = μ.1 5 t) ∧ tp_Lo μ'.1 28 (t_tld 2 T len) ∧ (∀ c, c ≠ 1 → c ≠ 5 → (c < 28 ∨ 30 < c) → (c < 41 ∨ 49 < c) → μ'.1 c = μ.1 c)) := by
  refine tp_ok_of mX11_text_ok rfl (Nat.le_refl _) ?_
  refine g_aload_n rfl rfl ?_
  refine x_getF (r := 1) hG rfl rfl (by decide) (Or.inl ⟨_, rfl⟩) rfl ?_
  refine x_geti (v := len) rfl rfl (by decide) (Or.inl rfl) hln ?_
  refine g_istore_n rfl rfl rfl ?_
  refine g_aload_n rfl rfl ?_
  refine x_getF (r := 1) hG rfl rfl (by decide) (Or.inl ⟨_, rfl⟩) rfl ?_
  refine g_iconst rfl ⟨by decide, by decide⟩ ?_
  refine g_puti rfl rfl (by decide) rfl rfl ?_
  refine g_aload_n rfl rfl ?_
  refine x_getF (r := 1) hG rfl rfl (by decide) (Or.inl ⟨_, rfl⟩) rfl ?_
  refine g_iconst rfl ⟨by decide, by decide⟩ ?_
  refine g_puti rfl rfl (by decide) rfl rfl ?_
  refine g_aload_n rfl rfl ?_
  refine x_getF (r := 1) hG rfl rfl (by decide) (Or.inl ⟨_, rfl⟩) rfl ?_
  refine g_iconst rfl ⟨by decide, by decide⟩ ?_
  refine g_puti rfl rfl (by decide) rfl rfl ?_
  refine g_aload_n rfl rfl ?_
  refine x_getF (r := 1) hG rfl rfl (by decide) (Or.inl ⟨_, rfl⟩) rfl ?_
  refine g_iload_n rfl rfl ?_
  refine g_iload_n rfl rfl ?_
  refine g_iV (as := [tI 2, tI 0]) mX9_slotFor_ok rfl rfl rfl rfl rfl rfl (by decide) rfl rfl rfl ?_
  refine g_iload_n rfl rfl ?_
  refine g_if_lt (tgt := 9) rfl (by decide) (fun hx => absurd hx (by omega)) (fun _ => ?_)
  refine g_iload_n rfl rfl ?_
  refine g_iconst rfl ⟨by decide, by decide⟩ ?_
  refine g_icmp_lt (tgt := 11) rfl (by decide) (fun _ => ?_) (fun hx => absurd hx (by omega))
  refine g_aload_n rfl rfl ?_
  refine x_getF (r := 5) hG rfl rfl (by decide) (Or.inr ⟨_, rfl⟩) rfl ?_
  refine g_iload_n rfl rfl ?_
  refine x_iald (v := M) rfl rfl (by decide) (by decide) (by decide) hM ?_
  refine g_istore_n rfl rfl rfl ?_
  refine g_iload_n rfl rfl ?_
  refine g_iconst rfl ⟨by decide, by decide⟩ ?_
  refine g_icmp_ne (tgt := 34) rfl (by decide) (fun _ => ?_) (fun hx => absurd hx (by omega))
  refine g_iload_n rfl rfl ?_
  refine g_if_lt (tgt := 43) rfl (by decide) (fun hx => absurd hx (by omega)) (fun _ => ?_)
  refine g_iload_n rfl rfl ?_
  refine g_iload_n rfl rfl ?_
  refine g_icmp_lt (tgt := 47) rfl (by decide) (fun _ => ?_) (fun hx => absurd hx (by omega))
  refine g_iload_n rfl rfl ?_
  refine x_ireturn rfl rfl ?_
  intro _
  refine g_istore rfl rfl rfl ?_
  refine g_iload rfl rfl ?_
  refine g_iconst rfl ⟨by decide, by decide⟩ ?_
  refine g_icmp_ne (tgt := 52) rfl (by decide) (fun _ => ?_) (fun hx => absurd hx (by omega))
  refine g_aload_n rfl rfl ?_
  refine x_getF (r := 41) hG rfl rfl (by decide) (Or.inl ⟨_, rfl⟩) rfl ?_
  refine g_aload_n rfl rfl ?_
  refine x_getF (r := 1) hG rfl rfl (by decide) (Or.inl ⟨_, rfl⟩) rfl ?_
  refine x_getF (r := 2) hG rfl rfl (by decide) (Or.inr ⟨_, rfl⟩) rfl ?_
  refine g_iload_n rfl rfl ?_
  refine g_iload_n rfl rfl ?_
  refine g_cV (as := [tR (some 2), tI len, tI 2]) (s_readY2 hG hT hlen hTm hfl) rfl rfl mX5_read_ok rfl rfl rfl (by decide) rfl rfl rfl ?_
  rintro _ w1 ⟨rfl, hct, hR1⟩ _
  have hct2 : tp_Lo w1.1 47 (t_tld 2 T len) := hct
  have hsz9 : 0 ≤ w1.1 47 2 ∧ w1.1 47 2 ≤ 12 := by have := hct2.1; have := hct2.2.1; omega
  refine g_if_ne (tgt := 101) rfl (by decide) (fun _ => ?_) (fun hx => absurd hx (by omega))
  refine g_aload_n rfl rfl ?_
  refine x_getF (r := 1) hG rfl rfl (by decide) (Or.inl ⟨_, rfl⟩) rfl ?_
  refine g_iload_n rfl rfl ?_
  refine g_iload rfl rfl ?_
  refine g_aload_n rfl rfl ?_
  refine x_getF (r := 41) hG rfl rfl (by decide) (Or.inl ⟨_, rfl⟩) rfl ?_
  refine g_iV (as := [tI 2, tI 0, tR (some 41)]) mX9_keep_ok rfl rfl rfl rfl rfl rfl (by decide) rfl rfl rfl ?_
  refine g_iload_n rfl rfl ?_
  refine g_if_lt (tgt := 18) rfl (by decide) (fun hx => absurd hx (by omega)) (fun _ => ?_)
  refine g_iload_n rfl rfl ?_
  refine g_iconst rfl ⟨by decide, by decide⟩ ?_
  refine g_icmp_ge (tgt := 18) rfl (by decide) (fun hx => absurd hx (by omega)) (fun _ => ?_)
  refine g_iload_n rfl rfl ?_
  refine g_if_lt (tgt := 18) rfl (by decide) (fun hx => absurd hx (by omega)) (fun _ => ?_)
  refine g_iload_n rfl rfl ?_
  refine g_iconst rfl ⟨by decide, by decide⟩ ?_
  refine g_icmp_lt (tgt := 19) rfl (by decide) (fun _ => ?_) (fun hx => absurd hx (by omega))
  refine g_iload_n rfl rfl ?_
  refine g_if_ne (tgt := 39) rfl (by decide) (fun _ => ?_) (fun hx => absurd hx (by omega))
  refine g_aload_n rfl rfl ?_
  refine x_getF (r := 4) hG rfl rfl (by decide) (Or.inr ⟨_, rfl⟩) rfl ?_
  refine g_iload_n rfl rfl ?_
  refine g_iconst rfl ⟨by decide, by decide⟩ ?_
  refine x_imul (z := 4) rfl (by omega) ⟨by omega, by omega⟩ ?_
  refine g_iload_n rfl rfl ?_
  refine x_iadd (z := 4) rfl (by omega) ⟨by omega, by omega⟩ ?_
  refine x_aald (t0 := 5) (r := 28) hG rfl rfl rfl (by decide) (by decide) (by decide) rfl ?_
  refine g_aload_n rfl rfl ?_
  refine x_getF (r := 47) hG rfl rfl (by decide) (Or.inl ⟨_, rfl⟩) rfl ?_
  refine g_cV (as := [tR (some 47)]) (s_rcop2 hG (c := 47) (d := 28) rfl rfl (by decide) (by decide) (by decide) hsz9.1 (show w1.1 47 2 ≤ (60 : Int) by omega) (show w1.1 47 2 ≤ (12 : Int) by omega) (by omega)) rfl rfl mX6_copyFrom_ok rfl rfl rfl (by decide) rfl rfl rfl ?_
  rintro _ w2 ⟨rfl, hK2, hK3, hF2⟩ _
  have hM2 : w2.1 5 2 = M := by rw [hF2 5 (by omega), hR1 5 (by omega)]; exact hM
  refine g_aload_n rfl rfl ?_
  refine x_getF (r := 5) hG rfl rfl (by decide) (Or.inr ⟨_, rfl⟩) rfl ?_
  refine g_iload_n rfl rfl ?_
  refine g_aload_n rfl rfl ?_
  refine x_getF (r := 5) hG rfl rfl (by decide) (Or.inr ⟨_, rfl⟩) rfl ?_
  refine g_iload_n rfl rfl ?_
  refine x_iald (v := M) rfl rfl (by decide) (by decide) (by decide) hM2 ?_
  refine g_iload_n rfl rfl ?_
  refine g_iconst rfl ⟨by decide, by decide⟩ ?_
  refine x_iadd (z := 1) rfl (by omega) ⟨by omega, by omega⟩ ?_
  refine x_max (z := M) rfl rfl (by omega) ?_
  refine g_iast rfl rfl (by decide) (by decide) (by decide) ?_
  refine x_return rfl rfl ?_
  intro _
  refine g_iload rfl rfl ?_
  refine x_ireturn rfl rfl ?_
  exact ⟨rfl, ⟨by rw [tp_pi_ne (by omega), hF2 1 (by omega), hR1 1 (by omega)]; rfl, by rw [tp_pi_ne (by omega), hF2 1 (by omega), hR1 1 (by omega)]; rfl, by rw [tp_pi_ne (by omega), hF2 1 (by omega), hR1 1 (by omega)]; rfl⟩, tp_pi_at.trans (by omega), fun t z => by rw [tp_pi_ix z, hF2 5 (by omega), hR1 5 (by omega)]; rfl, tp_Lo_A (A := w2.1) (fun i i0 i1 => tp_pi_ne (by omega)) (x_k2 hct ⟨hK2, hK3⟩), fun c z1 z2 z3 z4 => by rw [tp_pi_ne z2, hF2 c (by omega), hR1 c z4, tp_pi_ne z1, tp_pi_ne z1, tp_pi_ne z1]⟩
set_option maxHeartbeats 4000000 in
set_option maxRecDepth 100000 in
theorem s_mt20s1 {G : tp_G} {μ : tp_M} (hG : tp_Gf G = true) {T : Int → Int} {len : Int} (hT : ∀ j, 0 ≤ T j ∧ T j ≤ 255) (hlen : 0 ≤ len ∧ len ≤ 600) (h203 : μ.1 203 0 = len) (hTr : ∀ j, 0 ≤ j → j < len → tp_and (μ.1 202 j) 255 = T j) {M : Int} (hM : μ.1 206 2 = M) (hMs : 0 < M ∧ M ≤ 2) (hfl : (t_flt 2 T len).1 = 0) : tp_k G mX12_text [tR (some 201), tI 2, tI 0] μ (fun r μ' => r = some (tI 0) ∧ μ'.1 203 0 = 0 ∧ μ'.1 204 0 = 0 ∧ μ'.1 205 0 = -1 ∧ μ'.1 206 2 = M ∧ (∀ t, t ≠ 2 → μ'.1 206 t = μ.1 206 t) ∧ (∀ j, 0 ≤ j → j < 101 → μ'.1 209 (0 + j) = t_tld 2 T len j) ∧ (∀ j, (j < 0 ∨ 101 ≤ j) → μ'.1 209 j = μ.1 209 j) ∧ m_Qc μ μ' ∧ (∀ c, m_Lc c → c ≠ 206 → c ≠ 209 → μ'.1 c = μ.1 c)) := by
  refine tp_ok_of mX12_text_ok rfl (Nat.le_refl _) ?_
  refine g_aload_n rfl rfl ?_
  refine g_iconst rfl ⟨by decide, by decide⟩ ?_
  refine g_puti rfl rfl (by decide) rfl rfl ?_
  refine g_aload_n rfl rfl ?_
  refine g_aload_n rfl rfl ?_
  refine x_getF (r := 203) hG rfl rfl (by decide) (Or.inr ⟨_, rfl⟩) rfl ?_
  refine g_iconst rfl ⟨by decide, by decide⟩ ?_
  refine x_iald (v := len) rfl rfl (by decide) (by decide) (by decide) h203 ?_
  refine g_puti rfl rfl (by decide) rfl rfl ?_
  refine g_aload_n rfl rfl ?_
  refine x_getF (r := 203) hG rfl rfl (by decide) (Or.inr ⟨_, rfl⟩) rfl ?_
  refine g_iconst rfl ⟨by decide, by decide⟩ ?_
  refine g_iconst rfl ⟨by decide, by decide⟩ ?_
  refine g_iast rfl rfl (by decide) (by decide) (by decide) ?_
  refine g_aload_n rfl rfl ?_
  refine x_getF (r := 204) hG rfl rfl (by decide) (Or.inr ⟨_, rfl⟩) rfl ?_
  refine g_iconst rfl ⟨by decide, by decide⟩ ?_
  refine g_iconst rfl ⟨by decide, by decide⟩ ?_
  refine g_iast rfl rfl (by decide) (by decide) (by decide) ?_
  refine g_aload_n rfl rfl ?_
  refine x_getF (r := 205) hG rfl rfl (by decide) (Or.inr ⟨_, rfl⟩) rfl ?_
  refine g_iconst rfl ⟨by decide, by decide⟩ ?_
  refine g_iconst rfl ⟨by decide, by decide⟩ ?_
  refine g_iast rfl rfl (by decide) (by decide) (by decide) ?_
  refine g_iload_n rfl rfl ?_
  refine g_iconst rfl ⟨by decide, by decide⟩ ?_
  refine g_iconst rfl ⟨by decide, by decide⟩ ?_
  refine g_iS (as := [tI 2, tI 0, tI 3]) mX12_in_ok rfl rfl rfl rfl rfl rfl rfl ?_
  refine g_iload_n rfl rfl ?_
  refine g_iload_n rfl rfl ?_
  refine g_icmp_lt (tgt := 14) rfl (by decide) (fun hx => absurd hx (by omega)) (fun _ => ?_)
  refine g_iload_n rfl rfl ?_
  refine g_iload_n rfl rfl ?_
  refine g_icmp_gt (tgt := 14) rfl (by decide) (fun hx => absurd hx (by omega)) (fun _ => ?_)
  refine g_iconst rfl ⟨by decide, by decide⟩ ?_
  refine g_goto (tgt := 15) rfl (by decide) ?_
  refine x_zreturn rfl rfl (Or.inr rfl) ?_
  intro _
  refine g_if_eq (tgt := 72) rfl (by decide) (fun hx => absurd hx (by omega)) (fun _ => ?_)
  refine g_iload_n rfl rfl ?_
  refine g_iconst rfl ⟨by decide, by decide⟩ ?_
  refine g_icmp_ne (tgt := 63) rfl (by decide) (fun _ => ?_) (fun hx => absurd hx (by omega))
  refine g_aload_n rfl rfl ?_
  refine g_iload_n rfl rfl ?_
  refine g_iload_n rfl rfl ?_
  refine g_iV (as := [tI 2, tI 0]) mX12_is_ok rfl rfl rfl rfl rfl rfl (by decide) rfl rfl rfl ?_
  refine g_iload_n rfl rfl ?_
  refine g_iconst rfl ⟨by decide, by decide⟩ ?_
  refine g_aload_n rfl rfl ?_
  refine x_getF (r := 206) hG rfl rfl (by decide) (Or.inr ⟨_, rfl⟩) rfl ?_
  refine g_iload_n rfl rfl ?_
  refine x_iald (v := M) rfl rfl (by decide) (by decide) (by decide) hM ?_
  refine g_iconst rfl ⟨by decide, by decide⟩ ?_
  refine x_isub (z := M - 1) rfl (by omega) ⟨by omega, by omega⟩ ?_
  refine g_iS (as := [tI 0, tI 0, tI (M - 1)]) mX12_in_ok rfl rfl rfl rfl rfl rfl rfl ?_
  refine g_iload_n rfl rfl ?_
  refine g_iload_n rfl rfl ?_
  refine g_icmp_lt (tgt := 14) rfl (by decide) (fun hx => absurd hx (by omega)) (fun _ => ?_)
  refine g_iload_n rfl rfl ?_
  refine g_iload_n rfl rfl ?_
  refine g_icmp_gt (tgt := 14) rfl (by decide) (fun hx => absurd hx (by omega)) (fun _ => ?_)
  refine g_iconst rfl ⟨by decide, by decide⟩ ?_
  refine g_goto (tgt := 15) rfl (by decide) ?_
  refine x_zreturn rfl rfl (Or.inr rfl) ?_
  intro _
  refine x_zreturn rfl rfl (Or.inr rfl) ?_
  intro _
  refine g_if_ne (tgt := 75) rfl (by decide) (fun _ => ?_) (fun hx => absurd hx (by omega))
  refine g_aload_n rfl rfl ?_
  refine g_iload_n rfl rfl ?_
  refine g_cV (as := [tI 2]) (s_rtxY2 (T := T) (len := len) hG hT ⟨rfl, hlen, hTr⟩ hfl) rfl rfl mX12_readText_ok rfl rfl rfl (by decide) rfl rfl rfl ?_
  rintro _ w1 ⟨rfl, h204, h205, hto, hH1⟩ _
  have hM1 : w1.1 206 2 = M := by rw [hH1.1 206 (by omega) (by omega) (by omega) (by omega)]; exact hM
  refine g_if_ne (tgt := 85) rfl (by decide) (fun _ => ?_) (fun hx => absurd hx (by omega))
  refine g_iload_n rfl rfl ?_
  refine g_iconst rfl ⟨by decide, by decide⟩ ?_
  refine g_icmp_ne (tgt := 99) rfl (by decide) (fun _ => ?_) (fun hx => absurd hx (by omega))
  refine g_iload_n rfl rfl ?_
  refine g_istore_n rfl rfl rfl ?_
  refine g_aload_n rfl rfl ?_
  refine x_getF (r := 206) hG rfl rfl (by decide) (Or.inr ⟨_, rfl⟩) rfl ?_
  refine g_iload_n rfl rfl ?_
  refine g_dup2 rfl ?_
  refine x_iald (v := M) rfl rfl (by decide) (by decide) (by decide) hM1 ?_
  refine g_iload_n rfl rfl ?_
  refine g_iconst rfl ⟨by decide, by decide⟩ ?_
  refine g_icmp_ne (tgt := 117) rfl (by decide) (fun _ => ?_) (fun hx => absurd hx (by omega))
  refine g_iconst rfl ⟨by decide, by decide⟩ ?_
  refine x_iadd (z := M) rfl (by omega) ⟨by omega, by omega⟩ ?_
  refine g_iast rfl rfl (by decide) (by decide) (by decide) ?_
  refine g_iload_n rfl rfl ?_
  refine g_if_ne (tgt := 139) rfl (by decide) (fun _ => ?_) (fun hx => absurd hx (by omega))
  refine g_iload_n rfl rfl ?_
  refine g_iconst rfl ⟨by decide, by decide⟩ ?_
  refine g_icmp_ne (tgt := 158) rfl (by decide) (fun _ => ?_) (fun hx => absurd hx (by omega))
  refine g_iload_n rfl rfl ?_
  refine g_iconst rfl ⟨by decide, by decide⟩ ?_
  refine g_icmp_ne (tgt := 177) rfl (by decide) (fun hx => absurd hx (by omega)) (fun _ => ?_)
  refine g_aload_n rfl rfl ?_
  refine g_aload_n rfl rfl ?_
  refine x_getF (r := 209) hG rfl rfl (by decide) (Or.inr ⟨_, rfl⟩) rfl ?_
  refine g_bipush rfl ⟨by decide, by decide⟩ (by decide) ?_
  refine g_iload_n rfl rfl ?_
  refine g_cV (as := [tR (some 209), tI 101, tI 0]) (s_kpt20 hG) rfl rfl mX12_keep_ok rfl rfl rfl (by decide) rfl rfl rfl ?_
  rintro _ w2 ⟨rfl, hv2, hw2, hF2⟩ _
  refine g_goto (tgt := 188) rfl (by decide) ?_
  refine g_iload_n rfl rfl ?_
  refine x_ireturn rfl rfl ?_
  have q203 : w2.1 203 = _ := (hF2 203 (by omega)).trans ((tp_pi_ne (by omega)).trans (hH1.1 203 (by omega) (by omega) (by omega) (by omega)))
  have q204 : w2.1 204 = w1.1 204 := (hF2 204 (by omega)).trans (tp_pi_ne (by omega))
  have q205 : w2.1 205 = w1.1 205 := (hF2 205 (by omega)).trans (tp_pi_ne (by omega))
  have q206 : w2.1 206 = (tp_pi w1 206 2 M).1 206 := hF2 206 (by omega)
  have q211 : (tp_pi w1 206 2 M).1 211 = w1.1 211 := tp_pi_ne (by omega)
  have qrc : (tp_pi w1 206 2 M).1 209 = _ := (tp_pi_ne (by omega)).trans (hH1.1 209 (by omega) (by omega) (by omega) (by omega))
  refine ⟨rfl, (congrFun q203 0).trans rfl, (congrFun q204 0).trans h204, (congrFun q205 0).trans h205, (congrFun q206 2).trans tp_pi_at, fun t z => ?_, fun j j0 j1 => ((hv2 j j0 j1).trans (congrFun q211 j)).trans (hto j j0 (by omega)), fun j z => ((hw2 j z).trans (congrFun qrc j)).trans rfl, fun q z => ⟨?_, ?_, ?_⟩, fun c z y1 y2 => ?_⟩
  · rw [q206, tp_pi_ix z, hH1.1 206 (by omega) (by omega) (by omega) (by omega)]; rfl
  · rw [q203, tp_pi_ne (by omega), tp_pi_ne (by omega), tp_pi_ix (by omega)]; rfl
  · rw [q204, (hH1.2.2.1 q (by omega)).1, tp_pi_ne (by omega), tp_pi_ix (by omega)]; rfl
  · rw [q205, (hH1.2.2.1 q (by omega)).2, tp_pi_ix (by omega)]; rfl
  · rw [hF2 c y2, tp_pi_ne y1, hH1.1 c z.1 z.2.2.2.2 z.2.2.1 z.2.2.2.1, tp_pi_ne z.2.2.2.1, tp_pi_ne z.2.2.1, tp_pi_ne z.2.1, tp_pi_ne z.1, tp_pi_ne z.1]
set_option maxHeartbeats 4000000 in
set_option maxRecDepth 100000 in
theorem s_xt20s0 {G : tp_G} {μ : tp_M} (hG : tp_Gf G = true) {T : Int → Int} {len : Int} (hT : ∀ j, 0 ≤ T j ∧ T j ≤ 255) (hlen : 0 ≤ len ∧ len ≤ 600) (hln : μ.1 1 1 = len) (hTm : ∀ j, 0 ≤ j → j < len → tp_and (μ.1 2 j) 255 = T j) {M : Int} (hM : μ.1 5 2 = M) (hMs : 0 < M ∧ M ≤ 2) (hfl : (t_flt 2 T len).1 ≠ 0) : tp_k G mX11_text [tR (some 0), tI 2, tI 0] μ (fun r μ' => r = some (tI (-1)) ∧ μ'.1 1 1 = 0 ∧ μ'.1 1 2 = (t_flt 2 T len).1 ∧ μ'.1 1 3 = (t_flt 2 T len).2 ∧ (∀ c, c ≠ 1 → (c < 41 ∨ 49 < c) → μ'.1 c = μ.1 c)) := by
  refine tp_ok_of mX11_text_ok rfl (Nat.le_refl _) ?_
  refine g_aload_n rfl rfl ?_
  refine x_getF (r := 1) hG rfl rfl (by decide) (Or.inl ⟨_, rfl⟩) rfl ?_
  refine x_geti (v := len) rfl rfl (by decide) (Or.inl rfl) hln ?_
  refine g_istore_n rfl rfl rfl ?_
  refine g_aload_n rfl rfl ?_
  refine x_getF (r := 1) hG rfl rfl (by decide) (Or.inl ⟨_, rfl⟩) rfl ?_
  refine g_iconst rfl ⟨by decide, by decide⟩ ?_
  refine g_puti rfl rfl (by decide) rfl rfl ?_
  refine g_aload_n rfl rfl ?_
  refine x_getF (r := 1) hG rfl rfl (by decide) (Or.inl ⟨_, rfl⟩) rfl ?_
  refine g_iconst rfl ⟨by decide, by decide⟩ ?_
  refine g_puti rfl rfl (by decide) rfl rfl ?_
  refine g_aload_n rfl rfl ?_
  refine x_getF (r := 1) hG rfl rfl (by decide) (Or.inl ⟨_, rfl⟩) rfl ?_
  refine g_iconst rfl ⟨by decide, by decide⟩ ?_
  refine g_puti rfl rfl (by decide) rfl rfl ?_
  refine g_aload_n rfl rfl ?_
  refine x_getF (r := 1) hG rfl rfl (by decide) (Or.inl ⟨_, rfl⟩) rfl ?_
  refine g_iload_n rfl rfl ?_
  refine g_iload_n rfl rfl ?_
  refine g_iV (as := [tI 2, tI 0]) mX9_slotFor_ok rfl rfl rfl rfl rfl rfl (by decide) rfl rfl rfl ?_
  refine g_iload_n rfl rfl ?_
  refine g_if_lt (tgt := 9) rfl (by decide) (fun hx => absurd hx (by omega)) (fun _ => ?_)
  refine g_iload_n rfl rfl ?_
  refine g_iconst rfl ⟨by decide, by decide⟩ ?_
  refine g_icmp_lt (tgt := 11) rfl (by decide) (fun _ => ?_) (fun hx => absurd hx (by omega))
  refine g_aload_n rfl rfl ?_
  refine x_getF (r := 5) hG rfl rfl (by decide) (Or.inr ⟨_, rfl⟩) rfl ?_
  refine g_iload_n rfl rfl ?_
  refine x_iald (v := M) rfl rfl (by decide) (by decide) (by decide) hM ?_
  refine g_istore_n rfl rfl rfl ?_
  refine g_iload_n rfl rfl ?_
  refine g_iconst rfl ⟨by decide, by decide⟩ ?_
  refine g_icmp_ne (tgt := 34) rfl (by decide) (fun _ => ?_) (fun hx => absurd hx (by omega))
  refine g_iload_n rfl rfl ?_
  refine g_if_lt (tgt := 43) rfl (by decide) (fun hx => absurd hx (by omega)) (fun _ => ?_)
  refine g_iload_n rfl rfl ?_
  refine g_iload_n rfl rfl ?_
  refine g_icmp_lt (tgt := 47) rfl (by decide) (fun _ => ?_) (fun hx => absurd hx (by omega))
  refine g_iload_n rfl rfl ?_
  refine x_ireturn rfl rfl ?_
  intro _
  refine g_istore rfl rfl rfl ?_
  refine g_iload rfl rfl ?_
  refine g_iconst rfl ⟨by decide, by decide⟩ ?_
  refine g_icmp_ne (tgt := 52) rfl (by decide) (fun _ => ?_) (fun hx => absurd hx (by omega))
  refine g_aload_n rfl rfl ?_
  refine x_getF (r := 41) hG rfl rfl (by decide) (Or.inl ⟨_, rfl⟩) rfl ?_
  refine g_aload_n rfl rfl ?_
  refine x_getF (r := 1) hG rfl rfl (by decide) (Or.inl ⟨_, rfl⟩) rfl ?_
  refine x_getF (r := 2) hG rfl rfl (by decide) (Or.inr ⟨_, rfl⟩) rfl ?_
  refine g_iload_n rfl rfl ?_
  refine g_iload_n rfl rfl ?_
  refine g_cV (as := [tR (some 2), tI len, tI 2]) (s_readN2 hG hT hlen hTm hfl) rfl rfl mX5_read_ok rfl rfl rfl (by decide) rfl rfl rfl ?_
  rintro _ w1 ⟨rfl, h8, h9, hR1⟩ _
  refine g_if_ne (tgt := 101) rfl (by decide) (fun hx => absurd hx (by omega)) (fun _ => ?_)
  refine g_aload_n rfl rfl ?_
  refine x_getF (r := 1) hG rfl rfl (by decide) (Or.inl ⟨_, rfl⟩) rfl ?_
  refine g_aload_n rfl rfl ?_
  refine x_getF (r := 41) hG rfl rfl (by decide) (Or.inl ⟨_, rfl⟩) rfl ?_
  refine x_geti (v := ((t_flt 2 T len).1)) rfl rfl (by decide) (Or.inl rfl) h8 ?_
  refine g_puti rfl rfl (by decide) rfl rfl ?_
  refine g_aload_n rfl rfl ?_
  refine x_getF (r := 1) hG rfl rfl (by decide) (Or.inl ⟨_, rfl⟩) rfl ?_
  refine g_aload_n rfl rfl ?_
  refine x_getF (r := 41) hG rfl rfl (by decide) (Or.inl ⟨_, rfl⟩) rfl ?_
  refine x_geti (v := ((t_flt 2 T len).2)) rfl rfl (by decide) (Or.inl rfl) h9 ?_
  refine g_puti rfl rfl (by decide) rfl rfl ?_
  refine g_iconst rfl ⟨by decide, by decide⟩ ?_
  refine x_ireturn rfl rfl ?_
  exact ⟨rfl, (congrFun (hR1 1 (by omega)) 1).trans rfl, rfl, rfl, fun c z y => by rw [tp_pi_ne z, tp_pi_ne z, hR1 c y, tp_pi_ne z, tp_pi_ne z, tp_pi_ne z]⟩
set_option maxHeartbeats 4000000 in
set_option maxRecDepth 100000 in
theorem s_mt20s0 {G : tp_G} {μ : tp_M} (hG : tp_Gf G = true) {T : Int → Int} {len : Int} (hT : ∀ j, 0 ≤ T j ∧ T j ≤ 255) (hlen : 0 ≤ len ∧ len ≤ 600) (h203 : μ.1 203 0 = len) (hTr : ∀ j, 0 ≤ j → j < len → tp_and (μ.1 202 j) 255 = T j) {M : Int} (hM : μ.1 206 2 = M) (hMs : 0 < M ∧ M ≤ 2) (hfl : (t_flt 2 T len).1 ≠ 0) : tp_k G mX12_text [tR (some 201), tI 2, tI 0] μ (fun r μ' => r = some (tI (-1)) ∧ μ'.1 203 0 = 0 ∧ μ'.1 204 0 = (t_flt 2 T len).1 ∧ μ'.1 205 0 = (t_flt 2 T len).2 ∧ m_Qc μ μ' ∧ (∀ c, m_Lc c → μ'.1 c = μ.1 c)) := by
  refine tp_ok_of mX12_text_ok rfl (Nat.le_refl _) ?_
  refine g_aload_n rfl rfl ?_
  refine g_iconst rfl ⟨by decide, by decide⟩ ?_
  refine g_puti rfl rfl (by decide) rfl rfl ?_
  refine g_aload_n rfl rfl ?_
  refine g_aload_n rfl rfl ?_
  refine x_getF (r := 203) hG rfl rfl (by decide) (Or.inr ⟨_, rfl⟩) rfl ?_
  refine g_iconst rfl ⟨by decide, by decide⟩ ?_
  refine x_iald (v := len) rfl rfl (by decide) (by decide) (by decide) h203 ?_
  refine g_puti rfl rfl (by decide) rfl rfl ?_
  refine g_aload_n rfl rfl ?_
  refine x_getF (r := 203) hG rfl rfl (by decide) (Or.inr ⟨_, rfl⟩) rfl ?_
  refine g_iconst rfl ⟨by decide, by decide⟩ ?_
  refine g_iconst rfl ⟨by decide, by decide⟩ ?_
  refine g_iast rfl rfl (by decide) (by decide) (by decide) ?_
  refine g_aload_n rfl rfl ?_
  refine x_getF (r := 204) hG rfl rfl (by decide) (Or.inr ⟨_, rfl⟩) rfl ?_
  refine g_iconst rfl ⟨by decide, by decide⟩ ?_
  refine g_iconst rfl ⟨by decide, by decide⟩ ?_
  refine g_iast rfl rfl (by decide) (by decide) (by decide) ?_
  refine g_aload_n rfl rfl ?_
  refine x_getF (r := 205) hG rfl rfl (by decide) (Or.inr ⟨_, rfl⟩) rfl ?_
  refine g_iconst rfl ⟨by decide, by decide⟩ ?_
  refine g_iconst rfl ⟨by decide, by decide⟩ ?_
  refine g_iast rfl rfl (by decide) (by decide) (by decide) ?_
  refine g_iload_n rfl rfl ?_
  refine g_iconst rfl ⟨by decide, by decide⟩ ?_
  refine g_iconst rfl ⟨by decide, by decide⟩ ?_
  refine g_iS (as := [tI 2, tI 0, tI 3]) mX12_in_ok rfl rfl rfl rfl rfl rfl rfl ?_
  refine g_iload_n rfl rfl ?_
  refine g_iload_n rfl rfl ?_
  refine g_icmp_lt (tgt := 14) rfl (by decide) (fun hx => absurd hx (by omega)) (fun _ => ?_)
  refine g_iload_n rfl rfl ?_
  refine g_iload_n rfl rfl ?_
  refine g_icmp_gt (tgt := 14) rfl (by decide) (fun hx => absurd hx (by omega)) (fun _ => ?_)
  refine g_iconst rfl ⟨by decide, by decide⟩ ?_
  refine g_goto (tgt := 15) rfl (by decide) ?_
  refine x_zreturn rfl rfl (Or.inr rfl) ?_
  intro _
  refine g_if_eq (tgt := 72) rfl (by decide) (fun hx => absurd hx (by omega)) (fun _ => ?_)
  refine g_iload_n rfl rfl ?_
  refine g_iconst rfl ⟨by decide, by decide⟩ ?_
  refine g_icmp_ne (tgt := 63) rfl (by decide) (fun _ => ?_) (fun hx => absurd hx (by omega))
  refine g_aload_n rfl rfl ?_
  refine g_iload_n rfl rfl ?_
  refine g_iload_n rfl rfl ?_
  refine g_iV (as := [tI 2, tI 0]) mX12_is_ok rfl rfl rfl rfl rfl rfl (by decide) rfl rfl rfl ?_
  refine g_iload_n rfl rfl ?_
  refine g_iconst rfl ⟨by decide, by decide⟩ ?_
  refine g_aload_n rfl rfl ?_
  refine x_getF (r := 206) hG rfl rfl (by decide) (Or.inr ⟨_, rfl⟩) rfl ?_
  refine g_iload_n rfl rfl ?_
  refine x_iald (v := M) rfl rfl (by decide) (by decide) (by decide) hM ?_
  refine g_iconst rfl ⟨by decide, by decide⟩ ?_
  refine x_isub (z := M - 1) rfl (by omega) ⟨by omega, by omega⟩ ?_
  refine g_iS (as := [tI 0, tI 0, tI (M - 1)]) mX12_in_ok rfl rfl rfl rfl rfl rfl rfl ?_
  refine g_iload_n rfl rfl ?_
  refine g_iload_n rfl rfl ?_
  refine g_icmp_lt (tgt := 14) rfl (by decide) (fun hx => absurd hx (by omega)) (fun _ => ?_)
  refine g_iload_n rfl rfl ?_
  refine g_iload_n rfl rfl ?_
  refine g_icmp_gt (tgt := 14) rfl (by decide) (fun hx => absurd hx (by omega)) (fun _ => ?_)
  refine g_iconst rfl ⟨by decide, by decide⟩ ?_
  refine g_goto (tgt := 15) rfl (by decide) ?_
  refine x_zreturn rfl rfl (Or.inr rfl) ?_
  intro _
  refine x_zreturn rfl rfl (Or.inr rfl) ?_
  intro _
  refine g_if_ne (tgt := 75) rfl (by decide) (fun _ => ?_) (fun hx => absurd hx (by omega))
  refine g_aload_n rfl rfl ?_
  refine g_iload_n rfl rfl ?_
  refine g_cV (as := [tI 2]) (s_rtxN2 (T := T) (len := len) hG hT ⟨rfl, hlen, hTr⟩ hfl) rfl rfl mX12_readText_ok rfl rfl rfl (by decide) rfl rfl rfl ?_
  rintro _ w1 ⟨rfl, h204, h205, hH1⟩ _
  have hM1 : w1.1 206 2 = M := by rw [hH1.1 206 (by omega) (by omega) (by omega) (by omega)]; exact hM
  refine g_if_ne (tgt := 85) rfl (by decide) (fun hx => absurd hx (by omega)) (fun _ => ?_)
  refine g_iconst rfl ⟨by decide, by decide⟩ ?_
  refine x_ireturn rfl rfl ?_
  exact ⟨rfl, (congrFun (hH1.1 203 (by omega) (by omega) (by omega) (by omega)) 0).trans rfl, h204, h205, fun q z => ⟨(congrFun (hH1.1 203 (by omega) (by omega) (by omega) (by omega)) q).trans (by rw [tp_pi_ne (by omega), tp_pi_ne (by omega), tp_pi_ix (by omega)]; rfl), ((hH1.2.2.1 q (by omega)).1).trans (by rw [tp_pi_ne (by omega), tp_pi_ix (by omega)]; rfl), ((hH1.2.2.1 q (by omega)).2).trans (by rw [tp_pi_ix (by omega)]; rfl)⟩, fun c z => by rw [hH1.1 c z.1 z.2.2.2.2 z.2.2.1 z.2.2.2.1, tp_pi_ne z.2.2.2.1, tp_pi_ne z.2.2.1, tp_pi_ne z.2.1, tp_pi_ne z.1, tp_pi_ne z.1]⟩
set_option maxHeartbeats 4000000 in
set_option maxRecDepth 100000 in
theorem p_tx20s {G : tp_G} {μ : tp_M} (hG : tp_Gf G = true) (hR : tp_R μ) {M : Int} (hM : μ.1 5 2 = M) (hMs : 0 < M ∧ M ≤ 2) : tp_q G mX11_text mX12_text [tI 2, tI 0] μ := by
  have hL := tp_R_len hR
  have hlen : 0 ≤ μ.1 1 1 ∧ μ.1 1 1 ≤ 600 := ⟨hL.1, hL.2.1⟩
  have hm9 := tp_R_many hR 2 (by decide) (by decide)
  have hT : ∀ j, 0 ≤ (fun j => tp_and (μ.1 2 j) 255 : Int → Int) j ∧ (fun j => tp_and (μ.1 2 j) 255 : Int → Int) j ≤ 255 := fun j => tp_and255 _
  generalize hTT : (fun j => tp_and (μ.1 2 j) 255 : Int → Int) = T at hT
  have hTm : ∀ j, 0 ≤ j → j < μ.1 1 1 → tp_and (μ.1 2 j) 255 = T j := fun j _ _ => by rw [← hTT]
  generalize hln : μ.1 1 1 = len at *
  by_cases hfl : (t_flt 2 T len).1 = 0
  · refine tp_kc (fun r μ1 z => ?_) (s_xt20s1 hG hT hlen hln hTm hM hMs hfl)
    obtain ⟨z1, z2, z3, z4, z5, z6⟩ := z
    refine ⟨0, z1, tp_kc (fun r2 μ2 y => ?_) (s_mt20s1 (T := T) (len := len) hG hT hlen (by rw [z6 203 (by omega) (by omega) (by omega) (by omega)]; exact hL.2.2.symm) (fun j j0 j1 => by rw [z6 202 (by omega) (by omega) (by omega) (by omega), ← tp_R_tape hR j j0 (by omega)]; exact hTm j j0 j1) (by rw [z6 206 (by omega) (by omega) (by omega) (by omega)]; exact hm9.1.symm.trans hM) hMs hfl)⟩
    obtain ⟨y1, y2, y3, y4, y5, y6, y7, y8, y9, y10⟩ := y
    have y5' : ∀ j, μ2.1 5 j = μ1.1 5 j := fun j => congrFun (y10 5 (by unfold m_Lc; omega) (by omega) (by omega)) j
    have yl : μ2.1 1 = μ1.1 1 := y10 1 (by unfold m_Lc; omega) (by omega) (by omega)
    refine ⟨y1, tp_R_k20 hR (fun k hk k1 k5 kc k2 kr => ?_) (fun q hq => ?_) (fun j hj => ?_) (fun t t0 t1 tn => ⟨?_, ?_⟩) ⟨?_, ?_, ?_⟩ (fun j hj => ?_) ⟨?_, y2⟩ ⟨?_, ?_⟩ ?_⟩
    · unfold tp_tl at hk
      rw [y10 k (by unfold m_Lc; omega) (by omega) kr, z6 k k1 k5 kc (by omega)]
    · rw [(y9 q hq).1, (y9 q hq).2.1, (y9 q hq).2.2, z6 203 (by omega) (by omega) (by omega) (by omega), z6 204 (by omega) (by omega) (by omega) (by omega), z6 205 (by omega) (by omega) (by omega) (by omega)]; exact ⟨rfl, rfl, rfl⟩
    · rw [y6 j (by omega), z6 206 (by omega) (by omega) (by omega) (by omega)]
    · rw [y5' t, z4 t tn]
    · rw [y6 t tn, z6 206 (by omega) (by omega) (by omega) (by omega)]
    · rw [y5' 2, z3, y5]
    · rw [y5' 2, z3]; omega
    · rw [y5' 2, z3]; omega
    · rw [y8 j hj, z6 209 (by omega) (by omega) (by omega) (by omega)]
    · rw [yl]; exact z2.1
    · rw [yl, y3]; exact z2.2.1
    · rw [yl, y4]; exact z2.2.2
    · exact tp_Lo_A (A := μ1.1) (fun i i0 i1 => y10 i (by unfold m_Lc; omega) (by omega) (by omega)) (tp_Lo_f (fun i i0 i1 => y7 i i0 i1) z5)
  · refine tp_kc (fun r μ1 z => ?_) (s_xt20s0 hG hT hlen hln hTm hM hMs hfl)
    obtain ⟨z1, z2, z3, z4, z6⟩ := z
    refine ⟨-1, z1, tp_kc (fun r2 μ2 y => ?_) (s_mt20s0 (T := T) (len := len) hG hT hlen (by rw [z6 203 (by omega) (by omega)]; exact hL.2.2.symm) (fun j j0 j1 => by rw [z6 202 (by omega) (by omega), ← tp_R_tape hR j j0 (by omega)]; exact hTm j j0 j1) (by rw [z6 206 (by omega) (by omega)]; exact hm9.1.symm.trans hM) hMs hfl)⟩
    obtain ⟨y1, y2, y3, y4, y9, y10⟩ := y
    have yl : μ2.1 1 = μ1.1 1 := y10 1 (by unfold m_Lc; omega)
    refine ⟨y1, tp_R_head hR (fun k hk k1 k2 k3 => ?_) (fun j hj => ?_) (fun q hq => ?_) ?_ (fun j j0 j1 => ?_) ⟨?_, ?_⟩⟩
    · unfold tp_tl at hk
      rw [y10 k (by unfold m_Lc; omega), z6 k k1 (by omega)]
    · rw [y10 202 (by unfold m_Lc; omega), z6 202 (by omega) (by omega)]
    · rw [(y9 q hq).1, (y9 q hq).2.1, (y9 q hq).2.2, z6 203 (by omega) (by omega), z6 204 (by omega) (by omega), z6 205 (by omega) (by omega)]; exact ⟨rfl, rfl, rfl⟩
    · rw [yl, z2, y2]; decide
    · rw [yl, z2] at j1; omega
    · rw [yl, z3, y3]
    · rw [yl, z4, y4]
set_option maxHeartbeats 4000000 in
set_option maxRecDepth 100000 in
theorem s_xt21m1 {G : tp_G} {μ : tp_M} (hG : tp_Gf G = true) {T : Int → Int} {len : Int} (hT : ∀ j, 0 ≤ T j ∧ T j ≤ 255) (hlen : 0 ≤ len ∧ len ≤ 600) (hln : μ.1 1 1 = len) (hTm : ∀ j, 0 ≤ j → j < len → tp_and (μ.1 2 j) 255 = T j) (hM : μ.1 5 2 = 1) (hfl : (t_flt 2 T len).1 = 0) : tp_k G mX11_text [tR (some 0), tI 2, tI (-1)] μ (fun r μ' => r = some (tI 1) ∧ (μ'.1 1 1 = 0 ∧ μ'.1 1 2 = 0 ∧ μ'.1 1 3 = -1) ∧ μ'.1 5 2 = 2 ∧ (∀ t, t ≠ 2 → μ'.1 5 t = μ.1 5 t) ∧ tp_Lo μ'.1 31 (t_tld 2 T len) ∧ (∀ c, c ≠ 1 → c ≠ 5 → (c < 31 ∨ 33 < c) → (c < 41 ∨ 49 < c) → μ'.1 c = μ.1 c)) := by
  refine tp_ok_of mX11_text_ok rfl (Nat.le_refl _) ?_
  refine g_aload_n rfl rfl ?_
  refine x_getF (r := 1) hG rfl rfl (by decide) (Or.inl ⟨_, rfl⟩) rfl ?_
  refine x_geti (v := len) rfl rfl (by decide) (Or.inl rfl) hln ?_
  refine g_istore_n rfl rfl rfl ?_
  refine g_aload_n rfl rfl ?_
  refine x_getF (r := 1) hG rfl rfl (by decide) (Or.inl ⟨_, rfl⟩) rfl ?_
  refine g_iconst rfl ⟨by decide, by decide⟩ ?_
  refine g_puti rfl rfl (by decide) rfl rfl ?_
  refine g_aload_n rfl rfl ?_
  refine x_getF (r := 1) hG rfl rfl (by decide) (Or.inl ⟨_, rfl⟩) rfl ?_
  refine g_iconst rfl ⟨by decide, by decide⟩ ?_
  refine g_puti rfl rfl (by decide) rfl rfl ?_
  refine g_aload_n rfl rfl ?_
  refine x_getF (r := 1) hG rfl rfl (by decide) (Or.inl ⟨_, rfl⟩) rfl ?_
  refine g_iconst rfl ⟨by decide, by decide⟩ ?_
  refine g_puti rfl rfl (by decide) rfl rfl ?_
  refine g_aload_n rfl rfl ?_
  refine x_getF (r := 1) hG rfl rfl (by decide) (Or.inl ⟨_, rfl⟩) rfl ?_
  refine g_iload_n rfl rfl ?_
  refine g_iload_n rfl rfl ?_
  refine g_iV (as := [tI 2, tI (-1)]) mX9_slotFor_ok rfl rfl rfl rfl rfl rfl (by decide) rfl rfl rfl ?_
  refine g_iload_n rfl rfl ?_
  refine g_if_lt (tgt := 9) rfl (by decide) (fun hx => absurd hx (by omega)) (fun _ => ?_)
  refine g_iload_n rfl rfl ?_
  refine g_iconst rfl ⟨by decide, by decide⟩ ?_
  refine g_icmp_lt (tgt := 11) rfl (by decide) (fun _ => ?_) (fun hx => absurd hx (by omega))
  refine g_aload_n rfl rfl ?_
  refine x_getF (r := 5) hG rfl rfl (by decide) (Or.inr ⟨_, rfl⟩) rfl ?_
  refine g_iload_n rfl rfl ?_
  refine x_iald (v := 1) rfl rfl (by decide) (by decide) (by decide) hM ?_
  refine g_istore_n rfl rfl rfl ?_
  refine g_iload_n rfl rfl ?_
  refine g_iconst rfl ⟨by decide, by decide⟩ ?_
  refine g_icmp_ne (tgt := 34) rfl (by decide) (fun hx => absurd hx (by omega)) (fun _ => ?_)
  refine g_iload_n rfl rfl ?_
  refine g_iconst rfl ⟨by decide, by decide⟩ ?_
  refine g_icmp_ge (tgt := 32) rfl (by decide) (fun hx => absurd hx (by omega)) (fun _ => ?_)
  refine g_iload_n rfl rfl ?_
  refine g_goto (tgt := 33) rfl (by decide) ?_
  refine x_ireturn rfl rfl ?_
  intro _
  refine g_istore rfl rfl rfl ?_
  refine g_iload rfl rfl ?_
  refine g_iconst rfl ⟨by decide, by decide⟩ ?_
  refine g_icmp_ne (tgt := 52) rfl (by decide) (fun _ => ?_) (fun hx => absurd hx (by omega))
  refine g_aload_n rfl rfl ?_
  refine x_getF (r := 41) hG rfl rfl (by decide) (Or.inl ⟨_, rfl⟩) rfl ?_
  refine g_aload_n rfl rfl ?_
  refine x_getF (r := 1) hG rfl rfl (by decide) (Or.inl ⟨_, rfl⟩) rfl ?_
  refine x_getF (r := 2) hG rfl rfl (by decide) (Or.inr ⟨_, rfl⟩) rfl ?_
  refine g_iload_n rfl rfl ?_
  refine g_iload_n rfl rfl ?_
  refine g_cV (as := [tR (some 2), tI len, tI 2]) (s_readY2 hG hT hlen hTm hfl) rfl rfl mX5_read_ok rfl rfl rfl (by decide) rfl rfl rfl ?_
  rintro _ w1 ⟨rfl, hct, hR1⟩ _
  have hct2 : tp_Lo w1.1 47 (t_tld 2 T len) := hct
  have hsz9 : 0 ≤ w1.1 47 2 ∧ w1.1 47 2 ≤ 12 := by have := hct2.1; have := hct2.2.1; omega
  refine g_if_ne (tgt := 101) rfl (by decide) (fun _ => ?_) (fun hx => absurd hx (by omega))
  refine g_aload_n rfl rfl ?_
  refine x_getF (r := 1) hG rfl rfl (by decide) (Or.inl ⟨_, rfl⟩) rfl ?_
  refine g_iload_n rfl rfl ?_
  refine g_iload rfl rfl ?_
  refine g_aload_n rfl rfl ?_
  refine x_getF (r := 41) hG rfl rfl (by decide) (Or.inl ⟨_, rfl⟩) rfl ?_
  refine g_iV (as := [tI 2, tI 1, tR (some 41)]) mX9_keep_ok rfl rfl rfl rfl rfl rfl (by decide) rfl rfl rfl ?_
  refine g_iload_n rfl rfl ?_
  refine g_if_lt (tgt := 18) rfl (by decide) (fun hx => absurd hx (by omega)) (fun _ => ?_)
  refine g_iload_n rfl rfl ?_
  refine g_iconst rfl ⟨by decide, by decide⟩ ?_
  refine g_icmp_ge (tgt := 18) rfl (by decide) (fun hx => absurd hx (by omega)) (fun _ => ?_)
  refine g_iload_n rfl rfl ?_
  refine g_if_lt (tgt := 18) rfl (by decide) (fun hx => absurd hx (by omega)) (fun _ => ?_)
  refine g_iload_n rfl rfl ?_
  refine g_iconst rfl ⟨by decide, by decide⟩ ?_
  refine g_icmp_lt (tgt := 19) rfl (by decide) (fun _ => ?_) (fun hx => absurd hx (by omega))
  refine g_iload_n rfl rfl ?_
  refine g_if_ne (tgt := 39) rfl (by decide) (fun _ => ?_) (fun hx => absurd hx (by omega))
  refine g_aload_n rfl rfl ?_
  refine x_getF (r := 4) hG rfl rfl (by decide) (Or.inr ⟨_, rfl⟩) rfl ?_
  refine g_iload_n rfl rfl ?_
  refine g_iconst rfl ⟨by decide, by decide⟩ ?_
  refine x_imul (z := 4) rfl (by omega) ⟨by omega, by omega⟩ ?_
  refine g_iload_n rfl rfl ?_
  refine x_iadd (z := 5) rfl (by omega) ⟨by omega, by omega⟩ ?_
  refine x_aald (t0 := 5) (r := 31) hG rfl rfl rfl (by decide) (by decide) (by decide) rfl ?_
  refine g_aload_n rfl rfl ?_
  refine x_getF (r := 47) hG rfl rfl (by decide) (Or.inl ⟨_, rfl⟩) rfl ?_
  refine g_cV (as := [tR (some 47)]) (s_rcop2 hG (c := 47) (d := 31) rfl rfl (by decide) (by decide) (by decide) hsz9.1 (show w1.1 47 2 ≤ (60 : Int) by omega) (show w1.1 47 2 ≤ (12 : Int) by omega) (by omega)) rfl rfl mX6_copyFrom_ok rfl rfl rfl (by decide) rfl rfl rfl ?_
  rintro _ w2 ⟨rfl, hK2, hK3, hF2⟩ _
  have hM2 : w2.1 5 2 = 1 := by rw [hF2 5 (by omega), hR1 5 (by omega)]; exact hM
  refine g_aload_n rfl rfl ?_
  refine x_getF (r := 5) hG rfl rfl (by decide) (Or.inr ⟨_, rfl⟩) rfl ?_
  refine g_iload_n rfl rfl ?_
  refine g_aload_n rfl rfl ?_
  refine x_getF (r := 5) hG rfl rfl (by decide) (Or.inr ⟨_, rfl⟩) rfl ?_
  refine g_iload_n rfl rfl ?_
  refine x_iald (v := 1) rfl rfl (by decide) (by decide) (by decide) hM2 ?_
  refine g_iload_n rfl rfl ?_
  refine g_iconst rfl ⟨by decide, by decide⟩ ?_
  refine x_iadd (z := 2) rfl (by omega) ⟨by omega, by omega⟩ ?_
  refine x_max (z := 2) rfl rfl (by omega) ?_
  refine g_iast rfl rfl (by decide) (by decide) (by decide) ?_
  refine x_return rfl rfl ?_
  intro _
  refine g_iload rfl rfl ?_
  refine x_ireturn rfl rfl ?_
  exact ⟨rfl, ⟨by rw [tp_pi_ne (by omega), hF2 1 (by omega), hR1 1 (by omega)]; rfl, by rw [tp_pi_ne (by omega), hF2 1 (by omega), hR1 1 (by omega)]; rfl, by rw [tp_pi_ne (by omega), hF2 1 (by omega), hR1 1 (by omega)]; rfl⟩, tp_pi_at.trans (by omega), fun t z => by rw [tp_pi_ix z, hF2 5 (by omega), hR1 5 (by omega)]; rfl, tp_Lo_A (A := w2.1) (fun i i0 i1 => tp_pi_ne (by omega)) (x_k2 hct ⟨hK2, hK3⟩), fun c z1 z2 z3 z4 => by rw [tp_pi_ne z2, hF2 c (by omega), hR1 c z4, tp_pi_ne z1, tp_pi_ne z1, tp_pi_ne z1]⟩
set_option maxHeartbeats 4000000 in
set_option maxRecDepth 100000 in
theorem s_mt21m1 {G : tp_G} {μ : tp_M} (hG : tp_Gf G = true) {T : Int → Int} {len : Int} (hT : ∀ j, 0 ≤ T j ∧ T j ≤ 255) (hlen : 0 ≤ len ∧ len ≤ 600) (h203 : μ.1 203 0 = len) (hTr : ∀ j, 0 ≤ j → j < len → tp_and (μ.1 202 j) 255 = T j) (hM : μ.1 206 2 = 1) (hfl : (t_flt 2 T len).1 = 0) : tp_k G mX12_text [tR (some 201), tI 2, tI (-1)] μ (fun r μ' => r = some (tI 1) ∧ μ'.1 203 0 = 0 ∧ μ'.1 204 0 = 0 ∧ μ'.1 205 0 = -1 ∧ μ'.1 206 2 = 2 ∧ (∀ t, t ≠ 2 → μ'.1 206 t = μ.1 206 t) ∧ (∀ j, 0 ≤ j → j < 101 → μ'.1 209 (101 + j) = t_tld 2 T len j) ∧ (∀ j, (j < 101 ∨ 202 ≤ j) → μ'.1 209 j = μ.1 209 j) ∧ m_Qc μ μ' ∧ (∀ c, m_Lc c → c ≠ 206 → c ≠ 209 → μ'.1 c = μ.1 c)) := by
  refine tp_ok_of mX12_text_ok rfl (Nat.le_refl _) ?_
  refine g_aload_n rfl rfl ?_
  refine g_iconst rfl ⟨by decide, by decide⟩ ?_
  refine g_puti rfl rfl (by decide) rfl rfl ?_
  refine g_aload_n rfl rfl ?_
  refine g_aload_n rfl rfl ?_
  refine x_getF (r := 203) hG rfl rfl (by decide) (Or.inr ⟨_, rfl⟩) rfl ?_
  refine g_iconst rfl ⟨by decide, by decide⟩ ?_
  refine x_iald (v := len) rfl rfl (by decide) (by decide) (by decide) h203 ?_
  refine g_puti rfl rfl (by decide) rfl rfl ?_
  refine g_aload_n rfl rfl ?_
  refine x_getF (r := 203) hG rfl rfl (by decide) (Or.inr ⟨_, rfl⟩) rfl ?_
  refine g_iconst rfl ⟨by decide, by decide⟩ ?_
  refine g_iconst rfl ⟨by decide, by decide⟩ ?_
  refine g_iast rfl rfl (by decide) (by decide) (by decide) ?_
  refine g_aload_n rfl rfl ?_
  refine x_getF (r := 204) hG rfl rfl (by decide) (Or.inr ⟨_, rfl⟩) rfl ?_
  refine g_iconst rfl ⟨by decide, by decide⟩ ?_
  refine g_iconst rfl ⟨by decide, by decide⟩ ?_
  refine g_iast rfl rfl (by decide) (by decide) (by decide) ?_
  refine g_aload_n rfl rfl ?_
  refine x_getF (r := 205) hG rfl rfl (by decide) (Or.inr ⟨_, rfl⟩) rfl ?_
  refine g_iconst rfl ⟨by decide, by decide⟩ ?_
  refine g_iconst rfl ⟨by decide, by decide⟩ ?_
  refine g_iast rfl rfl (by decide) (by decide) (by decide) ?_
  refine g_iload_n rfl rfl ?_
  refine g_iconst rfl ⟨by decide, by decide⟩ ?_
  refine g_iconst rfl ⟨by decide, by decide⟩ ?_
  refine g_iS (as := [tI 2, tI 0, tI 3]) mX12_in_ok rfl rfl rfl rfl rfl rfl rfl ?_
  refine g_iload_n rfl rfl ?_
  refine g_iload_n rfl rfl ?_
  refine g_icmp_lt (tgt := 14) rfl (by decide) (fun hx => absurd hx (by omega)) (fun _ => ?_)
  refine g_iload_n rfl rfl ?_
  refine g_iload_n rfl rfl ?_
  refine g_icmp_gt (tgt := 14) rfl (by decide) (fun hx => absurd hx (by omega)) (fun _ => ?_)
  refine g_iconst rfl ⟨by decide, by decide⟩ ?_
  refine g_goto (tgt := 15) rfl (by decide) ?_
  refine x_zreturn rfl rfl (Or.inr rfl) ?_
  intro _
  refine g_if_eq (tgt := 72) rfl (by decide) (fun hx => absurd hx (by omega)) (fun _ => ?_)
  refine g_iload_n rfl rfl ?_
  refine g_iconst rfl ⟨by decide, by decide⟩ ?_
  refine g_icmp_ne (tgt := 63) rfl (by decide) (fun hx => absurd hx (by omega)) (fun _ => ?_)
  refine g_aload_n rfl rfl ?_
  refine x_getF (r := 206) hG rfl rfl (by decide) (Or.inr ⟨_, rfl⟩) rfl ?_
  refine g_iload_n rfl rfl ?_
  refine x_iald (v := 1) rfl rfl (by decide) (by decide) (by decide) hM ?_
  refine g_iconst rfl ⟨by decide, by decide⟩ ?_
  refine g_icmp_ne (tgt := 75) rfl (by decide) (fun _ => ?_) (fun hx => absurd hx (by omega))
  refine g_aload_n rfl rfl ?_
  refine g_iload_n rfl rfl ?_
  refine g_cV (as := [tI 2]) (s_rtxY2 (T := T) (len := len) hG hT ⟨rfl, hlen, hTr⟩ hfl) rfl rfl mX12_readText_ok rfl rfl rfl (by decide) rfl rfl rfl ?_
  rintro _ w1 ⟨rfl, h204, h205, hto, hH1⟩ _
  have hM1 : w1.1 206 2 = 1 := by rw [hH1.1 206 (by omega) (by omega) (by omega) (by omega)]; exact hM
  refine g_if_ne (tgt := 85) rfl (by decide) (fun _ => ?_) (fun hx => absurd hx (by omega))
  refine g_iload_n rfl rfl ?_
  refine g_iconst rfl ⟨by decide, by decide⟩ ?_
  refine g_icmp_ne (tgt := 99) rfl (by decide) (fun hx => absurd hx (by omega)) (fun _ => ?_)
  refine g_aload_n rfl rfl ?_
  refine x_getF (r := 206) hG rfl rfl (by decide) (Or.inr ⟨_, rfl⟩) rfl ?_
  refine g_iload_n rfl rfl ?_
  refine x_iald (v := 1) rfl rfl (by decide) (by decide) (by decide) hM1 ?_
  refine g_goto (tgt := 100) rfl (by decide) ?_
  refine g_istore_n rfl rfl rfl ?_
  refine g_aload_n rfl rfl ?_
  refine x_getF (r := 206) hG rfl rfl (by decide) (Or.inr ⟨_, rfl⟩) rfl ?_
  refine g_iload_n rfl rfl ?_
  refine g_dup2 rfl ?_
  refine x_iald (v := 1) rfl rfl (by decide) (by decide) (by decide) hM1 ?_
  refine g_iload_n rfl rfl ?_
  refine g_iconst rfl ⟨by decide, by decide⟩ ?_
  refine g_icmp_ne (tgt := 117) rfl (by decide) (fun hx => absurd hx (by omega)) (fun _ => ?_)
  refine g_iconst rfl ⟨by decide, by decide⟩ ?_
  refine g_goto (tgt := 118) rfl (by decide) ?_
  refine x_iadd (z := 2) rfl (by omega) ⟨by omega, by omega⟩ ?_
  refine g_iast rfl rfl (by decide) (by decide) (by decide) ?_
  refine g_iload_n rfl rfl ?_
  refine g_if_ne (tgt := 139) rfl (by decide) (fun _ => ?_) (fun hx => absurd hx (by omega))
  refine g_iload_n rfl rfl ?_
  refine g_iconst rfl ⟨by decide, by decide⟩ ?_
  refine g_icmp_ne (tgt := 158) rfl (by decide) (fun _ => ?_) (fun hx => absurd hx (by omega))
  refine g_iload_n rfl rfl ?_
  refine g_iconst rfl ⟨by decide, by decide⟩ ?_
  refine g_icmp_ne (tgt := 177) rfl (by decide) (fun hx => absurd hx (by omega)) (fun _ => ?_)
  refine g_aload_n rfl rfl ?_
  refine g_aload_n rfl rfl ?_
  refine x_getF (r := 209) hG rfl rfl (by decide) (Or.inr ⟨_, rfl⟩) rfl ?_
  refine g_bipush rfl ⟨by decide, by decide⟩ (by decide) ?_
  refine g_iload_n rfl rfl ?_
  refine g_cV (as := [tR (some 209), tI 101, tI 1]) (s_kpt21 hG) rfl rfl mX12_keep_ok rfl rfl rfl (by decide) rfl rfl rfl ?_
  rintro _ w2 ⟨rfl, hv2, hw2, hF2⟩ _
  refine g_goto (tgt := 188) rfl (by decide) ?_
  refine g_iload_n rfl rfl ?_
  refine x_ireturn rfl rfl ?_
  have q203 : w2.1 203 = _ := (hF2 203 (by omega)).trans ((tp_pi_ne (by omega)).trans (hH1.1 203 (by omega) (by omega) (by omega) (by omega)))
  have q204 : w2.1 204 = w1.1 204 := (hF2 204 (by omega)).trans (tp_pi_ne (by omega))
  have q205 : w2.1 205 = w1.1 205 := (hF2 205 (by omega)).trans (tp_pi_ne (by omega))
  have q206 : w2.1 206 = (tp_pi w1 206 2 2).1 206 := hF2 206 (by omega)
  have q211 : (tp_pi w1 206 2 2).1 211 = w1.1 211 := tp_pi_ne (by omega)
  have qrc : (tp_pi w1 206 2 2).1 209 = _ := (tp_pi_ne (by omega)).trans (hH1.1 209 (by omega) (by omega) (by omega) (by omega))
  refine ⟨rfl, (congrFun q203 0).trans rfl, (congrFun q204 0).trans h204, (congrFun q205 0).trans h205, (congrFun q206 2).trans tp_pi_at, fun t z => ?_, fun j j0 j1 => ((hv2 j j0 j1).trans (congrFun q211 j)).trans (hto j j0 (by omega)), fun j z => ((hw2 j z).trans (congrFun qrc j)).trans rfl, fun q z => ⟨?_, ?_, ?_⟩, fun c z y1 y2 => ?_⟩
  · rw [q206, tp_pi_ix z, hH1.1 206 (by omega) (by omega) (by omega) (by omega)]; rfl
  · rw [q203, tp_pi_ne (by omega), tp_pi_ne (by omega), tp_pi_ix (by omega)]; rfl
  · rw [q204, (hH1.2.2.1 q (by omega)).1, tp_pi_ne (by omega), tp_pi_ix (by omega)]; rfl
  · rw [q205, (hH1.2.2.1 q (by omega)).2, tp_pi_ix (by omega)]; rfl
  · rw [hF2 c y2, tp_pi_ne y1, hH1.1 c z.1 z.2.2.2.2 z.2.2.1 z.2.2.2.1, tp_pi_ne z.2.2.2.1, tp_pi_ne z.2.2.1, tp_pi_ne z.2.1, tp_pi_ne z.1, tp_pi_ne z.1]
set_option maxHeartbeats 4000000 in
set_option maxRecDepth 100000 in
theorem s_xt21m0 {G : tp_G} {μ : tp_M} (hG : tp_Gf G = true) {T : Int → Int} {len : Int} (hT : ∀ j, 0 ≤ T j ∧ T j ≤ 255) (hlen : 0 ≤ len ∧ len ≤ 600) (hln : μ.1 1 1 = len) (hTm : ∀ j, 0 ≤ j → j < len → tp_and (μ.1 2 j) 255 = T j) (hM : μ.1 5 2 = 1) (hfl : (t_flt 2 T len).1 ≠ 0) : tp_k G mX11_text [tR (some 0), tI 2, tI (-1)] μ (fun r μ' => r = some (tI (-1)) ∧ μ'.1 1 1 = 0 ∧ μ'.1 1 2 = (t_flt 2 T len).1 ∧ μ'.1 1 3 = (t_flt 2 T len).2 ∧ (∀ c, c ≠ 1 → (c < 41 ∨ 49 < c) → μ'.1 c = μ.1 c)) := by
  refine tp_ok_of mX11_text_ok rfl (Nat.le_refl _) ?_
  refine g_aload_n rfl rfl ?_
  refine x_getF (r := 1) hG rfl rfl (by decide) (Or.inl ⟨_, rfl⟩) rfl ?_
  refine x_geti (v := len) rfl rfl (by decide) (Or.inl rfl) hln ?_
  refine g_istore_n rfl rfl rfl ?_
  refine g_aload_n rfl rfl ?_
  refine x_getF (r := 1) hG rfl rfl (by decide) (Or.inl ⟨_, rfl⟩) rfl ?_
  refine g_iconst rfl ⟨by decide, by decide⟩ ?_
  refine g_puti rfl rfl (by decide) rfl rfl ?_
  refine g_aload_n rfl rfl ?_
  refine x_getF (r := 1) hG rfl rfl (by decide) (Or.inl ⟨_, rfl⟩) rfl ?_
  refine g_iconst rfl ⟨by decide, by decide⟩ ?_
  refine g_puti rfl rfl (by decide) rfl rfl ?_
  refine g_aload_n rfl rfl ?_
  refine x_getF (r := 1) hG rfl rfl (by decide) (Or.inl ⟨_, rfl⟩) rfl ?_
  refine g_iconst rfl ⟨by decide, by decide⟩ ?_
  refine g_puti rfl rfl (by decide) rfl rfl ?_
  refine g_aload_n rfl rfl ?_
  refine x_getF (r := 1) hG rfl rfl (by decide) (Or.inl ⟨_, rfl⟩) rfl ?_
  refine g_iload_n rfl rfl ?_
  refine g_iload_n rfl rfl ?_
  refine g_iV (as := [tI 2, tI (-1)]) mX9_slotFor_ok rfl rfl rfl rfl rfl rfl (by decide) rfl rfl rfl ?_
  refine g_iload_n rfl rfl ?_
  refine g_if_lt (tgt := 9) rfl (by decide) (fun hx => absurd hx (by omega)) (fun _ => ?_)
  refine g_iload_n rfl rfl ?_
  refine g_iconst rfl ⟨by decide, by decide⟩ ?_
  refine g_icmp_lt (tgt := 11) rfl (by decide) (fun _ => ?_) (fun hx => absurd hx (by omega))
  refine g_aload_n rfl rfl ?_
  refine x_getF (r := 5) hG rfl rfl (by decide) (Or.inr ⟨_, rfl⟩) rfl ?_
  refine g_iload_n rfl rfl ?_
  refine x_iald (v := 1) rfl rfl (by decide) (by decide) (by decide) hM ?_
  refine g_istore_n rfl rfl rfl ?_
  refine g_iload_n rfl rfl ?_
  refine g_iconst rfl ⟨by decide, by decide⟩ ?_
  refine g_icmp_ne (tgt := 34) rfl (by decide) (fun hx => absurd hx (by omega)) (fun _ => ?_)
  refine g_iload_n rfl rfl ?_
  refine g_iconst rfl ⟨by decide, by decide⟩ ?_
  refine g_icmp_ge (tgt := 32) rfl (by decide) (fun hx => absurd hx (by omega)) (fun _ => ?_)
  refine g_iload_n rfl rfl ?_
  refine g_goto (tgt := 33) rfl (by decide) ?_
  refine x_ireturn rfl rfl ?_
  intro _
  refine g_istore rfl rfl rfl ?_
  refine g_iload rfl rfl ?_
  refine g_iconst rfl ⟨by decide, by decide⟩ ?_
  refine g_icmp_ne (tgt := 52) rfl (by decide) (fun _ => ?_) (fun hx => absurd hx (by omega))
  refine g_aload_n rfl rfl ?_
  refine x_getF (r := 41) hG rfl rfl (by decide) (Or.inl ⟨_, rfl⟩) rfl ?_
  refine g_aload_n rfl rfl ?_
  refine x_getF (r := 1) hG rfl rfl (by decide) (Or.inl ⟨_, rfl⟩) rfl ?_
  refine x_getF (r := 2) hG rfl rfl (by decide) (Or.inr ⟨_, rfl⟩) rfl ?_
  refine g_iload_n rfl rfl ?_
  refine g_iload_n rfl rfl ?_
  refine g_cV (as := [tR (some 2), tI len, tI 2]) (s_readN2 hG hT hlen hTm hfl) rfl rfl mX5_read_ok rfl rfl rfl (by decide) rfl rfl rfl ?_
  rintro _ w1 ⟨rfl, h8, h9, hR1⟩ _
  refine g_if_ne (tgt := 101) rfl (by decide) (fun hx => absurd hx (by omega)) (fun _ => ?_)
  refine g_aload_n rfl rfl ?_
  refine x_getF (r := 1) hG rfl rfl (by decide) (Or.inl ⟨_, rfl⟩) rfl ?_
  refine g_aload_n rfl rfl ?_
  refine x_getF (r := 41) hG rfl rfl (by decide) (Or.inl ⟨_, rfl⟩) rfl ?_
  refine x_geti (v := ((t_flt 2 T len).1)) rfl rfl (by decide) (Or.inl rfl) h8 ?_
  refine g_puti rfl rfl (by decide) rfl rfl ?_
  refine g_aload_n rfl rfl ?_
  refine x_getF (r := 1) hG rfl rfl (by decide) (Or.inl ⟨_, rfl⟩) rfl ?_
  refine g_aload_n rfl rfl ?_
  refine x_getF (r := 41) hG rfl rfl (by decide) (Or.inl ⟨_, rfl⟩) rfl ?_
  refine x_geti (v := ((t_flt 2 T len).2)) rfl rfl (by decide) (Or.inl rfl) h9 ?_
  refine g_puti rfl rfl (by decide) rfl rfl ?_
  refine g_iconst rfl ⟨by decide, by decide⟩ ?_
  refine x_ireturn rfl rfl ?_
  exact ⟨rfl, (congrFun (hR1 1 (by omega)) 1).trans rfl, rfl, rfl, fun c z y => by rw [tp_pi_ne z, tp_pi_ne z, hR1 c y, tp_pi_ne z, tp_pi_ne z, tp_pi_ne z]⟩
set_option maxHeartbeats 4000000 in
set_option maxRecDepth 100000 in
theorem s_mt21m0 {G : tp_G} {μ : tp_M} (hG : tp_Gf G = true) {T : Int → Int} {len : Int} (hT : ∀ j, 0 ≤ T j ∧ T j ≤ 255) (hlen : 0 ≤ len ∧ len ≤ 600) (h203 : μ.1 203 0 = len) (hTr : ∀ j, 0 ≤ j → j < len → tp_and (μ.1 202 j) 255 = T j) (hM : μ.1 206 2 = 1) (hfl : (t_flt 2 T len).1 ≠ 0) : tp_k G mX12_text [tR (some 201), tI 2, tI (-1)] μ (fun r μ' => r = some (tI (-1)) ∧ μ'.1 203 0 = 0 ∧ μ'.1 204 0 = (t_flt 2 T len).1 ∧ μ'.1 205 0 = (t_flt 2 T len).2 ∧ m_Qc μ μ' ∧ (∀ c, m_Lc c → μ'.1 c = μ.1 c)) := by
  refine tp_ok_of mX12_text_ok rfl (Nat.le_refl _) ?_
  refine g_aload_n rfl rfl ?_
  refine g_iconst rfl ⟨by decide, by decide⟩ ?_
  refine g_puti rfl rfl (by decide) rfl rfl ?_
  refine g_aload_n rfl rfl ?_
  refine g_aload_n rfl rfl ?_
  refine x_getF (r := 203) hG rfl rfl (by decide) (Or.inr ⟨_, rfl⟩) rfl ?_
  refine g_iconst rfl ⟨by decide, by decide⟩ ?_
  refine x_iald (v := len) rfl rfl (by decide) (by decide) (by decide) h203 ?_
  refine g_puti rfl rfl (by decide) rfl rfl ?_
  refine g_aload_n rfl rfl ?_
  refine x_getF (r := 203) hG rfl rfl (by decide) (Or.inr ⟨_, rfl⟩) rfl ?_
  refine g_iconst rfl ⟨by decide, by decide⟩ ?_
  refine g_iconst rfl ⟨by decide, by decide⟩ ?_
  refine g_iast rfl rfl (by decide) (by decide) (by decide) ?_
  refine g_aload_n rfl rfl ?_
  refine x_getF (r := 204) hG rfl rfl (by decide) (Or.inr ⟨_, rfl⟩) rfl ?_
  refine g_iconst rfl ⟨by decide, by decide⟩ ?_
  refine g_iconst rfl ⟨by decide, by decide⟩ ?_
  refine g_iast rfl rfl (by decide) (by decide) (by decide) ?_
  refine g_aload_n rfl rfl ?_
  refine x_getF (r := 205) hG rfl rfl (by decide) (Or.inr ⟨_, rfl⟩) rfl ?_
  refine g_iconst rfl ⟨by decide, by decide⟩ ?_
  refine g_iconst rfl ⟨by decide, by decide⟩ ?_
  refine g_iast rfl rfl (by decide) (by decide) (by decide) ?_
  refine g_iload_n rfl rfl ?_
  refine g_iconst rfl ⟨by decide, by decide⟩ ?_
  refine g_iconst rfl ⟨by decide, by decide⟩ ?_
  refine g_iS (as := [tI 2, tI 0, tI 3]) mX12_in_ok rfl rfl rfl rfl rfl rfl rfl ?_
  refine g_iload_n rfl rfl ?_
  refine g_iload_n rfl rfl ?_
  refine g_icmp_lt (tgt := 14) rfl (by decide) (fun hx => absurd hx (by omega)) (fun _ => ?_)
  refine g_iload_n rfl rfl ?_
  refine g_iload_n rfl rfl ?_
  refine g_icmp_gt (tgt := 14) rfl (by decide) (fun hx => absurd hx (by omega)) (fun _ => ?_)
  refine g_iconst rfl ⟨by decide, by decide⟩ ?_
  refine g_goto (tgt := 15) rfl (by decide) ?_
  refine x_zreturn rfl rfl (Or.inr rfl) ?_
  intro _
  refine g_if_eq (tgt := 72) rfl (by decide) (fun hx => absurd hx (by omega)) (fun _ => ?_)
  refine g_iload_n rfl rfl ?_
  refine g_iconst rfl ⟨by decide, by decide⟩ ?_
  refine g_icmp_ne (tgt := 63) rfl (by decide) (fun hx => absurd hx (by omega)) (fun _ => ?_)
  refine g_aload_n rfl rfl ?_
  refine x_getF (r := 206) hG rfl rfl (by decide) (Or.inr ⟨_, rfl⟩) rfl ?_
  refine g_iload_n rfl rfl ?_
  refine x_iald (v := 1) rfl rfl (by decide) (by decide) (by decide) hM ?_
  refine g_iconst rfl ⟨by decide, by decide⟩ ?_
  refine g_icmp_ne (tgt := 75) rfl (by decide) (fun _ => ?_) (fun hx => absurd hx (by omega))
  refine g_aload_n rfl rfl ?_
  refine g_iload_n rfl rfl ?_
  refine g_cV (as := [tI 2]) (s_rtxN2 (T := T) (len := len) hG hT ⟨rfl, hlen, hTr⟩ hfl) rfl rfl mX12_readText_ok rfl rfl rfl (by decide) rfl rfl rfl ?_
  rintro _ w1 ⟨rfl, h204, h205, hH1⟩ _
  have hM1 : w1.1 206 2 = 1 := by rw [hH1.1 206 (by omega) (by omega) (by omega) (by omega)]; exact hM
  refine g_if_ne (tgt := 85) rfl (by decide) (fun hx => absurd hx (by omega)) (fun _ => ?_)
  refine g_iconst rfl ⟨by decide, by decide⟩ ?_
  refine x_ireturn rfl rfl ?_
  exact ⟨rfl, (congrFun (hH1.1 203 (by omega) (by omega) (by omega) (by omega)) 0).trans rfl, h204, h205, fun q z => ⟨(congrFun (hH1.1 203 (by omega) (by omega) (by omega) (by omega)) q).trans (by rw [tp_pi_ne (by omega), tp_pi_ne (by omega), tp_pi_ix (by omega)]; rfl), ((hH1.2.2.1 q (by omega)).1).trans (by rw [tp_pi_ne (by omega), tp_pi_ix (by omega)]; rfl), ((hH1.2.2.1 q (by omega)).2).trans (by rw [tp_pi_ix (by omega)]; rfl)⟩, fun c z => by rw [hH1.1 c z.1 z.2.2.2.2 z.2.2.1 z.2.2.2.1, tp_pi_ne z.2.2.2.1, tp_pi_ne z.2.2.1, tp_pi_ne z.2.1, tp_pi_ne z.1, tp_pi_ne z.1]⟩
set_option maxHeartbeats 4000000 in
set_option maxRecDepth 100000 in
theorem p_tx21m {G : tp_G} {μ : tp_M} (hG : tp_Gf G = true) (hR : tp_R μ) (hM : μ.1 5 2 = 1) : tp_q G mX11_text mX12_text [tI 2, tI (-1)] μ := by
  have hL := tp_R_len hR
  have hlen : 0 ≤ μ.1 1 1 ∧ μ.1 1 1 ≤ 600 := ⟨hL.1, hL.2.1⟩
  have hm9 := tp_R_many hR 2 (by decide) (by decide)
  have hT : ∀ j, 0 ≤ (fun j => tp_and (μ.1 2 j) 255 : Int → Int) j ∧ (fun j => tp_and (μ.1 2 j) 255 : Int → Int) j ≤ 255 := fun j => tp_and255 _
  generalize hTT : (fun j => tp_and (μ.1 2 j) 255 : Int → Int) = T at hT
  have hTm : ∀ j, 0 ≤ j → j < μ.1 1 1 → tp_and (μ.1 2 j) 255 = T j := fun j _ _ => by rw [← hTT]
  generalize hln : μ.1 1 1 = len at *
  by_cases hfl : (t_flt 2 T len).1 = 0
  · refine tp_kc (fun r μ1 z => ?_) (s_xt21m1 hG hT hlen hln hTm hM hfl)
    obtain ⟨z1, z2, z3, z4, z5, z6⟩ := z
    refine ⟨1, z1, tp_kc (fun r2 μ2 y => ?_) (s_mt21m1 (T := T) (len := len) hG hT hlen (by rw [z6 203 (by omega) (by omega) (by omega) (by omega)]; exact hL.2.2.symm) (fun j j0 j1 => by rw [z6 202 (by omega) (by omega) (by omega) (by omega), ← tp_R_tape hR j j0 (by omega)]; exact hTm j j0 j1) (by rw [z6 206 (by omega) (by omega) (by omega) (by omega)]; exact hm9.1.symm.trans hM) hfl)⟩
    obtain ⟨y1, y2, y3, y4, y5, y6, y7, y8, y9, y10⟩ := y
    have y5' : ∀ j, μ2.1 5 j = μ1.1 5 j := fun j => congrFun (y10 5 (by unfold m_Lc; omega) (by omega) (by omega)) j
    have yl : μ2.1 1 = μ1.1 1 := y10 1 (by unfold m_Lc; omega) (by omega) (by omega)
    refine ⟨y1, tp_R_k21 hR (fun k hk k1 k5 kc k2 kr => ?_) (fun q hq => ?_) (fun j hj => ?_) (fun t t0 t1 tn => ⟨?_, ?_⟩) ⟨?_, ?_, ?_⟩ (fun j hj => ?_) ⟨?_, y2⟩ ⟨?_, ?_⟩ ?_⟩
    · unfold tp_tl at hk
      rw [y10 k (by unfold m_Lc; omega) (by omega) kr, z6 k k1 k5 kc (by omega)]
    · rw [(y9 q hq).1, (y9 q hq).2.1, (y9 q hq).2.2, z6 203 (by omega) (by omega) (by omega) (by omega), z6 204 (by omega) (by omega) (by omega) (by omega), z6 205 (by omega) (by omega) (by omega) (by omega)]; exact ⟨rfl, rfl, rfl⟩
    · rw [y6 j (by omega), z6 206 (by omega) (by omega) (by omega) (by omega)]
    · rw [y5' t, z4 t tn]
    · rw [y6 t tn, z6 206 (by omega) (by omega) (by omega) (by omega)]
    · rw [y5' 2, z3, y5]
    · rw [y5' 2, z3]; omega
    · rw [y5' 2, z3]; omega
    · rw [y8 j hj, z6 209 (by omega) (by omega) (by omega) (by omega)]
    · rw [yl]; exact z2.1
    · rw [yl, y3]; exact z2.2.1
    · rw [yl, y4]; exact z2.2.2
    · exact tp_Lo_A (A := μ1.1) (fun i i0 i1 => y10 i (by unfold m_Lc; omega) (by omega) (by omega)) (tp_Lo_f (fun i i0 i1 => y7 i i0 i1) z5)
  · refine tp_kc (fun r μ1 z => ?_) (s_xt21m0 hG hT hlen hln hTm hM hfl)
    obtain ⟨z1, z2, z3, z4, z6⟩ := z
    refine ⟨-1, z1, tp_kc (fun r2 μ2 y => ?_) (s_mt21m0 (T := T) (len := len) hG hT hlen (by rw [z6 203 (by omega) (by omega)]; exact hL.2.2.symm) (fun j j0 j1 => by rw [z6 202 (by omega) (by omega), ← tp_R_tape hR j j0 (by omega)]; exact hTm j j0 j1) (by rw [z6 206 (by omega) (by omega)]; exact hm9.1.symm.trans hM) hfl)⟩
    obtain ⟨y1, y2, y3, y4, y9, y10⟩ := y
    have yl : μ2.1 1 = μ1.1 1 := y10 1 (by unfold m_Lc; omega)
    refine ⟨y1, tp_R_head hR (fun k hk k1 k2 k3 => ?_) (fun j hj => ?_) (fun q hq => ?_) ?_ (fun j j0 j1 => ?_) ⟨?_, ?_⟩⟩
    · unfold tp_tl at hk
      rw [y10 k (by unfold m_Lc; omega), z6 k k1 (by omega)]
    · rw [y10 202 (by unfold m_Lc; omega), z6 202 (by omega) (by omega)]
    · rw [(y9 q hq).1, (y9 q hq).2.1, (y9 q hq).2.2, z6 203 (by omega) (by omega), z6 204 (by omega) (by omega), z6 205 (by omega) (by omega)]; exact ⟨rfl, rfl, rfl⟩
    · rw [yl, z2, y2]; decide
    · rw [yl, z2] at j1; omega
    · rw [yl, z3, y3]
    · rw [yl, z4, y4]
set_option maxHeartbeats 4000000 in
set_option maxRecDepth 100000 in
theorem s_xt21s1 {G : tp_G} {μ : tp_M} (hG : tp_Gf G = true) {T : Int → Int} {len : Int} (hT : ∀ j, 0 ≤ T j ∧ T j ≤ 255) (hlen : 0 ≤ len ∧ len ≤ 600) (hln : μ.1 1 1 = len) (hTm : ∀ j, 0 ≤ j → j < len → tp_and (μ.1 2 j) 255 = T j) {M : Int} (hM : μ.1 5 2 = M) (hMs : 1 < M ∧ M ≤ 2) (hfl : (t_flt 2 T len).1 = 0) : tp_k G mX11_text [tR (some 0), tI 2, tI 1] μ (fun r μ' => r = some (tI 1) ∧ (μ'.1 1 1 = 0 ∧ μ'.1 1 2 = 0 ∧ μ'.1 1 3 = -1) ∧ μ'.1 5 2 = M ∧ (∀ t, t ≠ 2 → μ'.1 5 t = μ.1 5 t) ∧ tp_Lo μ'.1 31 (t_tld 2 T len) ∧ (∀ c, c ≠ 1 → c ≠ 5 → (c < 31 ∨ 33 < c) → (c < 41 ∨ 49 < c) → μ'.1 c = μ.1 c)) := by
  refine tp_ok_of mX11_text_ok rfl (Nat.le_refl _) ?_
  refine g_aload_n rfl rfl ?_
  refine x_getF (r := 1) hG rfl rfl (by decide) (Or.inl ⟨_, rfl⟩) rfl ?_
  refine x_geti (v := len) rfl rfl (by decide) (Or.inl rfl) hln ?_
  refine g_istore_n rfl rfl rfl ?_
  refine g_aload_n rfl rfl ?_
  refine x_getF (r := 1) hG rfl rfl (by decide) (Or.inl ⟨_, rfl⟩) rfl ?_
  refine g_iconst rfl ⟨by decide, by decide⟩ ?_
  refine g_puti rfl rfl (by decide) rfl rfl ?_
  refine g_aload_n rfl rfl ?_
  refine x_getF (r := 1) hG rfl rfl (by decide) (Or.inl ⟨_, rfl⟩) rfl ?_
  refine g_iconst rfl ⟨by decide, by decide⟩ ?_
  refine g_puti rfl rfl (by decide) rfl rfl ?_
  refine g_aload_n rfl rfl ?_
  refine x_getF (r := 1) hG rfl rfl (by decide) (Or.inl ⟨_, rfl⟩) rfl ?_
  refine g_iconst rfl ⟨by decide, by decide⟩ ?_
  refine g_puti rfl rfl (by decide) rfl rfl ?_
  refine g_aload_n rfl rfl ?_
  refine x_getF (r := 1) hG rfl rfl (by decide) (Or.inl ⟨_, rfl⟩) rfl ?_
  refine g_iload_n rfl rfl ?_
  refine g_iload_n rfl rfl ?_
  refine g_iV (as := [tI 2, tI 1]) mX9_slotFor_ok rfl rfl rfl rfl rfl rfl (by decide) rfl rfl rfl ?_
  refine g_iload_n rfl rfl ?_
  refine g_if_lt (tgt := 9) rfl (by decide) (fun hx => absurd hx (by omega)) (fun _ => ?_)
  refine g_iload_n rfl rfl ?_
  refine g_iconst rfl ⟨by decide, by decide⟩ ?_
  refine g_icmp_lt (tgt := 11) rfl (by decide) (fun _ => ?_) (fun hx => absurd hx (by omega))
  refine g_aload_n rfl rfl ?_
  refine x_getF (r := 5) hG rfl rfl (by decide) (Or.inr ⟨_, rfl⟩) rfl ?_
  refine g_iload_n rfl rfl ?_
  refine x_iald (v := M) rfl rfl (by decide) (by decide) (by decide) hM ?_
  refine g_istore_n rfl rfl rfl ?_
  refine g_iload_n rfl rfl ?_
  refine g_iconst rfl ⟨by decide, by decide⟩ ?_
  refine g_icmp_ne (tgt := 34) rfl (by decide) (fun _ => ?_) (fun hx => absurd hx (by omega))
  refine g_iload_n rfl rfl ?_
  refine g_if_lt (tgt := 43) rfl (by decide) (fun hx => absurd hx (by omega)) (fun _ => ?_)
  refine g_iload_n rfl rfl ?_
  refine g_iload_n rfl rfl ?_
  refine g_icmp_lt (tgt := 47) rfl (by decide) (fun _ => ?_) (fun hx => absurd hx (by omega))
  refine g_iload_n rfl rfl ?_
  refine x_ireturn rfl rfl ?_
  intro _
  refine g_istore rfl rfl rfl ?_
  refine g_iload rfl rfl ?_
  refine g_iconst rfl ⟨by decide, by decide⟩ ?_
  refine g_icmp_ne (tgt := 52) rfl (by decide) (fun _ => ?_) (fun hx => absurd hx (by omega))
  refine g_aload_n rfl rfl ?_
  refine x_getF (r := 41) hG rfl rfl (by decide) (Or.inl ⟨_, rfl⟩) rfl ?_
  refine g_aload_n rfl rfl ?_
  refine x_getF (r := 1) hG rfl rfl (by decide) (Or.inl ⟨_, rfl⟩) rfl ?_
  refine x_getF (r := 2) hG rfl rfl (by decide) (Or.inr ⟨_, rfl⟩) rfl ?_
  refine g_iload_n rfl rfl ?_
  refine g_iload_n rfl rfl ?_
  refine g_cV (as := [tR (some 2), tI len, tI 2]) (s_readY2 hG hT hlen hTm hfl) rfl rfl mX5_read_ok rfl rfl rfl (by decide) rfl rfl rfl ?_
  rintro _ w1 ⟨rfl, hct, hR1⟩ _
  have hct2 : tp_Lo w1.1 47 (t_tld 2 T len) := hct
  have hsz9 : 0 ≤ w1.1 47 2 ∧ w1.1 47 2 ≤ 12 := by have := hct2.1; have := hct2.2.1; omega
  refine g_if_ne (tgt := 101) rfl (by decide) (fun _ => ?_) (fun hx => absurd hx (by omega))
  refine g_aload_n rfl rfl ?_
  refine x_getF (r := 1) hG rfl rfl (by decide) (Or.inl ⟨_, rfl⟩) rfl ?_
  refine g_iload_n rfl rfl ?_
  refine g_iload rfl rfl ?_
  refine g_aload_n rfl rfl ?_
  refine x_getF (r := 41) hG rfl rfl (by decide) (Or.inl ⟨_, rfl⟩) rfl ?_
  refine g_iV (as := [tI 2, tI 1, tR (some 41)]) mX9_keep_ok rfl rfl rfl rfl rfl rfl (by decide) rfl rfl rfl ?_
  refine g_iload_n rfl rfl ?_
  refine g_if_lt (tgt := 18) rfl (by decide) (fun hx => absurd hx (by omega)) (fun _ => ?_)
  refine g_iload_n rfl rfl ?_
  refine g_iconst rfl ⟨by decide, by decide⟩ ?_
  refine g_icmp_ge (tgt := 18) rfl (by decide) (fun hx => absurd hx (by omega)) (fun _ => ?_)
  refine g_iload_n rfl rfl ?_
  refine g_if_lt (tgt := 18) rfl (by decide) (fun hx => absurd hx (by omega)) (fun _ => ?_)
  refine g_iload_n rfl rfl ?_
  refine g_iconst rfl ⟨by decide, by decide⟩ ?_
  refine g_icmp_lt (tgt := 19) rfl (by decide) (fun _ => ?_) (fun hx => absurd hx (by omega))
  refine g_iload_n rfl rfl ?_
  refine g_if_ne (tgt := 39) rfl (by decide) (fun _ => ?_) (fun hx => absurd hx (by omega))
  refine g_aload_n rfl rfl ?_
  refine x_getF (r := 4) hG rfl rfl (by decide) (Or.inr ⟨_, rfl⟩) rfl ?_
  refine g_iload_n rfl rfl ?_
  refine g_iconst rfl ⟨by decide, by decide⟩ ?_
  refine x_imul (z := 4) rfl (by omega) ⟨by omega, by omega⟩ ?_
  refine g_iload_n rfl rfl ?_
  refine x_iadd (z := 5) rfl (by omega) ⟨by omega, by omega⟩ ?_
  refine x_aald (t0 := 5) (r := 31) hG rfl rfl rfl (by decide) (by decide) (by decide) rfl ?_
  refine g_aload_n rfl rfl ?_
  refine x_getF (r := 47) hG rfl rfl (by decide) (Or.inl ⟨_, rfl⟩) rfl ?_
  refine g_cV (as := [tR (some 47)]) (s_rcop2 hG (c := 47) (d := 31) rfl rfl (by decide) (by decide) (by decide) hsz9.1 (show w1.1 47 2 ≤ (60 : Int) by omega) (show w1.1 47 2 ≤ (12 : Int) by omega) (by omega)) rfl rfl mX6_copyFrom_ok rfl rfl rfl (by decide) rfl rfl rfl ?_
  rintro _ w2 ⟨rfl, hK2, hK3, hF2⟩ _
  have hM2 : w2.1 5 2 = M := by rw [hF2 5 (by omega), hR1 5 (by omega)]; exact hM
  refine g_aload_n rfl rfl ?_
  refine x_getF (r := 5) hG rfl rfl (by decide) (Or.inr ⟨_, rfl⟩) rfl ?_
  refine g_iload_n rfl rfl ?_
  refine g_aload_n rfl rfl ?_
  refine x_getF (r := 5) hG rfl rfl (by decide) (Or.inr ⟨_, rfl⟩) rfl ?_
  refine g_iload_n rfl rfl ?_
  refine x_iald (v := M) rfl rfl (by decide) (by decide) (by decide) hM2 ?_
  refine g_iload_n rfl rfl ?_
  refine g_iconst rfl ⟨by decide, by decide⟩ ?_
  refine x_iadd (z := 2) rfl (by omega) ⟨by omega, by omega⟩ ?_
  refine x_max (z := 2) rfl rfl (by omega) ?_
  refine g_iast rfl rfl (by decide) (by decide) (by decide) ?_
  refine x_return rfl rfl ?_
  intro _
  refine g_iload rfl rfl ?_
  refine x_ireturn rfl rfl ?_
  exact ⟨rfl, ⟨by rw [tp_pi_ne (by omega), hF2 1 (by omega), hR1 1 (by omega)]; rfl, by rw [tp_pi_ne (by omega), hF2 1 (by omega), hR1 1 (by omega)]; rfl, by rw [tp_pi_ne (by omega), hF2 1 (by omega), hR1 1 (by omega)]; rfl⟩, tp_pi_at.trans (by omega), fun t z => by rw [tp_pi_ix z, hF2 5 (by omega), hR1 5 (by omega)]; rfl, tp_Lo_A (A := w2.1) (fun i i0 i1 => tp_pi_ne (by omega)) (x_k2 hct ⟨hK2, hK3⟩), fun c z1 z2 z3 z4 => by rw [tp_pi_ne z2, hF2 c (by omega), hR1 c z4, tp_pi_ne z1, tp_pi_ne z1, tp_pi_ne z1]⟩
set_option maxHeartbeats 4000000 in
set_option maxRecDepth 100000 in
theorem s_mt21s1 {G : tp_G} {μ : tp_M} (hG : tp_Gf G = true) {T : Int → Int} {len : Int} (hT : ∀ j, 0 ≤ T j ∧ T j ≤ 255) (hlen : 0 ≤ len ∧ len ≤ 600) (h203 : μ.1 203 0 = len) (hTr : ∀ j, 0 ≤ j → j < len → tp_and (μ.1 202 j) 255 = T j) {M : Int} (hM : μ.1 206 2 = M) (hMs : 1 < M ∧ M ≤ 2) (hfl : (t_flt 2 T len).1 = 0) : tp_k G mX12_text [tR (some 201), tI 2, tI 1] μ (fun r μ' => r = some (tI 1) ∧ μ'.1 203 0 = 0 ∧ μ'.1 204 0 = 0 ∧ μ'.1 205 0 = -1 ∧ μ'.1 206 2 = M ∧ (∀ t, t ≠ 2 → μ'.1 206 t = μ.1 206 t) ∧ (∀ j, 0 ≤ j → j < 101 → μ'.1 209 (101 + j) = t_tld 2 T len j) ∧ (∀ j, (j < 101 ∨ 202 ≤ j) → μ'.1 209 j = μ.1 209 j) ∧ m_Qc μ μ' ∧ (∀ c, m_Lc c → c ≠ 206 → c ≠ 209 → μ'.1 c = μ.1 c)) := by
  refine tp_ok_of mX12_text_ok rfl (Nat.le_refl _) ?_
  refine g_aload_n rfl rfl ?_
  refine g_iconst rfl ⟨by decide, by decide⟩ ?_
  refine g_puti rfl rfl (by decide) rfl rfl ?_
  refine g_aload_n rfl rfl ?_
  refine g_aload_n rfl rfl ?_
  refine x_getF (r := 203) hG rfl rfl (by decide) (Or.inr ⟨_, rfl⟩) rfl ?_
  refine g_iconst rfl ⟨by decide, by decide⟩ ?_
  refine x_iald (v := len) rfl rfl (by decide) (by decide) (by decide) h203 ?_
  refine g_puti rfl rfl (by decide) rfl rfl ?_
  refine g_aload_n rfl rfl ?_
  refine x_getF (r := 203) hG rfl rfl (by decide) (Or.inr ⟨_, rfl⟩) rfl ?_
  refine g_iconst rfl ⟨by decide, by decide⟩ ?_
  refine g_iconst rfl ⟨by decide, by decide⟩ ?_
  refine g_iast rfl rfl (by decide) (by decide) (by decide) ?_
  refine g_aload_n rfl rfl ?_
  refine x_getF (r := 204) hG rfl rfl (by decide) (Or.inr ⟨_, rfl⟩) rfl ?_
  refine g_iconst rfl ⟨by decide, by decide⟩ ?_
  refine g_iconst rfl ⟨by decide, by decide⟩ ?_
  refine g_iast rfl rfl (by decide) (by decide) (by decide) ?_
  refine g_aload_n rfl rfl ?_
  refine x_getF (r := 205) hG rfl rfl (by decide) (Or.inr ⟨_, rfl⟩) rfl ?_
  refine g_iconst rfl ⟨by decide, by decide⟩ ?_
  refine g_iconst rfl ⟨by decide, by decide⟩ ?_
  refine g_iast rfl rfl (by decide) (by decide) (by decide) ?_
  refine g_iload_n rfl rfl ?_
  refine g_iconst rfl ⟨by decide, by decide⟩ ?_
  refine g_iconst rfl ⟨by decide, by decide⟩ ?_
  refine g_iS (as := [tI 2, tI 0, tI 3]) mX12_in_ok rfl rfl rfl rfl rfl rfl rfl ?_
  refine g_iload_n rfl rfl ?_
  refine g_iload_n rfl rfl ?_
  refine g_icmp_lt (tgt := 14) rfl (by decide) (fun hx => absurd hx (by omega)) (fun _ => ?_)
  refine g_iload_n rfl rfl ?_
  refine g_iload_n rfl rfl ?_
  refine g_icmp_gt (tgt := 14) rfl (by decide) (fun hx => absurd hx (by omega)) (fun _ => ?_)
  refine g_iconst rfl ⟨by decide, by decide⟩ ?_
  refine g_goto (tgt := 15) rfl (by decide) ?_
  refine x_zreturn rfl rfl (Or.inr rfl) ?_
  intro _
  refine g_if_eq (tgt := 72) rfl (by decide) (fun hx => absurd hx (by omega)) (fun _ => ?_)
  refine g_iload_n rfl rfl ?_
  refine g_iconst rfl ⟨by decide, by decide⟩ ?_
  refine g_icmp_ne (tgt := 63) rfl (by decide) (fun _ => ?_) (fun hx => absurd hx (by omega))
  refine g_aload_n rfl rfl ?_
  refine g_iload_n rfl rfl ?_
  refine g_iload_n rfl rfl ?_
  refine g_iV (as := [tI 2, tI 1]) mX12_is_ok rfl rfl rfl rfl rfl rfl (by decide) rfl rfl rfl ?_
  refine g_iload_n rfl rfl ?_
  refine g_iconst rfl ⟨by decide, by decide⟩ ?_
  refine g_aload_n rfl rfl ?_
  refine x_getF (r := 206) hG rfl rfl (by decide) (Or.inr ⟨_, rfl⟩) rfl ?_
  refine g_iload_n rfl rfl ?_
  refine x_iald (v := M) rfl rfl (by decide) (by decide) (by decide) hM ?_
  refine g_iconst rfl ⟨by decide, by decide⟩ ?_
  refine x_isub (z := M - 1) rfl (by omega) ⟨by omega, by omega⟩ ?_
  refine g_iS (as := [tI 1, tI 0, tI (M - 1)]) mX12_in_ok rfl rfl rfl rfl rfl rfl rfl ?_
  refine g_iload_n rfl rfl ?_
  refine g_iload_n rfl rfl ?_
  refine g_icmp_lt (tgt := 14) rfl (by decide) (fun hx => absurd hx (by omega)) (fun _ => ?_)
  refine g_iload_n rfl rfl ?_
  refine g_iload_n rfl rfl ?_
  refine g_icmp_gt (tgt := 14) rfl (by decide) (fun hx => absurd hx (by omega)) (fun _ => ?_)
  refine g_iconst rfl ⟨by decide, by decide⟩ ?_
  refine g_goto (tgt := 15) rfl (by decide) ?_
  refine x_zreturn rfl rfl (Or.inr rfl) ?_
  intro _
  refine x_zreturn rfl rfl (Or.inr rfl) ?_
  intro _
  refine g_if_ne (tgt := 75) rfl (by decide) (fun _ => ?_) (fun hx => absurd hx (by omega))
  refine g_aload_n rfl rfl ?_
  refine g_iload_n rfl rfl ?_
  refine g_cV (as := [tI 2]) (s_rtxY2 (T := T) (len := len) hG hT ⟨rfl, hlen, hTr⟩ hfl) rfl rfl mX12_readText_ok rfl rfl rfl (by decide) rfl rfl rfl ?_
  rintro _ w1 ⟨rfl, h204, h205, hto, hH1⟩ _
  have hM1 : w1.1 206 2 = M := by rw [hH1.1 206 (by omega) (by omega) (by omega) (by omega)]; exact hM
  refine g_if_ne (tgt := 85) rfl (by decide) (fun _ => ?_) (fun hx => absurd hx (by omega))
  refine g_iload_n rfl rfl ?_
  refine g_iconst rfl ⟨by decide, by decide⟩ ?_
  refine g_icmp_ne (tgt := 99) rfl (by decide) (fun _ => ?_) (fun hx => absurd hx (by omega))
  refine g_iload_n rfl rfl ?_
  refine g_istore_n rfl rfl rfl ?_
  refine g_aload_n rfl rfl ?_
  refine x_getF (r := 206) hG rfl rfl (by decide) (Or.inr ⟨_, rfl⟩) rfl ?_
  refine g_iload_n rfl rfl ?_
  refine g_dup2 rfl ?_
  refine x_iald (v := M) rfl rfl (by decide) (by decide) (by decide) hM1 ?_
  refine g_iload_n rfl rfl ?_
  refine g_iconst rfl ⟨by decide, by decide⟩ ?_
  refine g_icmp_ne (tgt := 117) rfl (by decide) (fun _ => ?_) (fun hx => absurd hx (by omega))
  refine g_iconst rfl ⟨by decide, by decide⟩ ?_
  refine x_iadd (z := M) rfl (by omega) ⟨by omega, by omega⟩ ?_
  refine g_iast rfl rfl (by decide) (by decide) (by decide) ?_
  refine g_iload_n rfl rfl ?_
  refine g_if_ne (tgt := 139) rfl (by decide) (fun _ => ?_) (fun hx => absurd hx (by omega))
  refine g_iload_n rfl rfl ?_
  refine g_iconst rfl ⟨by decide, by decide⟩ ?_
  refine g_icmp_ne (tgt := 158) rfl (by decide) (fun _ => ?_) (fun hx => absurd hx (by omega))
  refine g_iload_n rfl rfl ?_
  refine g_iconst rfl ⟨by decide, by decide⟩ ?_
  refine g_icmp_ne (tgt := 177) rfl (by decide) (fun hx => absurd hx (by omega)) (fun _ => ?_)
  refine g_aload_n rfl rfl ?_
  refine g_aload_n rfl rfl ?_
  refine x_getF (r := 209) hG rfl rfl (by decide) (Or.inr ⟨_, rfl⟩) rfl ?_
  refine g_bipush rfl ⟨by decide, by decide⟩ (by decide) ?_
  refine g_iload_n rfl rfl ?_
  refine g_cV (as := [tR (some 209), tI 101, tI 1]) (s_kpt21 hG) rfl rfl mX12_keep_ok rfl rfl rfl (by decide) rfl rfl rfl ?_
  rintro _ w2 ⟨rfl, hv2, hw2, hF2⟩ _
  refine g_goto (tgt := 188) rfl (by decide) ?_
  refine g_iload_n rfl rfl ?_
  refine x_ireturn rfl rfl ?_
  have q203 : w2.1 203 = _ := (hF2 203 (by omega)).trans ((tp_pi_ne (by omega)).trans (hH1.1 203 (by omega) (by omega) (by omega) (by omega)))
  have q204 : w2.1 204 = w1.1 204 := (hF2 204 (by omega)).trans (tp_pi_ne (by omega))
  have q205 : w2.1 205 = w1.1 205 := (hF2 205 (by omega)).trans (tp_pi_ne (by omega))
  have q206 : w2.1 206 = (tp_pi w1 206 2 M).1 206 := hF2 206 (by omega)
  have q211 : (tp_pi w1 206 2 M).1 211 = w1.1 211 := tp_pi_ne (by omega)
  have qrc : (tp_pi w1 206 2 M).1 209 = _ := (tp_pi_ne (by omega)).trans (hH1.1 209 (by omega) (by omega) (by omega) (by omega))
  refine ⟨rfl, (congrFun q203 0).trans rfl, (congrFun q204 0).trans h204, (congrFun q205 0).trans h205, (congrFun q206 2).trans tp_pi_at, fun t z => ?_, fun j j0 j1 => ((hv2 j j0 j1).trans (congrFun q211 j)).trans (hto j j0 (by omega)), fun j z => ((hw2 j z).trans (congrFun qrc j)).trans rfl, fun q z => ⟨?_, ?_, ?_⟩, fun c z y1 y2 => ?_⟩
  · rw [q206, tp_pi_ix z, hH1.1 206 (by omega) (by omega) (by omega) (by omega)]; rfl
  · rw [q203, tp_pi_ne (by omega), tp_pi_ne (by omega), tp_pi_ix (by omega)]; rfl
  · rw [q204, (hH1.2.2.1 q (by omega)).1, tp_pi_ne (by omega), tp_pi_ix (by omega)]; rfl
  · rw [q205, (hH1.2.2.1 q (by omega)).2, tp_pi_ix (by omega)]; rfl
  · rw [hF2 c y2, tp_pi_ne y1, hH1.1 c z.1 z.2.2.2.2 z.2.2.1 z.2.2.2.1, tp_pi_ne z.2.2.2.1, tp_pi_ne z.2.2.1, tp_pi_ne z.2.1, tp_pi_ne z.1, tp_pi_ne z.1]
set_option maxHeartbeats 4000000 in
set_option maxRecDepth 100000 in
theorem s_xt21s0 {G : tp_G} {μ : tp_M} (hG : tp_Gf G = true) {T : Int → Int} {len : Int} (hT : ∀ j, 0 ≤ T j ∧ T j ≤ 255) (hlen : 0 ≤ len ∧ len ≤ 600) (hln : μ.1 1 1 = len) (hTm : ∀ j, 0 ≤ j → j < len → tp_and (μ.1 2 j) 255 = T j) {M : Int} (hM : μ.1 5 2 = M) (hMs : 1 < M ∧ M ≤ 2) (hfl : (t_flt 2 T len).1 ≠ 0) : tp_k G mX11_text [tR (some 0), tI 2, tI 1] μ (fun r μ' => r = some (tI (-1)) ∧ μ'.1 1 1 = 0 ∧ μ'.1 1 2 = (t_flt 2 T len).1 ∧ μ'.1 1 3 = (t_flt 2 T len).2 ∧ (∀ c, c ≠ 1 → (c < 41 ∨ 49 < c) → μ'.1 c = μ.1 c)) := by
  refine tp_ok_of mX11_text_ok rfl (Nat.le_refl _) ?_
  refine g_aload_n rfl rfl ?_
  refine x_getF (r := 1) hG rfl rfl (by decide) (Or.inl ⟨_, rfl⟩) rfl ?_
  refine x_geti (v := len) rfl rfl (by decide) (Or.inl rfl) hln ?_
  refine g_istore_n rfl rfl rfl ?_
  refine g_aload_n rfl rfl ?_
  refine x_getF (r := 1) hG rfl rfl (by decide) (Or.inl ⟨_, rfl⟩) rfl ?_
  refine g_iconst rfl ⟨by decide, by decide⟩ ?_
  refine g_puti rfl rfl (by decide) rfl rfl ?_
  refine g_aload_n rfl rfl ?_
  refine x_getF (r := 1) hG rfl rfl (by decide) (Or.inl ⟨_, rfl⟩) rfl ?_
  refine g_iconst rfl ⟨by decide, by decide⟩ ?_
  refine g_puti rfl rfl (by decide) rfl rfl ?_
  refine g_aload_n rfl rfl ?_
  refine x_getF (r := 1) hG rfl rfl (by decide) (Or.inl ⟨_, rfl⟩) rfl ?_
  refine g_iconst rfl ⟨by decide, by decide⟩ ?_
  refine g_puti rfl rfl (by decide) rfl rfl ?_
  refine g_aload_n rfl rfl ?_
  refine x_getF (r := 1) hG rfl rfl (by decide) (Or.inl ⟨_, rfl⟩) rfl ?_
  refine g_iload_n rfl rfl ?_
  refine g_iload_n rfl rfl ?_
  refine g_iV (as := [tI 2, tI 1]) mX9_slotFor_ok rfl rfl rfl rfl rfl rfl (by decide) rfl rfl rfl ?_
  refine g_iload_n rfl rfl ?_
  refine g_if_lt (tgt := 9) rfl (by decide) (fun hx => absurd hx (by omega)) (fun _ => ?_)
  refine g_iload_n rfl rfl ?_
  refine g_iconst rfl ⟨by decide, by decide⟩ ?_
  refine g_icmp_lt (tgt := 11) rfl (by decide) (fun _ => ?_) (fun hx => absurd hx (by omega))
  refine g_aload_n rfl rfl ?_
  refine x_getF (r := 5) hG rfl rfl (by decide) (Or.inr ⟨_, rfl⟩) rfl ?_
  refine g_iload_n rfl rfl ?_
  refine x_iald (v := M) rfl rfl (by decide) (by decide) (by decide) hM ?_
  refine g_istore_n rfl rfl rfl ?_
  refine g_iload_n rfl rfl ?_
  refine g_iconst rfl ⟨by decide, by decide⟩ ?_
  refine g_icmp_ne (tgt := 34) rfl (by decide) (fun _ => ?_) (fun hx => absurd hx (by omega))
  refine g_iload_n rfl rfl ?_
  refine g_if_lt (tgt := 43) rfl (by decide) (fun hx => absurd hx (by omega)) (fun _ => ?_)
  refine g_iload_n rfl rfl ?_
  refine g_iload_n rfl rfl ?_
  refine g_icmp_lt (tgt := 47) rfl (by decide) (fun _ => ?_) (fun hx => absurd hx (by omega))
  refine g_iload_n rfl rfl ?_
  refine x_ireturn rfl rfl ?_
  intro _
  refine g_istore rfl rfl rfl ?_
  refine g_iload rfl rfl ?_
  refine g_iconst rfl ⟨by decide, by decide⟩ ?_
  refine g_icmp_ne (tgt := 52) rfl (by decide) (fun _ => ?_) (fun hx => absurd hx (by omega))
  refine g_aload_n rfl rfl ?_
  refine x_getF (r := 41) hG rfl rfl (by decide) (Or.inl ⟨_, rfl⟩) rfl ?_
  refine g_aload_n rfl rfl ?_
  refine x_getF (r := 1) hG rfl rfl (by decide) (Or.inl ⟨_, rfl⟩) rfl ?_
  refine x_getF (r := 2) hG rfl rfl (by decide) (Or.inr ⟨_, rfl⟩) rfl ?_
  refine g_iload_n rfl rfl ?_
  refine g_iload_n rfl rfl ?_
  refine g_cV (as := [tR (some 2), tI len, tI 2]) (s_readN2 hG hT hlen hTm hfl) rfl rfl mX5_read_ok rfl rfl rfl (by decide) rfl rfl rfl ?_
  rintro _ w1 ⟨rfl, h8, h9, hR1⟩ _
  refine g_if_ne (tgt := 101) rfl (by decide) (fun hx => absurd hx (by omega)) (fun _ => ?_)
  refine g_aload_n rfl rfl ?_
  refine x_getF (r := 1) hG rfl rfl (by decide) (Or.inl ⟨_, rfl⟩) rfl ?_
  refine g_aload_n rfl rfl ?_
  refine x_getF (r := 41) hG rfl rfl (by decide) (Or.inl ⟨_, rfl⟩) rfl ?_
  refine x_geti (v := ((t_flt 2 T len).1)) rfl rfl (by decide) (Or.inl rfl) h8 ?_
  refine g_puti rfl rfl (by decide) rfl rfl ?_
  refine g_aload_n rfl rfl ?_
  refine x_getF (r := 1) hG rfl rfl (by decide) (Or.inl ⟨_, rfl⟩) rfl ?_
  refine g_aload_n rfl rfl ?_
  refine x_getF (r := 41) hG rfl rfl (by decide) (Or.inl ⟨_, rfl⟩) rfl ?_
  refine x_geti (v := ((t_flt 2 T len).2)) rfl rfl (by decide) (Or.inl rfl) h9 ?_
  refine g_puti rfl rfl (by decide) rfl rfl ?_
  refine g_iconst rfl ⟨by decide, by decide⟩ ?_
  refine x_ireturn rfl rfl ?_
  exact ⟨rfl, (congrFun (hR1 1 (by omega)) 1).trans rfl, rfl, rfl, fun c z y => by rw [tp_pi_ne z, tp_pi_ne z, hR1 c y, tp_pi_ne z, tp_pi_ne z, tp_pi_ne z]⟩
set_option maxHeartbeats 4000000 in
set_option maxRecDepth 100000 in
theorem s_mt21s0 {G : tp_G} {μ : tp_M} (hG : tp_Gf G = true) {T : Int → Int} {len : Int} (hT : ∀ j, 0 ≤ T j ∧ T j ≤ 255) (hlen : 0 ≤ len ∧ len ≤ 600) (h203 : μ.1 203 0 = len) (hTr : ∀ j, 0 ≤ j → j < len → tp_and (μ.1 202 j) 255 = T j) {M : Int} (hM : μ.1 206 2 = M) (hMs : 1 < M ∧ M ≤ 2) (hfl : (t_flt 2 T len).1 ≠ 0) : tp_k G mX12_text [tR (some 201), tI 2, tI 1] μ (fun r μ' => r = some (tI (-1)) ∧ μ'.1 203 0 = 0 ∧ μ'.1 204 0 = (t_flt 2 T len).1 ∧ μ'.1 205 0 = (t_flt 2 T len).2 ∧ m_Qc μ μ' ∧ (∀ c, m_Lc c → μ'.1 c = μ.1 c)) := by
  refine tp_ok_of mX12_text_ok rfl (Nat.le_refl _) ?_
  refine g_aload_n rfl rfl ?_
  refine g_iconst rfl ⟨by decide, by decide⟩ ?_
  refine g_puti rfl rfl (by decide) rfl rfl ?_
  refine g_aload_n rfl rfl ?_
  refine g_aload_n rfl rfl ?_
  refine x_getF (r := 203) hG rfl rfl (by decide) (Or.inr ⟨_, rfl⟩) rfl ?_
  refine g_iconst rfl ⟨by decide, by decide⟩ ?_
  refine x_iald (v := len) rfl rfl (by decide) (by decide) (by decide) h203 ?_
  refine g_puti rfl rfl (by decide) rfl rfl ?_
  refine g_aload_n rfl rfl ?_
  refine x_getF (r := 203) hG rfl rfl (by decide) (Or.inr ⟨_, rfl⟩) rfl ?_
  refine g_iconst rfl ⟨by decide, by decide⟩ ?_
  refine g_iconst rfl ⟨by decide, by decide⟩ ?_
  refine g_iast rfl rfl (by decide) (by decide) (by decide) ?_
  refine g_aload_n rfl rfl ?_
  refine x_getF (r := 204) hG rfl rfl (by decide) (Or.inr ⟨_, rfl⟩) rfl ?_
  refine g_iconst rfl ⟨by decide, by decide⟩ ?_
  refine g_iconst rfl ⟨by decide, by decide⟩ ?_
  refine g_iast rfl rfl (by decide) (by decide) (by decide) ?_
  refine g_aload_n rfl rfl ?_
  refine x_getF (r := 205) hG rfl rfl (by decide) (Or.inr ⟨_, rfl⟩) rfl ?_
  refine g_iconst rfl ⟨by decide, by decide⟩ ?_
  refine g_iconst rfl ⟨by decide, by decide⟩ ?_
  refine g_iast rfl rfl (by decide) (by decide) (by decide) ?_
  refine g_iload_n rfl rfl ?_
  refine g_iconst rfl ⟨by decide, by decide⟩ ?_
  refine g_iconst rfl ⟨by decide, by decide⟩ ?_
  refine g_iS (as := [tI 2, tI 0, tI 3]) mX12_in_ok rfl rfl rfl rfl rfl rfl rfl ?_
  refine g_iload_n rfl rfl ?_
  refine g_iload_n rfl rfl ?_
  refine g_icmp_lt (tgt := 14) rfl (by decide) (fun hx => absurd hx (by omega)) (fun _ => ?_)
  refine g_iload_n rfl rfl ?_
  refine g_iload_n rfl rfl ?_
  refine g_icmp_gt (tgt := 14) rfl (by decide) (fun hx => absurd hx (by omega)) (fun _ => ?_)
  refine g_iconst rfl ⟨by decide, by decide⟩ ?_
  refine g_goto (tgt := 15) rfl (by decide) ?_
  refine x_zreturn rfl rfl (Or.inr rfl) ?_
  intro _
  refine g_if_eq (tgt := 72) rfl (by decide) (fun hx => absurd hx (by omega)) (fun _ => ?_)
  refine g_iload_n rfl rfl ?_
  refine g_iconst rfl ⟨by decide, by decide⟩ ?_
  refine g_icmp_ne (tgt := 63) rfl (by decide) (fun _ => ?_) (fun hx => absurd hx (by omega))
  refine g_aload_n rfl rfl ?_
  refine g_iload_n rfl rfl ?_
  refine g_iload_n rfl rfl ?_
  refine g_iV (as := [tI 2, tI 1]) mX12_is_ok rfl rfl rfl rfl rfl rfl (by decide) rfl rfl rfl ?_
  refine g_iload_n rfl rfl ?_
  refine g_iconst rfl ⟨by decide, by decide⟩ ?_
  refine g_aload_n rfl rfl ?_
  refine x_getF (r := 206) hG rfl rfl (by decide) (Or.inr ⟨_, rfl⟩) rfl ?_
  refine g_iload_n rfl rfl ?_
  refine x_iald (v := M) rfl rfl (by decide) (by decide) (by decide) hM ?_
  refine g_iconst rfl ⟨by decide, by decide⟩ ?_
  refine x_isub (z := M - 1) rfl (by omega) ⟨by omega, by omega⟩ ?_
  refine g_iS (as := [tI 1, tI 0, tI (M - 1)]) mX12_in_ok rfl rfl rfl rfl rfl rfl rfl ?_
  refine g_iload_n rfl rfl ?_
  refine g_iload_n rfl rfl ?_
  refine g_icmp_lt (tgt := 14) rfl (by decide) (fun hx => absurd hx (by omega)) (fun _ => ?_)
  refine g_iload_n rfl rfl ?_
  refine g_iload_n rfl rfl ?_
  refine g_icmp_gt (tgt := 14) rfl (by decide) (fun hx => absurd hx (by omega)) (fun _ => ?_)
  refine g_iconst rfl ⟨by decide, by decide⟩ ?_
  refine g_goto (tgt := 15) rfl (by decide) ?_
  refine x_zreturn rfl rfl (Or.inr rfl) ?_
  intro _
  refine x_zreturn rfl rfl (Or.inr rfl) ?_
  intro _
  refine g_if_ne (tgt := 75) rfl (by decide) (fun _ => ?_) (fun hx => absurd hx (by omega))
  refine g_aload_n rfl rfl ?_
  refine g_iload_n rfl rfl ?_
  refine g_cV (as := [tI 2]) (s_rtxN2 (T := T) (len := len) hG hT ⟨rfl, hlen, hTr⟩ hfl) rfl rfl mX12_readText_ok rfl rfl rfl (by decide) rfl rfl rfl ?_
  rintro _ w1 ⟨rfl, h204, h205, hH1⟩ _
  have hM1 : w1.1 206 2 = M := by rw [hH1.1 206 (by omega) (by omega) (by omega) (by omega)]; exact hM
  refine g_if_ne (tgt := 85) rfl (by decide) (fun hx => absurd hx (by omega)) (fun _ => ?_)
  refine g_iconst rfl ⟨by decide, by decide⟩ ?_
  refine x_ireturn rfl rfl ?_
  exact ⟨rfl, (congrFun (hH1.1 203 (by omega) (by omega) (by omega) (by omega)) 0).trans rfl, h204, h205, fun q z => ⟨(congrFun (hH1.1 203 (by omega) (by omega) (by omega) (by omega)) q).trans (by rw [tp_pi_ne (by omega), tp_pi_ne (by omega), tp_pi_ix (by omega)]; rfl), ((hH1.2.2.1 q (by omega)).1).trans (by rw [tp_pi_ne (by omega), tp_pi_ix (by omega)]; rfl), ((hH1.2.2.1 q (by omega)).2).trans (by rw [tp_pi_ix (by omega)]; rfl)⟩, fun c z => by rw [hH1.1 c z.1 z.2.2.2.2 z.2.2.1 z.2.2.2.1, tp_pi_ne z.2.2.2.1, tp_pi_ne z.2.2.1, tp_pi_ne z.2.1, tp_pi_ne z.1, tp_pi_ne z.1]⟩
set_option maxHeartbeats 4000000 in
set_option maxRecDepth 100000 in
theorem p_tx21s {G : tp_G} {μ : tp_M} (hG : tp_Gf G = true) (hR : tp_R μ) {M : Int} (hM : μ.1 5 2 = M) (hMs : 1 < M ∧ M ≤ 2) : tp_q G mX11_text mX12_text [tI 2, tI 1] μ := by
  have hL := tp_R_len hR
  have hlen : 0 ≤ μ.1 1 1 ∧ μ.1 1 1 ≤ 600 := ⟨hL.1, hL.2.1⟩
  have hm9 := tp_R_many hR 2 (by decide) (by decide)
  have hT : ∀ j, 0 ≤ (fun j => tp_and (μ.1 2 j) 255 : Int → Int) j ∧ (fun j => tp_and (μ.1 2 j) 255 : Int → Int) j ≤ 255 := fun j => tp_and255 _
  generalize hTT : (fun j => tp_and (μ.1 2 j) 255 : Int → Int) = T at hT
  have hTm : ∀ j, 0 ≤ j → j < μ.1 1 1 → tp_and (μ.1 2 j) 255 = T j := fun j _ _ => by rw [← hTT]
  generalize hln : μ.1 1 1 = len at *
  by_cases hfl : (t_flt 2 T len).1 = 0
  · refine tp_kc (fun r μ1 z => ?_) (s_xt21s1 hG hT hlen hln hTm hM hMs hfl)
    obtain ⟨z1, z2, z3, z4, z5, z6⟩ := z
    refine ⟨1, z1, tp_kc (fun r2 μ2 y => ?_) (s_mt21s1 (T := T) (len := len) hG hT hlen (by rw [z6 203 (by omega) (by omega) (by omega) (by omega)]; exact hL.2.2.symm) (fun j j0 j1 => by rw [z6 202 (by omega) (by omega) (by omega) (by omega), ← tp_R_tape hR j j0 (by omega)]; exact hTm j j0 j1) (by rw [z6 206 (by omega) (by omega) (by omega) (by omega)]; exact hm9.1.symm.trans hM) hMs hfl)⟩
    obtain ⟨y1, y2, y3, y4, y5, y6, y7, y8, y9, y10⟩ := y
    have y5' : ∀ j, μ2.1 5 j = μ1.1 5 j := fun j => congrFun (y10 5 (by unfold m_Lc; omega) (by omega) (by omega)) j
    have yl : μ2.1 1 = μ1.1 1 := y10 1 (by unfold m_Lc; omega) (by omega) (by omega)
    refine ⟨y1, tp_R_k21 hR (fun k hk k1 k5 kc k2 kr => ?_) (fun q hq => ?_) (fun j hj => ?_) (fun t t0 t1 tn => ⟨?_, ?_⟩) ⟨?_, ?_, ?_⟩ (fun j hj => ?_) ⟨?_, y2⟩ ⟨?_, ?_⟩ ?_⟩
    · unfold tp_tl at hk
      rw [y10 k (by unfold m_Lc; omega) (by omega) kr, z6 k k1 k5 kc (by omega)]
    · rw [(y9 q hq).1, (y9 q hq).2.1, (y9 q hq).2.2, z6 203 (by omega) (by omega) (by omega) (by omega), z6 204 (by omega) (by omega) (by omega) (by omega), z6 205 (by omega) (by omega) (by omega) (by omega)]; exact ⟨rfl, rfl, rfl⟩
    · rw [y6 j (by omega), z6 206 (by omega) (by omega) (by omega) (by omega)]
    · rw [y5' t, z4 t tn]
    · rw [y6 t tn, z6 206 (by omega) (by omega) (by omega) (by omega)]
    · rw [y5' 2, z3, y5]
    · rw [y5' 2, z3]; omega
    · rw [y5' 2, z3]; omega
    · rw [y8 j hj, z6 209 (by omega) (by omega) (by omega) (by omega)]
    · rw [yl]; exact z2.1
    · rw [yl, y3]; exact z2.2.1
    · rw [yl, y4]; exact z2.2.2
    · exact tp_Lo_A (A := μ1.1) (fun i i0 i1 => y10 i (by unfold m_Lc; omega) (by omega) (by omega)) (tp_Lo_f (fun i i0 i1 => y7 i i0 i1) z5)
  · refine tp_kc (fun r μ1 z => ?_) (s_xt21s0 hG hT hlen hln hTm hM hMs hfl)
    obtain ⟨z1, z2, z3, z4, z6⟩ := z
    refine ⟨-1, z1, tp_kc (fun r2 μ2 y => ?_) (s_mt21s0 (T := T) (len := len) hG hT hlen (by rw [z6 203 (by omega) (by omega)]; exact hL.2.2.symm) (fun j j0 j1 => by rw [z6 202 (by omega) (by omega), ← tp_R_tape hR j j0 (by omega)]; exact hTm j j0 j1) (by rw [z6 206 (by omega) (by omega)]; exact hm9.1.symm.trans hM) hMs hfl)⟩
    obtain ⟨y1, y2, y3, y4, y9, y10⟩ := y
    have yl : μ2.1 1 = μ1.1 1 := y10 1 (by unfold m_Lc; omega)
    refine ⟨y1, tp_R_head hR (fun k hk k1 k2 k3 => ?_) (fun j hj => ?_) (fun q hq => ?_) ?_ (fun j j0 j1 => ?_) ⟨?_, ?_⟩⟩
    · unfold tp_tl at hk
      rw [y10 k (by unfold m_Lc; omega), z6 k k1 (by omega)]
    · rw [y10 202 (by unfold m_Lc; omega), z6 202 (by omega) (by omega)]
    · rw [(y9 q hq).1, (y9 q hq).2.1, (y9 q hq).2.2, z6 203 (by omega) (by omega), z6 204 (by omega) (by omega), z6 205 (by omega) (by omega)]; exact ⟨rfl, rfl, rfl⟩
    · rw [yl, z2, y2]; decide
    · rw [yl, z2] at j1; omega
    · rw [yl, z3, y3]
    · rw [yl, z4, y4]
set_option maxHeartbeats 4000000 in
set_option maxRecDepth 100000 in
theorem s_readY3 {G : tp_G} {μ : tp_M} (hG : tp_Gf G = true) {T : Int → Int} {len : Int} (hT : ∀ j, 0 ≤ T j ∧ T j ≤ 255) (hlen : 0 ≤ len ∧ len ≤ 600) (hTm : ∀ j, 0 ≤ j → j < len → tp_and (μ.1 2 j) 255 = T j) (hfl : (t_flt 3 T len).1 = 0) : tp_k G mX5_read [tR (some 41), tR (some 2), tI len, tI 3] μ (fun r μ' => r = some (tI 1) ∧ t_cont 3 (t_tld 3 T len) μ' ∧ rd_G μ μ') :=
  tp_kc (fun r μ' z => ⟨z.1.trans (by rw [if_pos hfl]), z.2.2.2.1 hfl, z.2.2.2.2⟩) (s_read3 hG hT hlen hTm)
theorem s_readN3 {G : tp_G} {μ : tp_M} (hG : tp_Gf G = true) {T : Int → Int} {len : Int} (hT : ∀ j, 0 ≤ T j ∧ T j ≤ 255) (hlen : 0 ≤ len ∧ len ≤ 600) (hTm : ∀ j, 0 ≤ j → j < len → tp_and (μ.1 2 j) 255 = T j) (hfl : (t_flt 3 T len).1 ≠ 0) : tp_k G mX5_read [tR (some 41), tR (some 2), tI len, tI 3] μ (fun r μ' => r = some (tI 0) ∧ μ'.1 41 8 = (t_flt 3 T len).1 ∧ μ'.1 41 9 = (t_flt 3 T len).2 ∧ rd_G μ μ') :=
  tp_kc (fun r μ' z => ⟨z.1.trans (by rw [if_neg hfl]), z.2.1, z.2.2.1, z.2.2.2.2⟩) (s_read3 hG hT hlen hTm)
theorem s_rtxY3 {G : tp_G} {μ : tp_M} (hG : tp_Gf G = true) {T : Int → Int} {len : Int} (hT : ∀ j, 0 ≤ T j ∧ T j ≤ 255) (hC : rd_C T len μ) (hfl : (t_flt 3 T len).1 = 0) : tp_k G mX12_readText [tR (some 201), tI 3] μ (fun r μ' => r = some (tI 1) ∧ μ'.1 204 0 = 0 ∧ μ'.1 205 0 = -1 ∧ (∀ j, 0 ≤ j → j < 129 → μ'.1 211 j = t_tld 3 T len j) ∧ m_H μ μ') :=
  tp_kc (fun r μ' z => ⟨z.1.trans (by rw [if_pos hfl]), z.2.1.trans hfl, z.2.2.1.trans (by rw [(t_wm ⟨by decide, by decide⟩ hC.2.1.1 hfl).1]), z.2.2.2.1 hfl, z.2.2.2.2⟩) (s_rtx3 hG hT hC)
theorem s_rtxN3 {G : tp_G} {μ : tp_M} (hG : tp_Gf G = true) {T : Int → Int} {len : Int} (hT : ∀ j, 0 ≤ T j ∧ T j ≤ 255) (hC : rd_C T len μ) (hfl : (t_flt 3 T len).1 ≠ 0) : tp_k G mX12_readText [tR (some 201), tI 3] μ (fun r μ' => r = some (tI 0) ∧ μ'.1 204 0 = (t_flt 3 T len).1 ∧ μ'.1 205 0 = (t_flt 3 T len).2 ∧ m_H μ μ') :=
  tp_kc (fun r μ' z => ⟨z.1.trans (by rw [if_neg hfl]), z.2.1, z.2.2.1, z.2.2.2.2⟩) (s_rtx3 hG hT hC)
set_option maxHeartbeats 4000000 in
set_option maxRecDepth 100000 in
theorem s_xt30m1 {G : tp_G} {μ : tp_M} (hG : tp_Gf G = true) {T : Int → Int} {len : Int} (hT : ∀ j, 0 ≤ T j ∧ T j ≤ 255) (hlen : 0 ≤ len ∧ len ≤ 600) (hln : μ.1 1 1 = len) (hTm : ∀ j, 0 ≤ j → j < len → tp_and (μ.1 2 j) 255 = T j) (hM : μ.1 5 3 = 0) (hfl : (t_flt 3 T len).1 = 0) : tp_k G mX11_text [tR (some 0), tI 3, tI (-1)] μ (fun r μ' => r = some (tI 0) ∧ (μ'.1 1 1 = 0 ∧ μ'.1 1 2 = 0 ∧ μ'.1 1 3 = -1) ∧ μ'.1 5 3 = 1 ∧ (∀ t, t ≠ 3 → μ'.1 5 t = μ.1 5 t) ∧ tp_Lg μ'.1 34 (t_tld 3 T len) ∧ (∀ c, c ≠ 1 → c ≠ 5 → (c < 34 ∨ 36 < c) → (c < 41 ∨ 49 < c) → μ'.1 c = μ.1 c)) := by
  refine tp_ok_of mX11_text_ok rfl (Nat.le_refl _) ?_
  refine g_aload_n rfl rfl ?_
  refine x_getF (r := 1) hG rfl rfl (by decide) (Or.inl ⟨_, rfl⟩) rfl ?_
  refine x_geti (v := len) rfl rfl (by decide) (Or.inl rfl) hln ?_
  refine g_istore_n rfl rfl rfl ?_
  refine g_aload_n rfl rfl ?_
  refine x_getF (r := 1) hG rfl rfl (by decide) (Or.inl ⟨_, rfl⟩) rfl ?_
  refine g_iconst rfl ⟨by decide, by decide⟩ ?_
  refine g_puti rfl rfl (by decide) rfl rfl ?_
  refine g_aload_n rfl rfl ?_
  refine x_getF (r := 1) hG rfl rfl (by decide) (Or.inl ⟨_, rfl⟩) rfl ?_
  refine g_iconst rfl ⟨by decide, by decide⟩ ?_
  refine g_puti rfl rfl (by decide) rfl rfl ?_
  refine g_aload_n rfl rfl ?_
  refine x_getF (r := 1) hG rfl rfl (by decide) (Or.inl ⟨_, rfl⟩) rfl ?_
  refine g_iconst rfl ⟨by decide, by decide⟩ ?_
  refine g_puti rfl rfl (by decide) rfl rfl ?_
  refine g_aload_n rfl rfl ?_
  refine x_getF (r := 1) hG rfl rfl (by decide) (Or.inl ⟨_, rfl⟩) rfl ?_
  refine g_iload_n rfl rfl ?_
  refine g_iload_n rfl rfl ?_
  refine g_iV (as := [tI 3, tI (-1)]) mX9_slotFor_ok rfl rfl rfl rfl rfl rfl (by decide) rfl rfl rfl ?_
  refine g_iload_n rfl rfl ?_
  refine g_if_lt (tgt := 9) rfl (by decide) (fun hx => absurd hx (by omega)) (fun _ => ?_)
  refine g_iload_n rfl rfl ?_
  refine g_iconst rfl ⟨by decide, by decide⟩ ?_
  refine g_icmp_lt (tgt := 11) rfl (by decide) (fun _ => ?_) (fun hx => absurd hx (by omega))
  refine g_aload_n rfl rfl ?_
  refine x_getF (r := 5) hG rfl rfl (by decide) (Or.inr ⟨_, rfl⟩) rfl ?_
  refine g_iload_n rfl rfl ?_
  refine x_iald (v := 0) rfl rfl (by decide) (by decide) (by decide) hM ?_
  refine g_istore_n rfl rfl rfl ?_
  refine g_iload_n rfl rfl ?_
  refine g_iconst rfl ⟨by decide, by decide⟩ ?_
  refine g_icmp_ne (tgt := 34) rfl (by decide) (fun hx => absurd hx (by omega)) (fun _ => ?_)
  refine g_iload_n rfl rfl ?_
  refine g_iconst rfl ⟨by decide, by decide⟩ ?_
  refine g_icmp_ge (tgt := 32) rfl (by decide) (fun hx => absurd hx (by omega)) (fun _ => ?_)
  refine g_iload_n rfl rfl ?_
  refine g_goto (tgt := 33) rfl (by decide) ?_
  refine x_ireturn rfl rfl ?_
  intro _
  refine g_istore rfl rfl rfl ?_
  refine g_iload rfl rfl ?_
  refine g_iconst rfl ⟨by decide, by decide⟩ ?_
  refine g_icmp_ne (tgt := 52) rfl (by decide) (fun _ => ?_) (fun hx => absurd hx (by omega))
  refine g_aload_n rfl rfl ?_
  refine x_getF (r := 41) hG rfl rfl (by decide) (Or.inl ⟨_, rfl⟩) rfl ?_
  refine g_aload_n rfl rfl ?_
  refine x_getF (r := 1) hG rfl rfl (by decide) (Or.inl ⟨_, rfl⟩) rfl ?_
  refine x_getF (r := 2) hG rfl rfl (by decide) (Or.inr ⟨_, rfl⟩) rfl ?_
  refine g_iload_n rfl rfl ?_
  refine g_iload_n rfl rfl ?_
  refine g_cV (as := [tR (some 2), tI len, tI 3]) (s_readY3 hG hT hlen hTm hfl) rfl rfl mX5_read_ok rfl rfl rfl (by decide) rfl rfl rfl ?_
  rintro _ w1 ⟨rfl, hct, hR1⟩ _
  have hwm := t_wm3 hlen.1 hfl
  have hsz9 : 0 ≤ w1.1 47 2 ∧ w1.1 47 2 ≤ 8 := by have := hct.1; have := hwm.1; omega
  refine g_if_ne (tgt := 101) rfl (by decide) (fun _ => ?_) (fun hx => absurd hx (by omega))
  refine g_aload_n rfl rfl ?_
  refine x_getF (r := 1) hG rfl rfl (by decide) (Or.inl ⟨_, rfl⟩) rfl ?_
  refine g_iload_n rfl rfl ?_
  refine g_iload rfl rfl ?_
  refine g_aload_n rfl rfl ?_
  refine x_getF (r := 41) hG rfl rfl (by decide) (Or.inl ⟨_, rfl⟩) rfl ?_
  refine g_iV (as := [tI 3, tI 0, tR (some 41)]) mX9_keep_ok rfl rfl rfl rfl rfl rfl (by decide) rfl rfl rfl ?_
  refine g_iload_n rfl rfl ?_
  refine g_if_lt (tgt := 18) rfl (by decide) (fun hx => absurd hx (by omega)) (fun _ => ?_)
  refine g_iload_n rfl rfl ?_
  refine g_iconst rfl ⟨by decide, by decide⟩ ?_
  refine g_icmp_ge (tgt := 18) rfl (by decide) (fun hx => absurd hx (by omega)) (fun _ => ?_)
  refine g_iload_n rfl rfl ?_
  refine g_if_lt (tgt := 18) rfl (by decide) (fun hx => absurd hx (by omega)) (fun _ => ?_)
  refine g_iload_n rfl rfl ?_
  refine g_iconst rfl ⟨by decide, by decide⟩ ?_
  refine g_icmp_lt (tgt := 19) rfl (by decide) (fun _ => ?_) (fun hx => absurd hx (by omega))
  refine g_iload_n rfl rfl ?_
  refine g_if_ne (tgt := 39) rfl (by decide) (fun _ => ?_) (fun hx => absurd hx (by omega))
  refine g_aload_n rfl rfl ?_
  refine x_getF (r := 4) hG rfl rfl (by decide) (Or.inr ⟨_, rfl⟩) rfl ?_
  refine g_iload_n rfl rfl ?_
  refine g_iconst rfl ⟨by decide, by decide⟩ ?_
  refine x_imul (z := 6) rfl (by omega) ⟨by omega, by omega⟩ ?_
  refine g_iload_n rfl rfl ?_
  refine x_iadd (z := 6) rfl (by omega) ⟨by omega, by omega⟩ ?_
  refine x_aald (t0 := 5) (r := 34) hG rfl rfl rfl (by decide) (by decide) (by decide) rfl ?_
  refine g_aload_n rfl rfl ?_
  refine x_getF (r := 47) hG rfl rfl (by decide) (Or.inl ⟨_, rfl⟩) rfl ?_
  refine g_cV (as := [tR (some 47)]) (s_rcop2 hG (c := 47) (d := 34) rfl rfl (by decide) (by decide) (by decide) hsz9.1 (show w1.1 47 2 ≤ (60 : Int) by omega) (show w1.1 47 2 ≤ (8 : Int) by omega) (by omega)) rfl rfl mX6_copyFrom_ok rfl rfl rfl (by decide) rfl rfl rfl ?_
  rintro _ w2 ⟨rfl, hK2, hK3, hF2⟩ _
  have hM2 : w2.1 5 3 = 0 := by rw [hF2 5 (by omega), hR1 5 (by omega)]; exact hM
  refine g_aload_n rfl rfl ?_
  refine x_getF (r := 5) hG rfl rfl (by decide) (Or.inr ⟨_, rfl⟩) rfl ?_
  refine g_iload_n rfl rfl ?_
  refine g_aload_n rfl rfl ?_
  refine x_getF (r := 5) hG rfl rfl (by decide) (Or.inr ⟨_, rfl⟩) rfl ?_
  refine g_iload_n rfl rfl ?_
  refine x_iald (v := 0) rfl rfl (by decide) (by decide) (by decide) hM2 ?_
  refine g_iload_n rfl rfl ?_
  refine g_iconst rfl ⟨by decide, by decide⟩ ?_
  refine x_iadd (z := 1) rfl (by omega) ⟨by omega, by omega⟩ ?_
  refine x_max (z := 1) rfl rfl (by omega) ?_
  refine g_iast rfl rfl (by decide) (by decide) (by decide) ?_
  refine x_return rfl rfl ?_
  intro _
  refine g_iload rfl rfl ?_
  refine x_ireturn rfl rfl ?_
  exact ⟨rfl, ⟨by rw [tp_pi_ne (by omega), hF2 1 (by omega), hR1 1 (by omega)]; rfl, by rw [tp_pi_ne (by omega), hF2 1 (by omega), hR1 1 (by omega)]; rfl, by rw [tp_pi_ne (by omega), hF2 1 (by omega), hR1 1 (by omega)]; rfl⟩, tp_pi_at.trans (by omega), fun t z => by rw [tp_pi_ix z, hF2 5 (by omega), hR1 5 (by omega)]; rfl, tp_Lg_A (A := w2.1) (fun i i0 i1 => tp_pi_ne (by omega)) (x_k3 hct hwm.1 hwm.2 ⟨hK2, hK3⟩), fun c z1 z2 z3 z4 => by rw [tp_pi_ne z2, hF2 c (by omega), hR1 c z4, tp_pi_ne z1, tp_pi_ne z1, tp_pi_ne z1]⟩
set_option maxHeartbeats 4000000 in
set_option maxRecDepth 100000 in
theorem s_mt30m1 {G : tp_G} {μ : tp_M} (hG : tp_Gf G = true) {T : Int → Int} {len : Int} (hT : ∀ j, 0 ≤ T j ∧ T j ≤ 255) (hlen : 0 ≤ len ∧ len ≤ 600) (h203 : μ.1 203 0 = len) (hTr : ∀ j, 0 ≤ j → j < len → tp_and (μ.1 202 j) 255 = T j) (hM : μ.1 206 3 = 0) (hfl : (t_flt 3 T len).1 = 0) : tp_k G mX12_text [tR (some 201), tI 3, tI (-1)] μ (fun r μ' => r = some (tI 0) ∧ μ'.1 203 0 = 0 ∧ μ'.1 204 0 = 0 ∧ μ'.1 205 0 = -1 ∧ μ'.1 206 3 = 1 ∧ (∀ t, t ≠ 3 → μ'.1 206 t = μ.1 206 t) ∧ (∀ j, 0 ≤ j → j < 17 → μ'.1 210 (0 + j) = t_tld 3 T len j) ∧ (∀ j, (j < 0 ∨ 17 ≤ j) → μ'.1 210 j = μ.1 210 j) ∧ m_Qc μ μ' ∧ (∀ c, m_Lc c → c ≠ 206 → c ≠ 210 → μ'.1 c = μ.1 c)) := by
  refine tp_ok_of mX12_text_ok rfl (Nat.le_refl _) ?_
  refine g_aload_n rfl rfl ?_
  refine g_iconst rfl ⟨by decide, by decide⟩ ?_
  refine g_puti rfl rfl (by decide) rfl rfl ?_
  refine g_aload_n rfl rfl ?_
  refine g_aload_n rfl rfl ?_
  refine x_getF (r := 203) hG rfl rfl (by decide) (Or.inr ⟨_, rfl⟩) rfl ?_
  refine g_iconst rfl ⟨by decide, by decide⟩ ?_
  refine x_iald (v := len) rfl rfl (by decide) (by decide) (by decide) h203 ?_
  refine g_puti rfl rfl (by decide) rfl rfl ?_
  refine g_aload_n rfl rfl ?_
  refine x_getF (r := 203) hG rfl rfl (by decide) (Or.inr ⟨_, rfl⟩) rfl ?_
  refine g_iconst rfl ⟨by decide, by decide⟩ ?_
  refine g_iconst rfl ⟨by decide, by decide⟩ ?_
  refine g_iast rfl rfl (by decide) (by decide) (by decide) ?_
  refine g_aload_n rfl rfl ?_
  refine x_getF (r := 204) hG rfl rfl (by decide) (Or.inr ⟨_, rfl⟩) rfl ?_
  refine g_iconst rfl ⟨by decide, by decide⟩ ?_
  refine g_iconst rfl ⟨by decide, by decide⟩ ?_
  refine g_iast rfl rfl (by decide) (by decide) (by decide) ?_
  refine g_aload_n rfl rfl ?_
  refine x_getF (r := 205) hG rfl rfl (by decide) (Or.inr ⟨_, rfl⟩) rfl ?_
  refine g_iconst rfl ⟨by decide, by decide⟩ ?_
  refine g_iconst rfl ⟨by decide, by decide⟩ ?_
  refine g_iast rfl rfl (by decide) (by decide) (by decide) ?_
  refine g_iload_n rfl rfl ?_
  refine g_iconst rfl ⟨by decide, by decide⟩ ?_
  refine g_iconst rfl ⟨by decide, by decide⟩ ?_
  refine g_iS (as := [tI 3, tI 0, tI 3]) mX12_in_ok rfl rfl rfl rfl rfl rfl rfl ?_
  refine g_iload_n rfl rfl ?_
  refine g_iload_n rfl rfl ?_
  refine g_icmp_lt (tgt := 14) rfl (by decide) (fun hx => absurd hx (by omega)) (fun _ => ?_)
  refine g_iload_n rfl rfl ?_
  refine g_iload_n rfl rfl ?_
  refine g_icmp_gt (tgt := 14) rfl (by decide) (fun hx => absurd hx (by omega)) (fun _ => ?_)
  refine g_iconst rfl ⟨by decide, by decide⟩ ?_
  refine g_goto (tgt := 15) rfl (by decide) ?_
  refine x_zreturn rfl rfl (Or.inr rfl) ?_
  intro _
  refine g_if_eq (tgt := 72) rfl (by decide) (fun hx => absurd hx (by omega)) (fun _ => ?_)
  refine g_iload_n rfl rfl ?_
  refine g_iconst rfl ⟨by decide, by decide⟩ ?_
  refine g_icmp_ne (tgt := 63) rfl (by decide) (fun hx => absurd hx (by omega)) (fun _ => ?_)
  refine g_aload_n rfl rfl ?_
  refine x_getF (r := 206) hG rfl rfl (by decide) (Or.inr ⟨_, rfl⟩) rfl ?_
  refine g_iload_n rfl rfl ?_
  refine x_iald (v := 0) rfl rfl (by decide) (by decide) (by decide) hM ?_
  refine g_iconst rfl ⟨by decide, by decide⟩ ?_
  refine g_icmp_ne (tgt := 75) rfl (by decide) (fun _ => ?_) (fun hx => absurd hx (by omega))
  refine g_aload_n rfl rfl ?_
  refine g_iload_n rfl rfl ?_
  refine g_cV (as := [tI 3]) (s_rtxY3 (T := T) (len := len) hG hT ⟨rfl, hlen, hTr⟩ hfl) rfl rfl mX12_readText_ok rfl rfl rfl (by decide) rfl rfl rfl ?_
  rintro _ w1 ⟨rfl, h204, h205, hto, hH1⟩ _
  have hM1 : w1.1 206 3 = 0 := by rw [hH1.1 206 (by omega) (by omega) (by omega) (by omega)]; exact hM
  refine g_if_ne (tgt := 85) rfl (by decide) (fun _ => ?_) (fun hx => absurd hx (by omega))
  refine g_iload_n rfl rfl ?_
  refine g_iconst rfl ⟨by decide, by decide⟩ ?_
  refine g_icmp_ne (tgt := 99) rfl (by decide) (fun hx => absurd hx (by omega)) (fun _ => ?_)
  refine g_aload_n rfl rfl ?_
  refine x_getF (r := 206) hG rfl rfl (by decide) (Or.inr ⟨_, rfl⟩) rfl ?_
  refine g_iload_n rfl rfl ?_
  refine x_iald (v := 0) rfl rfl (by decide) (by decide) (by decide) hM1 ?_
  refine g_goto (tgt := 100) rfl (by decide) ?_
  refine g_istore_n rfl rfl rfl ?_
  refine g_aload_n rfl rfl ?_
  refine x_getF (r := 206) hG rfl rfl (by decide) (Or.inr ⟨_, rfl⟩) rfl ?_
  refine g_iload_n rfl rfl ?_
  refine g_dup2 rfl ?_
  refine x_iald (v := 0) rfl rfl (by decide) (by decide) (by decide) hM1 ?_
  refine g_iload_n rfl rfl ?_
  refine g_iconst rfl ⟨by decide, by decide⟩ ?_
  refine g_icmp_ne (tgt := 117) rfl (by decide) (fun hx => absurd hx (by omega)) (fun _ => ?_)
  refine g_iconst rfl ⟨by decide, by decide⟩ ?_
  refine g_goto (tgt := 118) rfl (by decide) ?_
  refine x_iadd (z := 1) rfl (by omega) ⟨by omega, by omega⟩ ?_
  refine g_iast rfl rfl (by decide) (by decide) (by decide) ?_
  refine g_iload_n rfl rfl ?_
  refine g_if_ne (tgt := 139) rfl (by decide) (fun _ => ?_) (fun hx => absurd hx (by omega))
  refine g_iload_n rfl rfl ?_
  refine g_iconst rfl ⟨by decide, by decide⟩ ?_
  refine g_icmp_ne (tgt := 158) rfl (by decide) (fun _ => ?_) (fun hx => absurd hx (by omega))
  refine g_iload_n rfl rfl ?_
  refine g_iconst rfl ⟨by decide, by decide⟩ ?_
  refine g_icmp_ne (tgt := 177) rfl (by decide) (fun _ => ?_) (fun hx => absurd hx (by omega))
  refine g_aload_n rfl rfl ?_
  refine g_aload_n rfl rfl ?_
  refine x_getF (r := 210) hG rfl rfl (by decide) (Or.inr ⟨_, rfl⟩) rfl ?_
  refine g_bipush rfl ⟨by decide, by decide⟩ (by decide) ?_
  refine g_iload_n rfl rfl ?_
  refine g_cV (as := [tR (some 210), tI 17, tI 0]) (s_kpt30 hG) rfl rfl mX12_keep_ok rfl rfl rfl (by decide) rfl rfl rfl ?_
  rintro _ w2 ⟨rfl, hv2, hw2, hF2⟩ _
  refine g_iload_n rfl rfl ?_
  refine x_ireturn rfl rfl ?_
  have q203 : w2.1 203 = _ := (hF2 203 (by omega)).trans ((tp_pi_ne (by omega)).trans (hH1.1 203 (by omega) (by omega) (by omega) (by omega)))
  have q204 : w2.1 204 = w1.1 204 := (hF2 204 (by omega)).trans (tp_pi_ne (by omega))
  have q205 : w2.1 205 = w1.1 205 := (hF2 205 (by omega)).trans (tp_pi_ne (by omega))
  have q206 : w2.1 206 = (tp_pi w1 206 3 1).1 206 := hF2 206 (by omega)
  have q211 : (tp_pi w1 206 3 1).1 211 = w1.1 211 := tp_pi_ne (by omega)
  have qrc : (tp_pi w1 206 3 1).1 210 = _ := (tp_pi_ne (by omega)).trans (hH1.1 210 (by omega) (by omega) (by omega) (by omega))
  refine ⟨rfl, (congrFun q203 0).trans rfl, (congrFun q204 0).trans h204, (congrFun q205 0).trans h205, (congrFun q206 3).trans tp_pi_at, fun t z => ?_, fun j j0 j1 => ((hv2 j j0 j1).trans (congrFun q211 j)).trans (hto j j0 (by omega)), fun j z => ((hw2 j z).trans (congrFun qrc j)).trans rfl, fun q z => ⟨?_, ?_, ?_⟩, fun c z y1 y2 => ?_⟩
  · rw [q206, tp_pi_ix z, hH1.1 206 (by omega) (by omega) (by omega) (by omega)]; rfl
  · rw [q203, tp_pi_ne (by omega), tp_pi_ne (by omega), tp_pi_ix (by omega)]; rfl
  · rw [q204, (hH1.2.2.1 q (by omega)).1, tp_pi_ne (by omega), tp_pi_ix (by omega)]; rfl
  · rw [q205, (hH1.2.2.1 q (by omega)).2, tp_pi_ix (by omega)]; rfl
  · rw [hF2 c y2, tp_pi_ne y1, hH1.1 c z.1 z.2.2.2.2 z.2.2.1 z.2.2.2.1, tp_pi_ne z.2.2.2.1, tp_pi_ne z.2.2.1, tp_pi_ne z.2.1, tp_pi_ne z.1, tp_pi_ne z.1]
set_option maxHeartbeats 4000000 in
set_option maxRecDepth 100000 in
theorem s_xt30m0 {G : tp_G} {μ : tp_M} (hG : tp_Gf G = true) {T : Int → Int} {len : Int} (hT : ∀ j, 0 ≤ T j ∧ T j ≤ 255) (hlen : 0 ≤ len ∧ len ≤ 600) (hln : μ.1 1 1 = len) (hTm : ∀ j, 0 ≤ j → j < len → tp_and (μ.1 2 j) 255 = T j) (hM : μ.1 5 3 = 0) (hfl : (t_flt 3 T len).1 ≠ 0) : tp_k G mX11_text [tR (some 0), tI 3, tI (-1)] μ (fun r μ' => r = some (tI (-1)) ∧ μ'.1 1 1 = 0 ∧ μ'.1 1 2 = (t_flt 3 T len).1 ∧ μ'.1 1 3 = (t_flt 3 T len).2 ∧ (∀ c, c ≠ 1 → (c < 41 ∨ 49 < c) → μ'.1 c = μ.1 c)) := by
  refine tp_ok_of mX11_text_ok rfl (Nat.le_refl _) ?_
  refine g_aload_n rfl rfl ?_
  refine x_getF (r := 1) hG rfl rfl (by decide) (Or.inl ⟨_, rfl⟩) rfl ?_
  refine x_geti (v := len) rfl rfl (by decide) (Or.inl rfl) hln ?_
  refine g_istore_n rfl rfl rfl ?_
  refine g_aload_n rfl rfl ?_
  refine x_getF (r := 1) hG rfl rfl (by decide) (Or.inl ⟨_, rfl⟩) rfl ?_
  refine g_iconst rfl ⟨by decide, by decide⟩ ?_
  refine g_puti rfl rfl (by decide) rfl rfl ?_
  refine g_aload_n rfl rfl ?_
  refine x_getF (r := 1) hG rfl rfl (by decide) (Or.inl ⟨_, rfl⟩) rfl ?_
  refine g_iconst rfl ⟨by decide, by decide⟩ ?_
  refine g_puti rfl rfl (by decide) rfl rfl ?_
  refine g_aload_n rfl rfl ?_
  refine x_getF (r := 1) hG rfl rfl (by decide) (Or.inl ⟨_, rfl⟩) rfl ?_
  refine g_iconst rfl ⟨by decide, by decide⟩ ?_
  refine g_puti rfl rfl (by decide) rfl rfl ?_
  refine g_aload_n rfl rfl ?_
  refine x_getF (r := 1) hG rfl rfl (by decide) (Or.inl ⟨_, rfl⟩) rfl ?_
  refine g_iload_n rfl rfl ?_
  refine g_iload_n rfl rfl ?_
  refine g_iV (as := [tI 3, tI (-1)]) mX9_slotFor_ok rfl rfl rfl rfl rfl rfl (by decide) rfl rfl rfl ?_
  refine g_iload_n rfl rfl ?_
  refine g_if_lt (tgt := 9) rfl (by decide) (fun hx => absurd hx (by omega)) (fun _ => ?_)
  refine g_iload_n rfl rfl ?_
  refine g_iconst rfl ⟨by decide, by decide⟩ ?_
  refine g_icmp_lt (tgt := 11) rfl (by decide) (fun _ => ?_) (fun hx => absurd hx (by omega))
  refine g_aload_n rfl rfl ?_
  refine x_getF (r := 5) hG rfl rfl (by decide) (Or.inr ⟨_, rfl⟩) rfl ?_
  refine g_iload_n rfl rfl ?_
  refine x_iald (v := 0) rfl rfl (by decide) (by decide) (by decide) hM ?_
  refine g_istore_n rfl rfl rfl ?_
  refine g_iload_n rfl rfl ?_
  refine g_iconst rfl ⟨by decide, by decide⟩ ?_
  refine g_icmp_ne (tgt := 34) rfl (by decide) (fun hx => absurd hx (by omega)) (fun _ => ?_)
  refine g_iload_n rfl rfl ?_
  refine g_iconst rfl ⟨by decide, by decide⟩ ?_
  refine g_icmp_ge (tgt := 32) rfl (by decide) (fun hx => absurd hx (by omega)) (fun _ => ?_)
  refine g_iload_n rfl rfl ?_
  refine g_goto (tgt := 33) rfl (by decide) ?_
  refine x_ireturn rfl rfl ?_
  intro _
  refine g_istore rfl rfl rfl ?_
  refine g_iload rfl rfl ?_
  refine g_iconst rfl ⟨by decide, by decide⟩ ?_
  refine g_icmp_ne (tgt := 52) rfl (by decide) (fun _ => ?_) (fun hx => absurd hx (by omega))
  refine g_aload_n rfl rfl ?_
  refine x_getF (r := 41) hG rfl rfl (by decide) (Or.inl ⟨_, rfl⟩) rfl ?_
  refine g_aload_n rfl rfl ?_
  refine x_getF (r := 1) hG rfl rfl (by decide) (Or.inl ⟨_, rfl⟩) rfl ?_
  refine x_getF (r := 2) hG rfl rfl (by decide) (Or.inr ⟨_, rfl⟩) rfl ?_
  refine g_iload_n rfl rfl ?_
  refine g_iload_n rfl rfl ?_
  refine g_cV (as := [tR (some 2), tI len, tI 3]) (s_readN3 hG hT hlen hTm hfl) rfl rfl mX5_read_ok rfl rfl rfl (by decide) rfl rfl rfl ?_
  rintro _ w1 ⟨rfl, h8, h9, hR1⟩ _
  refine g_if_ne (tgt := 101) rfl (by decide) (fun hx => absurd hx (by omega)) (fun _ => ?_)
  refine g_aload_n rfl rfl ?_
  refine x_getF (r := 1) hG rfl rfl (by decide) (Or.inl ⟨_, rfl⟩) rfl ?_
  refine g_aload_n rfl rfl ?_
  refine x_getF (r := 41) hG rfl rfl (by decide) (Or.inl ⟨_, rfl⟩) rfl ?_
  refine x_geti (v := ((t_flt 3 T len).1)) rfl rfl (by decide) (Or.inl rfl) h8 ?_
  refine g_puti rfl rfl (by decide) rfl rfl ?_
  refine g_aload_n rfl rfl ?_
  refine x_getF (r := 1) hG rfl rfl (by decide) (Or.inl ⟨_, rfl⟩) rfl ?_
  refine g_aload_n rfl rfl ?_
  refine x_getF (r := 41) hG rfl rfl (by decide) (Or.inl ⟨_, rfl⟩) rfl ?_
  refine x_geti (v := ((t_flt 3 T len).2)) rfl rfl (by decide) (Or.inl rfl) h9 ?_
  refine g_puti rfl rfl (by decide) rfl rfl ?_
  refine g_iconst rfl ⟨by decide, by decide⟩ ?_
  refine x_ireturn rfl rfl ?_
  exact ⟨rfl, (congrFun (hR1 1 (by omega)) 1).trans rfl, rfl, rfl, fun c z y => by rw [tp_pi_ne z, tp_pi_ne z, hR1 c y, tp_pi_ne z, tp_pi_ne z, tp_pi_ne z]⟩
set_option maxHeartbeats 4000000 in
set_option maxRecDepth 100000 in
theorem s_mt30m0 {G : tp_G} {μ : tp_M} (hG : tp_Gf G = true) {T : Int → Int} {len : Int} (hT : ∀ j, 0 ≤ T j ∧ T j ≤ 255) (hlen : 0 ≤ len ∧ len ≤ 600) (h203 : μ.1 203 0 = len) (hTr : ∀ j, 0 ≤ j → j < len → tp_and (μ.1 202 j) 255 = T j) (hM : μ.1 206 3 = 0) (hfl : (t_flt 3 T len).1 ≠ 0) : tp_k G mX12_text [tR (some 201), tI 3, tI (-1)] μ (fun r μ' => r = some (tI (-1)) ∧ μ'.1 203 0 = 0 ∧ μ'.1 204 0 = (t_flt 3 T len).1 ∧ μ'.1 205 0 = (t_flt 3 T len).2 ∧ m_Qc μ μ' ∧ (∀ c, m_Lc c → μ'.1 c = μ.1 c)) := by
  refine tp_ok_of mX12_text_ok rfl (Nat.le_refl _) ?_
  refine g_aload_n rfl rfl ?_
  refine g_iconst rfl ⟨by decide, by decide⟩ ?_
  refine g_puti rfl rfl (by decide) rfl rfl ?_
  refine g_aload_n rfl rfl ?_
  refine g_aload_n rfl rfl ?_
  refine x_getF (r := 203) hG rfl rfl (by decide) (Or.inr ⟨_, rfl⟩) rfl ?_
  refine g_iconst rfl ⟨by decide, by decide⟩ ?_
  refine x_iald (v := len) rfl rfl (by decide) (by decide) (by decide) h203 ?_
  refine g_puti rfl rfl (by decide) rfl rfl ?_
  refine g_aload_n rfl rfl ?_
  refine x_getF (r := 203) hG rfl rfl (by decide) (Or.inr ⟨_, rfl⟩) rfl ?_
  refine g_iconst rfl ⟨by decide, by decide⟩ ?_
  refine g_iconst rfl ⟨by decide, by decide⟩ ?_
  refine g_iast rfl rfl (by decide) (by decide) (by decide) ?_
  refine g_aload_n rfl rfl ?_
  refine x_getF (r := 204) hG rfl rfl (by decide) (Or.inr ⟨_, rfl⟩) rfl ?_
  refine g_iconst rfl ⟨by decide, by decide⟩ ?_
  refine g_iconst rfl ⟨by decide, by decide⟩ ?_
  refine g_iast rfl rfl (by decide) (by decide) (by decide) ?_
  refine g_aload_n rfl rfl ?_
  refine x_getF (r := 205) hG rfl rfl (by decide) (Or.inr ⟨_, rfl⟩) rfl ?_
  refine g_iconst rfl ⟨by decide, by decide⟩ ?_
  refine g_iconst rfl ⟨by decide, by decide⟩ ?_
  refine g_iast rfl rfl (by decide) (by decide) (by decide) ?_
  refine g_iload_n rfl rfl ?_
  refine g_iconst rfl ⟨by decide, by decide⟩ ?_
  refine g_iconst rfl ⟨by decide, by decide⟩ ?_
  refine g_iS (as := [tI 3, tI 0, tI 3]) mX12_in_ok rfl rfl rfl rfl rfl rfl rfl ?_
  refine g_iload_n rfl rfl ?_
  refine g_iload_n rfl rfl ?_
  refine g_icmp_lt (tgt := 14) rfl (by decide) (fun hx => absurd hx (by omega)) (fun _ => ?_)
  refine g_iload_n rfl rfl ?_
  refine g_iload_n rfl rfl ?_
  refine g_icmp_gt (tgt := 14) rfl (by decide) (fun hx => absurd hx (by omega)) (fun _ => ?_)
  refine g_iconst rfl ⟨by decide, by decide⟩ ?_
  refine g_goto (tgt := 15) rfl (by decide) ?_
  refine x_zreturn rfl rfl (Or.inr rfl) ?_
  intro _
  refine g_if_eq (tgt := 72) rfl (by decide) (fun hx => absurd hx (by omega)) (fun _ => ?_)
  refine g_iload_n rfl rfl ?_
  refine g_iconst rfl ⟨by decide, by decide⟩ ?_
  refine g_icmp_ne (tgt := 63) rfl (by decide) (fun hx => absurd hx (by omega)) (fun _ => ?_)
  refine g_aload_n rfl rfl ?_
  refine x_getF (r := 206) hG rfl rfl (by decide) (Or.inr ⟨_, rfl⟩) rfl ?_
  refine g_iload_n rfl rfl ?_
  refine x_iald (v := 0) rfl rfl (by decide) (by decide) (by decide) hM ?_
  refine g_iconst rfl ⟨by decide, by decide⟩ ?_
  refine g_icmp_ne (tgt := 75) rfl (by decide) (fun _ => ?_) (fun hx => absurd hx (by omega))
  refine g_aload_n rfl rfl ?_
  refine g_iload_n rfl rfl ?_
  refine g_cV (as := [tI 3]) (s_rtxN3 (T := T) (len := len) hG hT ⟨rfl, hlen, hTr⟩ hfl) rfl rfl mX12_readText_ok rfl rfl rfl (by decide) rfl rfl rfl ?_
  rintro _ w1 ⟨rfl, h204, h205, hH1⟩ _
  have hM1 : w1.1 206 3 = 0 := by rw [hH1.1 206 (by omega) (by omega) (by omega) (by omega)]; exact hM
  refine g_if_ne (tgt := 85) rfl (by decide) (fun hx => absurd hx (by omega)) (fun _ => ?_)
  refine g_iconst rfl ⟨by decide, by decide⟩ ?_
  refine x_ireturn rfl rfl ?_
  exact ⟨rfl, (congrFun (hH1.1 203 (by omega) (by omega) (by omega) (by omega)) 0).trans rfl, h204, h205, fun q z => ⟨(congrFun (hH1.1 203 (by omega) (by omega) (by omega) (by omega)) q).trans (by rw [tp_pi_ne (by omega), tp_pi_ne (by omega), tp_pi_ix (by omega)]; rfl), ((hH1.2.2.1 q (by omega)).1).trans (by rw [tp_pi_ne (by omega), tp_pi_ix (by omega)]; rfl), ((hH1.2.2.1 q (by omega)).2).trans (by rw [tp_pi_ix (by omega)]; rfl)⟩, fun c z => by rw [hH1.1 c z.1 z.2.2.2.2 z.2.2.1 z.2.2.2.1, tp_pi_ne z.2.2.2.1, tp_pi_ne z.2.2.1, tp_pi_ne z.2.1, tp_pi_ne z.1, tp_pi_ne z.1]⟩
set_option maxHeartbeats 4000000 in
set_option maxRecDepth 100000 in
theorem p_tx30m {G : tp_G} {μ : tp_M} (hG : tp_Gf G = true) (hR : tp_R μ) (hM : μ.1 5 3 = 0) : tp_q G mX11_text mX12_text [tI 3, tI (-1)] μ := by
  have hL := tp_R_len hR
  have hlen : 0 ≤ μ.1 1 1 ∧ μ.1 1 1 ≤ 600 := ⟨hL.1, hL.2.1⟩
  have hm9 := tp_R_many hR 3 (by decide) (by decide)
  have hT : ∀ j, 0 ≤ (fun j => tp_and (μ.1 2 j) 255 : Int → Int) j ∧ (fun j => tp_and (μ.1 2 j) 255 : Int → Int) j ≤ 255 := fun j => tp_and255 _
  generalize hTT : (fun j => tp_and (μ.1 2 j) 255 : Int → Int) = T at hT
  have hTm : ∀ j, 0 ≤ j → j < μ.1 1 1 → tp_and (μ.1 2 j) 255 = T j := fun j _ _ => by rw [← hTT]
  generalize hln : μ.1 1 1 = len at *
  by_cases hfl : (t_flt 3 T len).1 = 0
  · refine tp_kc (fun r μ1 z => ?_) (s_xt30m1 hG hT hlen hln hTm hM hfl)
    obtain ⟨z1, z2, z3, z4, z5, z6⟩ := z
    refine ⟨0, z1, tp_kc (fun r2 μ2 y => ?_) (s_mt30m1 (T := T) (len := len) hG hT hlen (by rw [z6 203 (by omega) (by omega) (by omega) (by omega)]; exact hL.2.2.symm) (fun j j0 j1 => by rw [z6 202 (by omega) (by omega) (by omega) (by omega), ← tp_R_tape hR j j0 (by omega)]; exact hTm j j0 j1) (by rw [z6 206 (by omega) (by omega) (by omega) (by omega)]; exact hm9.1.symm.trans hM) hfl)⟩
    obtain ⟨y1, y2, y3, y4, y5, y6, y7, y8, y9, y10⟩ := y
    have y5' : ∀ j, μ2.1 5 j = μ1.1 5 j := fun j => congrFun (y10 5 (by unfold m_Lc; omega) (by omega) (by omega)) j
    have yl : μ2.1 1 = μ1.1 1 := y10 1 (by unfold m_Lc; omega) (by omega) (by omega)
    refine ⟨y1, tp_R_k30 hR (fun k hk k1 k5 kc k2 kr => ?_) (fun q hq => ?_) (fun j hj => ?_) (fun t t0 t1 tn => ⟨?_, ?_⟩) ⟨?_, ?_, ?_⟩ (fun j hj => ?_) ⟨?_, y2⟩ ⟨?_, ?_⟩ ?_⟩
    · unfold tp_tl at hk
      rw [y10 k (by unfold m_Lc; omega) (by omega) kr, z6 k k1 k5 kc (by omega)]
    · rw [(y9 q hq).1, (y9 q hq).2.1, (y9 q hq).2.2, z6 203 (by omega) (by omega) (by omega) (by omega), z6 204 (by omega) (by omega) (by omega) (by omega), z6 205 (by omega) (by omega) (by omega) (by omega)]; exact ⟨rfl, rfl, rfl⟩
    · rw [y6 j (by omega), z6 206 (by omega) (by omega) (by omega) (by omega)]
    · rw [y5' t, z4 t tn]
    · rw [y6 t tn, z6 206 (by omega) (by omega) (by omega) (by omega)]
    · rw [y5' 3, z3, y5]
    · rw [y5' 3, z3]; omega
    · rw [y5' 3, z3]; omega
    · rw [y8 j hj, z6 210 (by omega) (by omega) (by omega) (by omega)]
    · rw [yl]; exact z2.1
    · rw [yl, y3]; exact z2.2.1
    · rw [yl, y4]; exact z2.2.2
    · exact tp_Lg_A (A := μ1.1) (fun i i0 i1 => y10 i (by unfold m_Lc; omega) (by omega) (by omega)) (tp_Lg_f (fun i i0 i1 => y7 i i0 i1) z5)
  · refine tp_kc (fun r μ1 z => ?_) (s_xt30m0 hG hT hlen hln hTm hM hfl)
    obtain ⟨z1, z2, z3, z4, z6⟩ := z
    refine ⟨-1, z1, tp_kc (fun r2 μ2 y => ?_) (s_mt30m0 (T := T) (len := len) hG hT hlen (by rw [z6 203 (by omega) (by omega)]; exact hL.2.2.symm) (fun j j0 j1 => by rw [z6 202 (by omega) (by omega), ← tp_R_tape hR j j0 (by omega)]; exact hTm j j0 j1) (by rw [z6 206 (by omega) (by omega)]; exact hm9.1.symm.trans hM) hfl)⟩
    obtain ⟨y1, y2, y3, y4, y9, y10⟩ := y
    have yl : μ2.1 1 = μ1.1 1 := y10 1 (by unfold m_Lc; omega)
    refine ⟨y1, tp_R_head hR (fun k hk k1 k2 k3 => ?_) (fun j hj => ?_) (fun q hq => ?_) ?_ (fun j j0 j1 => ?_) ⟨?_, ?_⟩⟩
    · unfold tp_tl at hk
      rw [y10 k (by unfold m_Lc; omega), z6 k k1 (by omega)]
    · rw [y10 202 (by unfold m_Lc; omega), z6 202 (by omega) (by omega)]
    · rw [(y9 q hq).1, (y9 q hq).2.1, (y9 q hq).2.2, z6 203 (by omega) (by omega), z6 204 (by omega) (by omega), z6 205 (by omega) (by omega)]; exact ⟨rfl, rfl, rfl⟩
    · rw [yl, z2, y2]; decide
    · rw [yl, z2] at j1; omega
    · rw [yl, z3, y3]
    · rw [yl, z4, y4]
set_option maxHeartbeats 4000000 in
set_option maxRecDepth 100000 in
theorem s_xt30s1 {G : tp_G} {μ : tp_M} (hG : tp_Gf G = true) {T : Int → Int} {len : Int} (hT : ∀ j, 0 ≤ T j ∧ T j ≤ 255) (hlen : 0 ≤ len ∧ len ≤ 600) (hln : μ.1 1 1 = len) (hTm : ∀ j, 0 ≤ j → j < len → tp_and (μ.1 2 j) 255 = T j) {M : Int} (hM : μ.1 5 3 = M) (hMs : 0 < M ∧ M ≤ 2) (hfl : (t_flt 3 T len).1 = 0) : tp_k G mX11_text [tR (some 0), tI 3, tI 0] μ (fun r μ' => r = some (tI 0) ∧ (μ'.1 1 1 = 0 ∧ μ'.1 1 2 = 0 ∧ μ'.1 1 3 = -1) ∧ μ'.1 5 3 = M ∧ (∀ t, t ≠ 3 → μ'.1 5 t = μ.1 5 t) ∧ tp_Lg μ'.1 34 (t_tld 3 T len) ∧ (∀ c, c ≠ 1 → c ≠ 5 → (c < 34 ∨ 36 < c) → (c < 41 ∨ 49 < c) → μ'.1 c = μ.1 c)) := by
  refine tp_ok_of mX11_text_ok rfl (Nat.le_refl _) ?_
  refine g_aload_n rfl rfl ?_
  refine x_getF (r := 1) hG rfl rfl (by decide) (Or.inl ⟨_, rfl⟩) rfl ?_
  refine x_geti (v := len) rfl rfl (by decide) (Or.inl rfl) hln ?_
  refine g_istore_n rfl rfl rfl ?_
  refine g_aload_n rfl rfl ?_
  refine x_getF (r := 1) hG rfl rfl (by decide) (Or.inl ⟨_, rfl⟩) rfl ?_
  refine g_iconst rfl ⟨by decide, by decide⟩ ?_
  refine g_puti rfl rfl (by decide) rfl rfl ?_
  refine g_aload_n rfl rfl ?_
  refine x_getF (r := 1) hG rfl rfl (by decide) (Or.inl ⟨_, rfl⟩) rfl ?_
  refine g_iconst rfl ⟨by decide, by decide⟩ ?_
  refine g_puti rfl rfl (by decide) rfl rfl ?_
  refine g_aload_n rfl rfl ?_
  refine x_getF (r := 1) hG rfl rfl (by decide) (Or.inl ⟨_, rfl⟩) rfl ?_
  refine g_iconst rfl ⟨by decide, by decide⟩ ?_
  refine g_puti rfl rfl (by decide) rfl rfl ?_
  refine g_aload_n rfl rfl ?_
  refine x_getF (r := 1) hG rfl rfl (by decide) (Or.inl ⟨_, rfl⟩) rfl ?_
  refine g_iload_n rfl rfl ?_
  refine g_iload_n rfl rfl ?_
  refine g_iV (as := [tI 3, tI 0]) mX9_slotFor_ok rfl rfl rfl rfl rfl rfl (by decide) rfl rfl rfl ?_
  refine g_iload_n rfl rfl ?_
  refine g_if_lt (tgt := 9) rfl (by decide) (fun hx => absurd hx (by omega)) (fun _ => ?_)
  refine g_iload_n rfl rfl ?_
  refine g_iconst rfl ⟨by decide, by decide⟩ ?_
  refine g_icmp_lt (tgt := 11) rfl (by decide) (fun _ => ?_) (fun hx => absurd hx (by omega))
  refine g_aload_n rfl rfl ?_
  refine x_getF (r := 5) hG rfl rfl (by decide) (Or.inr ⟨_, rfl⟩) rfl ?_
  refine g_iload_n rfl rfl ?_
  refine x_iald (v := M) rfl rfl (by decide) (by decide) (by decide) hM ?_
  refine g_istore_n rfl rfl rfl ?_
  refine g_iload_n rfl rfl ?_
  refine g_iconst rfl ⟨by decide, by decide⟩ ?_
  refine g_icmp_ne (tgt := 34) rfl (by decide) (fun _ => ?_) (fun hx => absurd hx (by omega))
  refine g_iload_n rfl rfl ?_
  refine g_if_lt (tgt := 43) rfl (by decide) (fun hx => absurd hx (by omega)) (fun _ => ?_)
  refine g_iload_n rfl rfl ?_
  refine g_iload_n rfl rfl ?_
  refine g_icmp_lt (tgt := 47) rfl (by decide) (fun _ => ?_) (fun hx => absurd hx (by omega))
  refine g_iload_n rfl rfl ?_
  refine x_ireturn rfl rfl ?_
  intro _
  refine g_istore rfl rfl rfl ?_
  refine g_iload rfl rfl ?_
  refine g_iconst rfl ⟨by decide, by decide⟩ ?_
  refine g_icmp_ne (tgt := 52) rfl (by decide) (fun _ => ?_) (fun hx => absurd hx (by omega))
  refine g_aload_n rfl rfl ?_
  refine x_getF (r := 41) hG rfl rfl (by decide) (Or.inl ⟨_, rfl⟩) rfl ?_
  refine g_aload_n rfl rfl ?_
  refine x_getF (r := 1) hG rfl rfl (by decide) (Or.inl ⟨_, rfl⟩) rfl ?_
  refine x_getF (r := 2) hG rfl rfl (by decide) (Or.inr ⟨_, rfl⟩) rfl ?_
  refine g_iload_n rfl rfl ?_
  refine g_iload_n rfl rfl ?_
  refine g_cV (as := [tR (some 2), tI len, tI 3]) (s_readY3 hG hT hlen hTm hfl) rfl rfl mX5_read_ok rfl rfl rfl (by decide) rfl rfl rfl ?_
  rintro _ w1 ⟨rfl, hct, hR1⟩ _
  have hwm := t_wm3 hlen.1 hfl
  have hsz9 : 0 ≤ w1.1 47 2 ∧ w1.1 47 2 ≤ 8 := by have := hct.1; have := hwm.1; omega
  refine g_if_ne (tgt := 101) rfl (by decide) (fun _ => ?_) (fun hx => absurd hx (by omega))
  refine g_aload_n rfl rfl ?_
  refine x_getF (r := 1) hG rfl rfl (by decide) (Or.inl ⟨_, rfl⟩) rfl ?_
  refine g_iload_n rfl rfl ?_
  refine g_iload rfl rfl ?_
  refine g_aload_n rfl rfl ?_
  refine x_getF (r := 41) hG rfl rfl (by decide) (Or.inl ⟨_, rfl⟩) rfl ?_
  refine g_iV (as := [tI 3, tI 0, tR (some 41)]) mX9_keep_ok rfl rfl rfl rfl rfl rfl (by decide) rfl rfl rfl ?_
  refine g_iload_n rfl rfl ?_
  refine g_if_lt (tgt := 18) rfl (by decide) (fun hx => absurd hx (by omega)) (fun _ => ?_)
  refine g_iload_n rfl rfl ?_
  refine g_iconst rfl ⟨by decide, by decide⟩ ?_
  refine g_icmp_ge (tgt := 18) rfl (by decide) (fun hx => absurd hx (by omega)) (fun _ => ?_)
  refine g_iload_n rfl rfl ?_
  refine g_if_lt (tgt := 18) rfl (by decide) (fun hx => absurd hx (by omega)) (fun _ => ?_)
  refine g_iload_n rfl rfl ?_
  refine g_iconst rfl ⟨by decide, by decide⟩ ?_
  refine g_icmp_lt (tgt := 19) rfl (by decide) (fun _ => ?_) (fun hx => absurd hx (by omega))
  refine g_iload_n rfl rfl ?_
  refine g_if_ne (tgt := 39) rfl (by decide) (fun _ => ?_) (fun hx => absurd hx (by omega))
  refine g_aload_n rfl rfl ?_
  refine x_getF (r := 4) hG rfl rfl (by decide) (Or.inr ⟨_, rfl⟩) rfl ?_
  refine g_iload_n rfl rfl ?_
  refine g_iconst rfl ⟨by decide, by decide⟩ ?_
  refine x_imul (z := 6) rfl (by omega) ⟨by omega, by omega⟩ ?_
  refine g_iload_n rfl rfl ?_
  refine x_iadd (z := 6) rfl (by omega) ⟨by omega, by omega⟩ ?_
  refine x_aald (t0 := 5) (r := 34) hG rfl rfl rfl (by decide) (by decide) (by decide) rfl ?_
  refine g_aload_n rfl rfl ?_
  refine x_getF (r := 47) hG rfl rfl (by decide) (Or.inl ⟨_, rfl⟩) rfl ?_
  refine g_cV (as := [tR (some 47)]) (s_rcop2 hG (c := 47) (d := 34) rfl rfl (by decide) (by decide) (by decide) hsz9.1 (show w1.1 47 2 ≤ (60 : Int) by omega) (show w1.1 47 2 ≤ (8 : Int) by omega) (by omega)) rfl rfl mX6_copyFrom_ok rfl rfl rfl (by decide) rfl rfl rfl ?_
  rintro _ w2 ⟨rfl, hK2, hK3, hF2⟩ _
  have hM2 : w2.1 5 3 = M := by rw [hF2 5 (by omega), hR1 5 (by omega)]; exact hM
  refine g_aload_n rfl rfl ?_
  refine x_getF (r := 5) hG rfl rfl (by decide) (Or.inr ⟨_, rfl⟩) rfl ?_
  refine g_iload_n rfl rfl ?_
  refine g_aload_n rfl rfl ?_
  refine x_getF (r := 5) hG rfl rfl (by decide) (Or.inr ⟨_, rfl⟩) rfl ?_
  refine g_iload_n rfl rfl ?_
  refine x_iald (v := M) rfl rfl (by decide) (by decide) (by decide) hM2 ?_
  refine g_iload_n rfl rfl ?_
  refine g_iconst rfl ⟨by decide, by decide⟩ ?_
  refine x_iadd (z := 1) rfl (by omega) ⟨by omega, by omega⟩ ?_
  refine x_max (z := M) rfl rfl (by omega) ?_
  refine g_iast rfl rfl (by decide) (by decide) (by decide) ?_
  refine x_return rfl rfl ?_
  intro _
  refine g_iload rfl rfl ?_
  refine x_ireturn rfl rfl ?_
  exact ⟨rfl, ⟨by rw [tp_pi_ne (by omega), hF2 1 (by omega), hR1 1 (by omega)]; rfl, by rw [tp_pi_ne (by omega), hF2 1 (by omega), hR1 1 (by omega)]; rfl, by rw [tp_pi_ne (by omega), hF2 1 (by omega), hR1 1 (by omega)]; rfl⟩, tp_pi_at.trans (by omega), fun t z => by rw [tp_pi_ix z, hF2 5 (by omega), hR1 5 (by omega)]; rfl, tp_Lg_A (A := w2.1) (fun i i0 i1 => tp_pi_ne (by omega)) (x_k3 hct hwm.1 hwm.2 ⟨hK2, hK3⟩), fun c z1 z2 z3 z4 => by rw [tp_pi_ne z2, hF2 c (by omega), hR1 c z4, tp_pi_ne z1, tp_pi_ne z1, tp_pi_ne z1]⟩
set_option maxHeartbeats 4000000 in
set_option maxRecDepth 100000 in
theorem s_mt30s1 {G : tp_G} {μ : tp_M} (hG : tp_Gf G = true) {T : Int → Int} {len : Int} (hT : ∀ j, 0 ≤ T j ∧ T j ≤ 255) (hlen : 0 ≤ len ∧ len ≤ 600) (h203 : μ.1 203 0 = len) (hTr : ∀ j, 0 ≤ j → j < len → tp_and (μ.1 202 j) 255 = T j) {M : Int} (hM : μ.1 206 3 = M) (hMs : 0 < M ∧ M ≤ 2) (hfl : (t_flt 3 T len).1 = 0) : tp_k G mX12_text [tR (some 201), tI 3, tI 0] μ (fun r μ' => r = some (tI 0) ∧ μ'.1 203 0 = 0 ∧ μ'.1 204 0 = 0 ∧ μ'.1 205 0 = -1 ∧ μ'.1 206 3 = M ∧ (∀ t, t ≠ 3 → μ'.1 206 t = μ.1 206 t) ∧ (∀ j, 0 ≤ j → j < 17 → μ'.1 210 (0 + j) = t_tld 3 T len j) ∧ (∀ j, (j < 0 ∨ 17 ≤ j) → μ'.1 210 j = μ.1 210 j) ∧ m_Qc μ μ' ∧ (∀ c, m_Lc c → c ≠ 206 → c ≠ 210 → μ'.1 c = μ.1 c)) := by
  refine tp_ok_of mX12_text_ok rfl (Nat.le_refl _) ?_
  refine g_aload_n rfl rfl ?_
  refine g_iconst rfl ⟨by decide, by decide⟩ ?_
  refine g_puti rfl rfl (by decide) rfl rfl ?_
  refine g_aload_n rfl rfl ?_
  refine g_aload_n rfl rfl ?_
  refine x_getF (r := 203) hG rfl rfl (by decide) (Or.inr ⟨_, rfl⟩) rfl ?_
  refine g_iconst rfl ⟨by decide, by decide⟩ ?_
  refine x_iald (v := len) rfl rfl (by decide) (by decide) (by decide) h203 ?_
  refine g_puti rfl rfl (by decide) rfl rfl ?_
  refine g_aload_n rfl rfl ?_
  refine x_getF (r := 203) hG rfl rfl (by decide) (Or.inr ⟨_, rfl⟩) rfl ?_
  refine g_iconst rfl ⟨by decide, by decide⟩ ?_
  refine g_iconst rfl ⟨by decide, by decide⟩ ?_
  refine g_iast rfl rfl (by decide) (by decide) (by decide) ?_
  refine g_aload_n rfl rfl ?_
  refine x_getF (r := 204) hG rfl rfl (by decide) (Or.inr ⟨_, rfl⟩) rfl ?_
  refine g_iconst rfl ⟨by decide, by decide⟩ ?_
  refine g_iconst rfl ⟨by decide, by decide⟩ ?_
  refine g_iast rfl rfl (by decide) (by decide) (by decide) ?_
  refine g_aload_n rfl rfl ?_
  refine x_getF (r := 205) hG rfl rfl (by decide) (Or.inr ⟨_, rfl⟩) rfl ?_
  refine g_iconst rfl ⟨by decide, by decide⟩ ?_
  refine g_iconst rfl ⟨by decide, by decide⟩ ?_
  refine g_iast rfl rfl (by decide) (by decide) (by decide) ?_
  refine g_iload_n rfl rfl ?_
  refine g_iconst rfl ⟨by decide, by decide⟩ ?_
  refine g_iconst rfl ⟨by decide, by decide⟩ ?_
  refine g_iS (as := [tI 3, tI 0, tI 3]) mX12_in_ok rfl rfl rfl rfl rfl rfl rfl ?_
  refine g_iload_n rfl rfl ?_
  refine g_iload_n rfl rfl ?_
  refine g_icmp_lt (tgt := 14) rfl (by decide) (fun hx => absurd hx (by omega)) (fun _ => ?_)
  refine g_iload_n rfl rfl ?_
  refine g_iload_n rfl rfl ?_
  refine g_icmp_gt (tgt := 14) rfl (by decide) (fun hx => absurd hx (by omega)) (fun _ => ?_)
  refine g_iconst rfl ⟨by decide, by decide⟩ ?_
  refine g_goto (tgt := 15) rfl (by decide) ?_
  refine x_zreturn rfl rfl (Or.inr rfl) ?_
  intro _
  refine g_if_eq (tgt := 72) rfl (by decide) (fun hx => absurd hx (by omega)) (fun _ => ?_)
  refine g_iload_n rfl rfl ?_
  refine g_iconst rfl ⟨by decide, by decide⟩ ?_
  refine g_icmp_ne (tgt := 63) rfl (by decide) (fun _ => ?_) (fun hx => absurd hx (by omega))
  refine g_aload_n rfl rfl ?_
  refine g_iload_n rfl rfl ?_
  refine g_iload_n rfl rfl ?_
  refine g_iV (as := [tI 3, tI 0]) mX12_is_ok rfl rfl rfl rfl rfl rfl (by decide) rfl rfl rfl ?_
  refine g_iload_n rfl rfl ?_
  refine g_iconst rfl ⟨by decide, by decide⟩ ?_
  refine g_aload_n rfl rfl ?_
  refine x_getF (r := 206) hG rfl rfl (by decide) (Or.inr ⟨_, rfl⟩) rfl ?_
  refine g_iload_n rfl rfl ?_
  refine x_iald (v := M) rfl rfl (by decide) (by decide) (by decide) hM ?_
  refine g_iconst rfl ⟨by decide, by decide⟩ ?_
  refine x_isub (z := M - 1) rfl (by omega) ⟨by omega, by omega⟩ ?_
  refine g_iS (as := [tI 0, tI 0, tI (M - 1)]) mX12_in_ok rfl rfl rfl rfl rfl rfl rfl ?_
  refine g_iload_n rfl rfl ?_
  refine g_iload_n rfl rfl ?_
  refine g_icmp_lt (tgt := 14) rfl (by decide) (fun hx => absurd hx (by omega)) (fun _ => ?_)
  refine g_iload_n rfl rfl ?_
  refine g_iload_n rfl rfl ?_
  refine g_icmp_gt (tgt := 14) rfl (by decide) (fun hx => absurd hx (by omega)) (fun _ => ?_)
  refine g_iconst rfl ⟨by decide, by decide⟩ ?_
  refine g_goto (tgt := 15) rfl (by decide) ?_
  refine x_zreturn rfl rfl (Or.inr rfl) ?_
  intro _
  refine x_zreturn rfl rfl (Or.inr rfl) ?_
  intro _
  refine g_if_ne (tgt := 75) rfl (by decide) (fun _ => ?_) (fun hx => absurd hx (by omega))
  refine g_aload_n rfl rfl ?_
  refine g_iload_n rfl rfl ?_
  refine g_cV (as := [tI 3]) (s_rtxY3 (T := T) (len := len) hG hT ⟨rfl, hlen, hTr⟩ hfl) rfl rfl mX12_readText_ok rfl rfl rfl (by decide) rfl rfl rfl ?_
  rintro _ w1 ⟨rfl, h204, h205, hto, hH1⟩ _
  have hM1 : w1.1 206 3 = M := by rw [hH1.1 206 (by omega) (by omega) (by omega) (by omega)]; exact hM
  refine g_if_ne (tgt := 85) rfl (by decide) (fun _ => ?_) (fun hx => absurd hx (by omega))
  refine g_iload_n rfl rfl ?_
  refine g_iconst rfl ⟨by decide, by decide⟩ ?_
  refine g_icmp_ne (tgt := 99) rfl (by decide) (fun _ => ?_) (fun hx => absurd hx (by omega))
  refine g_iload_n rfl rfl ?_
  refine g_istore_n rfl rfl rfl ?_
  refine g_aload_n rfl rfl ?_
  refine x_getF (r := 206) hG rfl rfl (by decide) (Or.inr ⟨_, rfl⟩) rfl ?_
  refine g_iload_n rfl rfl ?_
  refine g_dup2 rfl ?_
  refine x_iald (v := M) rfl rfl (by decide) (by decide) (by decide) hM1 ?_
  refine g_iload_n rfl rfl ?_
  refine g_iconst rfl ⟨by decide, by decide⟩ ?_
  refine g_icmp_ne (tgt := 117) rfl (by decide) (fun _ => ?_) (fun hx => absurd hx (by omega))
  refine g_iconst rfl ⟨by decide, by decide⟩ ?_
  refine x_iadd (z := M) rfl (by omega) ⟨by omega, by omega⟩ ?_
  refine g_iast rfl rfl (by decide) (by decide) (by decide) ?_
  refine g_iload_n rfl rfl ?_
  refine g_if_ne (tgt := 139) rfl (by decide) (fun _ => ?_) (fun hx => absurd hx (by omega))
  refine g_iload_n rfl rfl ?_
  refine g_iconst rfl ⟨by decide, by decide⟩ ?_
  refine g_icmp_ne (tgt := 158) rfl (by decide) (fun _ => ?_) (fun hx => absurd hx (by omega))
  refine g_iload_n rfl rfl ?_
  refine g_iconst rfl ⟨by decide, by decide⟩ ?_
  refine g_icmp_ne (tgt := 177) rfl (by decide) (fun _ => ?_) (fun hx => absurd hx (by omega))
  refine g_aload_n rfl rfl ?_
  refine g_aload_n rfl rfl ?_
  refine x_getF (r := 210) hG rfl rfl (by decide) (Or.inr ⟨_, rfl⟩) rfl ?_
  refine g_bipush rfl ⟨by decide, by decide⟩ (by decide) ?_
  refine g_iload_n rfl rfl ?_
  refine g_cV (as := [tR (some 210), tI 17, tI 0]) (s_kpt30 hG) rfl rfl mX12_keep_ok rfl rfl rfl (by decide) rfl rfl rfl ?_
  rintro _ w2 ⟨rfl, hv2, hw2, hF2⟩ _
  refine g_iload_n rfl rfl ?_
  refine x_ireturn rfl rfl ?_
  have q203 : w2.1 203 = _ := (hF2 203 (by omega)).trans ((tp_pi_ne (by omega)).trans (hH1.1 203 (by omega) (by omega) (by omega) (by omega)))
  have q204 : w2.1 204 = w1.1 204 := (hF2 204 (by omega)).trans (tp_pi_ne (by omega))
  have q205 : w2.1 205 = w1.1 205 := (hF2 205 (by omega)).trans (tp_pi_ne (by omega))
  have q206 : w2.1 206 = (tp_pi w1 206 3 M).1 206 := hF2 206 (by omega)
  have q211 : (tp_pi w1 206 3 M).1 211 = w1.1 211 := tp_pi_ne (by omega)
  have qrc : (tp_pi w1 206 3 M).1 210 = _ := (tp_pi_ne (by omega)).trans (hH1.1 210 (by omega) (by omega) (by omega) (by omega))
  refine ⟨rfl, (congrFun q203 0).trans rfl, (congrFun q204 0).trans h204, (congrFun q205 0).trans h205, (congrFun q206 3).trans tp_pi_at, fun t z => ?_, fun j j0 j1 => ((hv2 j j0 j1).trans (congrFun q211 j)).trans (hto j j0 (by omega)), fun j z => ((hw2 j z).trans (congrFun qrc j)).trans rfl, fun q z => ⟨?_, ?_, ?_⟩, fun c z y1 y2 => ?_⟩
  · rw [q206, tp_pi_ix z, hH1.1 206 (by omega) (by omega) (by omega) (by omega)]; rfl
  · rw [q203, tp_pi_ne (by omega), tp_pi_ne (by omega), tp_pi_ix (by omega)]; rfl
  · rw [q204, (hH1.2.2.1 q (by omega)).1, tp_pi_ne (by omega), tp_pi_ix (by omega)]; rfl
  · rw [q205, (hH1.2.2.1 q (by omega)).2, tp_pi_ix (by omega)]; rfl
  · rw [hF2 c y2, tp_pi_ne y1, hH1.1 c z.1 z.2.2.2.2 z.2.2.1 z.2.2.2.1, tp_pi_ne z.2.2.2.1, tp_pi_ne z.2.2.1, tp_pi_ne z.2.1, tp_pi_ne z.1, tp_pi_ne z.1]
set_option maxHeartbeats 4000000 in
set_option maxRecDepth 100000 in
theorem s_xt30s0 {G : tp_G} {μ : tp_M} (hG : tp_Gf G = true) {T : Int → Int} {len : Int} (hT : ∀ j, 0 ≤ T j ∧ T j ≤ 255) (hlen : 0 ≤ len ∧ len ≤ 600) (hln : μ.1 1 1 = len) (hTm : ∀ j, 0 ≤ j → j < len → tp_and (μ.1 2 j) 255 = T j) {M : Int} (hM : μ.1 5 3 = M) (hMs : 0 < M ∧ M ≤ 2) (hfl : (t_flt 3 T len).1 ≠ 0) : tp_k G mX11_text [tR (some 0), tI 3, tI 0] μ (fun r μ' => r = some (tI (-1)) ∧ μ'.1 1 1 = 0 ∧ μ'.1 1 2 = (t_flt 3 T len).1 ∧ μ'.1 1 3 = (t_flt 3 T len).2 ∧ (∀ c, c ≠ 1 → (c < 41 ∨ 49 < c) → μ'.1 c = μ.1 c)) := by
  refine tp_ok_of mX11_text_ok rfl (Nat.le_refl _) ?_
  refine g_aload_n rfl rfl ?_
  refine x_getF (r := 1) hG rfl rfl (by decide) (Or.inl ⟨_, rfl⟩) rfl ?_
  refine x_geti (v := len) rfl rfl (by decide) (Or.inl rfl) hln ?_
  refine g_istore_n rfl rfl rfl ?_
  refine g_aload_n rfl rfl ?_
  refine x_getF (r := 1) hG rfl rfl (by decide) (Or.inl ⟨_, rfl⟩) rfl ?_
  refine g_iconst rfl ⟨by decide, by decide⟩ ?_
  refine g_puti rfl rfl (by decide) rfl rfl ?_
  refine g_aload_n rfl rfl ?_
  refine x_getF (r := 1) hG rfl rfl (by decide) (Or.inl ⟨_, rfl⟩) rfl ?_
  refine g_iconst rfl ⟨by decide, by decide⟩ ?_
  refine g_puti rfl rfl (by decide) rfl rfl ?_
  refine g_aload_n rfl rfl ?_
  refine x_getF (r := 1) hG rfl rfl (by decide) (Or.inl ⟨_, rfl⟩) rfl ?_
  refine g_iconst rfl ⟨by decide, by decide⟩ ?_
  refine g_puti rfl rfl (by decide) rfl rfl ?_
  refine g_aload_n rfl rfl ?_
  refine x_getF (r := 1) hG rfl rfl (by decide) (Or.inl ⟨_, rfl⟩) rfl ?_
  refine g_iload_n rfl rfl ?_
  refine g_iload_n rfl rfl ?_
  refine g_iV (as := [tI 3, tI 0]) mX9_slotFor_ok rfl rfl rfl rfl rfl rfl (by decide) rfl rfl rfl ?_
  refine g_iload_n rfl rfl ?_
  refine g_if_lt (tgt := 9) rfl (by decide) (fun hx => absurd hx (by omega)) (fun _ => ?_)
  refine g_iload_n rfl rfl ?_
  refine g_iconst rfl ⟨by decide, by decide⟩ ?_
  refine g_icmp_lt (tgt := 11) rfl (by decide) (fun _ => ?_) (fun hx => absurd hx (by omega))
  refine g_aload_n rfl rfl ?_
  refine x_getF (r := 5) hG rfl rfl (by decide) (Or.inr ⟨_, rfl⟩) rfl ?_
  refine g_iload_n rfl rfl ?_
  refine x_iald (v := M) rfl rfl (by decide) (by decide) (by decide) hM ?_
  refine g_istore_n rfl rfl rfl ?_
  refine g_iload_n rfl rfl ?_
  refine g_iconst rfl ⟨by decide, by decide⟩ ?_
  refine g_icmp_ne (tgt := 34) rfl (by decide) (fun _ => ?_) (fun hx => absurd hx (by omega))
  refine g_iload_n rfl rfl ?_
  refine g_if_lt (tgt := 43) rfl (by decide) (fun hx => absurd hx (by omega)) (fun _ => ?_)
  refine g_iload_n rfl rfl ?_
  refine g_iload_n rfl rfl ?_
  refine g_icmp_lt (tgt := 47) rfl (by decide) (fun _ => ?_) (fun hx => absurd hx (by omega))
  refine g_iload_n rfl rfl ?_
  refine x_ireturn rfl rfl ?_
  intro _
  refine g_istore rfl rfl rfl ?_
  refine g_iload rfl rfl ?_
  refine g_iconst rfl ⟨by decide, by decide⟩ ?_
  refine g_icmp_ne (tgt := 52) rfl (by decide) (fun _ => ?_) (fun hx => absurd hx (by omega))
  refine g_aload_n rfl rfl ?_
  refine x_getF (r := 41) hG rfl rfl (by decide) (Or.inl ⟨_, rfl⟩) rfl ?_
  refine g_aload_n rfl rfl ?_
  refine x_getF (r := 1) hG rfl rfl (by decide) (Or.inl ⟨_, rfl⟩) rfl ?_
  refine x_getF (r := 2) hG rfl rfl (by decide) (Or.inr ⟨_, rfl⟩) rfl ?_
  refine g_iload_n rfl rfl ?_
  refine g_iload_n rfl rfl ?_
  refine g_cV (as := [tR (some 2), tI len, tI 3]) (s_readN3 hG hT hlen hTm hfl) rfl rfl mX5_read_ok rfl rfl rfl (by decide) rfl rfl rfl ?_
  rintro _ w1 ⟨rfl, h8, h9, hR1⟩ _
  refine g_if_ne (tgt := 101) rfl (by decide) (fun hx => absurd hx (by omega)) (fun _ => ?_)
  refine g_aload_n rfl rfl ?_
  refine x_getF (r := 1) hG rfl rfl (by decide) (Or.inl ⟨_, rfl⟩) rfl ?_
  refine g_aload_n rfl rfl ?_
  refine x_getF (r := 41) hG rfl rfl (by decide) (Or.inl ⟨_, rfl⟩) rfl ?_
  refine x_geti (v := ((t_flt 3 T len).1)) rfl rfl (by decide) (Or.inl rfl) h8 ?_
  refine g_puti rfl rfl (by decide) rfl rfl ?_
  refine g_aload_n rfl rfl ?_
  refine x_getF (r := 1) hG rfl rfl (by decide) (Or.inl ⟨_, rfl⟩) rfl ?_
  refine g_aload_n rfl rfl ?_
  refine x_getF (r := 41) hG rfl rfl (by decide) (Or.inl ⟨_, rfl⟩) rfl ?_
  refine x_geti (v := ((t_flt 3 T len).2)) rfl rfl (by decide) (Or.inl rfl) h9 ?_
  refine g_puti rfl rfl (by decide) rfl rfl ?_
  refine g_iconst rfl ⟨by decide, by decide⟩ ?_
  refine x_ireturn rfl rfl ?_
  exact ⟨rfl, (congrFun (hR1 1 (by omega)) 1).trans rfl, rfl, rfl, fun c z y => by rw [tp_pi_ne z, tp_pi_ne z, hR1 c y, tp_pi_ne z, tp_pi_ne z, tp_pi_ne z]⟩
set_option maxHeartbeats 4000000 in
set_option maxRecDepth 100000 in
theorem s_mt30s0 {G : tp_G} {μ : tp_M} (hG : tp_Gf G = true) {T : Int → Int} {len : Int} (hT : ∀ j, 0 ≤ T j ∧ T j ≤ 255) (hlen : 0 ≤ len ∧ len ≤ 600) (h203 : μ.1 203 0 = len) (hTr : ∀ j, 0 ≤ j → j < len → tp_and (μ.1 202 j) 255 = T j) {M : Int} (hM : μ.1 206 3 = M) (hMs : 0 < M ∧ M ≤ 2) (hfl : (t_flt 3 T len).1 ≠ 0) : tp_k G mX12_text [tR (some 201), tI 3, tI 0] μ (fun r μ' => r = some (tI (-1)) ∧ μ'.1 203 0 = 0 ∧ μ'.1 204 0 = (t_flt 3 T len).1 ∧ μ'.1 205 0 = (t_flt 3 T len).2 ∧ m_Qc μ μ' ∧ (∀ c, m_Lc c → μ'.1 c = μ.1 c)) := by
  refine tp_ok_of mX12_text_ok rfl (Nat.le_refl _) ?_
  refine g_aload_n rfl rfl ?_
  refine g_iconst rfl ⟨by decide, by decide⟩ ?_
  refine g_puti rfl rfl (by decide) rfl rfl ?_
  refine g_aload_n rfl rfl ?_
  refine g_aload_n rfl rfl ?_
  refine x_getF (r := 203) hG rfl rfl (by decide) (Or.inr ⟨_, rfl⟩) rfl ?_
  refine g_iconst rfl ⟨by decide, by decide⟩ ?_
  refine x_iald (v := len) rfl rfl (by decide) (by decide) (by decide) h203 ?_
  refine g_puti rfl rfl (by decide) rfl rfl ?_
  refine g_aload_n rfl rfl ?_
  refine x_getF (r := 203) hG rfl rfl (by decide) (Or.inr ⟨_, rfl⟩) rfl ?_
  refine g_iconst rfl ⟨by decide, by decide⟩ ?_
  refine g_iconst rfl ⟨by decide, by decide⟩ ?_
  refine g_iast rfl rfl (by decide) (by decide) (by decide) ?_
  refine g_aload_n rfl rfl ?_
  refine x_getF (r := 204) hG rfl rfl (by decide) (Or.inr ⟨_, rfl⟩) rfl ?_
  refine g_iconst rfl ⟨by decide, by decide⟩ ?_
  refine g_iconst rfl ⟨by decide, by decide⟩ ?_
  refine g_iast rfl rfl (by decide) (by decide) (by decide) ?_
  refine g_aload_n rfl rfl ?_
  refine x_getF (r := 205) hG rfl rfl (by decide) (Or.inr ⟨_, rfl⟩) rfl ?_
  refine g_iconst rfl ⟨by decide, by decide⟩ ?_
  refine g_iconst rfl ⟨by decide, by decide⟩ ?_
  refine g_iast rfl rfl (by decide) (by decide) (by decide) ?_
  refine g_iload_n rfl rfl ?_
  refine g_iconst rfl ⟨by decide, by decide⟩ ?_
  refine g_iconst rfl ⟨by decide, by decide⟩ ?_
  refine g_iS (as := [tI 3, tI 0, tI 3]) mX12_in_ok rfl rfl rfl rfl rfl rfl rfl ?_
  refine g_iload_n rfl rfl ?_
  refine g_iload_n rfl rfl ?_
  refine g_icmp_lt (tgt := 14) rfl (by decide) (fun hx => absurd hx (by omega)) (fun _ => ?_)
  refine g_iload_n rfl rfl ?_
  refine g_iload_n rfl rfl ?_
  refine g_icmp_gt (tgt := 14) rfl (by decide) (fun hx => absurd hx (by omega)) (fun _ => ?_)
  refine g_iconst rfl ⟨by decide, by decide⟩ ?_
  refine g_goto (tgt := 15) rfl (by decide) ?_
  refine x_zreturn rfl rfl (Or.inr rfl) ?_
  intro _
  refine g_if_eq (tgt := 72) rfl (by decide) (fun hx => absurd hx (by omega)) (fun _ => ?_)
  refine g_iload_n rfl rfl ?_
  refine g_iconst rfl ⟨by decide, by decide⟩ ?_
  refine g_icmp_ne (tgt := 63) rfl (by decide) (fun _ => ?_) (fun hx => absurd hx (by omega))
  refine g_aload_n rfl rfl ?_
  refine g_iload_n rfl rfl ?_
  refine g_iload_n rfl rfl ?_
  refine g_iV (as := [tI 3, tI 0]) mX12_is_ok rfl rfl rfl rfl rfl rfl (by decide) rfl rfl rfl ?_
  refine g_iload_n rfl rfl ?_
  refine g_iconst rfl ⟨by decide, by decide⟩ ?_
  refine g_aload_n rfl rfl ?_
  refine x_getF (r := 206) hG rfl rfl (by decide) (Or.inr ⟨_, rfl⟩) rfl ?_
  refine g_iload_n rfl rfl ?_
  refine x_iald (v := M) rfl rfl (by decide) (by decide) (by decide) hM ?_
  refine g_iconst rfl ⟨by decide, by decide⟩ ?_
  refine x_isub (z := M - 1) rfl (by omega) ⟨by omega, by omega⟩ ?_
  refine g_iS (as := [tI 0, tI 0, tI (M - 1)]) mX12_in_ok rfl rfl rfl rfl rfl rfl rfl ?_
  refine g_iload_n rfl rfl ?_
  refine g_iload_n rfl rfl ?_
  refine g_icmp_lt (tgt := 14) rfl (by decide) (fun hx => absurd hx (by omega)) (fun _ => ?_)
  refine g_iload_n rfl rfl ?_
  refine g_iload_n rfl rfl ?_
  refine g_icmp_gt (tgt := 14) rfl (by decide) (fun hx => absurd hx (by omega)) (fun _ => ?_)
  refine g_iconst rfl ⟨by decide, by decide⟩ ?_
  refine g_goto (tgt := 15) rfl (by decide) ?_
  refine x_zreturn rfl rfl (Or.inr rfl) ?_
  intro _
  refine x_zreturn rfl rfl (Or.inr rfl) ?_
  intro _
  refine g_if_ne (tgt := 75) rfl (by decide) (fun _ => ?_) (fun hx => absurd hx (by omega))
  refine g_aload_n rfl rfl ?_
  refine g_iload_n rfl rfl ?_
  refine g_cV (as := [tI 3]) (s_rtxN3 (T := T) (len := len) hG hT ⟨rfl, hlen, hTr⟩ hfl) rfl rfl mX12_readText_ok rfl rfl rfl (by decide) rfl rfl rfl ?_
  rintro _ w1 ⟨rfl, h204, h205, hH1⟩ _
  have hM1 : w1.1 206 3 = M := by rw [hH1.1 206 (by omega) (by omega) (by omega) (by omega)]; exact hM
  refine g_if_ne (tgt := 85) rfl (by decide) (fun hx => absurd hx (by omega)) (fun _ => ?_)
  refine g_iconst rfl ⟨by decide, by decide⟩ ?_
  refine x_ireturn rfl rfl ?_
  exact ⟨rfl, (congrFun (hH1.1 203 (by omega) (by omega) (by omega) (by omega)) 0).trans rfl, h204, h205, fun q z => ⟨(congrFun (hH1.1 203 (by omega) (by omega) (by omega) (by omega)) q).trans (by rw [tp_pi_ne (by omega), tp_pi_ne (by omega), tp_pi_ix (by omega)]; rfl), ((hH1.2.2.1 q (by omega)).1).trans (by rw [tp_pi_ne (by omega), tp_pi_ix (by omega)]; rfl), ((hH1.2.2.1 q (by omega)).2).trans (by rw [tp_pi_ix (by omega)]; rfl)⟩, fun c z => by rw [hH1.1 c z.1 z.2.2.2.2 z.2.2.1 z.2.2.2.1, tp_pi_ne z.2.2.2.1, tp_pi_ne z.2.2.1, tp_pi_ne z.2.1, tp_pi_ne z.1, tp_pi_ne z.1]⟩
set_option maxHeartbeats 4000000 in
set_option maxRecDepth 100000 in
theorem p_tx30s {G : tp_G} {μ : tp_M} (hG : tp_Gf G = true) (hR : tp_R μ) {M : Int} (hM : μ.1 5 3 = M) (hMs : 0 < M ∧ M ≤ 2) : tp_q G mX11_text mX12_text [tI 3, tI 0] μ := by
  have hL := tp_R_len hR
  have hlen : 0 ≤ μ.1 1 1 ∧ μ.1 1 1 ≤ 600 := ⟨hL.1, hL.2.1⟩
  have hm9 := tp_R_many hR 3 (by decide) (by decide)
  have hT : ∀ j, 0 ≤ (fun j => tp_and (μ.1 2 j) 255 : Int → Int) j ∧ (fun j => tp_and (μ.1 2 j) 255 : Int → Int) j ≤ 255 := fun j => tp_and255 _
  generalize hTT : (fun j => tp_and (μ.1 2 j) 255 : Int → Int) = T at hT
  have hTm : ∀ j, 0 ≤ j → j < μ.1 1 1 → tp_and (μ.1 2 j) 255 = T j := fun j _ _ => by rw [← hTT]
  generalize hln : μ.1 1 1 = len at *
  by_cases hfl : (t_flt 3 T len).1 = 0
  · refine tp_kc (fun r μ1 z => ?_) (s_xt30s1 hG hT hlen hln hTm hM hMs hfl)
    obtain ⟨z1, z2, z3, z4, z5, z6⟩ := z
    refine ⟨0, z1, tp_kc (fun r2 μ2 y => ?_) (s_mt30s1 (T := T) (len := len) hG hT hlen (by rw [z6 203 (by omega) (by omega) (by omega) (by omega)]; exact hL.2.2.symm) (fun j j0 j1 => by rw [z6 202 (by omega) (by omega) (by omega) (by omega), ← tp_R_tape hR j j0 (by omega)]; exact hTm j j0 j1) (by rw [z6 206 (by omega) (by omega) (by omega) (by omega)]; exact hm9.1.symm.trans hM) hMs hfl)⟩
    obtain ⟨y1, y2, y3, y4, y5, y6, y7, y8, y9, y10⟩ := y
    have y5' : ∀ j, μ2.1 5 j = μ1.1 5 j := fun j => congrFun (y10 5 (by unfold m_Lc; omega) (by omega) (by omega)) j
    have yl : μ2.1 1 = μ1.1 1 := y10 1 (by unfold m_Lc; omega) (by omega) (by omega)
    refine ⟨y1, tp_R_k30 hR (fun k hk k1 k5 kc k2 kr => ?_) (fun q hq => ?_) (fun j hj => ?_) (fun t t0 t1 tn => ⟨?_, ?_⟩) ⟨?_, ?_, ?_⟩ (fun j hj => ?_) ⟨?_, y2⟩ ⟨?_, ?_⟩ ?_⟩
    · unfold tp_tl at hk
      rw [y10 k (by unfold m_Lc; omega) (by omega) kr, z6 k k1 k5 kc (by omega)]
    · rw [(y9 q hq).1, (y9 q hq).2.1, (y9 q hq).2.2, z6 203 (by omega) (by omega) (by omega) (by omega), z6 204 (by omega) (by omega) (by omega) (by omega), z6 205 (by omega) (by omega) (by omega) (by omega)]; exact ⟨rfl, rfl, rfl⟩
    · rw [y6 j (by omega), z6 206 (by omega) (by omega) (by omega) (by omega)]
    · rw [y5' t, z4 t tn]
    · rw [y6 t tn, z6 206 (by omega) (by omega) (by omega) (by omega)]
    · rw [y5' 3, z3, y5]
    · rw [y5' 3, z3]; omega
    · rw [y5' 3, z3]; omega
    · rw [y8 j hj, z6 210 (by omega) (by omega) (by omega) (by omega)]
    · rw [yl]; exact z2.1
    · rw [yl, y3]; exact z2.2.1
    · rw [yl, y4]; exact z2.2.2
    · exact tp_Lg_A (A := μ1.1) (fun i i0 i1 => y10 i (by unfold m_Lc; omega) (by omega) (by omega)) (tp_Lg_f (fun i i0 i1 => y7 i i0 i1) z5)
  · refine tp_kc (fun r μ1 z => ?_) (s_xt30s0 hG hT hlen hln hTm hM hMs hfl)
    obtain ⟨z1, z2, z3, z4, z6⟩ := z
    refine ⟨-1, z1, tp_kc (fun r2 μ2 y => ?_) (s_mt30s0 (T := T) (len := len) hG hT hlen (by rw [z6 203 (by omega) (by omega)]; exact hL.2.2.symm) (fun j j0 j1 => by rw [z6 202 (by omega) (by omega), ← tp_R_tape hR j j0 (by omega)]; exact hTm j j0 j1) (by rw [z6 206 (by omega) (by omega)]; exact hm9.1.symm.trans hM) hMs hfl)⟩
    obtain ⟨y1, y2, y3, y4, y9, y10⟩ := y
    have yl : μ2.1 1 = μ1.1 1 := y10 1 (by unfold m_Lc; omega)
    refine ⟨y1, tp_R_head hR (fun k hk k1 k2 k3 => ?_) (fun j hj => ?_) (fun q hq => ?_) ?_ (fun j j0 j1 => ?_) ⟨?_, ?_⟩⟩
    · unfold tp_tl at hk
      rw [y10 k (by unfold m_Lc; omega), z6 k k1 (by omega)]
    · rw [y10 202 (by unfold m_Lc; omega), z6 202 (by omega) (by omega)]
    · rw [(y9 q hq).1, (y9 q hq).2.1, (y9 q hq).2.2, z6 203 (by omega) (by omega), z6 204 (by omega) (by omega), z6 205 (by omega) (by omega)]; exact ⟨rfl, rfl, rfl⟩
    · rw [yl, z2, y2]; decide
    · rw [yl, z2] at j1; omega
    · rw [yl, z3, y3]
    · rw [yl, z4, y4]
set_option maxHeartbeats 4000000 in
set_option maxRecDepth 100000 in
theorem s_xt31m1 {G : tp_G} {μ : tp_M} (hG : tp_Gf G = true) {T : Int → Int} {len : Int} (hT : ∀ j, 0 ≤ T j ∧ T j ≤ 255) (hlen : 0 ≤ len ∧ len ≤ 600) (hln : μ.1 1 1 = len) (hTm : ∀ j, 0 ≤ j → j < len → tp_and (μ.1 2 j) 255 = T j) (hM : μ.1 5 3 = 1) (hfl : (t_flt 3 T len).1 = 0) : tp_k G mX11_text [tR (some 0), tI 3, tI (-1)] μ (fun r μ' => r = some (tI 1) ∧ (μ'.1 1 1 = 0 ∧ μ'.1 1 2 = 0 ∧ μ'.1 1 3 = -1) ∧ μ'.1 5 3 = 2 ∧ (∀ t, t ≠ 3 → μ'.1 5 t = μ.1 5 t) ∧ tp_Lg μ'.1 37 (t_tld 3 T len) ∧ (∀ c, c ≠ 1 → c ≠ 5 → (c < 37 ∨ 39 < c) → (c < 41 ∨ 49 < c) → μ'.1 c = μ.1 c)) := by
  refine tp_ok_of mX11_text_ok rfl (Nat.le_refl _) ?_
  refine g_aload_n rfl rfl ?_
  refine x_getF (r := 1) hG rfl rfl (by decide) (Or.inl ⟨_, rfl⟩) rfl ?_
  refine x_geti (v := len) rfl rfl (by decide) (Or.inl rfl) hln ?_
  refine g_istore_n rfl rfl rfl ?_
  refine g_aload_n rfl rfl ?_
  refine x_getF (r := 1) hG rfl rfl (by decide) (Or.inl ⟨_, rfl⟩) rfl ?_
  refine g_iconst rfl ⟨by decide, by decide⟩ ?_
  refine g_puti rfl rfl (by decide) rfl rfl ?_
  refine g_aload_n rfl rfl ?_
  refine x_getF (r := 1) hG rfl rfl (by decide) (Or.inl ⟨_, rfl⟩) rfl ?_
  refine g_iconst rfl ⟨by decide, by decide⟩ ?_
  refine g_puti rfl rfl (by decide) rfl rfl ?_
  refine g_aload_n rfl rfl ?_
  refine x_getF (r := 1) hG rfl rfl (by decide) (Or.inl ⟨_, rfl⟩) rfl ?_
  refine g_iconst rfl ⟨by decide, by decide⟩ ?_
  refine g_puti rfl rfl (by decide) rfl rfl ?_
  refine g_aload_n rfl rfl ?_
  refine x_getF (r := 1) hG rfl rfl (by decide) (Or.inl ⟨_, rfl⟩) rfl ?_
  refine g_iload_n rfl rfl ?_
  refine g_iload_n rfl rfl ?_
  refine g_iV (as := [tI 3, tI (-1)]) mX9_slotFor_ok rfl rfl rfl rfl rfl rfl (by decide) rfl rfl rfl ?_
  refine g_iload_n rfl rfl ?_
  refine g_if_lt (tgt := 9) rfl (by decide) (fun hx => absurd hx (by omega)) (fun _ => ?_)
  refine g_iload_n rfl rfl ?_
  refine g_iconst rfl ⟨by decide, by decide⟩ ?_
  refine g_icmp_lt (tgt := 11) rfl (by decide) (fun _ => ?_) (fun hx => absurd hx (by omega))
  refine g_aload_n rfl rfl ?_
  refine x_getF (r := 5) hG rfl rfl (by decide) (Or.inr ⟨_, rfl⟩) rfl ?_
  refine g_iload_n rfl rfl ?_
  refine x_iald (v := 1) rfl rfl (by decide) (by decide) (by decide) hM ?_
  refine g_istore_n rfl rfl rfl ?_
  refine g_iload_n rfl rfl ?_
  refine g_iconst rfl ⟨by decide, by decide⟩ ?_
  refine g_icmp_ne (tgt := 34) rfl (by decide) (fun hx => absurd hx (by omega)) (fun _ => ?_)
  refine g_iload_n rfl rfl ?_
  refine g_iconst rfl ⟨by decide, by decide⟩ ?_
  refine g_icmp_ge (tgt := 32) rfl (by decide) (fun hx => absurd hx (by omega)) (fun _ => ?_)
  refine g_iload_n rfl rfl ?_
  refine g_goto (tgt := 33) rfl (by decide) ?_
  refine x_ireturn rfl rfl ?_
  intro _
  refine g_istore rfl rfl rfl ?_
  refine g_iload rfl rfl ?_
  refine g_iconst rfl ⟨by decide, by decide⟩ ?_
  refine g_icmp_ne (tgt := 52) rfl (by decide) (fun _ => ?_) (fun hx => absurd hx (by omega))
  refine g_aload_n rfl rfl ?_
  refine x_getF (r := 41) hG rfl rfl (by decide) (Or.inl ⟨_, rfl⟩) rfl ?_
  refine g_aload_n rfl rfl ?_
  refine x_getF (r := 1) hG rfl rfl (by decide) (Or.inl ⟨_, rfl⟩) rfl ?_
  refine x_getF (r := 2) hG rfl rfl (by decide) (Or.inr ⟨_, rfl⟩) rfl ?_
  refine g_iload_n rfl rfl ?_
  refine g_iload_n rfl rfl ?_
  refine g_cV (as := [tR (some 2), tI len, tI 3]) (s_readY3 hG hT hlen hTm hfl) rfl rfl mX5_read_ok rfl rfl rfl (by decide) rfl rfl rfl ?_
  rintro _ w1 ⟨rfl, hct, hR1⟩ _
  have hwm := t_wm3 hlen.1 hfl
  have hsz9 : 0 ≤ w1.1 47 2 ∧ w1.1 47 2 ≤ 8 := by have := hct.1; have := hwm.1; omega
  refine g_if_ne (tgt := 101) rfl (by decide) (fun _ => ?_) (fun hx => absurd hx (by omega))
  refine g_aload_n rfl rfl ?_
  refine x_getF (r := 1) hG rfl rfl (by decide) (Or.inl ⟨_, rfl⟩) rfl ?_
  refine g_iload_n rfl rfl ?_
  refine g_iload rfl rfl ?_
  refine g_aload_n rfl rfl ?_
  refine x_getF (r := 41) hG rfl rfl (by decide) (Or.inl ⟨_, rfl⟩) rfl ?_
  refine g_iV (as := [tI 3, tI 1, tR (some 41)]) mX9_keep_ok rfl rfl rfl rfl rfl rfl (by decide) rfl rfl rfl ?_
  refine g_iload_n rfl rfl ?_
  refine g_if_lt (tgt := 18) rfl (by decide) (fun hx => absurd hx (by omega)) (fun _ => ?_)
  refine g_iload_n rfl rfl ?_
  refine g_iconst rfl ⟨by decide, by decide⟩ ?_
  refine g_icmp_ge (tgt := 18) rfl (by decide) (fun hx => absurd hx (by omega)) (fun _ => ?_)
  refine g_iload_n rfl rfl ?_
  refine g_if_lt (tgt := 18) rfl (by decide) (fun hx => absurd hx (by omega)) (fun _ => ?_)
  refine g_iload_n rfl rfl ?_
  refine g_iconst rfl ⟨by decide, by decide⟩ ?_
  refine g_icmp_lt (tgt := 19) rfl (by decide) (fun _ => ?_) (fun hx => absurd hx (by omega))
  refine g_iload_n rfl rfl ?_
  refine g_if_ne (tgt := 39) rfl (by decide) (fun _ => ?_) (fun hx => absurd hx (by omega))
  refine g_aload_n rfl rfl ?_
  refine x_getF (r := 4) hG rfl rfl (by decide) (Or.inr ⟨_, rfl⟩) rfl ?_
  refine g_iload_n rfl rfl ?_
  refine g_iconst rfl ⟨by decide, by decide⟩ ?_
  refine x_imul (z := 6) rfl (by omega) ⟨by omega, by omega⟩ ?_
  refine g_iload_n rfl rfl ?_
  refine x_iadd (z := 7) rfl (by omega) ⟨by omega, by omega⟩ ?_
  refine x_aald (t0 := 5) (r := 37) hG rfl rfl rfl (by decide) (by decide) (by decide) rfl ?_
  refine g_aload_n rfl rfl ?_
  refine x_getF (r := 47) hG rfl rfl (by decide) (Or.inl ⟨_, rfl⟩) rfl ?_
  refine g_cV (as := [tR (some 47)]) (s_rcop2 hG (c := 47) (d := 37) rfl rfl (by decide) (by decide) (by decide) hsz9.1 (show w1.1 47 2 ≤ (60 : Int) by omega) (show w1.1 47 2 ≤ (8 : Int) by omega) (by omega)) rfl rfl mX6_copyFrom_ok rfl rfl rfl (by decide) rfl rfl rfl ?_
  rintro _ w2 ⟨rfl, hK2, hK3, hF2⟩ _
  have hM2 : w2.1 5 3 = 1 := by rw [hF2 5 (by omega), hR1 5 (by omega)]; exact hM
  refine g_aload_n rfl rfl ?_
  refine x_getF (r := 5) hG rfl rfl (by decide) (Or.inr ⟨_, rfl⟩) rfl ?_
  refine g_iload_n rfl rfl ?_
  refine g_aload_n rfl rfl ?_
  refine x_getF (r := 5) hG rfl rfl (by decide) (Or.inr ⟨_, rfl⟩) rfl ?_
  refine g_iload_n rfl rfl ?_
  refine x_iald (v := 1) rfl rfl (by decide) (by decide) (by decide) hM2 ?_
  refine g_iload_n rfl rfl ?_
  refine g_iconst rfl ⟨by decide, by decide⟩ ?_
  refine x_iadd (z := 2) rfl (by omega) ⟨by omega, by omega⟩ ?_
  refine x_max (z := 2) rfl rfl (by omega) ?_
  refine g_iast rfl rfl (by decide) (by decide) (by decide) ?_
  refine x_return rfl rfl ?_
  intro _
  refine g_iload rfl rfl ?_
  refine x_ireturn rfl rfl ?_
  exact ⟨rfl, ⟨by rw [tp_pi_ne (by omega), hF2 1 (by omega), hR1 1 (by omega)]; rfl, by rw [tp_pi_ne (by omega), hF2 1 (by omega), hR1 1 (by omega)]; rfl, by rw [tp_pi_ne (by omega), hF2 1 (by omega), hR1 1 (by omega)]; rfl⟩, tp_pi_at.trans (by omega), fun t z => by rw [tp_pi_ix z, hF2 5 (by omega), hR1 5 (by omega)]; rfl, tp_Lg_A (A := w2.1) (fun i i0 i1 => tp_pi_ne (by omega)) (x_k3 hct hwm.1 hwm.2 ⟨hK2, hK3⟩), fun c z1 z2 z3 z4 => by rw [tp_pi_ne z2, hF2 c (by omega), hR1 c z4, tp_pi_ne z1, tp_pi_ne z1, tp_pi_ne z1]⟩
set_option maxHeartbeats 4000000 in
set_option maxRecDepth 100000 in
theorem s_mt31m1 {G : tp_G} {μ : tp_M} (hG : tp_Gf G = true) {T : Int → Int} {len : Int} (hT : ∀ j, 0 ≤ T j ∧ T j ≤ 255) (hlen : 0 ≤ len ∧ len ≤ 600) (h203 : μ.1 203 0 = len) (hTr : ∀ j, 0 ≤ j → j < len → tp_and (μ.1 202 j) 255 = T j) (hM : μ.1 206 3 = 1) (hfl : (t_flt 3 T len).1 = 0) : tp_k G mX12_text [tR (some 201), tI 3, tI (-1)] μ (fun r μ' => r = some (tI 1) ∧ μ'.1 203 0 = 0 ∧ μ'.1 204 0 = 0 ∧ μ'.1 205 0 = -1 ∧ μ'.1 206 3 = 2 ∧ (∀ t, t ≠ 3 → μ'.1 206 t = μ.1 206 t) ∧ (∀ j, 0 ≤ j → j < 17 → μ'.1 210 (17 + j) = t_tld 3 T len j) ∧ (∀ j, (j < 17 ∨ 34 ≤ j) → μ'.1 210 j = μ.1 210 j) ∧ m_Qc μ μ' ∧ (∀ c, m_Lc c → c ≠ 206 → c ≠ 210 → μ'.1 c = μ.1 c)) := by
  refine tp_ok_of mX12_text_ok rfl (Nat.le_refl _) ?_
  refine g_aload_n rfl rfl ?_
  refine g_iconst rfl ⟨by decide, by decide⟩ ?_
  refine g_puti rfl rfl (by decide) rfl rfl ?_
  refine g_aload_n rfl rfl ?_
  refine g_aload_n rfl rfl ?_
  refine x_getF (r := 203) hG rfl rfl (by decide) (Or.inr ⟨_, rfl⟩) rfl ?_
  refine g_iconst rfl ⟨by decide, by decide⟩ ?_
  refine x_iald (v := len) rfl rfl (by decide) (by decide) (by decide) h203 ?_
  refine g_puti rfl rfl (by decide) rfl rfl ?_
  refine g_aload_n rfl rfl ?_
  refine x_getF (r := 203) hG rfl rfl (by decide) (Or.inr ⟨_, rfl⟩) rfl ?_
  refine g_iconst rfl ⟨by decide, by decide⟩ ?_
  refine g_iconst rfl ⟨by decide, by decide⟩ ?_
  refine g_iast rfl rfl (by decide) (by decide) (by decide) ?_
  refine g_aload_n rfl rfl ?_
  refine x_getF (r := 204) hG rfl rfl (by decide) (Or.inr ⟨_, rfl⟩) rfl ?_
  refine g_iconst rfl ⟨by decide, by decide⟩ ?_
  refine g_iconst rfl ⟨by decide, by decide⟩ ?_
  refine g_iast rfl rfl (by decide) (by decide) (by decide) ?_
  refine g_aload_n rfl rfl ?_
  refine x_getF (r := 205) hG rfl rfl (by decide) (Or.inr ⟨_, rfl⟩) rfl ?_
  refine g_iconst rfl ⟨by decide, by decide⟩ ?_
  refine g_iconst rfl ⟨by decide, by decide⟩ ?_
  refine g_iast rfl rfl (by decide) (by decide) (by decide) ?_
  refine g_iload_n rfl rfl ?_
  refine g_iconst rfl ⟨by decide, by decide⟩ ?_
  refine g_iconst rfl ⟨by decide, by decide⟩ ?_
  refine g_iS (as := [tI 3, tI 0, tI 3]) mX12_in_ok rfl rfl rfl rfl rfl rfl rfl ?_
  refine g_iload_n rfl rfl ?_
  refine g_iload_n rfl rfl ?_
  refine g_icmp_lt (tgt := 14) rfl (by decide) (fun hx => absurd hx (by omega)) (fun _ => ?_)
  refine g_iload_n rfl rfl ?_
  refine g_iload_n rfl rfl ?_
  refine g_icmp_gt (tgt := 14) rfl (by decide) (fun hx => absurd hx (by omega)) (fun _ => ?_)
  refine g_iconst rfl ⟨by decide, by decide⟩ ?_
  refine g_goto (tgt := 15) rfl (by decide) ?_
  refine x_zreturn rfl rfl (Or.inr rfl) ?_
  intro _
  refine g_if_eq (tgt := 72) rfl (by decide) (fun hx => absurd hx (by omega)) (fun _ => ?_)
  refine g_iload_n rfl rfl ?_
  refine g_iconst rfl ⟨by decide, by decide⟩ ?_
  refine g_icmp_ne (tgt := 63) rfl (by decide) (fun hx => absurd hx (by omega)) (fun _ => ?_)
  refine g_aload_n rfl rfl ?_
  refine x_getF (r := 206) hG rfl rfl (by decide) (Or.inr ⟨_, rfl⟩) rfl ?_
  refine g_iload_n rfl rfl ?_
  refine x_iald (v := 1) rfl rfl (by decide) (by decide) (by decide) hM ?_
  refine g_iconst rfl ⟨by decide, by decide⟩ ?_
  refine g_icmp_ne (tgt := 75) rfl (by decide) (fun _ => ?_) (fun hx => absurd hx (by omega))
  refine g_aload_n rfl rfl ?_
  refine g_iload_n rfl rfl ?_
  refine g_cV (as := [tI 3]) (s_rtxY3 (T := T) (len := len) hG hT ⟨rfl, hlen, hTr⟩ hfl) rfl rfl mX12_readText_ok rfl rfl rfl (by decide) rfl rfl rfl ?_
  rintro _ w1 ⟨rfl, h204, h205, hto, hH1⟩ _
  have hM1 : w1.1 206 3 = 1 := by rw [hH1.1 206 (by omega) (by omega) (by omega) (by omega)]; exact hM
  refine g_if_ne (tgt := 85) rfl (by decide) (fun _ => ?_) (fun hx => absurd hx (by omega))
  refine g_iload_n rfl rfl ?_
  refine g_iconst rfl ⟨by decide, by decide⟩ ?_
  refine g_icmp_ne (tgt := 99) rfl (by decide) (fun hx => absurd hx (by omega)) (fun _ => ?_)
  refine g_aload_n rfl rfl ?_
  refine x_getF (r := 206) hG rfl rfl (by decide) (Or.inr ⟨_, rfl⟩) rfl ?_
  refine g_iload_n rfl rfl ?_
  refine x_iald (v := 1) rfl rfl (by decide) (by decide) (by decide) hM1 ?_
  refine g_goto (tgt := 100) rfl (by decide) ?_
  refine g_istore_n rfl rfl rfl ?_
  refine g_aload_n rfl rfl ?_
  refine x_getF (r := 206) hG rfl rfl (by decide) (Or.inr ⟨_, rfl⟩) rfl ?_
  refine g_iload_n rfl rfl ?_
  refine g_dup2 rfl ?_
  refine x_iald (v := 1) rfl rfl (by decide) (by decide) (by decide) hM1 ?_
  refine g_iload_n rfl rfl ?_
  refine g_iconst rfl ⟨by decide, by decide⟩ ?_
  refine g_icmp_ne (tgt := 117) rfl (by decide) (fun hx => absurd hx (by omega)) (fun _ => ?_)
  refine g_iconst rfl ⟨by decide, by decide⟩ ?_
  refine g_goto (tgt := 118) rfl (by decide) ?_
  refine x_iadd (z := 2) rfl (by omega) ⟨by omega, by omega⟩ ?_
  refine g_iast rfl rfl (by decide) (by decide) (by decide) ?_
  refine g_iload_n rfl rfl ?_
  refine g_if_ne (tgt := 139) rfl (by decide) (fun _ => ?_) (fun hx => absurd hx (by omega))
  refine g_iload_n rfl rfl ?_
  refine g_iconst rfl ⟨by decide, by decide⟩ ?_
  refine g_icmp_ne (tgt := 158) rfl (by decide) (fun _ => ?_) (fun hx => absurd hx (by omega))
  refine g_iload_n rfl rfl ?_
  refine g_iconst rfl ⟨by decide, by decide⟩ ?_
  refine g_icmp_ne (tgt := 177) rfl (by decide) (fun _ => ?_) (fun hx => absurd hx (by omega))
  refine g_aload_n rfl rfl ?_
  refine g_aload_n rfl rfl ?_
  refine x_getF (r := 210) hG rfl rfl (by decide) (Or.inr ⟨_, rfl⟩) rfl ?_
  refine g_bipush rfl ⟨by decide, by decide⟩ (by decide) ?_
  refine g_iload_n rfl rfl ?_
  refine g_cV (as := [tR (some 210), tI 17, tI 1]) (s_kpt31 hG) rfl rfl mX12_keep_ok rfl rfl rfl (by decide) rfl rfl rfl ?_
  rintro _ w2 ⟨rfl, hv2, hw2, hF2⟩ _
  refine g_iload_n rfl rfl ?_
  refine x_ireturn rfl rfl ?_
  have q203 : w2.1 203 = _ := (hF2 203 (by omega)).trans ((tp_pi_ne (by omega)).trans (hH1.1 203 (by omega) (by omega) (by omega) (by omega)))
  have q204 : w2.1 204 = w1.1 204 := (hF2 204 (by omega)).trans (tp_pi_ne (by omega))
  have q205 : w2.1 205 = w1.1 205 := (hF2 205 (by omega)).trans (tp_pi_ne (by omega))
  have q206 : w2.1 206 = (tp_pi w1 206 3 2).1 206 := hF2 206 (by omega)
  have q211 : (tp_pi w1 206 3 2).1 211 = w1.1 211 := tp_pi_ne (by omega)
  have qrc : (tp_pi w1 206 3 2).1 210 = _ := (tp_pi_ne (by omega)).trans (hH1.1 210 (by omega) (by omega) (by omega) (by omega))
  refine ⟨rfl, (congrFun q203 0).trans rfl, (congrFun q204 0).trans h204, (congrFun q205 0).trans h205, (congrFun q206 3).trans tp_pi_at, fun t z => ?_, fun j j0 j1 => ((hv2 j j0 j1).trans (congrFun q211 j)).trans (hto j j0 (by omega)), fun j z => ((hw2 j z).trans (congrFun qrc j)).trans rfl, fun q z => ⟨?_, ?_, ?_⟩, fun c z y1 y2 => ?_⟩
  · rw [q206, tp_pi_ix z, hH1.1 206 (by omega) (by omega) (by omega) (by omega)]; rfl
  · rw [q203, tp_pi_ne (by omega), tp_pi_ne (by omega), tp_pi_ix (by omega)]; rfl
  · rw [q204, (hH1.2.2.1 q (by omega)).1, tp_pi_ne (by omega), tp_pi_ix (by omega)]; rfl
  · rw [q205, (hH1.2.2.1 q (by omega)).2, tp_pi_ix (by omega)]; rfl
  · rw [hF2 c y2, tp_pi_ne y1, hH1.1 c z.1 z.2.2.2.2 z.2.2.1 z.2.2.2.1, tp_pi_ne z.2.2.2.1, tp_pi_ne z.2.2.1, tp_pi_ne z.2.1, tp_pi_ne z.1, tp_pi_ne z.1]
set_option maxHeartbeats 4000000 in
set_option maxRecDepth 100000 in
theorem s_xt31m0 {G : tp_G} {μ : tp_M} (hG : tp_Gf G = true) {T : Int → Int} {len : Int} (hT : ∀ j, 0 ≤ T j ∧ T j ≤ 255) (hlen : 0 ≤ len ∧ len ≤ 600) (hln : μ.1 1 1 = len) (hTm : ∀ j, 0 ≤ j → j < len → tp_and (μ.1 2 j) 255 = T j) (hM : μ.1 5 3 = 1) (hfl : (t_flt 3 T len).1 ≠ 0) : tp_k G mX11_text [tR (some 0), tI 3, tI (-1)] μ (fun r μ' => r = some (tI (-1)) ∧ μ'.1 1 1 = 0 ∧ μ'.1 1 2 = (t_flt 3 T len).1 ∧ μ'.1 1 3 = (t_flt 3 T len).2 ∧ (∀ c, c ≠ 1 → (c < 41 ∨ 49 < c) → μ'.1 c = μ.1 c)) := by
  refine tp_ok_of mX11_text_ok rfl (Nat.le_refl _) ?_
  refine g_aload_n rfl rfl ?_
  refine x_getF (r := 1) hG rfl rfl (by decide) (Or.inl ⟨_, rfl⟩) rfl ?_
  refine x_geti (v := len) rfl rfl (by decide) (Or.inl rfl) hln ?_
  refine g_istore_n rfl rfl rfl ?_
  refine g_aload_n rfl rfl ?_
  refine x_getF (r := 1) hG rfl rfl (by decide) (Or.inl ⟨_, rfl⟩) rfl ?_
  refine g_iconst rfl ⟨by decide, by decide⟩ ?_
  refine g_puti rfl rfl (by decide) rfl rfl ?_
  refine g_aload_n rfl rfl ?_
  refine x_getF (r := 1) hG rfl rfl (by decide) (Or.inl ⟨_, rfl⟩) rfl ?_
  refine g_iconst rfl ⟨by decide, by decide⟩ ?_
  refine g_puti rfl rfl (by decide) rfl rfl ?_
  refine g_aload_n rfl rfl ?_
  refine x_getF (r := 1) hG rfl rfl (by decide) (Or.inl ⟨_, rfl⟩) rfl ?_
  refine g_iconst rfl ⟨by decide, by decide⟩ ?_
  refine g_puti rfl rfl (by decide) rfl rfl ?_
  refine g_aload_n rfl rfl ?_
  refine x_getF (r := 1) hG rfl rfl (by decide) (Or.inl ⟨_, rfl⟩) rfl ?_
  refine g_iload_n rfl rfl ?_
  refine g_iload_n rfl rfl ?_
  refine g_iV (as := [tI 3, tI (-1)]) mX9_slotFor_ok rfl rfl rfl rfl rfl rfl (by decide) rfl rfl rfl ?_
  refine g_iload_n rfl rfl ?_
  refine g_if_lt (tgt := 9) rfl (by decide) (fun hx => absurd hx (by omega)) (fun _ => ?_)
  refine g_iload_n rfl rfl ?_
  refine g_iconst rfl ⟨by decide, by decide⟩ ?_
  refine g_icmp_lt (tgt := 11) rfl (by decide) (fun _ => ?_) (fun hx => absurd hx (by omega))
  refine g_aload_n rfl rfl ?_
  refine x_getF (r := 5) hG rfl rfl (by decide) (Or.inr ⟨_, rfl⟩) rfl ?_
  refine g_iload_n rfl rfl ?_
  refine x_iald (v := 1) rfl rfl (by decide) (by decide) (by decide) hM ?_
  refine g_istore_n rfl rfl rfl ?_
  refine g_iload_n rfl rfl ?_
  refine g_iconst rfl ⟨by decide, by decide⟩ ?_
  refine g_icmp_ne (tgt := 34) rfl (by decide) (fun hx => absurd hx (by omega)) (fun _ => ?_)
  refine g_iload_n rfl rfl ?_
  refine g_iconst rfl ⟨by decide, by decide⟩ ?_
  refine g_icmp_ge (tgt := 32) rfl (by decide) (fun hx => absurd hx (by omega)) (fun _ => ?_)
  refine g_iload_n rfl rfl ?_
  refine g_goto (tgt := 33) rfl (by decide) ?_
  refine x_ireturn rfl rfl ?_
  intro _
  refine g_istore rfl rfl rfl ?_
  refine g_iload rfl rfl ?_
  refine g_iconst rfl ⟨by decide, by decide⟩ ?_
  refine g_icmp_ne (tgt := 52) rfl (by decide) (fun _ => ?_) (fun hx => absurd hx (by omega))
  refine g_aload_n rfl rfl ?_
  refine x_getF (r := 41) hG rfl rfl (by decide) (Or.inl ⟨_, rfl⟩) rfl ?_
  refine g_aload_n rfl rfl ?_
  refine x_getF (r := 1) hG rfl rfl (by decide) (Or.inl ⟨_, rfl⟩) rfl ?_
  refine x_getF (r := 2) hG rfl rfl (by decide) (Or.inr ⟨_, rfl⟩) rfl ?_
  refine g_iload_n rfl rfl ?_
  refine g_iload_n rfl rfl ?_
  refine g_cV (as := [tR (some 2), tI len, tI 3]) (s_readN3 hG hT hlen hTm hfl) rfl rfl mX5_read_ok rfl rfl rfl (by decide) rfl rfl rfl ?_
  rintro _ w1 ⟨rfl, h8, h9, hR1⟩ _
  refine g_if_ne (tgt := 101) rfl (by decide) (fun hx => absurd hx (by omega)) (fun _ => ?_)
  refine g_aload_n rfl rfl ?_
  refine x_getF (r := 1) hG rfl rfl (by decide) (Or.inl ⟨_, rfl⟩) rfl ?_
  refine g_aload_n rfl rfl ?_
  refine x_getF (r := 41) hG rfl rfl (by decide) (Or.inl ⟨_, rfl⟩) rfl ?_
  refine x_geti (v := ((t_flt 3 T len).1)) rfl rfl (by decide) (Or.inl rfl) h8 ?_
  refine g_puti rfl rfl (by decide) rfl rfl ?_
  refine g_aload_n rfl rfl ?_
  refine x_getF (r := 1) hG rfl rfl (by decide) (Or.inl ⟨_, rfl⟩) rfl ?_
  refine g_aload_n rfl rfl ?_
  refine x_getF (r := 41) hG rfl rfl (by decide) (Or.inl ⟨_, rfl⟩) rfl ?_
  refine x_geti (v := ((t_flt 3 T len).2)) rfl rfl (by decide) (Or.inl rfl) h9 ?_
  refine g_puti rfl rfl (by decide) rfl rfl ?_
  refine g_iconst rfl ⟨by decide, by decide⟩ ?_
  refine x_ireturn rfl rfl ?_
  exact ⟨rfl, (congrFun (hR1 1 (by omega)) 1).trans rfl, rfl, rfl, fun c z y => by rw [tp_pi_ne z, tp_pi_ne z, hR1 c y, tp_pi_ne z, tp_pi_ne z, tp_pi_ne z]⟩
set_option maxHeartbeats 4000000 in
set_option maxRecDepth 100000 in
theorem s_mt31m0 {G : tp_G} {μ : tp_M} (hG : tp_Gf G = true) {T : Int → Int} {len : Int} (hT : ∀ j, 0 ≤ T j ∧ T j ≤ 255) (hlen : 0 ≤ len ∧ len ≤ 600) (h203 : μ.1 203 0 = len) (hTr : ∀ j, 0 ≤ j → j < len → tp_and (μ.1 202 j) 255 = T j) (hM : μ.1 206 3 = 1) (hfl : (t_flt 3 T len).1 ≠ 0) : tp_k G mX12_text [tR (some 201), tI 3, tI (-1)] μ (fun r μ' => r = some (tI (-1)) ∧ μ'.1 203 0 = 0 ∧ μ'.1 204 0 = (t_flt 3 T len).1 ∧ μ'.1 205 0 = (t_flt 3 T len).2 ∧ m_Qc μ μ' ∧ (∀ c, m_Lc c → μ'.1 c = μ.1 c)) := by
  refine tp_ok_of mX12_text_ok rfl (Nat.le_refl _) ?_
  refine g_aload_n rfl rfl ?_
  refine g_iconst rfl ⟨by decide, by decide⟩ ?_
  refine g_puti rfl rfl (by decide) rfl rfl ?_
  refine g_aload_n rfl rfl ?_
  refine g_aload_n rfl rfl ?_
  refine x_getF (r := 203) hG rfl rfl (by decide) (Or.inr ⟨_, rfl⟩) rfl ?_
  refine g_iconst rfl ⟨by decide, by decide⟩ ?_
  refine x_iald (v := len) rfl rfl (by decide) (by decide) (by decide) h203 ?_
  refine g_puti rfl rfl (by decide) rfl rfl ?_
  refine g_aload_n rfl rfl ?_
  refine x_getF (r := 203) hG rfl rfl (by decide) (Or.inr ⟨_, rfl⟩) rfl ?_
  refine g_iconst rfl ⟨by decide, by decide⟩ ?_
  refine g_iconst rfl ⟨by decide, by decide⟩ ?_
  refine g_iast rfl rfl (by decide) (by decide) (by decide) ?_
  refine g_aload_n rfl rfl ?_
  refine x_getF (r := 204) hG rfl rfl (by decide) (Or.inr ⟨_, rfl⟩) rfl ?_
  refine g_iconst rfl ⟨by decide, by decide⟩ ?_
  refine g_iconst rfl ⟨by decide, by decide⟩ ?_
  refine g_iast rfl rfl (by decide) (by decide) (by decide) ?_
  refine g_aload_n rfl rfl ?_
  refine x_getF (r := 205) hG rfl rfl (by decide) (Or.inr ⟨_, rfl⟩) rfl ?_
  refine g_iconst rfl ⟨by decide, by decide⟩ ?_
  refine g_iconst rfl ⟨by decide, by decide⟩ ?_
  refine g_iast rfl rfl (by decide) (by decide) (by decide) ?_
  refine g_iload_n rfl rfl ?_
  refine g_iconst rfl ⟨by decide, by decide⟩ ?_
  refine g_iconst rfl ⟨by decide, by decide⟩ ?_
  refine g_iS (as := [tI 3, tI 0, tI 3]) mX12_in_ok rfl rfl rfl rfl rfl rfl rfl ?_
  refine g_iload_n rfl rfl ?_
  refine g_iload_n rfl rfl ?_
  refine g_icmp_lt (tgt := 14) rfl (by decide) (fun hx => absurd hx (by omega)) (fun _ => ?_)
  refine g_iload_n rfl rfl ?_
  refine g_iload_n rfl rfl ?_
  refine g_icmp_gt (tgt := 14) rfl (by decide) (fun hx => absurd hx (by omega)) (fun _ => ?_)
  refine g_iconst rfl ⟨by decide, by decide⟩ ?_
  refine g_goto (tgt := 15) rfl (by decide) ?_
  refine x_zreturn rfl rfl (Or.inr rfl) ?_
  intro _
  refine g_if_eq (tgt := 72) rfl (by decide) (fun hx => absurd hx (by omega)) (fun _ => ?_)
  refine g_iload_n rfl rfl ?_
  refine g_iconst rfl ⟨by decide, by decide⟩ ?_
  refine g_icmp_ne (tgt := 63) rfl (by decide) (fun hx => absurd hx (by omega)) (fun _ => ?_)
  refine g_aload_n rfl rfl ?_
  refine x_getF (r := 206) hG rfl rfl (by decide) (Or.inr ⟨_, rfl⟩) rfl ?_
  refine g_iload_n rfl rfl ?_
  refine x_iald (v := 1) rfl rfl (by decide) (by decide) (by decide) hM ?_
  refine g_iconst rfl ⟨by decide, by decide⟩ ?_
  refine g_icmp_ne (tgt := 75) rfl (by decide) (fun _ => ?_) (fun hx => absurd hx (by omega))
  refine g_aload_n rfl rfl ?_
  refine g_iload_n rfl rfl ?_
  refine g_cV (as := [tI 3]) (s_rtxN3 (T := T) (len := len) hG hT ⟨rfl, hlen, hTr⟩ hfl) rfl rfl mX12_readText_ok rfl rfl rfl (by decide) rfl rfl rfl ?_
  rintro _ w1 ⟨rfl, h204, h205, hH1⟩ _
  have hM1 : w1.1 206 3 = 1 := by rw [hH1.1 206 (by omega) (by omega) (by omega) (by omega)]; exact hM
  refine g_if_ne (tgt := 85) rfl (by decide) (fun hx => absurd hx (by omega)) (fun _ => ?_)
  refine g_iconst rfl ⟨by decide, by decide⟩ ?_
  refine x_ireturn rfl rfl ?_
  exact ⟨rfl, (congrFun (hH1.1 203 (by omega) (by omega) (by omega) (by omega)) 0).trans rfl, h204, h205, fun q z => ⟨(congrFun (hH1.1 203 (by omega) (by omega) (by omega) (by omega)) q).trans (by rw [tp_pi_ne (by omega), tp_pi_ne (by omega), tp_pi_ix (by omega)]; rfl), ((hH1.2.2.1 q (by omega)).1).trans (by rw [tp_pi_ne (by omega), tp_pi_ix (by omega)]; rfl), ((hH1.2.2.1 q (by omega)).2).trans (by rw [tp_pi_ix (by omega)]; rfl)⟩, fun c z => by rw [hH1.1 c z.1 z.2.2.2.2 z.2.2.1 z.2.2.2.1, tp_pi_ne z.2.2.2.1, tp_pi_ne z.2.2.1, tp_pi_ne z.2.1, tp_pi_ne z.1, tp_pi_ne z.1]⟩
set_option maxHeartbeats 4000000 in
set_option maxRecDepth 100000 in
theorem p_tx31m {G : tp_G} {μ : tp_M} (hG : tp_Gf G = true) (hR : tp_R μ) (hM : μ.1 5 3 = 1) : tp_q G mX11_text mX12_text [tI 3, tI (-1)] μ := by
  have hL := tp_R_len hR
  have hlen : 0 ≤ μ.1 1 1 ∧ μ.1 1 1 ≤ 600 := ⟨hL.1, hL.2.1⟩
  have hm9 := tp_R_many hR 3 (by decide) (by decide)
  have hT : ∀ j, 0 ≤ (fun j => tp_and (μ.1 2 j) 255 : Int → Int) j ∧ (fun j => tp_and (μ.1 2 j) 255 : Int → Int) j ≤ 255 := fun j => tp_and255 _
  generalize hTT : (fun j => tp_and (μ.1 2 j) 255 : Int → Int) = T at hT
  have hTm : ∀ j, 0 ≤ j → j < μ.1 1 1 → tp_and (μ.1 2 j) 255 = T j := fun j _ _ => by rw [← hTT]
  generalize hln : μ.1 1 1 = len at *
  by_cases hfl : (t_flt 3 T len).1 = 0
  · refine tp_kc (fun r μ1 z => ?_) (s_xt31m1 hG hT hlen hln hTm hM hfl)
    obtain ⟨z1, z2, z3, z4, z5, z6⟩ := z
    refine ⟨1, z1, tp_kc (fun r2 μ2 y => ?_) (s_mt31m1 (T := T) (len := len) hG hT hlen (by rw [z6 203 (by omega) (by omega) (by omega) (by omega)]; exact hL.2.2.symm) (fun j j0 j1 => by rw [z6 202 (by omega) (by omega) (by omega) (by omega), ← tp_R_tape hR j j0 (by omega)]; exact hTm j j0 j1) (by rw [z6 206 (by omega) (by omega) (by omega) (by omega)]; exact hm9.1.symm.trans hM) hfl)⟩
    obtain ⟨y1, y2, y3, y4, y5, y6, y7, y8, y9, y10⟩ := y
    have y5' : ∀ j, μ2.1 5 j = μ1.1 5 j := fun j => congrFun (y10 5 (by unfold m_Lc; omega) (by omega) (by omega)) j
    have yl : μ2.1 1 = μ1.1 1 := y10 1 (by unfold m_Lc; omega) (by omega) (by omega)
    refine ⟨y1, tp_R_k31 hR (fun k hk k1 k5 kc k2 kr => ?_) (fun q hq => ?_) (fun j hj => ?_) (fun t t0 t1 tn => ⟨?_, ?_⟩) ⟨?_, ?_, ?_⟩ (fun j hj => ?_) ⟨?_, y2⟩ ⟨?_, ?_⟩ ?_⟩
    · unfold tp_tl at hk
      rw [y10 k (by unfold m_Lc; omega) (by omega) kr, z6 k k1 k5 kc (by omega)]
    · rw [(y9 q hq).1, (y9 q hq).2.1, (y9 q hq).2.2, z6 203 (by omega) (by omega) (by omega) (by omega), z6 204 (by omega) (by omega) (by omega) (by omega), z6 205 (by omega) (by omega) (by omega) (by omega)]; exact ⟨rfl, rfl, rfl⟩
    · rw [y6 j (by omega), z6 206 (by omega) (by omega) (by omega) (by omega)]
    · rw [y5' t, z4 t tn]
    · rw [y6 t tn, z6 206 (by omega) (by omega) (by omega) (by omega)]
    · rw [y5' 3, z3, y5]
    · rw [y5' 3, z3]; omega
    · rw [y5' 3, z3]; omega
    · rw [y8 j hj, z6 210 (by omega) (by omega) (by omega) (by omega)]
    · rw [yl]; exact z2.1
    · rw [yl, y3]; exact z2.2.1
    · rw [yl, y4]; exact z2.2.2
    · exact tp_Lg_A (A := μ1.1) (fun i i0 i1 => y10 i (by unfold m_Lc; omega) (by omega) (by omega)) (tp_Lg_f (fun i i0 i1 => y7 i i0 i1) z5)
  · refine tp_kc (fun r μ1 z => ?_) (s_xt31m0 hG hT hlen hln hTm hM hfl)
    obtain ⟨z1, z2, z3, z4, z6⟩ := z
    refine ⟨-1, z1, tp_kc (fun r2 μ2 y => ?_) (s_mt31m0 (T := T) (len := len) hG hT hlen (by rw [z6 203 (by omega) (by omega)]; exact hL.2.2.symm) (fun j j0 j1 => by rw [z6 202 (by omega) (by omega), ← tp_R_tape hR j j0 (by omega)]; exact hTm j j0 j1) (by rw [z6 206 (by omega) (by omega)]; exact hm9.1.symm.trans hM) hfl)⟩
    obtain ⟨y1, y2, y3, y4, y9, y10⟩ := y
    have yl : μ2.1 1 = μ1.1 1 := y10 1 (by unfold m_Lc; omega)
    refine ⟨y1, tp_R_head hR (fun k hk k1 k2 k3 => ?_) (fun j hj => ?_) (fun q hq => ?_) ?_ (fun j j0 j1 => ?_) ⟨?_, ?_⟩⟩
    · unfold tp_tl at hk
      rw [y10 k (by unfold m_Lc; omega), z6 k k1 (by omega)]
    · rw [y10 202 (by unfold m_Lc; omega), z6 202 (by omega) (by omega)]
    · rw [(y9 q hq).1, (y9 q hq).2.1, (y9 q hq).2.2, z6 203 (by omega) (by omega), z6 204 (by omega) (by omega), z6 205 (by omega) (by omega)]; exact ⟨rfl, rfl, rfl⟩
    · rw [yl, z2, y2]; decide
    · rw [yl, z2] at j1; omega
    · rw [yl, z3, y3]
    · rw [yl, z4, y4]
set_option maxHeartbeats 4000000 in
set_option maxRecDepth 100000 in
theorem s_xt31s1 {G : tp_G} {μ : tp_M} (hG : tp_Gf G = true) {T : Int → Int} {len : Int} (hT : ∀ j, 0 ≤ T j ∧ T j ≤ 255) (hlen : 0 ≤ len ∧ len ≤ 600) (hln : μ.1 1 1 = len) (hTm : ∀ j, 0 ≤ j → j < len → tp_and (μ.1 2 j) 255 = T j) {M : Int} (hM : μ.1 5 3 = M) (hMs : 1 < M ∧ M ≤ 2) (hfl : (t_flt 3 T len).1 = 0) : tp_k G mX11_text [tR (some 0), tI 3, tI 1] μ (fun r μ' => r = some (tI 1) ∧ (μ'.1 1 1 = 0 ∧ μ'.1 1 2 = 0 ∧ μ'.1 1 3 = -1) ∧ μ'.1 5 3 = M ∧ (∀ t, t ≠ 3 → μ'.1 5 t = μ.1 5 t) ∧ tp_Lg μ'.1 37 (t_tld 3 T len) ∧ (∀ c, c ≠ 1 → c ≠ 5 → (c < 37 ∨ 39 < c) → (c < 41 ∨ 49 < c) → μ'.1 c = μ.1 c)) := by
  refine tp_ok_of mX11_text_ok rfl (Nat.le_refl _) ?_
  refine g_aload_n rfl rfl ?_
  refine x_getF (r := 1) hG rfl rfl (by decide) (Or.inl ⟨_, rfl⟩) rfl ?_
  refine x_geti (v := len) rfl rfl (by decide) (Or.inl rfl) hln ?_
  refine g_istore_n rfl rfl rfl ?_
  refine g_aload_n rfl rfl ?_
  refine x_getF (r := 1) hG rfl rfl (by decide) (Or.inl ⟨_, rfl⟩) rfl ?_
  refine g_iconst rfl ⟨by decide, by decide⟩ ?_
  refine g_puti rfl rfl (by decide) rfl rfl ?_
  refine g_aload_n rfl rfl ?_
  refine x_getF (r := 1) hG rfl rfl (by decide) (Or.inl ⟨_, rfl⟩) rfl ?_
  refine g_iconst rfl ⟨by decide, by decide⟩ ?_
  refine g_puti rfl rfl (by decide) rfl rfl ?_
  refine g_aload_n rfl rfl ?_
  refine x_getF (r := 1) hG rfl rfl (by decide) (Or.inl ⟨_, rfl⟩) rfl ?_
  refine g_iconst rfl ⟨by decide, by decide⟩ ?_
  refine g_puti rfl rfl (by decide) rfl rfl ?_
  refine g_aload_n rfl rfl ?_
  refine x_getF (r := 1) hG rfl rfl (by decide) (Or.inl ⟨_, rfl⟩) rfl ?_
  refine g_iload_n rfl rfl ?_
  refine g_iload_n rfl rfl ?_
  refine g_iV (as := [tI 3, tI 1]) mX9_slotFor_ok rfl rfl rfl rfl rfl rfl (by decide) rfl rfl rfl ?_
  refine g_iload_n rfl rfl ?_
  refine g_if_lt (tgt := 9) rfl (by decide) (fun hx => absurd hx (by omega)) (fun _ => ?_)
  refine g_iload_n rfl rfl ?_
  refine g_iconst rfl ⟨by decide, by decide⟩ ?_
  refine g_icmp_lt (tgt := 11) rfl (by decide) (fun _ => ?_) (fun hx => absurd hx (by omega))
  refine g_aload_n rfl rfl ?_
  refine x_getF (r := 5) hG rfl rfl (by decide) (Or.inr ⟨_, rfl⟩) rfl ?_
  refine g_iload_n rfl rfl ?_
  refine x_iald (v := M) rfl rfl (by decide) (by decide) (by decide) hM ?_
  refine g_istore_n rfl rfl rfl ?_
  refine g_iload_n rfl rfl ?_
  refine g_iconst rfl ⟨by decide, by decide⟩ ?_
  refine g_icmp_ne (tgt := 34) rfl (by decide) (fun _ => ?_) (fun hx => absurd hx (by omega))
  refine g_iload_n rfl rfl ?_
  refine g_if_lt (tgt := 43) rfl (by decide) (fun hx => absurd hx (by omega)) (fun _ => ?_)
  refine g_iload_n rfl rfl ?_
  refine g_iload_n rfl rfl ?_
  refine g_icmp_lt (tgt := 47) rfl (by decide) (fun _ => ?_) (fun hx => absurd hx (by omega))
  refine g_iload_n rfl rfl ?_
  refine x_ireturn rfl rfl ?_
  intro _
  refine g_istore rfl rfl rfl ?_
  refine g_iload rfl rfl ?_
  refine g_iconst rfl ⟨by decide, by decide⟩ ?_
  refine g_icmp_ne (tgt := 52) rfl (by decide) (fun _ => ?_) (fun hx => absurd hx (by omega))
  refine g_aload_n rfl rfl ?_
  refine x_getF (r := 41) hG rfl rfl (by decide) (Or.inl ⟨_, rfl⟩) rfl ?_
  refine g_aload_n rfl rfl ?_
  refine x_getF (r := 1) hG rfl rfl (by decide) (Or.inl ⟨_, rfl⟩) rfl ?_
  refine x_getF (r := 2) hG rfl rfl (by decide) (Or.inr ⟨_, rfl⟩) rfl ?_
  refine g_iload_n rfl rfl ?_
  refine g_iload_n rfl rfl ?_
  refine g_cV (as := [tR (some 2), tI len, tI 3]) (s_readY3 hG hT hlen hTm hfl) rfl rfl mX5_read_ok rfl rfl rfl (by decide) rfl rfl rfl ?_
  rintro _ w1 ⟨rfl, hct, hR1⟩ _
  have hwm := t_wm3 hlen.1 hfl
  have hsz9 : 0 ≤ w1.1 47 2 ∧ w1.1 47 2 ≤ 8 := by have := hct.1; have := hwm.1; omega
  refine g_if_ne (tgt := 101) rfl (by decide) (fun _ => ?_) (fun hx => absurd hx (by omega))
  refine g_aload_n rfl rfl ?_
  refine x_getF (r := 1) hG rfl rfl (by decide) (Or.inl ⟨_, rfl⟩) rfl ?_
  refine g_iload_n rfl rfl ?_
  refine g_iload rfl rfl ?_
  refine g_aload_n rfl rfl ?_
  refine x_getF (r := 41) hG rfl rfl (by decide) (Or.inl ⟨_, rfl⟩) rfl ?_
  refine g_iV (as := [tI 3, tI 1, tR (some 41)]) mX9_keep_ok rfl rfl rfl rfl rfl rfl (by decide) rfl rfl rfl ?_
  refine g_iload_n rfl rfl ?_
  refine g_if_lt (tgt := 18) rfl (by decide) (fun hx => absurd hx (by omega)) (fun _ => ?_)
  refine g_iload_n rfl rfl ?_
  refine g_iconst rfl ⟨by decide, by decide⟩ ?_
  refine g_icmp_ge (tgt := 18) rfl (by decide) (fun hx => absurd hx (by omega)) (fun _ => ?_)
  refine g_iload_n rfl rfl ?_
  refine g_if_lt (tgt := 18) rfl (by decide) (fun hx => absurd hx (by omega)) (fun _ => ?_)
  refine g_iload_n rfl rfl ?_
  refine g_iconst rfl ⟨by decide, by decide⟩ ?_
  refine g_icmp_lt (tgt := 19) rfl (by decide) (fun _ => ?_) (fun hx => absurd hx (by omega))
  refine g_iload_n rfl rfl ?_
  refine g_if_ne (tgt := 39) rfl (by decide) (fun _ => ?_) (fun hx => absurd hx (by omega))
  refine g_aload_n rfl rfl ?_
  refine x_getF (r := 4) hG rfl rfl (by decide) (Or.inr ⟨_, rfl⟩) rfl ?_
  refine g_iload_n rfl rfl ?_
  refine g_iconst rfl ⟨by decide, by decide⟩ ?_
  refine x_imul (z := 6) rfl (by omega) ⟨by omega, by omega⟩ ?_
  refine g_iload_n rfl rfl ?_
  refine x_iadd (z := 7) rfl (by omega) ⟨by omega, by omega⟩ ?_
  refine x_aald (t0 := 5) (r := 37) hG rfl rfl rfl (by decide) (by decide) (by decide) rfl ?_
  refine g_aload_n rfl rfl ?_
  refine x_getF (r := 47) hG rfl rfl (by decide) (Or.inl ⟨_, rfl⟩) rfl ?_
  refine g_cV (as := [tR (some 47)]) (s_rcop2 hG (c := 47) (d := 37) rfl rfl (by decide) (by decide) (by decide) hsz9.1 (show w1.1 47 2 ≤ (60 : Int) by omega) (show w1.1 47 2 ≤ (8 : Int) by omega) (by omega)) rfl rfl mX6_copyFrom_ok rfl rfl rfl (by decide) rfl rfl rfl ?_
  rintro _ w2 ⟨rfl, hK2, hK3, hF2⟩ _
  have hM2 : w2.1 5 3 = M := by rw [hF2 5 (by omega), hR1 5 (by omega)]; exact hM
  refine g_aload_n rfl rfl ?_
  refine x_getF (r := 5) hG rfl rfl (by decide) (Or.inr ⟨_, rfl⟩) rfl ?_
  refine g_iload_n rfl rfl ?_
  refine g_aload_n rfl rfl ?_
  refine x_getF (r := 5) hG rfl rfl (by decide) (Or.inr ⟨_, rfl⟩) rfl ?_
  refine g_iload_n rfl rfl ?_
  refine x_iald (v := M) rfl rfl (by decide) (by decide) (by decide) hM2 ?_
  refine g_iload_n rfl rfl ?_
  refine g_iconst rfl ⟨by decide, by decide⟩ ?_
  refine x_iadd (z := 2) rfl (by omega) ⟨by omega, by omega⟩ ?_
  refine x_max (z := 2) rfl rfl (by omega) ?_
  refine g_iast rfl rfl (by decide) (by decide) (by decide) ?_
  refine x_return rfl rfl ?_
  intro _
  refine g_iload rfl rfl ?_
  refine x_ireturn rfl rfl ?_
  exact ⟨rfl, ⟨by rw [tp_pi_ne (by omega), hF2 1 (by omega), hR1 1 (by omega)]; rfl, by rw [tp_pi_ne (by omega), hF2 1 (by omega), hR1 1 (by omega)]; rfl, by rw [tp_pi_ne (by omega), hF2 1 (by omega), hR1 1 (by omega)]; rfl⟩, tp_pi_at.trans (by omega), fun t z => by rw [tp_pi_ix z, hF2 5 (by omega), hR1 5 (by omega)]; rfl, tp_Lg_A (A := w2.1) (fun i i0 i1 => tp_pi_ne (by omega)) (x_k3 hct hwm.1 hwm.2 ⟨hK2, hK3⟩), fun c z1 z2 z3 z4 => by rw [tp_pi_ne z2, hF2 c (by omega), hR1 c z4, tp_pi_ne z1, tp_pi_ne z1, tp_pi_ne z1]⟩
set_option maxHeartbeats 4000000 in
set_option maxRecDepth 100000 in
theorem s_mt31s1 {G : tp_G} {μ : tp_M} (hG : tp_Gf G = true) {T : Int → Int} {len : Int} (hT : ∀ j, 0 ≤ T j ∧ T j ≤ 255) (hlen : 0 ≤ len ∧ len ≤ 600) (h203 : μ.1 203 0 = len) (hTr : ∀ j, 0 ≤ j → j < len → tp_and (μ.1 202 j) 255 = T j) {M : Int} (hM : μ.1 206 3 = M) (hMs : 1 < M ∧ M ≤ 2) (hfl : (t_flt 3 T len).1 = 0) : tp_k G mX12_text [tR (some 201), tI 3, tI 1] μ (fun r μ' => r = some (tI 1) ∧ μ'.1 203 0 = 0 ∧ μ'.1 204 0 = 0 ∧ μ'.1 205 0 = -1 ∧ μ'.1 206 3 = M ∧ (∀ t, t ≠ 3 → μ'.1 206 t = μ.1 206 t) ∧ (∀ j, 0 ≤ j → j < 17 → μ'.1 210 (17 + j) = t_tld 3 T len j) ∧ (∀ j, (j < 17 ∨ 34 ≤ j) → μ'.1 210 j = μ.1 210 j) ∧ m_Qc μ μ' ∧ (∀ c, m_Lc c → c ≠ 206 → c ≠ 210 → μ'.1 c = μ.1 c)) := by
  refine tp_ok_of mX12_text_ok rfl (Nat.le_refl _) ?_
  refine g_aload_n rfl rfl ?_
  refine g_iconst rfl ⟨by decide, by decide⟩ ?_
  refine g_puti rfl rfl (by decide) rfl rfl ?_
  refine g_aload_n rfl rfl ?_
  refine g_aload_n rfl rfl ?_
  refine x_getF (r := 203) hG rfl rfl (by decide) (Or.inr ⟨_, rfl⟩) rfl ?_
  refine g_iconst rfl ⟨by decide, by decide⟩ ?_
  refine x_iald (v := len) rfl rfl (by decide) (by decide) (by decide) h203 ?_
  refine g_puti rfl rfl (by decide) rfl rfl ?_
  refine g_aload_n rfl rfl ?_
  refine x_getF (r := 203) hG rfl rfl (by decide) (Or.inr ⟨_, rfl⟩) rfl ?_
  refine g_iconst rfl ⟨by decide, by decide⟩ ?_
  refine g_iconst rfl ⟨by decide, by decide⟩ ?_
  refine g_iast rfl rfl (by decide) (by decide) (by decide) ?_
  refine g_aload_n rfl rfl ?_
  refine x_getF (r := 204) hG rfl rfl (by decide) (Or.inr ⟨_, rfl⟩) rfl ?_
  refine g_iconst rfl ⟨by decide, by decide⟩ ?_
  refine g_iconst rfl ⟨by decide, by decide⟩ ?_
  refine g_iast rfl rfl (by decide) (by decide) (by decide) ?_
  refine g_aload_n rfl rfl ?_
  refine x_getF (r := 205) hG rfl rfl (by decide) (Or.inr ⟨_, rfl⟩) rfl ?_
  refine g_iconst rfl ⟨by decide, by decide⟩ ?_
  refine g_iconst rfl ⟨by decide, by decide⟩ ?_
  refine g_iast rfl rfl (by decide) (by decide) (by decide) ?_
  refine g_iload_n rfl rfl ?_
  refine g_iconst rfl ⟨by decide, by decide⟩ ?_
  refine g_iconst rfl ⟨by decide, by decide⟩ ?_
  refine g_iS (as := [tI 3, tI 0, tI 3]) mX12_in_ok rfl rfl rfl rfl rfl rfl rfl ?_
  refine g_iload_n rfl rfl ?_
  refine g_iload_n rfl rfl ?_
  refine g_icmp_lt (tgt := 14) rfl (by decide) (fun hx => absurd hx (by omega)) (fun _ => ?_)
  refine g_iload_n rfl rfl ?_
  refine g_iload_n rfl rfl ?_
  refine g_icmp_gt (tgt := 14) rfl (by decide) (fun hx => absurd hx (by omega)) (fun _ => ?_)
  refine g_iconst rfl ⟨by decide, by decide⟩ ?_
  refine g_goto (tgt := 15) rfl (by decide) ?_
  refine x_zreturn rfl rfl (Or.inr rfl) ?_
  intro _
  refine g_if_eq (tgt := 72) rfl (by decide) (fun hx => absurd hx (by omega)) (fun _ => ?_)
  refine g_iload_n rfl rfl ?_
  refine g_iconst rfl ⟨by decide, by decide⟩ ?_
  refine g_icmp_ne (tgt := 63) rfl (by decide) (fun _ => ?_) (fun hx => absurd hx (by omega))
  refine g_aload_n rfl rfl ?_
  refine g_iload_n rfl rfl ?_
  refine g_iload_n rfl rfl ?_
  refine g_iV (as := [tI 3, tI 1]) mX12_is_ok rfl rfl rfl rfl rfl rfl (by decide) rfl rfl rfl ?_
  refine g_iload_n rfl rfl ?_
  refine g_iconst rfl ⟨by decide, by decide⟩ ?_
  refine g_aload_n rfl rfl ?_
  refine x_getF (r := 206) hG rfl rfl (by decide) (Or.inr ⟨_, rfl⟩) rfl ?_
  refine g_iload_n rfl rfl ?_
  refine x_iald (v := M) rfl rfl (by decide) (by decide) (by decide) hM ?_
  refine g_iconst rfl ⟨by decide, by decide⟩ ?_
  refine x_isub (z := M - 1) rfl (by omega) ⟨by omega, by omega⟩ ?_
  refine g_iS (as := [tI 1, tI 0, tI (M - 1)]) mX12_in_ok rfl rfl rfl rfl rfl rfl rfl ?_
  refine g_iload_n rfl rfl ?_
  refine g_iload_n rfl rfl ?_
  refine g_icmp_lt (tgt := 14) rfl (by decide) (fun hx => absurd hx (by omega)) (fun _ => ?_)
  refine g_iload_n rfl rfl ?_
  refine g_iload_n rfl rfl ?_
  refine g_icmp_gt (tgt := 14) rfl (by decide) (fun hx => absurd hx (by omega)) (fun _ => ?_)
  refine g_iconst rfl ⟨by decide, by decide⟩ ?_
  refine g_goto (tgt := 15) rfl (by decide) ?_
  refine x_zreturn rfl rfl (Or.inr rfl) ?_
  intro _
  refine x_zreturn rfl rfl (Or.inr rfl) ?_
  intro _
  refine g_if_ne (tgt := 75) rfl (by decide) (fun _ => ?_) (fun hx => absurd hx (by omega))
  refine g_aload_n rfl rfl ?_
  refine g_iload_n rfl rfl ?_
  refine g_cV (as := [tI 3]) (s_rtxY3 (T := T) (len := len) hG hT ⟨rfl, hlen, hTr⟩ hfl) rfl rfl mX12_readText_ok rfl rfl rfl (by decide) rfl rfl rfl ?_
  rintro _ w1 ⟨rfl, h204, h205, hto, hH1⟩ _
  have hM1 : w1.1 206 3 = M := by rw [hH1.1 206 (by omega) (by omega) (by omega) (by omega)]; exact hM
  refine g_if_ne (tgt := 85) rfl (by decide) (fun _ => ?_) (fun hx => absurd hx (by omega))
  refine g_iload_n rfl rfl ?_
  refine g_iconst rfl ⟨by decide, by decide⟩ ?_
  refine g_icmp_ne (tgt := 99) rfl (by decide) (fun _ => ?_) (fun hx => absurd hx (by omega))
  refine g_iload_n rfl rfl ?_
  refine g_istore_n rfl rfl rfl ?_
  refine g_aload_n rfl rfl ?_
  refine x_getF (r := 206) hG rfl rfl (by decide) (Or.inr ⟨_, rfl⟩) rfl ?_
  refine g_iload_n rfl rfl ?_
  refine g_dup2 rfl ?_
  refine x_iald (v := M) rfl rfl (by decide) (by decide) (by decide) hM1 ?_
  refine g_iload_n rfl rfl ?_
  refine g_iconst rfl ⟨by decide, by decide⟩ ?_
  refine g_icmp_ne (tgt := 117) rfl (by decide) (fun _ => ?_) (fun hx => absurd hx (by omega))
  refine g_iconst rfl ⟨by decide, by decide⟩ ?_
  refine x_iadd (z := M) rfl (by omega) ⟨by omega, by omega⟩ ?_
  refine g_iast rfl rfl (by decide) (by decide) (by decide) ?_
  refine g_iload_n rfl rfl ?_
  refine g_if_ne (tgt := 139) rfl (by decide) (fun _ => ?_) (fun hx => absurd hx (by omega))
  refine g_iload_n rfl rfl ?_
  refine g_iconst rfl ⟨by decide, by decide⟩ ?_
  refine g_icmp_ne (tgt := 158) rfl (by decide) (fun _ => ?_) (fun hx => absurd hx (by omega))
  refine g_iload_n rfl rfl ?_
  refine g_iconst rfl ⟨by decide, by decide⟩ ?_
  refine g_icmp_ne (tgt := 177) rfl (by decide) (fun _ => ?_) (fun hx => absurd hx (by omega))
  refine g_aload_n rfl rfl ?_
  refine g_aload_n rfl rfl ?_
  refine x_getF (r := 210) hG rfl rfl (by decide) (Or.inr ⟨_, rfl⟩) rfl ?_
  refine g_bipush rfl ⟨by decide, by decide⟩ (by decide) ?_
  refine g_iload_n rfl rfl ?_
  refine g_cV (as := [tR (some 210), tI 17, tI 1]) (s_kpt31 hG) rfl rfl mX12_keep_ok rfl rfl rfl (by decide) rfl rfl rfl ?_
  rintro _ w2 ⟨rfl, hv2, hw2, hF2⟩ _
  refine g_iload_n rfl rfl ?_
  refine x_ireturn rfl rfl ?_
  have q203 : w2.1 203 = _ := (hF2 203 (by omega)).trans ((tp_pi_ne (by omega)).trans (hH1.1 203 (by omega) (by omega) (by omega) (by omega)))
  have q204 : w2.1 204 = w1.1 204 := (hF2 204 (by omega)).trans (tp_pi_ne (by omega))
  have q205 : w2.1 205 = w1.1 205 := (hF2 205 (by omega)).trans (tp_pi_ne (by omega))
  have q206 : w2.1 206 = (tp_pi w1 206 3 M).1 206 := hF2 206 (by omega)
  have q211 : (tp_pi w1 206 3 M).1 211 = w1.1 211 := tp_pi_ne (by omega)
  have qrc : (tp_pi w1 206 3 M).1 210 = _ := (tp_pi_ne (by omega)).trans (hH1.1 210 (by omega) (by omega) (by omega) (by omega))
  refine ⟨rfl, (congrFun q203 0).trans rfl, (congrFun q204 0).trans h204, (congrFun q205 0).trans h205, (congrFun q206 3).trans tp_pi_at, fun t z => ?_, fun j j0 j1 => ((hv2 j j0 j1).trans (congrFun q211 j)).trans (hto j j0 (by omega)), fun j z => ((hw2 j z).trans (congrFun qrc j)).trans rfl, fun q z => ⟨?_, ?_, ?_⟩, fun c z y1 y2 => ?_⟩
  · rw [q206, tp_pi_ix z, hH1.1 206 (by omega) (by omega) (by omega) (by omega)]; rfl
  · rw [q203, tp_pi_ne (by omega), tp_pi_ne (by omega), tp_pi_ix (by omega)]; rfl
  · rw [q204, (hH1.2.2.1 q (by omega)).1, tp_pi_ne (by omega), tp_pi_ix (by omega)]; rfl
  · rw [q205, (hH1.2.2.1 q (by omega)).2, tp_pi_ix (by omega)]; rfl
  · rw [hF2 c y2, tp_pi_ne y1, hH1.1 c z.1 z.2.2.2.2 z.2.2.1 z.2.2.2.1, tp_pi_ne z.2.2.2.1, tp_pi_ne z.2.2.1, tp_pi_ne z.2.1, tp_pi_ne z.1, tp_pi_ne z.1]
set_option maxHeartbeats 4000000 in
set_option maxRecDepth 100000 in
theorem s_xt31s0 {G : tp_G} {μ : tp_M} (hG : tp_Gf G = true) {T : Int → Int} {len : Int} (hT : ∀ j, 0 ≤ T j ∧ T j ≤ 255) (hlen : 0 ≤ len ∧ len ≤ 600) (hln : μ.1 1 1 = len) (hTm : ∀ j, 0 ≤ j → j < len → tp_and (μ.1 2 j) 255 = T j) {M : Int} (hM : μ.1 5 3 = M) (hMs : 1 < M ∧ M ≤ 2) (hfl : (t_flt 3 T len).1 ≠ 0) : tp_k G mX11_text [tR (some 0), tI 3, tI 1] μ (fun r μ' => r = some (tI (-1)) ∧ μ'.1 1 1 = 0 ∧ μ'.1 1 2 = (t_flt 3 T len).1 ∧ μ'.1 1 3 = (t_flt 3 T len).2 ∧ (∀ c, c ≠ 1 → (c < 41 ∨ 49 < c) → μ'.1 c = μ.1 c)) := by
  refine tp_ok_of mX11_text_ok rfl (Nat.le_refl _) ?_
  refine g_aload_n rfl rfl ?_
  refine x_getF (r := 1) hG rfl rfl (by decide) (Or.inl ⟨_, rfl⟩) rfl ?_
  refine x_geti (v := len) rfl rfl (by decide) (Or.inl rfl) hln ?_
  refine g_istore_n rfl rfl rfl ?_
  refine g_aload_n rfl rfl ?_
  refine x_getF (r := 1) hG rfl rfl (by decide) (Or.inl ⟨_, rfl⟩) rfl ?_
  refine g_iconst rfl ⟨by decide, by decide⟩ ?_
  refine g_puti rfl rfl (by decide) rfl rfl ?_
  refine g_aload_n rfl rfl ?_
  refine x_getF (r := 1) hG rfl rfl (by decide) (Or.inl ⟨_, rfl⟩) rfl ?_
  refine g_iconst rfl ⟨by decide, by decide⟩ ?_
  refine g_puti rfl rfl (by decide) rfl rfl ?_
  refine g_aload_n rfl rfl ?_
  refine x_getF (r := 1) hG rfl rfl (by decide) (Or.inl ⟨_, rfl⟩) rfl ?_
  refine g_iconst rfl ⟨by decide, by decide⟩ ?_
  refine g_puti rfl rfl (by decide) rfl rfl ?_
  refine g_aload_n rfl rfl ?_
  refine x_getF (r := 1) hG rfl rfl (by decide) (Or.inl ⟨_, rfl⟩) rfl ?_
  refine g_iload_n rfl rfl ?_
  refine g_iload_n rfl rfl ?_
  refine g_iV (as := [tI 3, tI 1]) mX9_slotFor_ok rfl rfl rfl rfl rfl rfl (by decide) rfl rfl rfl ?_
  refine g_iload_n rfl rfl ?_
  refine g_if_lt (tgt := 9) rfl (by decide) (fun hx => absurd hx (by omega)) (fun _ => ?_)
  refine g_iload_n rfl rfl ?_
  refine g_iconst rfl ⟨by decide, by decide⟩ ?_
  refine g_icmp_lt (tgt := 11) rfl (by decide) (fun _ => ?_) (fun hx => absurd hx (by omega))
  refine g_aload_n rfl rfl ?_
  refine x_getF (r := 5) hG rfl rfl (by decide) (Or.inr ⟨_, rfl⟩) rfl ?_
  refine g_iload_n rfl rfl ?_
  refine x_iald (v := M) rfl rfl (by decide) (by decide) (by decide) hM ?_
  refine g_istore_n rfl rfl rfl ?_
  refine g_iload_n rfl rfl ?_
  refine g_iconst rfl ⟨by decide, by decide⟩ ?_
  refine g_icmp_ne (tgt := 34) rfl (by decide) (fun _ => ?_) (fun hx => absurd hx (by omega))
  refine g_iload_n rfl rfl ?_
  refine g_if_lt (tgt := 43) rfl (by decide) (fun hx => absurd hx (by omega)) (fun _ => ?_)
  refine g_iload_n rfl rfl ?_
  refine g_iload_n rfl rfl ?_
  refine g_icmp_lt (tgt := 47) rfl (by decide) (fun _ => ?_) (fun hx => absurd hx (by omega))
  refine g_iload_n rfl rfl ?_
  refine x_ireturn rfl rfl ?_
  intro _
  refine g_istore rfl rfl rfl ?_
  refine g_iload rfl rfl ?_
  refine g_iconst rfl ⟨by decide, by decide⟩ ?_
  refine g_icmp_ne (tgt := 52) rfl (by decide) (fun _ => ?_) (fun hx => absurd hx (by omega))
  refine g_aload_n rfl rfl ?_
  refine x_getF (r := 41) hG rfl rfl (by decide) (Or.inl ⟨_, rfl⟩) rfl ?_
  refine g_aload_n rfl rfl ?_
  refine x_getF (r := 1) hG rfl rfl (by decide) (Or.inl ⟨_, rfl⟩) rfl ?_
  refine x_getF (r := 2) hG rfl rfl (by decide) (Or.inr ⟨_, rfl⟩) rfl ?_
  refine g_iload_n rfl rfl ?_
  refine g_iload_n rfl rfl ?_
  refine g_cV (as := [tR (some 2), tI len, tI 3]) (s_readN3 hG hT hlen hTm hfl) rfl rfl mX5_read_ok rfl rfl rfl (by decide) rfl rfl rfl ?_
  rintro _ w1 ⟨rfl, h8, h9, hR1⟩ _
  refine g_if_ne (tgt := 101) rfl (by decide) (fun hx => absurd hx (by omega)) (fun _ => ?_)
  refine g_aload_n rfl rfl ?_
  refine x_getF (r := 1) hG rfl rfl (by decide) (Or.inl ⟨_, rfl⟩) rfl ?_
  refine g_aload_n rfl rfl ?_
  refine x_getF (r := 41) hG rfl rfl (by decide) (Or.inl ⟨_, rfl⟩) rfl ?_
  refine x_geti (v := ((t_flt 3 T len).1)) rfl rfl (by decide) (Or.inl rfl) h8 ?_
  refine g_puti rfl rfl (by decide) rfl rfl ?_
  refine g_aload_n rfl rfl ?_
  refine x_getF (r := 1) hG rfl rfl (by decide) (Or.inl ⟨_, rfl⟩) rfl ?_
  refine g_aload_n rfl rfl ?_
  refine x_getF (r := 41) hG rfl rfl (by decide) (Or.inl ⟨_, rfl⟩) rfl ?_
  refine x_geti (v := ((t_flt 3 T len).2)) rfl rfl (by decide) (Or.inl rfl) h9 ?_
  refine g_puti rfl rfl (by decide) rfl rfl ?_
  refine g_iconst rfl ⟨by decide, by decide⟩ ?_
  refine x_ireturn rfl rfl ?_
  exact ⟨rfl, (congrFun (hR1 1 (by omega)) 1).trans rfl, rfl, rfl, fun c z y => by rw [tp_pi_ne z, tp_pi_ne z, hR1 c y, tp_pi_ne z, tp_pi_ne z, tp_pi_ne z]⟩
set_option maxHeartbeats 4000000 in
set_option maxRecDepth 100000 in
theorem s_mt31s0 {G : tp_G} {μ : tp_M} (hG : tp_Gf G = true) {T : Int → Int} {len : Int} (hT : ∀ j, 0 ≤ T j ∧ T j ≤ 255) (hlen : 0 ≤ len ∧ len ≤ 600) (h203 : μ.1 203 0 = len) (hTr : ∀ j, 0 ≤ j → j < len → tp_and (μ.1 202 j) 255 = T j) {M : Int} (hM : μ.1 206 3 = M) (hMs : 1 < M ∧ M ≤ 2) (hfl : (t_flt 3 T len).1 ≠ 0) : tp_k G mX12_text [tR (some 201), tI 3, tI 1] μ (fun r μ' => r = some (tI (-1)) ∧ μ'.1 203 0 = 0 ∧ μ'.1 204 0 = (t_flt 3 T len).1 ∧ μ'.1 205 0 = (t_flt 3 T len).2 ∧ m_Qc μ μ' ∧ (∀ c, m_Lc c → μ'.1 c = μ.1 c)) := by
  refine tp_ok_of mX12_text_ok rfl (Nat.le_refl _) ?_
  refine g_aload_n rfl rfl ?_
  refine g_iconst rfl ⟨by decide, by decide⟩ ?_
  refine g_puti rfl rfl (by decide) rfl rfl ?_
  refine g_aload_n rfl rfl ?_
  refine g_aload_n rfl rfl ?_
  refine x_getF (r := 203) hG rfl rfl (by decide) (Or.inr ⟨_, rfl⟩) rfl ?_
  refine g_iconst rfl ⟨by decide, by decide⟩ ?_
  refine x_iald (v := len) rfl rfl (by decide) (by decide) (by decide) h203 ?_
  refine g_puti rfl rfl (by decide) rfl rfl ?_
  refine g_aload_n rfl rfl ?_
  refine x_getF (r := 203) hG rfl rfl (by decide) (Or.inr ⟨_, rfl⟩) rfl ?_
  refine g_iconst rfl ⟨by decide, by decide⟩ ?_
  refine g_iconst rfl ⟨by decide, by decide⟩ ?_
  refine g_iast rfl rfl (by decide) (by decide) (by decide) ?_
  refine g_aload_n rfl rfl ?_
  refine x_getF (r := 204) hG rfl rfl (by decide) (Or.inr ⟨_, rfl⟩) rfl ?_
  refine g_iconst rfl ⟨by decide, by decide⟩ ?_
  refine g_iconst rfl ⟨by decide, by decide⟩ ?_
  refine g_iast rfl rfl (by decide) (by decide) (by decide) ?_
  refine g_aload_n rfl rfl ?_
  refine x_getF (r := 205) hG rfl rfl (by decide) (Or.inr ⟨_, rfl⟩) rfl ?_
  refine g_iconst rfl ⟨by decide, by decide⟩ ?_
  refine g_iconst rfl ⟨by decide, by decide⟩ ?_
  refine g_iast rfl rfl (by decide) (by decide) (by decide) ?_
  refine g_iload_n rfl rfl ?_
  refine g_iconst rfl ⟨by decide, by decide⟩ ?_
  refine g_iconst rfl ⟨by decide, by decide⟩ ?_
  refine g_iS (as := [tI 3, tI 0, tI 3]) mX12_in_ok rfl rfl rfl rfl rfl rfl rfl ?_
  refine g_iload_n rfl rfl ?_
  refine g_iload_n rfl rfl ?_
  refine g_icmp_lt (tgt := 14) rfl (by decide) (fun hx => absurd hx (by omega)) (fun _ => ?_)
  refine g_iload_n rfl rfl ?_
  refine g_iload_n rfl rfl ?_
  refine g_icmp_gt (tgt := 14) rfl (by decide) (fun hx => absurd hx (by omega)) (fun _ => ?_)
  refine g_iconst rfl ⟨by decide, by decide⟩ ?_
  refine g_goto (tgt := 15) rfl (by decide) ?_
  refine x_zreturn rfl rfl (Or.inr rfl) ?_
  intro _
  refine g_if_eq (tgt := 72) rfl (by decide) (fun hx => absurd hx (by omega)) (fun _ => ?_)
  refine g_iload_n rfl rfl ?_
  refine g_iconst rfl ⟨by decide, by decide⟩ ?_
  refine g_icmp_ne (tgt := 63) rfl (by decide) (fun _ => ?_) (fun hx => absurd hx (by omega))
  refine g_aload_n rfl rfl ?_
  refine g_iload_n rfl rfl ?_
  refine g_iload_n rfl rfl ?_
  refine g_iV (as := [tI 3, tI 1]) mX12_is_ok rfl rfl rfl rfl rfl rfl (by decide) rfl rfl rfl ?_
  refine g_iload_n rfl rfl ?_
  refine g_iconst rfl ⟨by decide, by decide⟩ ?_
  refine g_aload_n rfl rfl ?_
  refine x_getF (r := 206) hG rfl rfl (by decide) (Or.inr ⟨_, rfl⟩) rfl ?_
  refine g_iload_n rfl rfl ?_
  refine x_iald (v := M) rfl rfl (by decide) (by decide) (by decide) hM ?_
  refine g_iconst rfl ⟨by decide, by decide⟩ ?_
  refine x_isub (z := M - 1) rfl (by omega) ⟨by omega, by omega⟩ ?_
  refine g_iS (as := [tI 1, tI 0, tI (M - 1)]) mX12_in_ok rfl rfl rfl rfl rfl rfl rfl ?_
  refine g_iload_n rfl rfl ?_
  refine g_iload_n rfl rfl ?_
  refine g_icmp_lt (tgt := 14) rfl (by decide) (fun hx => absurd hx (by omega)) (fun _ => ?_)
  refine g_iload_n rfl rfl ?_
  refine g_iload_n rfl rfl ?_
  refine g_icmp_gt (tgt := 14) rfl (by decide) (fun hx => absurd hx (by omega)) (fun _ => ?_)
  refine g_iconst rfl ⟨by decide, by decide⟩ ?_
  refine g_goto (tgt := 15) rfl (by decide) ?_
  refine x_zreturn rfl rfl (Or.inr rfl) ?_
  intro _
  refine x_zreturn rfl rfl (Or.inr rfl) ?_
  intro _
  refine g_if_ne (tgt := 75) rfl (by decide) (fun _ => ?_) (fun hx => absurd hx (by omega))
  refine g_aload_n rfl rfl ?_
  refine g_iload_n rfl rfl ?_
  refine g_cV (as := [tI 3]) (s_rtxN3 (T := T) (len := len) hG hT ⟨rfl, hlen, hTr⟩ hfl) rfl rfl mX12_readText_ok rfl rfl rfl (by decide) rfl rfl rfl ?_
  rintro _ w1 ⟨rfl, h204, h205, hH1⟩ _
  have hM1 : w1.1 206 3 = M := by rw [hH1.1 206 (by omega) (by omega) (by omega) (by omega)]; exact hM
  refine g_if_ne (tgt := 85) rfl (by decide) (fun hx => absurd hx (by omega)) (fun _ => ?_)
  refine g_iconst rfl ⟨by decide, by decide⟩ ?_
  refine x_ireturn rfl rfl ?_
  exact ⟨rfl, (congrFun (hH1.1 203 (by omega) (by omega) (by omega) (by omega)) 0).trans rfl, h204, h205, fun q z => ⟨(congrFun (hH1.1 203 (by omega) (by omega) (by omega) (by omega)) q).trans (by rw [tp_pi_ne (by omega), tp_pi_ne (by omega), tp_pi_ix (by omega)]; rfl), ((hH1.2.2.1 q (by omega)).1).trans (by rw [tp_pi_ne (by omega), tp_pi_ix (by omega)]; rfl), ((hH1.2.2.1 q (by omega)).2).trans (by rw [tp_pi_ix (by omega)]; rfl)⟩, fun c z => by rw [hH1.1 c z.1 z.2.2.2.2 z.2.2.1 z.2.2.2.1, tp_pi_ne z.2.2.2.1, tp_pi_ne z.2.2.1, tp_pi_ne z.2.1, tp_pi_ne z.1, tp_pi_ne z.1]⟩
set_option maxHeartbeats 4000000 in
set_option maxRecDepth 100000 in
theorem p_tx31s {G : tp_G} {μ : tp_M} (hG : tp_Gf G = true) (hR : tp_R μ) {M : Int} (hM : μ.1 5 3 = M) (hMs : 1 < M ∧ M ≤ 2) : tp_q G mX11_text mX12_text [tI 3, tI 1] μ := by
  have hL := tp_R_len hR
  have hlen : 0 ≤ μ.1 1 1 ∧ μ.1 1 1 ≤ 600 := ⟨hL.1, hL.2.1⟩
  have hm9 := tp_R_many hR 3 (by decide) (by decide)
  have hT : ∀ j, 0 ≤ (fun j => tp_and (μ.1 2 j) 255 : Int → Int) j ∧ (fun j => tp_and (μ.1 2 j) 255 : Int → Int) j ≤ 255 := fun j => tp_and255 _
  generalize hTT : (fun j => tp_and (μ.1 2 j) 255 : Int → Int) = T at hT
  have hTm : ∀ j, 0 ≤ j → j < μ.1 1 1 → tp_and (μ.1 2 j) 255 = T j := fun j _ _ => by rw [← hTT]
  generalize hln : μ.1 1 1 = len at *
  by_cases hfl : (t_flt 3 T len).1 = 0
  · refine tp_kc (fun r μ1 z => ?_) (s_xt31s1 hG hT hlen hln hTm hM hMs hfl)
    obtain ⟨z1, z2, z3, z4, z5, z6⟩ := z
    refine ⟨1, z1, tp_kc (fun r2 μ2 y => ?_) (s_mt31s1 (T := T) (len := len) hG hT hlen (by rw [z6 203 (by omega) (by omega) (by omega) (by omega)]; exact hL.2.2.symm) (fun j j0 j1 => by rw [z6 202 (by omega) (by omega) (by omega) (by omega), ← tp_R_tape hR j j0 (by omega)]; exact hTm j j0 j1) (by rw [z6 206 (by omega) (by omega) (by omega) (by omega)]; exact hm9.1.symm.trans hM) hMs hfl)⟩
    obtain ⟨y1, y2, y3, y4, y5, y6, y7, y8, y9, y10⟩ := y
    have y5' : ∀ j, μ2.1 5 j = μ1.1 5 j := fun j => congrFun (y10 5 (by unfold m_Lc; omega) (by omega) (by omega)) j
    have yl : μ2.1 1 = μ1.1 1 := y10 1 (by unfold m_Lc; omega) (by omega) (by omega)
    refine ⟨y1, tp_R_k31 hR (fun k hk k1 k5 kc k2 kr => ?_) (fun q hq => ?_) (fun j hj => ?_) (fun t t0 t1 tn => ⟨?_, ?_⟩) ⟨?_, ?_, ?_⟩ (fun j hj => ?_) ⟨?_, y2⟩ ⟨?_, ?_⟩ ?_⟩
    · unfold tp_tl at hk
      rw [y10 k (by unfold m_Lc; omega) (by omega) kr, z6 k k1 k5 kc (by omega)]
    · rw [(y9 q hq).1, (y9 q hq).2.1, (y9 q hq).2.2, z6 203 (by omega) (by omega) (by omega) (by omega), z6 204 (by omega) (by omega) (by omega) (by omega), z6 205 (by omega) (by omega) (by omega) (by omega)]; exact ⟨rfl, rfl, rfl⟩
    · rw [y6 j (by omega), z6 206 (by omega) (by omega) (by omega) (by omega)]
    · rw [y5' t, z4 t tn]
    · rw [y6 t tn, z6 206 (by omega) (by omega) (by omega) (by omega)]
    · rw [y5' 3, z3, y5]
    · rw [y5' 3, z3]; omega
    · rw [y5' 3, z3]; omega
    · rw [y8 j hj, z6 210 (by omega) (by omega) (by omega) (by omega)]
    · rw [yl]; exact z2.1
    · rw [yl, y3]; exact z2.2.1
    · rw [yl, y4]; exact z2.2.2
    · exact tp_Lg_A (A := μ1.1) (fun i i0 i1 => y10 i (by unfold m_Lc; omega) (by omega) (by omega)) (tp_Lg_f (fun i i0 i1 => y7 i i0 i1) z5)
  · refine tp_kc (fun r μ1 z => ?_) (s_xt31s0 hG hT hlen hln hTm hM hMs hfl)
    obtain ⟨z1, z2, z3, z4, z6⟩ := z
    refine ⟨-1, z1, tp_kc (fun r2 μ2 y => ?_) (s_mt31s0 (T := T) (len := len) hG hT hlen (by rw [z6 203 (by omega) (by omega)]; exact hL.2.2.symm) (fun j j0 j1 => by rw [z6 202 (by omega) (by omega), ← tp_R_tape hR j j0 (by omega)]; exact hTm j j0 j1) (by rw [z6 206 (by omega) (by omega)]; exact hm9.1.symm.trans hM) hMs hfl)⟩
    obtain ⟨y1, y2, y3, y4, y9, y10⟩ := y
    have yl : μ2.1 1 = μ1.1 1 := y10 1 (by unfold m_Lc; omega)
    refine ⟨y1, tp_R_head hR (fun k hk k1 k2 k3 => ?_) (fun j hj => ?_) (fun q hq => ?_) ?_ (fun j j0 j1 => ?_) ⟨?_, ?_⟩⟩
    · unfold tp_tl at hk
      rw [y10 k (by unfold m_Lc; omega), z6 k k1 (by omega)]
    · rw [y10 202 (by unfold m_Lc; omega), z6 202 (by omega) (by omega)]
    · rw [(y9 q hq).1, (y9 q hq).2.1, (y9 q hq).2.2, z6 203 (by omega) (by omega), z6 204 (by omega) (by omega), z6 205 (by omega) (by omega)]; exact ⟨rfl, rfl, rfl⟩
    · rw [yl, z2, y2]; decide
    · rw [yl, z2] at j1; omega
    · rw [yl, z3, y3]
    · rw [yl, z4, y4]
set_option maxHeartbeats 4000000 in
set_option maxRecDepth 100000 in
theorem s_xra {G : tp_G} {μ : tp_M} (hG : tp_Gf G = true) {a b : Int} (ha : a < 0) : tp_k G mX11_text [tR (some 0), tI a, tI b] μ (fun r μ' => r = some (tI (-2)) ∧ μ'.1 1 1 = 0 ∧ μ'.1 1 2 = 0 ∧ μ'.1 1 3 = -1 ∧ (∀ c, c ≠ 1 → μ'.1 c = μ.1 c)) := by
  refine tp_ok_of mX11_text_ok rfl (Nat.le_refl _) ?_
  refine g_aload_n rfl rfl ?_
  refine x_getF (r := 1) hG rfl rfl (by decide) (Or.inl ⟨_, rfl⟩) rfl ?_
  refine x_geti (v := (μ.1 1 1)) rfl rfl (by decide) (Or.inl rfl) rfl ?_
  refine g_istore_n rfl rfl rfl ?_
  refine g_aload_n rfl rfl ?_
  refine x_getF (r := 1) hG rfl rfl (by decide) (Or.inl ⟨_, rfl⟩) rfl ?_
  refine g_iconst rfl ⟨by decide, by decide⟩ ?_
  refine g_puti rfl rfl (by decide) rfl rfl ?_
  refine g_aload_n rfl rfl ?_
  refine x_getF (r := 1) hG rfl rfl (by decide) (Or.inl ⟨_, rfl⟩) rfl ?_
  refine g_iconst rfl ⟨by decide, by decide⟩ ?_
  refine g_puti rfl rfl (by decide) rfl rfl ?_
  refine g_aload_n rfl rfl ?_
  refine x_getF (r := 1) hG rfl rfl (by decide) (Or.inl ⟨_, rfl⟩) rfl ?_
  refine g_iconst rfl ⟨by decide, by decide⟩ ?_
  refine g_puti rfl rfl (by decide) rfl rfl ?_
  refine g_aload_n rfl rfl ?_
  refine x_getF (r := 1) hG rfl rfl (by decide) (Or.inl ⟨_, rfl⟩) rfl ?_
  refine g_iload_n rfl rfl ?_
  refine g_iload_n rfl rfl ?_
  refine g_iV (as := [tI a, tI b]) mX9_slotFor_ok rfl rfl rfl rfl rfl rfl (by decide) rfl rfl rfl ?_
  refine g_iload_n rfl rfl ?_
  refine g_if_lt (tgt := 9) rfl (by decide) (fun _ => ?_) (fun hx => absurd hx (by omega))
  refine g_iconst rfl ⟨by decide, by decide⟩ ?_
  refine x_ireturn rfl rfl ?_
  intro _
  refine g_istore rfl rfl rfl ?_
  refine g_iload rfl rfl ?_
  refine g_iconst rfl ⟨by decide, by decide⟩ ?_
  refine g_icmp_ne (tgt := 52) rfl (by decide) (fun hx => absurd hx (by omega)) (fun _ => ?_)
  refine g_bipush rfl ⟨by decide, by decide⟩ (by decide) ?_
  refine x_ireturn rfl rfl ?_
  exact ⟨rfl, rfl, rfl, rfl, fun c z => by rw [tp_pi_ne z, tp_pi_ne z, tp_pi_ne z]⟩
set_option maxHeartbeats 4000000 in
set_option maxRecDepth 100000 in
theorem s_mra {G : tp_G} {μ : tp_M} (hG : tp_Gf G = true) {a b : Int} (ha : a < 0) : tp_k G mX12_text [tR (some 201), tI a, tI b] μ (fun r μ' => r = some (tI (-2)) ∧ μ'.1 203 0 = 0 ∧ μ'.1 204 0 = 0 ∧ μ'.1 205 0 = -1 ∧ m_Qc μ μ' ∧ (∀ c, m_Lc c → μ'.1 c = μ.1 c)) := by
  refine tp_ok_of mX12_text_ok rfl (Nat.le_refl _) ?_
  refine g_aload_n rfl rfl ?_
  refine g_iconst rfl ⟨by decide, by decide⟩ ?_
  refine g_puti rfl rfl (by decide) rfl rfl ?_
  refine g_aload_n rfl rfl ?_
  refine g_aload_n rfl rfl ?_
  refine x_getF (r := 203) hG rfl rfl (by decide) (Or.inr ⟨_, rfl⟩) rfl ?_
  refine g_iconst rfl ⟨by decide, by decide⟩ ?_
  refine x_iald (v := (μ.1 203 0)) rfl rfl (by decide) (by decide) (by decide) rfl ?_
  refine g_puti rfl rfl (by decide) rfl rfl ?_
  refine g_aload_n rfl rfl ?_
  refine x_getF (r := 203) hG rfl rfl (by decide) (Or.inr ⟨_, rfl⟩) rfl ?_
  refine g_iconst rfl ⟨by decide, by decide⟩ ?_
  refine g_iconst rfl ⟨by decide, by decide⟩ ?_
  refine g_iast rfl rfl (by decide) (by decide) (by decide) ?_
  refine g_aload_n rfl rfl ?_
  refine x_getF (r := 204) hG rfl rfl (by decide) (Or.inr ⟨_, rfl⟩) rfl ?_
  refine g_iconst rfl ⟨by decide, by decide⟩ ?_
  refine g_iconst rfl ⟨by decide, by decide⟩ ?_
  refine g_iast rfl rfl (by decide) (by decide) (by decide) ?_
  refine g_aload_n rfl rfl ?_
  refine x_getF (r := 205) hG rfl rfl (by decide) (Or.inr ⟨_, rfl⟩) rfl ?_
  refine g_iconst rfl ⟨by decide, by decide⟩ ?_
  refine g_iconst rfl ⟨by decide, by decide⟩ ?_
  refine g_iast rfl rfl (by decide) (by decide) (by decide) ?_
  refine g_iload_n rfl rfl ?_
  refine g_iconst rfl ⟨by decide, by decide⟩ ?_
  refine g_iconst rfl ⟨by decide, by decide⟩ ?_
  refine g_iS (as := [tI a, tI 0, tI 3]) mX12_in_ok rfl rfl rfl rfl rfl rfl rfl ?_
  refine g_iload_n rfl rfl ?_
  refine g_iload_n rfl rfl ?_
  refine g_icmp_lt (tgt := 14) rfl (by decide) (fun _ => ?_) (fun hx => absurd hx (by omega))
  refine g_iconst rfl ⟨by decide, by decide⟩ ?_
  refine x_zreturn rfl rfl (Or.inl rfl) ?_
  intro _
  refine g_if_eq (tgt := 72) rfl (by decide) (fun _ => ?_) (fun hx => absurd hx (by omega))
  refine g_bipush rfl ⟨by decide, by decide⟩ (by decide) ?_
  refine x_ireturn rfl rfl ?_
  exact ⟨rfl, rfl, rfl, rfl, fun q z => ⟨by rw [tp_pi_ne (by omega), tp_pi_ne (by omega), tp_pi_ix (by omega)]; rfl, by rw [tp_pi_ne (by omega), tp_pi_ix (by omega)]; rfl, by rw [tp_pi_ix (by omega)]; rfl⟩, fun c z => by rw [tp_pi_ne z.2.2.2.1, tp_pi_ne z.2.2.1, tp_pi_ne z.2.1, tp_pi_ne z.1, tp_pi_ne z.1]⟩
set_option maxHeartbeats 4000000 in
set_option maxRecDepth 100000 in
theorem s_xrb {G : tp_G} {μ : tp_M} (hG : tp_Gf G = true) {a b : Int} (ha : 4 ≤ a) : tp_k G mX11_text [tR (some 0), tI a, tI b] μ (fun r μ' => r = some (tI (-2)) ∧ μ'.1 1 1 = 0 ∧ μ'.1 1 2 = 0 ∧ μ'.1 1 3 = -1 ∧ (∀ c, c ≠ 1 → μ'.1 c = μ.1 c)) := by
  refine tp_ok_of mX11_text_ok rfl (Nat.le_refl _) ?_
  refine g_aload_n rfl rfl ?_
  refine x_getF (r := 1) hG rfl rfl (by decide) (Or.inl ⟨_, rfl⟩) rfl ?_
  refine x_geti (v := (μ.1 1 1)) rfl rfl (by decide) (Or.inl rfl) rfl ?_
  refine g_istore_n rfl rfl rfl ?_
  refine g_aload_n rfl rfl ?_
  refine x_getF (r := 1) hG rfl rfl (by decide) (Or.inl ⟨_, rfl⟩) rfl ?_
  refine g_iconst rfl ⟨by decide, by decide⟩ ?_
  refine g_puti rfl rfl (by decide) rfl rfl ?_
  refine g_aload_n rfl rfl ?_
  refine x_getF (r := 1) hG rfl rfl (by decide) (Or.inl ⟨_, rfl⟩) rfl ?_
  refine g_iconst rfl ⟨by decide, by decide⟩ ?_
  refine g_puti rfl rfl (by decide) rfl rfl ?_
  refine g_aload_n rfl rfl ?_
  refine x_getF (r := 1) hG rfl rfl (by decide) (Or.inl ⟨_, rfl⟩) rfl ?_
  refine g_iconst rfl ⟨by decide, by decide⟩ ?_
  refine g_puti rfl rfl (by decide) rfl rfl ?_
  refine g_aload_n rfl rfl ?_
  refine x_getF (r := 1) hG rfl rfl (by decide) (Or.inl ⟨_, rfl⟩) rfl ?_
  refine g_iload_n rfl rfl ?_
  refine g_iload_n rfl rfl ?_
  refine g_iV (as := [tI a, tI b]) mX9_slotFor_ok rfl rfl rfl rfl rfl rfl (by decide) rfl rfl rfl ?_
  refine g_iload_n rfl rfl ?_
  refine g_if_lt (tgt := 9) rfl (by decide) (fun hx => absurd hx (by omega)) (fun _ => ?_)
  refine g_iload_n rfl rfl ?_
  refine g_iconst rfl ⟨by decide, by decide⟩ ?_
  refine g_icmp_lt (tgt := 11) rfl (by decide) (fun hx => absurd hx (by omega)) (fun _ => ?_)
  refine g_iconst rfl ⟨by decide, by decide⟩ ?_
  refine x_ireturn rfl rfl ?_
  intro _
  refine g_istore rfl rfl rfl ?_
  refine g_iload rfl rfl ?_
  refine g_iconst rfl ⟨by decide, by decide⟩ ?_
  refine g_icmp_ne (tgt := 52) rfl (by decide) (fun hx => absurd hx (by omega)) (fun _ => ?_)
  refine g_bipush rfl ⟨by decide, by decide⟩ (by decide) ?_
  refine x_ireturn rfl rfl ?_
  exact ⟨rfl, rfl, rfl, rfl, fun c z => by rw [tp_pi_ne z, tp_pi_ne z, tp_pi_ne z]⟩
set_option maxHeartbeats 4000000 in
set_option maxRecDepth 100000 in
theorem s_mrb {G : tp_G} {μ : tp_M} (hG : tp_Gf G = true) {a b : Int} (ha : 4 ≤ a) : tp_k G mX12_text [tR (some 201), tI a, tI b] μ (fun r μ' => r = some (tI (-2)) ∧ μ'.1 203 0 = 0 ∧ μ'.1 204 0 = 0 ∧ μ'.1 205 0 = -1 ∧ m_Qc μ μ' ∧ (∀ c, m_Lc c → μ'.1 c = μ.1 c)) := by
  refine tp_ok_of mX12_text_ok rfl (Nat.le_refl _) ?_
  refine g_aload_n rfl rfl ?_
  refine g_iconst rfl ⟨by decide, by decide⟩ ?_
  refine g_puti rfl rfl (by decide) rfl rfl ?_
  refine g_aload_n rfl rfl ?_
  refine g_aload_n rfl rfl ?_
  refine x_getF (r := 203) hG rfl rfl (by decide) (Or.inr ⟨_, rfl⟩) rfl ?_
  refine g_iconst rfl ⟨by decide, by decide⟩ ?_
  refine x_iald (v := (μ.1 203 0)) rfl rfl (by decide) (by decide) (by decide) rfl ?_
  refine g_puti rfl rfl (by decide) rfl rfl ?_
  refine g_aload_n rfl rfl ?_
  refine x_getF (r := 203) hG rfl rfl (by decide) (Or.inr ⟨_, rfl⟩) rfl ?_
  refine g_iconst rfl ⟨by decide, by decide⟩ ?_
  refine g_iconst rfl ⟨by decide, by decide⟩ ?_
  refine g_iast rfl rfl (by decide) (by decide) (by decide) ?_
  refine g_aload_n rfl rfl ?_
  refine x_getF (r := 204) hG rfl rfl (by decide) (Or.inr ⟨_, rfl⟩) rfl ?_
  refine g_iconst rfl ⟨by decide, by decide⟩ ?_
  refine g_iconst rfl ⟨by decide, by decide⟩ ?_
  refine g_iast rfl rfl (by decide) (by decide) (by decide) ?_
  refine g_aload_n rfl rfl ?_
  refine x_getF (r := 205) hG rfl rfl (by decide) (Or.inr ⟨_, rfl⟩) rfl ?_
  refine g_iconst rfl ⟨by decide, by decide⟩ ?_
  refine g_iconst rfl ⟨by decide, by decide⟩ ?_
  refine g_iast rfl rfl (by decide) (by decide) (by decide) ?_
  refine g_iload_n rfl rfl ?_
  refine g_iconst rfl ⟨by decide, by decide⟩ ?_
  refine g_iconst rfl ⟨by decide, by decide⟩ ?_
  refine g_iS (as := [tI a, tI 0, tI 3]) mX12_in_ok rfl rfl rfl rfl rfl rfl rfl ?_
  refine g_iload_n rfl rfl ?_
  refine g_iload_n rfl rfl ?_
  refine g_icmp_lt (tgt := 14) rfl (by decide) (fun hx => absurd hx (by omega)) (fun _ => ?_)
  refine g_iload_n rfl rfl ?_
  refine g_iload_n rfl rfl ?_
  refine g_icmp_gt (tgt := 14) rfl (by decide) (fun _ => ?_) (fun hx => absurd hx (by omega))
  refine g_iconst rfl ⟨by decide, by decide⟩ ?_
  refine x_zreturn rfl rfl (Or.inl rfl) ?_
  intro _
  refine g_if_eq (tgt := 72) rfl (by decide) (fun _ => ?_) (fun hx => absurd hx (by omega))
  refine g_bipush rfl ⟨by decide, by decide⟩ (by decide) ?_
  refine x_ireturn rfl rfl ?_
  exact ⟨rfl, rfl, rfl, rfl, fun q z => ⟨by rw [tp_pi_ne (by omega), tp_pi_ne (by omega), tp_pi_ix (by omega)]; rfl, by rw [tp_pi_ne (by omega), tp_pi_ix (by omega)]; rfl, by rw [tp_pi_ix (by omega)]; rfl⟩, fun c z => by rw [tp_pi_ne z.2.2.2.1, tp_pi_ne z.2.2.1, tp_pi_ne z.2.1, tp_pi_ne z.1, tp_pi_ne z.1]⟩
set_option maxHeartbeats 4000000 in
set_option maxRecDepth 100000 in
theorem s_xr0x {G : tp_G} {μ : tp_M} (hG : tp_Gf G = true) (hM : μ.1 5 0 = 2) : tp_k G mX11_text [tR (some 0), tI 0, tI (-1)] μ (fun r μ' => r = some (tI (-2)) ∧ μ'.1 1 1 = 0 ∧ μ'.1 1 2 = 0 ∧ μ'.1 1 3 = -1 ∧ (∀ c, c ≠ 1 → μ'.1 c = μ.1 c)) := by
  refine tp_ok_of mX11_text_ok rfl (Nat.le_refl _) ?_
  refine g_aload_n rfl rfl ?_
  refine x_getF (r := 1) hG rfl rfl (by decide) (Or.inl ⟨_, rfl⟩) rfl ?_
  refine x_geti (v := (μ.1 1 1)) rfl rfl (by decide) (Or.inl rfl) rfl ?_
  refine g_istore_n rfl rfl rfl ?_
  refine g_aload_n rfl rfl ?_
  refine x_getF (r := 1) hG rfl rfl (by decide) (Or.inl ⟨_, rfl⟩) rfl ?_
  refine g_iconst rfl ⟨by decide, by decide⟩ ?_
  refine g_puti rfl rfl (by decide) rfl rfl ?_
  refine g_aload_n rfl rfl ?_
  refine x_getF (r := 1) hG rfl rfl (by decide) (Or.inl ⟨_, rfl⟩) rfl ?_
  refine g_iconst rfl ⟨by decide, by decide⟩ ?_
  refine g_puti rfl rfl (by decide) rfl rfl ?_
  refine g_aload_n rfl rfl ?_
  refine x_getF (r := 1) hG rfl rfl (by decide) (Or.inl ⟨_, rfl⟩) rfl ?_
  refine g_iconst rfl ⟨by decide, by decide⟩ ?_
  refine g_puti rfl rfl (by decide) rfl rfl ?_
  refine g_aload_n rfl rfl ?_
  refine x_getF (r := 1) hG rfl rfl (by decide) (Or.inl ⟨_, rfl⟩) rfl ?_
  refine g_iload_n rfl rfl ?_
  refine g_iload_n rfl rfl ?_
  refine g_iV (as := [tI 0, tI (-1)]) mX9_slotFor_ok rfl rfl rfl rfl rfl rfl (by decide) rfl rfl rfl ?_
  refine g_iload_n rfl rfl ?_
  refine g_if_lt (tgt := 9) rfl (by decide) (fun hx => absurd hx (by omega)) (fun _ => ?_)
  refine g_iload_n rfl rfl ?_
  refine g_iconst rfl ⟨by decide, by decide⟩ ?_
  refine g_icmp_lt (tgt := 11) rfl (by decide) (fun _ => ?_) (fun hx => absurd hx (by omega))
  refine g_aload_n rfl rfl ?_
  refine x_getF (r := 5) hG rfl rfl (by decide) (Or.inr ⟨_, rfl⟩) rfl ?_
  refine g_iload_n rfl rfl ?_
  refine x_iald (v := 2) rfl rfl (by decide) (by decide) (by decide) hM ?_
  refine g_istore_n rfl rfl rfl ?_
  refine g_iload_n rfl rfl ?_
  refine g_iconst rfl ⟨by decide, by decide⟩ ?_
  refine g_icmp_ne (tgt := 34) rfl (by decide) (fun hx => absurd hx (by omega)) (fun _ => ?_)
  refine g_iload_n rfl rfl ?_
  refine g_iconst rfl ⟨by decide, by decide⟩ ?_
  refine g_icmp_ge (tgt := 32) rfl (by decide) (fun _ => ?_) (fun hx => absurd hx (by omega))
  refine g_iconst rfl ⟨by decide, by decide⟩ ?_
  refine x_ireturn rfl rfl ?_
  intro _
  refine g_istore rfl rfl rfl ?_
  refine g_iload rfl rfl ?_
  refine g_iconst rfl ⟨by decide, by decide⟩ ?_
  refine g_icmp_ne (tgt := 52) rfl (by decide) (fun hx => absurd hx (by omega)) (fun _ => ?_)
  refine g_bipush rfl ⟨by decide, by decide⟩ (by decide) ?_
  refine x_ireturn rfl rfl ?_
  exact ⟨rfl, rfl, rfl, rfl, fun c z => by rw [tp_pi_ne z, tp_pi_ne z, tp_pi_ne z]⟩
set_option maxHeartbeats 4000000 in
set_option maxRecDepth 100000 in
theorem s_mr0x {G : tp_G} {μ : tp_M} (hG : tp_Gf G = true) (hM : μ.1 206 0 = 2) : tp_k G mX12_text [tR (some 201), tI 0, tI (-1)] μ (fun r μ' => r = some (tI (-2)) ∧ μ'.1 203 0 = 0 ∧ μ'.1 204 0 = 0 ∧ μ'.1 205 0 = -1 ∧ m_Qc μ μ' ∧ (∀ c, m_Lc c → μ'.1 c = μ.1 c)) := by
  refine tp_ok_of mX12_text_ok rfl (Nat.le_refl _) ?_
  refine g_aload_n rfl rfl ?_
  refine g_iconst rfl ⟨by decide, by decide⟩ ?_
  refine g_puti rfl rfl (by decide) rfl rfl ?_
  refine g_aload_n rfl rfl ?_
  refine g_aload_n rfl rfl ?_
  refine x_getF (r := 203) hG rfl rfl (by decide) (Or.inr ⟨_, rfl⟩) rfl ?_
  refine g_iconst rfl ⟨by decide, by decide⟩ ?_
  refine x_iald (v := (μ.1 203 0)) rfl rfl (by decide) (by decide) (by decide) rfl ?_
  refine g_puti rfl rfl (by decide) rfl rfl ?_
  refine g_aload_n rfl rfl ?_
  refine x_getF (r := 203) hG rfl rfl (by decide) (Or.inr ⟨_, rfl⟩) rfl ?_
  refine g_iconst rfl ⟨by decide, by decide⟩ ?_
  refine g_iconst rfl ⟨by decide, by decide⟩ ?_
  refine g_iast rfl rfl (by decide) (by decide) (by decide) ?_
  refine g_aload_n rfl rfl ?_
  refine x_getF (r := 204) hG rfl rfl (by decide) (Or.inr ⟨_, rfl⟩) rfl ?_
  refine g_iconst rfl ⟨by decide, by decide⟩ ?_
  refine g_iconst rfl ⟨by decide, by decide⟩ ?_
  refine g_iast rfl rfl (by decide) (by decide) (by decide) ?_
  refine g_aload_n rfl rfl ?_
  refine x_getF (r := 205) hG rfl rfl (by decide) (Or.inr ⟨_, rfl⟩) rfl ?_
  refine g_iconst rfl ⟨by decide, by decide⟩ ?_
  refine g_iconst rfl ⟨by decide, by decide⟩ ?_
  refine g_iast rfl rfl (by decide) (by decide) (by decide) ?_
  refine g_iload_n rfl rfl ?_
  refine g_iconst rfl ⟨by decide, by decide⟩ ?_
  refine g_iconst rfl ⟨by decide, by decide⟩ ?_
  refine g_iS (as := [tI 0, tI 0, tI 3]) mX12_in_ok rfl rfl rfl rfl rfl rfl rfl ?_
  refine g_iload_n rfl rfl ?_
  refine g_iload_n rfl rfl ?_
  refine g_icmp_lt (tgt := 14) rfl (by decide) (fun hx => absurd hx (by omega)) (fun _ => ?_)
  refine g_iload_n rfl rfl ?_
  refine g_iload_n rfl rfl ?_
  refine g_icmp_gt (tgt := 14) rfl (by decide) (fun hx => absurd hx (by omega)) (fun _ => ?_)
  refine g_iconst rfl ⟨by decide, by decide⟩ ?_
  refine g_goto (tgt := 15) rfl (by decide) ?_
  refine x_zreturn rfl rfl (Or.inr rfl) ?_
  intro _
  refine g_if_eq (tgt := 72) rfl (by decide) (fun hx => absurd hx (by omega)) (fun _ => ?_)
  refine g_iload_n rfl rfl ?_
  refine g_iconst rfl ⟨by decide, by decide⟩ ?_
  refine g_icmp_ne (tgt := 63) rfl (by decide) (fun hx => absurd hx (by omega)) (fun _ => ?_)
  refine g_aload_n rfl rfl ?_
  refine x_getF (r := 206) hG rfl rfl (by decide) (Or.inr ⟨_, rfl⟩) rfl ?_
  refine g_iload_n rfl rfl ?_
  refine x_iald (v := 2) rfl rfl (by decide) (by decide) (by decide) hM ?_
  refine g_iconst rfl ⟨by decide, by decide⟩ ?_
  refine g_icmp_ne (tgt := 75) rfl (by decide) (fun hx => absurd hx (by omega)) (fun _ => ?_)
  refine g_goto (tgt := 72) rfl (by decide) ?_
  refine g_bipush rfl ⟨by decide, by decide⟩ (by decide) ?_
  refine x_ireturn rfl rfl ?_
  exact ⟨rfl, rfl, rfl, rfl, fun q z => ⟨by rw [tp_pi_ne (by omega), tp_pi_ne (by omega), tp_pi_ix (by omega)]; rfl, by rw [tp_pi_ne (by omega), tp_pi_ix (by omega)]; rfl, by rw [tp_pi_ix (by omega)]; rfl⟩, fun c z => by rw [tp_pi_ne z.2.2.2.1, tp_pi_ne z.2.2.1, tp_pi_ne z.2.1, tp_pi_ne z.1, tp_pi_ne z.1]⟩
set_option maxHeartbeats 4000000 in
set_option maxRecDepth 100000 in
theorem s_xr0y {G : tp_G} {μ : tp_M} (hG : tp_Gf G = true) {b M : Int} (hM : μ.1 5 0 = M) (hb : b < -1 ∧ 0 ≤ M ∧ M ≤ 2) : tp_k G mX11_text [tR (some 0), tI 0, tI b] μ (fun r μ' => r = some (tI (-2)) ∧ μ'.1 1 1 = 0 ∧ μ'.1 1 2 = 0 ∧ μ'.1 1 3 = -1 ∧ (∀ c, c ≠ 1 → μ'.1 c = μ.1 c)) := by
  refine tp_ok_of mX11_text_ok rfl (Nat.le_refl _) ?_
  refine g_aload_n rfl rfl ?_
  refine x_getF (r := 1) hG rfl rfl (by decide) (Or.inl ⟨_, rfl⟩) rfl ?_
  refine x_geti (v := (μ.1 1 1)) rfl rfl (by decide) (Or.inl rfl) rfl ?_
  refine g_istore_n rfl rfl rfl ?_
  refine g_aload_n rfl rfl ?_
  refine x_getF (r := 1) hG rfl rfl (by decide) (Or.inl ⟨_, rfl⟩) rfl ?_
  refine g_iconst rfl ⟨by decide, by decide⟩ ?_
  refine g_puti rfl rfl (by decide) rfl rfl ?_
  refine g_aload_n rfl rfl ?_
  refine x_getF (r := 1) hG rfl rfl (by decide) (Or.inl ⟨_, rfl⟩) rfl ?_
  refine g_iconst rfl ⟨by decide, by decide⟩ ?_
  refine g_puti rfl rfl (by decide) rfl rfl ?_
  refine g_aload_n rfl rfl ?_
  refine x_getF (r := 1) hG rfl rfl (by decide) (Or.inl ⟨_, rfl⟩) rfl ?_
  refine g_iconst rfl ⟨by decide, by decide⟩ ?_
  refine g_puti rfl rfl (by decide) rfl rfl ?_
  refine g_aload_n rfl rfl ?_
  refine x_getF (r := 1) hG rfl rfl (by decide) (Or.inl ⟨_, rfl⟩) rfl ?_
  refine g_iload_n rfl rfl ?_
  refine g_iload_n rfl rfl ?_
  refine g_iV (as := [tI 0, tI b]) mX9_slotFor_ok rfl rfl rfl rfl rfl rfl (by decide) rfl rfl rfl ?_
  refine g_iload_n rfl rfl ?_
  refine g_if_lt (tgt := 9) rfl (by decide) (fun hx => absurd hx (by omega)) (fun _ => ?_)
  refine g_iload_n rfl rfl ?_
  refine g_iconst rfl ⟨by decide, by decide⟩ ?_
  refine g_icmp_lt (tgt := 11) rfl (by decide) (fun _ => ?_) (fun hx => absurd hx (by omega))
  refine g_aload_n rfl rfl ?_
  refine x_getF (r := 5) hG rfl rfl (by decide) (Or.inr ⟨_, rfl⟩) rfl ?_
  refine g_iload_n rfl rfl ?_
  refine x_iald (v := M) rfl rfl (by decide) (by decide) (by decide) hM ?_
  refine g_istore_n rfl rfl rfl ?_
  refine g_iload_n rfl rfl ?_
  refine g_iconst rfl ⟨by decide, by decide⟩ ?_
  refine g_icmp_ne (tgt := 34) rfl (by decide) (fun _ => ?_) (fun hx => absurd hx (by omega))
  refine g_iload_n rfl rfl ?_
  refine g_if_lt (tgt := 43) rfl (by decide) (fun _ => ?_) (fun hx => absurd hx (by omega))
  refine g_iconst rfl ⟨by decide, by decide⟩ ?_
  refine g_goto (tgt := 48) rfl (by decide) ?_
  refine x_ireturn rfl rfl ?_
  intro _
  refine g_istore rfl rfl rfl ?_
  refine g_iload rfl rfl ?_
  refine g_iconst rfl ⟨by decide, by decide⟩ ?_
  refine g_icmp_ne (tgt := 52) rfl (by decide) (fun hx => absurd hx (by omega)) (fun _ => ?_)
  refine g_bipush rfl ⟨by decide, by decide⟩ (by decide) ?_
  refine x_ireturn rfl rfl ?_
  exact ⟨rfl, rfl, rfl, rfl, fun c z => by rw [tp_pi_ne z, tp_pi_ne z, tp_pi_ne z]⟩
set_option maxHeartbeats 4000000 in
set_option maxRecDepth 100000 in
theorem s_mr0y {G : tp_G} {μ : tp_M} (hG : tp_Gf G = true) {b M : Int} (hM : μ.1 206 0 = M) (hb : b < -1 ∧ 0 ≤ M ∧ M ≤ 2) : tp_k G mX12_text [tR (some 201), tI 0, tI b] μ (fun r μ' => r = some (tI (-2)) ∧ μ'.1 203 0 = 0 ∧ μ'.1 204 0 = 0 ∧ μ'.1 205 0 = -1 ∧ m_Qc μ μ' ∧ (∀ c, m_Lc c → μ'.1 c = μ.1 c)) := by
  refine tp_ok_of mX12_text_ok rfl (Nat.le_refl _) ?_
  refine g_aload_n rfl rfl ?_
  refine g_iconst rfl ⟨by decide, by decide⟩ ?_
  refine g_puti rfl rfl (by decide) rfl rfl ?_
  refine g_aload_n rfl rfl ?_
  refine g_aload_n rfl rfl ?_
  refine x_getF (r := 203) hG rfl rfl (by decide) (Or.inr ⟨_, rfl⟩) rfl ?_
  refine g_iconst rfl ⟨by decide, by decide⟩ ?_
  refine x_iald (v := (μ.1 203 0)) rfl rfl (by decide) (by decide) (by decide) rfl ?_
  refine g_puti rfl rfl (by decide) rfl rfl ?_
  refine g_aload_n rfl rfl ?_
  refine x_getF (r := 203) hG rfl rfl (by decide) (Or.inr ⟨_, rfl⟩) rfl ?_
  refine g_iconst rfl ⟨by decide, by decide⟩ ?_
  refine g_iconst rfl ⟨by decide, by decide⟩ ?_
  refine g_iast rfl rfl (by decide) (by decide) (by decide) ?_
  refine g_aload_n rfl rfl ?_
  refine x_getF (r := 204) hG rfl rfl (by decide) (Or.inr ⟨_, rfl⟩) rfl ?_
  refine g_iconst rfl ⟨by decide, by decide⟩ ?_
  refine g_iconst rfl ⟨by decide, by decide⟩ ?_
  refine g_iast rfl rfl (by decide) (by decide) (by decide) ?_
  refine g_aload_n rfl rfl ?_
  refine x_getF (r := 205) hG rfl rfl (by decide) (Or.inr ⟨_, rfl⟩) rfl ?_
  refine g_iconst rfl ⟨by decide, by decide⟩ ?_
  refine g_iconst rfl ⟨by decide, by decide⟩ ?_
  refine g_iast rfl rfl (by decide) (by decide) (by decide) ?_
  refine g_iload_n rfl rfl ?_
  refine g_iconst rfl ⟨by decide, by decide⟩ ?_
  refine g_iconst rfl ⟨by decide, by decide⟩ ?_
  refine g_iS (as := [tI 0, tI 0, tI 3]) mX12_in_ok rfl rfl rfl rfl rfl rfl rfl ?_
  refine g_iload_n rfl rfl ?_
  refine g_iload_n rfl rfl ?_
  refine g_icmp_lt (tgt := 14) rfl (by decide) (fun hx => absurd hx (by omega)) (fun _ => ?_)
  refine g_iload_n rfl rfl ?_
  refine g_iload_n rfl rfl ?_
  refine g_icmp_gt (tgt := 14) rfl (by decide) (fun hx => absurd hx (by omega)) (fun _ => ?_)
  refine g_iconst rfl ⟨by decide, by decide⟩ ?_
  refine g_goto (tgt := 15) rfl (by decide) ?_
  refine x_zreturn rfl rfl (Or.inr rfl) ?_
  intro _
  refine g_if_eq (tgt := 72) rfl (by decide) (fun hx => absurd hx (by omega)) (fun _ => ?_)
  refine g_iload_n rfl rfl ?_
  refine g_iconst rfl ⟨by decide, by decide⟩ ?_
  refine g_icmp_ne (tgt := 63) rfl (by decide) (fun _ => ?_) (fun hx => absurd hx (by omega))
  refine g_aload_n rfl rfl ?_
  refine g_iload_n rfl rfl ?_
  refine g_iload_n rfl rfl ?_
  refine g_iV (as := [tI 0, tI b]) mX12_is_ok rfl rfl rfl rfl rfl rfl (by decide) rfl rfl rfl ?_
  refine g_iload_n rfl rfl ?_
  refine g_iconst rfl ⟨by decide, by decide⟩ ?_
  refine g_aload_n rfl rfl ?_
  refine x_getF (r := 206) hG rfl rfl (by decide) (Or.inr ⟨_, rfl⟩) rfl ?_
  refine g_iload_n rfl rfl ?_
  refine x_iald (v := M) rfl rfl (by decide) (by decide) (by decide) hM ?_
  refine g_iconst rfl ⟨by decide, by decide⟩ ?_
  refine x_isub (z := M - 1) rfl (by omega) ⟨by omega, by omega⟩ ?_
  refine g_iS (as := [tI b, tI 0, tI (M - 1)]) mX12_in_ok rfl rfl rfl rfl rfl rfl rfl ?_
  refine g_iload_n rfl rfl ?_
  refine g_iload_n rfl rfl ?_
  refine g_icmp_lt (tgt := 14) rfl (by decide) (fun _ => ?_) (fun hx => absurd hx (by omega))
  refine g_iconst rfl ⟨by decide, by decide⟩ ?_
  refine x_zreturn rfl rfl (Or.inl rfl) ?_
  intro _
  refine x_zreturn rfl rfl (Or.inl rfl) ?_
  intro _
  refine g_if_ne (tgt := 75) rfl (by decide) (fun hx => absurd hx (by omega)) (fun _ => ?_)
  refine g_bipush rfl ⟨by decide, by decide⟩ (by decide) ?_
  refine x_ireturn rfl rfl ?_
  exact ⟨rfl, rfl, rfl, rfl, fun q z => ⟨by rw [tp_pi_ne (by omega), tp_pi_ne (by omega), tp_pi_ix (by omega)]; rfl, by rw [tp_pi_ne (by omega), tp_pi_ix (by omega)]; rfl, by rw [tp_pi_ix (by omega)]; rfl⟩, fun c z => by rw [tp_pi_ne z.2.2.2.1, tp_pi_ne z.2.2.1, tp_pi_ne z.2.1, tp_pi_ne z.1, tp_pi_ne z.1]⟩
set_option maxHeartbeats 4000000 in
set_option maxRecDepth 100000 in
theorem s_xr0z {G : tp_G} {μ : tp_M} (hG : tp_Gf G = true) {b M : Int} (hM : μ.1 5 0 = M) (hb : 0 ≤ b ∧ M ≤ b ∧ 0 ≤ M ∧ M ≤ 2) : tp_k G mX11_text [tR (some 0), tI 0, tI b] μ (fun r μ' => r = some (tI (-2)) ∧ μ'.1 1 1 = 0 ∧ μ'.1 1 2 = 0 ∧ μ'.1 1 3 = -1 ∧ (∀ c, c ≠ 1 → μ'.1 c = μ.1 c)) := by
  refine tp_ok_of mX11_text_ok rfl (Nat.le_refl _) ?_
  refine g_aload_n rfl rfl ?_
  refine x_getF (r := 1) hG rfl rfl (by decide) (Or.inl ⟨_, rfl⟩) rfl ?_
  refine x_geti (v := (μ.1 1 1)) rfl rfl (by decide) (Or.inl rfl) rfl ?_
  refine g_istore_n rfl rfl rfl ?_
  refine g_aload_n rfl rfl ?_
  refine x_getF (r := 1) hG rfl rfl (by decide) (Or.inl ⟨_, rfl⟩) rfl ?_
  refine g_iconst rfl ⟨by decide, by decide⟩ ?_
  refine g_puti rfl rfl (by decide) rfl rfl ?_
  refine g_aload_n rfl rfl ?_
  refine x_getF (r := 1) hG rfl rfl (by decide) (Or.inl ⟨_, rfl⟩) rfl ?_
  refine g_iconst rfl ⟨by decide, by decide⟩ ?_
  refine g_puti rfl rfl (by decide) rfl rfl ?_
  refine g_aload_n rfl rfl ?_
  refine x_getF (r := 1) hG rfl rfl (by decide) (Or.inl ⟨_, rfl⟩) rfl ?_
  refine g_iconst rfl ⟨by decide, by decide⟩ ?_
  refine g_puti rfl rfl (by decide) rfl rfl ?_
  refine g_aload_n rfl rfl ?_
  refine x_getF (r := 1) hG rfl rfl (by decide) (Or.inl ⟨_, rfl⟩) rfl ?_
  refine g_iload_n rfl rfl ?_
  refine g_iload_n rfl rfl ?_
  refine g_iV (as := [tI 0, tI b]) mX9_slotFor_ok rfl rfl rfl rfl rfl rfl (by decide) rfl rfl rfl ?_
  refine g_iload_n rfl rfl ?_
  refine g_if_lt (tgt := 9) rfl (by decide) (fun hx => absurd hx (by omega)) (fun _ => ?_)
  refine g_iload_n rfl rfl ?_
  refine g_iconst rfl ⟨by decide, by decide⟩ ?_
  refine g_icmp_lt (tgt := 11) rfl (by decide) (fun _ => ?_) (fun hx => absurd hx (by omega))
  refine g_aload_n rfl rfl ?_
  refine x_getF (r := 5) hG rfl rfl (by decide) (Or.inr ⟨_, rfl⟩) rfl ?_
  refine g_iload_n rfl rfl ?_
  refine x_iald (v := M) rfl rfl (by decide) (by decide) (by decide) hM ?_
  refine g_istore_n rfl rfl rfl ?_
  refine g_iload_n rfl rfl ?_
  refine g_iconst rfl ⟨by decide, by decide⟩ ?_
  refine g_icmp_ne (tgt := 34) rfl (by decide) (fun _ => ?_) (fun hx => absurd hx (by omega))
  refine g_iload_n rfl rfl ?_
  refine g_if_lt (tgt := 43) rfl (by decide) (fun hx => absurd hx (by omega)) (fun _ => ?_)
  refine g_iload_n rfl rfl ?_
  refine g_iload_n rfl rfl ?_
  refine g_icmp_lt (tgt := 47) rfl (by decide) (fun hx => absurd hx (by omega)) (fun _ => ?_)
  refine g_iconst rfl ⟨by decide, by decide⟩ ?_
  refine g_goto (tgt := 48) rfl (by decide) ?_
  refine x_ireturn rfl rfl ?_
  intro _
  refine g_istore rfl rfl rfl ?_
  refine g_iload rfl rfl ?_
  refine g_iconst rfl ⟨by decide, by decide⟩ ?_
  refine g_icmp_ne (tgt := 52) rfl (by decide) (fun hx => absurd hx (by omega)) (fun _ => ?_)
  refine g_bipush rfl ⟨by decide, by decide⟩ (by decide) ?_
  refine x_ireturn rfl rfl ?_
  exact ⟨rfl, rfl, rfl, rfl, fun c z => by rw [tp_pi_ne z, tp_pi_ne z, tp_pi_ne z]⟩
set_option maxHeartbeats 4000000 in
set_option maxRecDepth 100000 in
theorem s_mr0z {G : tp_G} {μ : tp_M} (hG : tp_Gf G = true) {b M : Int} (hM : μ.1 206 0 = M) (hb : 0 ≤ b ∧ M ≤ b ∧ 0 ≤ M ∧ M ≤ 2) : tp_k G mX12_text [tR (some 201), tI 0, tI b] μ (fun r μ' => r = some (tI (-2)) ∧ μ'.1 203 0 = 0 ∧ μ'.1 204 0 = 0 ∧ μ'.1 205 0 = -1 ∧ m_Qc μ μ' ∧ (∀ c, m_Lc c → μ'.1 c = μ.1 c)) := by
  refine tp_ok_of mX12_text_ok rfl (Nat.le_refl _) ?_
  refine g_aload_n rfl rfl ?_
  refine g_iconst rfl ⟨by decide, by decide⟩ ?_
  refine g_puti rfl rfl (by decide) rfl rfl ?_
  refine g_aload_n rfl rfl ?_
  refine g_aload_n rfl rfl ?_
  refine x_getF (r := 203) hG rfl rfl (by decide) (Or.inr ⟨_, rfl⟩) rfl ?_
  refine g_iconst rfl ⟨by decide, by decide⟩ ?_
  refine x_iald (v := (μ.1 203 0)) rfl rfl (by decide) (by decide) (by decide) rfl ?_
  refine g_puti rfl rfl (by decide) rfl rfl ?_
  refine g_aload_n rfl rfl ?_
  refine x_getF (r := 203) hG rfl rfl (by decide) (Or.inr ⟨_, rfl⟩) rfl ?_
  refine g_iconst rfl ⟨by decide, by decide⟩ ?_
  refine g_iconst rfl ⟨by decide, by decide⟩ ?_
  refine g_iast rfl rfl (by decide) (by decide) (by decide) ?_
  refine g_aload_n rfl rfl ?_
  refine x_getF (r := 204) hG rfl rfl (by decide) (Or.inr ⟨_, rfl⟩) rfl ?_
  refine g_iconst rfl ⟨by decide, by decide⟩ ?_
  refine g_iconst rfl ⟨by decide, by decide⟩ ?_
  refine g_iast rfl rfl (by decide) (by decide) (by decide) ?_
  refine g_aload_n rfl rfl ?_
  refine x_getF (r := 205) hG rfl rfl (by decide) (Or.inr ⟨_, rfl⟩) rfl ?_
  refine g_iconst rfl ⟨by decide, by decide⟩ ?_
  refine g_iconst rfl ⟨by decide, by decide⟩ ?_
  refine g_iast rfl rfl (by decide) (by decide) (by decide) ?_
  refine g_iload_n rfl rfl ?_
  refine g_iconst rfl ⟨by decide, by decide⟩ ?_
  refine g_iconst rfl ⟨by decide, by decide⟩ ?_
  refine g_iS (as := [tI 0, tI 0, tI 3]) mX12_in_ok rfl rfl rfl rfl rfl rfl rfl ?_
  refine g_iload_n rfl rfl ?_
  refine g_iload_n rfl rfl ?_
  refine g_icmp_lt (tgt := 14) rfl (by decide) (fun hx => absurd hx (by omega)) (fun _ => ?_)
  refine g_iload_n rfl rfl ?_
  refine g_iload_n rfl rfl ?_
  refine g_icmp_gt (tgt := 14) rfl (by decide) (fun hx => absurd hx (by omega)) (fun _ => ?_)
  refine g_iconst rfl ⟨by decide, by decide⟩ ?_
  refine g_goto (tgt := 15) rfl (by decide) ?_
  refine x_zreturn rfl rfl (Or.inr rfl) ?_
  intro _
  refine g_if_eq (tgt := 72) rfl (by decide) (fun hx => absurd hx (by omega)) (fun _ => ?_)
  refine g_iload_n rfl rfl ?_
  refine g_iconst rfl ⟨by decide, by decide⟩ ?_
  refine g_icmp_ne (tgt := 63) rfl (by decide) (fun _ => ?_) (fun hx => absurd hx (by omega))
  refine g_aload_n rfl rfl ?_
  refine g_iload_n rfl rfl ?_
  refine g_iload_n rfl rfl ?_
  refine g_iV (as := [tI 0, tI b]) mX12_is_ok rfl rfl rfl rfl rfl rfl (by decide) rfl rfl rfl ?_
  refine g_iload_n rfl rfl ?_
  refine g_iconst rfl ⟨by decide, by decide⟩ ?_
  refine g_aload_n rfl rfl ?_
  refine x_getF (r := 206) hG rfl rfl (by decide) (Or.inr ⟨_, rfl⟩) rfl ?_
  refine g_iload_n rfl rfl ?_
  refine x_iald (v := M) rfl rfl (by decide) (by decide) (by decide) hM ?_
  refine g_iconst rfl ⟨by decide, by decide⟩ ?_
  refine x_isub (z := M - 1) rfl (by omega) ⟨by omega, by omega⟩ ?_
  refine g_iS (as := [tI b, tI 0, tI (M - 1)]) mX12_in_ok rfl rfl rfl rfl rfl rfl rfl ?_
  refine g_iload_n rfl rfl ?_
  refine g_iload_n rfl rfl ?_
  refine g_icmp_lt (tgt := 14) rfl (by decide) (fun hx => absurd hx (by omega)) (fun _ => ?_)
  refine g_iload_n rfl rfl ?_
  refine g_iload_n rfl rfl ?_
  refine g_icmp_gt (tgt := 14) rfl (by decide) (fun _ => ?_) (fun hx => absurd hx (by omega))
  refine g_iconst rfl ⟨by decide, by decide⟩ ?_
  refine x_zreturn rfl rfl (Or.inl rfl) ?_
  intro _
  refine x_zreturn rfl rfl (Or.inl rfl) ?_
  intro _
  refine g_if_ne (tgt := 75) rfl (by decide) (fun hx => absurd hx (by omega)) (fun _ => ?_)
  refine g_bipush rfl ⟨by decide, by decide⟩ (by decide) ?_
  refine x_ireturn rfl rfl ?_
  exact ⟨rfl, rfl, rfl, rfl, fun q z => ⟨by rw [tp_pi_ne (by omega), tp_pi_ne (by omega), tp_pi_ix (by omega)]; rfl, by rw [tp_pi_ne (by omega), tp_pi_ix (by omega)]; rfl, by rw [tp_pi_ix (by omega)]; rfl⟩, fun c z => by rw [tp_pi_ne z.2.2.2.1, tp_pi_ne z.2.2.1, tp_pi_ne z.2.1, tp_pi_ne z.1, tp_pi_ne z.1]⟩
set_option maxHeartbeats 4000000 in
set_option maxRecDepth 100000 in
theorem s_xr1x {G : tp_G} {μ : tp_M} (hG : tp_Gf G = true) (hM : μ.1 5 1 = 2) : tp_k G mX11_text [tR (some 0), tI 1, tI (-1)] μ (fun r μ' => r = some (tI (-2)) ∧ μ'.1 1 1 = 0 ∧ μ'.1 1 2 = 0 ∧ μ'.1 1 3 = -1 ∧ (∀ c, c ≠ 1 → μ'.1 c = μ.1 c)) := by
  refine tp_ok_of mX11_text_ok rfl (Nat.le_refl _) ?_
  refine g_aload_n rfl rfl ?_
  refine x_getF (r := 1) hG rfl rfl (by decide) (Or.inl ⟨_, rfl⟩) rfl ?_
  refine x_geti (v := (μ.1 1 1)) rfl rfl (by decide) (Or.inl rfl) rfl ?_
  refine g_istore_n rfl rfl rfl ?_
  refine g_aload_n rfl rfl ?_
  refine x_getF (r := 1) hG rfl rfl (by decide) (Or.inl ⟨_, rfl⟩) rfl ?_
  refine g_iconst rfl ⟨by decide, by decide⟩ ?_
  refine g_puti rfl rfl (by decide) rfl rfl ?_
  refine g_aload_n rfl rfl ?_
  refine x_getF (r := 1) hG rfl rfl (by decide) (Or.inl ⟨_, rfl⟩) rfl ?_
  refine g_iconst rfl ⟨by decide, by decide⟩ ?_
  refine g_puti rfl rfl (by decide) rfl rfl ?_
  refine g_aload_n rfl rfl ?_
  refine x_getF (r := 1) hG rfl rfl (by decide) (Or.inl ⟨_, rfl⟩) rfl ?_
  refine g_iconst rfl ⟨by decide, by decide⟩ ?_
  refine g_puti rfl rfl (by decide) rfl rfl ?_
  refine g_aload_n rfl rfl ?_
  refine x_getF (r := 1) hG rfl rfl (by decide) (Or.inl ⟨_, rfl⟩) rfl ?_
  refine g_iload_n rfl rfl ?_
  refine g_iload_n rfl rfl ?_
  refine g_iV (as := [tI 1, tI (-1)]) mX9_slotFor_ok rfl rfl rfl rfl rfl rfl (by decide) rfl rfl rfl ?_
  refine g_iload_n rfl rfl ?_
  refine g_if_lt (tgt := 9) rfl (by decide) (fun hx => absurd hx (by omega)) (fun _ => ?_)
  refine g_iload_n rfl rfl ?_
  refine g_iconst rfl ⟨by decide, by decide⟩ ?_
  refine g_icmp_lt (tgt := 11) rfl (by decide) (fun _ => ?_) (fun hx => absurd hx (by omega))
  refine g_aload_n rfl rfl ?_
  refine x_getF (r := 5) hG rfl rfl (by decide) (Or.inr ⟨_, rfl⟩) rfl ?_
  refine g_iload_n rfl rfl ?_
  refine x_iald (v := 2) rfl rfl (by decide) (by decide) (by decide) hM ?_
  refine g_istore_n rfl rfl rfl ?_
  refine g_iload_n rfl rfl ?_
  refine g_iconst rfl ⟨by decide, by decide⟩ ?_
  refine g_icmp_ne (tgt := 34) rfl (by decide) (fun hx => absurd hx (by omega)) (fun _ => ?_)
  refine g_iload_n rfl rfl ?_
  refine g_iconst rfl ⟨by decide, by decide⟩ ?_
  refine g_icmp_ge (tgt := 32) rfl (by decide) (fun _ => ?_) (fun hx => absurd hx (by omega))
  refine g_iconst rfl ⟨by decide, by decide⟩ ?_
  refine x_ireturn rfl rfl ?_
  intro _
  refine g_istore rfl rfl rfl ?_
  refine g_iload rfl rfl ?_
  refine g_iconst rfl ⟨by decide, by decide⟩ ?_
  refine g_icmp_ne (tgt := 52) rfl (by decide) (fun hx => absurd hx (by omega)) (fun _ => ?_)
  refine g_bipush rfl ⟨by decide, by decide⟩ (by decide) ?_
  refine x_ireturn rfl rfl ?_
  exact ⟨rfl, rfl, rfl, rfl, fun c z => by rw [tp_pi_ne z, tp_pi_ne z, tp_pi_ne z]⟩
set_option maxHeartbeats 4000000 in
set_option maxRecDepth 100000 in
theorem s_mr1x {G : tp_G} {μ : tp_M} (hG : tp_Gf G = true) (hM : μ.1 206 1 = 2) : tp_k G mX12_text [tR (some 201), tI 1, tI (-1)] μ (fun r μ' => r = some (tI (-2)) ∧ μ'.1 203 0 = 0 ∧ μ'.1 204 0 = 0 ∧ μ'.1 205 0 = -1 ∧ m_Qc μ μ' ∧ (∀ c, m_Lc c → μ'.1 c = μ.1 c)) := by
  refine tp_ok_of mX12_text_ok rfl (Nat.le_refl _) ?_
  refine g_aload_n rfl rfl ?_
  refine g_iconst rfl ⟨by decide, by decide⟩ ?_
  refine g_puti rfl rfl (by decide) rfl rfl ?_
  refine g_aload_n rfl rfl ?_
  refine g_aload_n rfl rfl ?_
  refine x_getF (r := 203) hG rfl rfl (by decide) (Or.inr ⟨_, rfl⟩) rfl ?_
  refine g_iconst rfl ⟨by decide, by decide⟩ ?_
  refine x_iald (v := (μ.1 203 0)) rfl rfl (by decide) (by decide) (by decide) rfl ?_
  refine g_puti rfl rfl (by decide) rfl rfl ?_
  refine g_aload_n rfl rfl ?_
  refine x_getF (r := 203) hG rfl rfl (by decide) (Or.inr ⟨_, rfl⟩) rfl ?_
  refine g_iconst rfl ⟨by decide, by decide⟩ ?_
  refine g_iconst rfl ⟨by decide, by decide⟩ ?_
  refine g_iast rfl rfl (by decide) (by decide) (by decide) ?_
  refine g_aload_n rfl rfl ?_
  refine x_getF (r := 204) hG rfl rfl (by decide) (Or.inr ⟨_, rfl⟩) rfl ?_
  refine g_iconst rfl ⟨by decide, by decide⟩ ?_
  refine g_iconst rfl ⟨by decide, by decide⟩ ?_
  refine g_iast rfl rfl (by decide) (by decide) (by decide) ?_
  refine g_aload_n rfl rfl ?_
  refine x_getF (r := 205) hG rfl rfl (by decide) (Or.inr ⟨_, rfl⟩) rfl ?_
  refine g_iconst rfl ⟨by decide, by decide⟩ ?_
  refine g_iconst rfl ⟨by decide, by decide⟩ ?_
  refine g_iast rfl rfl (by decide) (by decide) (by decide) ?_
  refine g_iload_n rfl rfl ?_
  refine g_iconst rfl ⟨by decide, by decide⟩ ?_
  refine g_iconst rfl ⟨by decide, by decide⟩ ?_
  refine g_iS (as := [tI 1, tI 0, tI 3]) mX12_in_ok rfl rfl rfl rfl rfl rfl rfl ?_
  refine g_iload_n rfl rfl ?_
  refine g_iload_n rfl rfl ?_
  refine g_icmp_lt (tgt := 14) rfl (by decide) (fun hx => absurd hx (by omega)) (fun _ => ?_)
  refine g_iload_n rfl rfl ?_
  refine g_iload_n rfl rfl ?_
  refine g_icmp_gt (tgt := 14) rfl (by decide) (fun hx => absurd hx (by omega)) (fun _ => ?_)
  refine g_iconst rfl ⟨by decide, by decide⟩ ?_
  refine g_goto (tgt := 15) rfl (by decide) ?_
  refine x_zreturn rfl rfl (Or.inr rfl) ?_
  intro _
  refine g_if_eq (tgt := 72) rfl (by decide) (fun hx => absurd hx (by omega)) (fun _ => ?_)
  refine g_iload_n rfl rfl ?_
  refine g_iconst rfl ⟨by decide, by decide⟩ ?_
  refine g_icmp_ne (tgt := 63) rfl (by decide) (fun hx => absurd hx (by omega)) (fun _ => ?_)
  refine g_aload_n rfl rfl ?_
  refine x_getF (r := 206) hG rfl rfl (by decide) (Or.inr ⟨_, rfl⟩) rfl ?_
  refine g_iload_n rfl rfl ?_
  refine x_iald (v := 2) rfl rfl (by decide) (by decide) (by decide) hM ?_
  refine g_iconst rfl ⟨by decide, by decide⟩ ?_
  refine g_icmp_ne (tgt := 75) rfl (by decide) (fun hx => absurd hx (by omega)) (fun _ => ?_)
  refine g_goto (tgt := 72) rfl (by decide) ?_
  refine g_bipush rfl ⟨by decide, by decide⟩ (by decide) ?_
  refine x_ireturn rfl rfl ?_
  exact ⟨rfl, rfl, rfl, rfl, fun q z => ⟨by rw [tp_pi_ne (by omega), tp_pi_ne (by omega), tp_pi_ix (by omega)]; rfl, by rw [tp_pi_ne (by omega), tp_pi_ix (by omega)]; rfl, by rw [tp_pi_ix (by omega)]; rfl⟩, fun c z => by rw [tp_pi_ne z.2.2.2.1, tp_pi_ne z.2.2.1, tp_pi_ne z.2.1, tp_pi_ne z.1, tp_pi_ne z.1]⟩
set_option maxHeartbeats 4000000 in
set_option maxRecDepth 100000 in
theorem s_xr1y {G : tp_G} {μ : tp_M} (hG : tp_Gf G = true) {b M : Int} (hM : μ.1 5 1 = M) (hb : b < -1 ∧ 0 ≤ M ∧ M ≤ 2) : tp_k G mX11_text [tR (some 0), tI 1, tI b] μ (fun r μ' => r = some (tI (-2)) ∧ μ'.1 1 1 = 0 ∧ μ'.1 1 2 = 0 ∧ μ'.1 1 3 = -1 ∧ (∀ c, c ≠ 1 → μ'.1 c = μ.1 c)) := by
  refine tp_ok_of mX11_text_ok rfl (Nat.le_refl _) ?_
  refine g_aload_n rfl rfl ?_
  refine x_getF (r := 1) hG rfl rfl (by decide) (Or.inl ⟨_, rfl⟩) rfl ?_
  refine x_geti (v := (μ.1 1 1)) rfl rfl (by decide) (Or.inl rfl) rfl ?_
  refine g_istore_n rfl rfl rfl ?_
  refine g_aload_n rfl rfl ?_
  refine x_getF (r := 1) hG rfl rfl (by decide) (Or.inl ⟨_, rfl⟩) rfl ?_
  refine g_iconst rfl ⟨by decide, by decide⟩ ?_
  refine g_puti rfl rfl (by decide) rfl rfl ?_
  refine g_aload_n rfl rfl ?_
  refine x_getF (r := 1) hG rfl rfl (by decide) (Or.inl ⟨_, rfl⟩) rfl ?_
  refine g_iconst rfl ⟨by decide, by decide⟩ ?_
  refine g_puti rfl rfl (by decide) rfl rfl ?_
  refine g_aload_n rfl rfl ?_
  refine x_getF (r := 1) hG rfl rfl (by decide) (Or.inl ⟨_, rfl⟩) rfl ?_
  refine g_iconst rfl ⟨by decide, by decide⟩ ?_
  refine g_puti rfl rfl (by decide) rfl rfl ?_
  refine g_aload_n rfl rfl ?_
  refine x_getF (r := 1) hG rfl rfl (by decide) (Or.inl ⟨_, rfl⟩) rfl ?_
  refine g_iload_n rfl rfl ?_
  refine g_iload_n rfl rfl ?_
  refine g_iV (as := [tI 1, tI b]) mX9_slotFor_ok rfl rfl rfl rfl rfl rfl (by decide) rfl rfl rfl ?_
  refine g_iload_n rfl rfl ?_
  refine g_if_lt (tgt := 9) rfl (by decide) (fun hx => absurd hx (by omega)) (fun _ => ?_)
  refine g_iload_n rfl rfl ?_
  refine g_iconst rfl ⟨by decide, by decide⟩ ?_
  refine g_icmp_lt (tgt := 11) rfl (by decide) (fun _ => ?_) (fun hx => absurd hx (by omega))
  refine g_aload_n rfl rfl ?_
  refine x_getF (r := 5) hG rfl rfl (by decide) (Or.inr ⟨_, rfl⟩) rfl ?_
  refine g_iload_n rfl rfl ?_
  refine x_iald (v := M) rfl rfl (by decide) (by decide) (by decide) hM ?_
  refine g_istore_n rfl rfl rfl ?_
  refine g_iload_n rfl rfl ?_
  refine g_iconst rfl ⟨by decide, by decide⟩ ?_
  refine g_icmp_ne (tgt := 34) rfl (by decide) (fun _ => ?_) (fun hx => absurd hx (by omega))
  refine g_iload_n rfl rfl ?_
  refine g_if_lt (tgt := 43) rfl (by decide) (fun _ => ?_) (fun hx => absurd hx (by omega))
  refine g_iconst rfl ⟨by decide, by decide⟩ ?_
  refine g_goto (tgt := 48) rfl (by decide) ?_
  refine x_ireturn rfl rfl ?_
  intro _
  refine g_istore rfl rfl rfl ?_
  refine g_iload rfl rfl ?_
  refine g_iconst rfl ⟨by decide, by decide⟩ ?_
  refine g_icmp_ne (tgt := 52) rfl (by decide) (fun hx => absurd hx (by omega)) (fun _ => ?_)
  refine g_bipush rfl ⟨by decide, by decide⟩ (by decide) ?_
  refine x_ireturn rfl rfl ?_
  exact ⟨rfl, rfl, rfl, rfl, fun c z => by rw [tp_pi_ne z, tp_pi_ne z, tp_pi_ne z]⟩
set_option maxHeartbeats 4000000 in
set_option maxRecDepth 100000 in
theorem s_mr1y {G : tp_G} {μ : tp_M} (hG : tp_Gf G = true) {b M : Int} (hM : μ.1 206 1 = M) (hb : b < -1 ∧ 0 ≤ M ∧ M ≤ 2) : tp_k G mX12_text [tR (some 201), tI 1, tI b] μ (fun r μ' => r = some (tI (-2)) ∧ μ'.1 203 0 = 0 ∧ μ'.1 204 0 = 0 ∧ μ'.1 205 0 = -1 ∧ m_Qc μ μ' ∧ (∀ c, m_Lc c → μ'.1 c = μ.1 c)) := by
  refine tp_ok_of mX12_text_ok rfl (Nat.le_refl _) ?_
  refine g_aload_n rfl rfl ?_
  refine g_iconst rfl ⟨by decide, by decide⟩ ?_
  refine g_puti rfl rfl (by decide) rfl rfl ?_
  refine g_aload_n rfl rfl ?_
  refine g_aload_n rfl rfl ?_
  refine x_getF (r := 203) hG rfl rfl (by decide) (Or.inr ⟨_, rfl⟩) rfl ?_
  refine g_iconst rfl ⟨by decide, by decide⟩ ?_
  refine x_iald (v := (μ.1 203 0)) rfl rfl (by decide) (by decide) (by decide) rfl ?_
  refine g_puti rfl rfl (by decide) rfl rfl ?_
  refine g_aload_n rfl rfl ?_
  refine x_getF (r := 203) hG rfl rfl (by decide) (Or.inr ⟨_, rfl⟩) rfl ?_
  refine g_iconst rfl ⟨by decide, by decide⟩ ?_
  refine g_iconst rfl ⟨by decide, by decide⟩ ?_
  refine g_iast rfl rfl (by decide) (by decide) (by decide) ?_
  refine g_aload_n rfl rfl ?_
  refine x_getF (r := 204) hG rfl rfl (by decide) (Or.inr ⟨_, rfl⟩) rfl ?_
  refine g_iconst rfl ⟨by decide, by decide⟩ ?_
  refine g_iconst rfl ⟨by decide, by decide⟩ ?_
  refine g_iast rfl rfl (by decide) (by decide) (by decide) ?_
  refine g_aload_n rfl rfl ?_
  refine x_getF (r := 205) hG rfl rfl (by decide) (Or.inr ⟨_, rfl⟩) rfl ?_
  refine g_iconst rfl ⟨by decide, by decide⟩ ?_
  refine g_iconst rfl ⟨by decide, by decide⟩ ?_
  refine g_iast rfl rfl (by decide) (by decide) (by decide) ?_
  refine g_iload_n rfl rfl ?_
  refine g_iconst rfl ⟨by decide, by decide⟩ ?_
  refine g_iconst rfl ⟨by decide, by decide⟩ ?_
  refine g_iS (as := [tI 1, tI 0, tI 3]) mX12_in_ok rfl rfl rfl rfl rfl rfl rfl ?_
  refine g_iload_n rfl rfl ?_
  refine g_iload_n rfl rfl ?_
  refine g_icmp_lt (tgt := 14) rfl (by decide) (fun hx => absurd hx (by omega)) (fun _ => ?_)
  refine g_iload_n rfl rfl ?_
  refine g_iload_n rfl rfl ?_
  refine g_icmp_gt (tgt := 14) rfl (by decide) (fun hx => absurd hx (by omega)) (fun _ => ?_)
  refine g_iconst rfl ⟨by decide, by decide⟩ ?_
  refine g_goto (tgt := 15) rfl (by decide) ?_
  refine x_zreturn rfl rfl (Or.inr rfl) ?_
  intro _
  refine g_if_eq (tgt := 72) rfl (by decide) (fun hx => absurd hx (by omega)) (fun _ => ?_)
  refine g_iload_n rfl rfl ?_
  refine g_iconst rfl ⟨by decide, by decide⟩ ?_
  refine g_icmp_ne (tgt := 63) rfl (by decide) (fun _ => ?_) (fun hx => absurd hx (by omega))
  refine g_aload_n rfl rfl ?_
  refine g_iload_n rfl rfl ?_
  refine g_iload_n rfl rfl ?_
  refine g_iV (as := [tI 1, tI b]) mX12_is_ok rfl rfl rfl rfl rfl rfl (by decide) rfl rfl rfl ?_
  refine g_iload_n rfl rfl ?_
  refine g_iconst rfl ⟨by decide, by decide⟩ ?_
  refine g_aload_n rfl rfl ?_
  refine x_getF (r := 206) hG rfl rfl (by decide) (Or.inr ⟨_, rfl⟩) rfl ?_
  refine g_iload_n rfl rfl ?_
  refine x_iald (v := M) rfl rfl (by decide) (by decide) (by decide) hM ?_
  refine g_iconst rfl ⟨by decide, by decide⟩ ?_
  refine x_isub (z := M - 1) rfl (by omega) ⟨by omega, by omega⟩ ?_
  refine g_iS (as := [tI b, tI 0, tI (M - 1)]) mX12_in_ok rfl rfl rfl rfl rfl rfl rfl ?_
  refine g_iload_n rfl rfl ?_
  refine g_iload_n rfl rfl ?_
  refine g_icmp_lt (tgt := 14) rfl (by decide) (fun _ => ?_) (fun hx => absurd hx (by omega))
  refine g_iconst rfl ⟨by decide, by decide⟩ ?_
  refine x_zreturn rfl rfl (Or.inl rfl) ?_
  intro _
  refine x_zreturn rfl rfl (Or.inl rfl) ?_
  intro _
  refine g_if_ne (tgt := 75) rfl (by decide) (fun hx => absurd hx (by omega)) (fun _ => ?_)
  refine g_bipush rfl ⟨by decide, by decide⟩ (by decide) ?_
  refine x_ireturn rfl rfl ?_
  exact ⟨rfl, rfl, rfl, rfl, fun q z => ⟨by rw [tp_pi_ne (by omega), tp_pi_ne (by omega), tp_pi_ix (by omega)]; rfl, by rw [tp_pi_ne (by omega), tp_pi_ix (by omega)]; rfl, by rw [tp_pi_ix (by omega)]; rfl⟩, fun c z => by rw [tp_pi_ne z.2.2.2.1, tp_pi_ne z.2.2.1, tp_pi_ne z.2.1, tp_pi_ne z.1, tp_pi_ne z.1]⟩
set_option maxHeartbeats 4000000 in
set_option maxRecDepth 100000 in
theorem s_xr1z {G : tp_G} {μ : tp_M} (hG : tp_Gf G = true) {b M : Int} (hM : μ.1 5 1 = M) (hb : 0 ≤ b ∧ M ≤ b ∧ 0 ≤ M ∧ M ≤ 2) : tp_k G mX11_text [tR (some 0), tI 1, tI b] μ (fun r μ' => r = some (tI (-2)) ∧ μ'.1 1 1 = 0 ∧ μ'.1 1 2 = 0 ∧ μ'.1 1 3 = -1 ∧ (∀ c, c ≠ 1 → μ'.1 c = μ.1 c)) := by
  refine tp_ok_of mX11_text_ok rfl (Nat.le_refl _) ?_
  refine g_aload_n rfl rfl ?_
  refine x_getF (r := 1) hG rfl rfl (by decide) (Or.inl ⟨_, rfl⟩) rfl ?_
  refine x_geti (v := (μ.1 1 1)) rfl rfl (by decide) (Or.inl rfl) rfl ?_
  refine g_istore_n rfl rfl rfl ?_
  refine g_aload_n rfl rfl ?_
  refine x_getF (r := 1) hG rfl rfl (by decide) (Or.inl ⟨_, rfl⟩) rfl ?_
  refine g_iconst rfl ⟨by decide, by decide⟩ ?_
  refine g_puti rfl rfl (by decide) rfl rfl ?_
  refine g_aload_n rfl rfl ?_
  refine x_getF (r := 1) hG rfl rfl (by decide) (Or.inl ⟨_, rfl⟩) rfl ?_
  refine g_iconst rfl ⟨by decide, by decide⟩ ?_
  refine g_puti rfl rfl (by decide) rfl rfl ?_
  refine g_aload_n rfl rfl ?_
  refine x_getF (r := 1) hG rfl rfl (by decide) (Or.inl ⟨_, rfl⟩) rfl ?_
  refine g_iconst rfl ⟨by decide, by decide⟩ ?_
  refine g_puti rfl rfl (by decide) rfl rfl ?_
  refine g_aload_n rfl rfl ?_
  refine x_getF (r := 1) hG rfl rfl (by decide) (Or.inl ⟨_, rfl⟩) rfl ?_
  refine g_iload_n rfl rfl ?_
  refine g_iload_n rfl rfl ?_
  refine g_iV (as := [tI 1, tI b]) mX9_slotFor_ok rfl rfl rfl rfl rfl rfl (by decide) rfl rfl rfl ?_
  refine g_iload_n rfl rfl ?_
  refine g_if_lt (tgt := 9) rfl (by decide) (fun hx => absurd hx (by omega)) (fun _ => ?_)
  refine g_iload_n rfl rfl ?_
  refine g_iconst rfl ⟨by decide, by decide⟩ ?_
  refine g_icmp_lt (tgt := 11) rfl (by decide) (fun _ => ?_) (fun hx => absurd hx (by omega))
  refine g_aload_n rfl rfl ?_
  refine x_getF (r := 5) hG rfl rfl (by decide) (Or.inr ⟨_, rfl⟩) rfl ?_
  refine g_iload_n rfl rfl ?_
  refine x_iald (v := M) rfl rfl (by decide) (by decide) (by decide) hM ?_
  refine g_istore_n rfl rfl rfl ?_
  refine g_iload_n rfl rfl ?_
  refine g_iconst rfl ⟨by decide, by decide⟩ ?_
  refine g_icmp_ne (tgt := 34) rfl (by decide) (fun _ => ?_) (fun hx => absurd hx (by omega))
  refine g_iload_n rfl rfl ?_
  refine g_if_lt (tgt := 43) rfl (by decide) (fun hx => absurd hx (by omega)) (fun _ => ?_)
  refine g_iload_n rfl rfl ?_
  refine g_iload_n rfl rfl ?_
  refine g_icmp_lt (tgt := 47) rfl (by decide) (fun hx => absurd hx (by omega)) (fun _ => ?_)
  refine g_iconst rfl ⟨by decide, by decide⟩ ?_
  refine g_goto (tgt := 48) rfl (by decide) ?_
  refine x_ireturn rfl rfl ?_
  intro _
  refine g_istore rfl rfl rfl ?_
  refine g_iload rfl rfl ?_
  refine g_iconst rfl ⟨by decide, by decide⟩ ?_
  refine g_icmp_ne (tgt := 52) rfl (by decide) (fun hx => absurd hx (by omega)) (fun _ => ?_)
  refine g_bipush rfl ⟨by decide, by decide⟩ (by decide) ?_
  refine x_ireturn rfl rfl ?_
  exact ⟨rfl, rfl, rfl, rfl, fun c z => by rw [tp_pi_ne z, tp_pi_ne z, tp_pi_ne z]⟩
set_option maxHeartbeats 4000000 in
set_option maxRecDepth 100000 in
theorem s_mr1z {G : tp_G} {μ : tp_M} (hG : tp_Gf G = true) {b M : Int} (hM : μ.1 206 1 = M) (hb : 0 ≤ b ∧ M ≤ b ∧ 0 ≤ M ∧ M ≤ 2) : tp_k G mX12_text [tR (some 201), tI 1, tI b] μ (fun r μ' => r = some (tI (-2)) ∧ μ'.1 203 0 = 0 ∧ μ'.1 204 0 = 0 ∧ μ'.1 205 0 = -1 ∧ m_Qc μ μ' ∧ (∀ c, m_Lc c → μ'.1 c = μ.1 c)) := by
  refine tp_ok_of mX12_text_ok rfl (Nat.le_refl _) ?_
  refine g_aload_n rfl rfl ?_
  refine g_iconst rfl ⟨by decide, by decide⟩ ?_
  refine g_puti rfl rfl (by decide) rfl rfl ?_
  refine g_aload_n rfl rfl ?_
  refine g_aload_n rfl rfl ?_
  refine x_getF (r := 203) hG rfl rfl (by decide) (Or.inr ⟨_, rfl⟩) rfl ?_
  refine g_iconst rfl ⟨by decide, by decide⟩ ?_
  refine x_iald (v := (μ.1 203 0)) rfl rfl (by decide) (by decide) (by decide) rfl ?_
  refine g_puti rfl rfl (by decide) rfl rfl ?_
  refine g_aload_n rfl rfl ?_
  refine x_getF (r := 203) hG rfl rfl (by decide) (Or.inr ⟨_, rfl⟩) rfl ?_
  refine g_iconst rfl ⟨by decide, by decide⟩ ?_
  refine g_iconst rfl ⟨by decide, by decide⟩ ?_
  refine g_iast rfl rfl (by decide) (by decide) (by decide) ?_
  refine g_aload_n rfl rfl ?_
  refine x_getF (r := 204) hG rfl rfl (by decide) (Or.inr ⟨_, rfl⟩) rfl ?_
  refine g_iconst rfl ⟨by decide, by decide⟩ ?_
  refine g_iconst rfl ⟨by decide, by decide⟩ ?_
  refine g_iast rfl rfl (by decide) (by decide) (by decide) ?_
  refine g_aload_n rfl rfl ?_
  refine x_getF (r := 205) hG rfl rfl (by decide) (Or.inr ⟨_, rfl⟩) rfl ?_
  refine g_iconst rfl ⟨by decide, by decide⟩ ?_
  refine g_iconst rfl ⟨by decide, by decide⟩ ?_
  refine g_iast rfl rfl (by decide) (by decide) (by decide) ?_
  refine g_iload_n rfl rfl ?_
  refine g_iconst rfl ⟨by decide, by decide⟩ ?_
  refine g_iconst rfl ⟨by decide, by decide⟩ ?_
  refine g_iS (as := [tI 1, tI 0, tI 3]) mX12_in_ok rfl rfl rfl rfl rfl rfl rfl ?_
  refine g_iload_n rfl rfl ?_
  refine g_iload_n rfl rfl ?_
  refine g_icmp_lt (tgt := 14) rfl (by decide) (fun hx => absurd hx (by omega)) (fun _ => ?_)
  refine g_iload_n rfl rfl ?_
  refine g_iload_n rfl rfl ?_
  refine g_icmp_gt (tgt := 14) rfl (by decide) (fun hx => absurd hx (by omega)) (fun _ => ?_)
  refine g_iconst rfl ⟨by decide, by decide⟩ ?_
  refine g_goto (tgt := 15) rfl (by decide) ?_
  refine x_zreturn rfl rfl (Or.inr rfl) ?_
  intro _
  refine g_if_eq (tgt := 72) rfl (by decide) (fun hx => absurd hx (by omega)) (fun _ => ?_)
  refine g_iload_n rfl rfl ?_
  refine g_iconst rfl ⟨by decide, by decide⟩ ?_
  refine g_icmp_ne (tgt := 63) rfl (by decide) (fun _ => ?_) (fun hx => absurd hx (by omega))
  refine g_aload_n rfl rfl ?_
  refine g_iload_n rfl rfl ?_
  refine g_iload_n rfl rfl ?_
  refine g_iV (as := [tI 1, tI b]) mX12_is_ok rfl rfl rfl rfl rfl rfl (by decide) rfl rfl rfl ?_
  refine g_iload_n rfl rfl ?_
  refine g_iconst rfl ⟨by decide, by decide⟩ ?_
  refine g_aload_n rfl rfl ?_
  refine x_getF (r := 206) hG rfl rfl (by decide) (Or.inr ⟨_, rfl⟩) rfl ?_
  refine g_iload_n rfl rfl ?_
  refine x_iald (v := M) rfl rfl (by decide) (by decide) (by decide) hM ?_
  refine g_iconst rfl ⟨by decide, by decide⟩ ?_
  refine x_isub (z := M - 1) rfl (by omega) ⟨by omega, by omega⟩ ?_
  refine g_iS (as := [tI b, tI 0, tI (M - 1)]) mX12_in_ok rfl rfl rfl rfl rfl rfl rfl ?_
  refine g_iload_n rfl rfl ?_
  refine g_iload_n rfl rfl ?_
  refine g_icmp_lt (tgt := 14) rfl (by decide) (fun hx => absurd hx (by omega)) (fun _ => ?_)
  refine g_iload_n rfl rfl ?_
  refine g_iload_n rfl rfl ?_
  refine g_icmp_gt (tgt := 14) rfl (by decide) (fun _ => ?_) (fun hx => absurd hx (by omega))
  refine g_iconst rfl ⟨by decide, by decide⟩ ?_
  refine x_zreturn rfl rfl (Or.inl rfl) ?_
  intro _
  refine x_zreturn rfl rfl (Or.inl rfl) ?_
  intro _
  refine g_if_ne (tgt := 75) rfl (by decide) (fun hx => absurd hx (by omega)) (fun _ => ?_)
  refine g_bipush rfl ⟨by decide, by decide⟩ (by decide) ?_
  refine x_ireturn rfl rfl ?_
  exact ⟨rfl, rfl, rfl, rfl, fun q z => ⟨by rw [tp_pi_ne (by omega), tp_pi_ne (by omega), tp_pi_ix (by omega)]; rfl, by rw [tp_pi_ne (by omega), tp_pi_ix (by omega)]; rfl, by rw [tp_pi_ix (by omega)]; rfl⟩, fun c z => by rw [tp_pi_ne z.2.2.2.1, tp_pi_ne z.2.2.1, tp_pi_ne z.2.1, tp_pi_ne z.1, tp_pi_ne z.1]⟩
set_option maxHeartbeats 4000000 in
set_option maxRecDepth 100000 in
theorem s_xr2x {G : tp_G} {μ : tp_M} (hG : tp_Gf G = true) (hM : μ.1 5 2 = 2) : tp_k G mX11_text [tR (some 0), tI 2, tI (-1)] μ (fun r μ' => r = some (tI (-2)) ∧ μ'.1 1 1 = 0 ∧ μ'.1 1 2 = 0 ∧ μ'.1 1 3 = -1 ∧ (∀ c, c ≠ 1 → μ'.1 c = μ.1 c)) := by
  refine tp_ok_of mX11_text_ok rfl (Nat.le_refl _) ?_
  refine g_aload_n rfl rfl ?_
  refine x_getF (r := 1) hG rfl rfl (by decide) (Or.inl ⟨_, rfl⟩) rfl ?_
  refine x_geti (v := (μ.1 1 1)) rfl rfl (by decide) (Or.inl rfl) rfl ?_
  refine g_istore_n rfl rfl rfl ?_
  refine g_aload_n rfl rfl ?_
  refine x_getF (r := 1) hG rfl rfl (by decide) (Or.inl ⟨_, rfl⟩) rfl ?_
  refine g_iconst rfl ⟨by decide, by decide⟩ ?_
  refine g_puti rfl rfl (by decide) rfl rfl ?_
  refine g_aload_n rfl rfl ?_
  refine x_getF (r := 1) hG rfl rfl (by decide) (Or.inl ⟨_, rfl⟩) rfl ?_
  refine g_iconst rfl ⟨by decide, by decide⟩ ?_
  refine g_puti rfl rfl (by decide) rfl rfl ?_
  refine g_aload_n rfl rfl ?_
  refine x_getF (r := 1) hG rfl rfl (by decide) (Or.inl ⟨_, rfl⟩) rfl ?_
  refine g_iconst rfl ⟨by decide, by decide⟩ ?_
  refine g_puti rfl rfl (by decide) rfl rfl ?_
  refine g_aload_n rfl rfl ?_
  refine x_getF (r := 1) hG rfl rfl (by decide) (Or.inl ⟨_, rfl⟩) rfl ?_
  refine g_iload_n rfl rfl ?_
  refine g_iload_n rfl rfl ?_
  refine g_iV (as := [tI 2, tI (-1)]) mX9_slotFor_ok rfl rfl rfl rfl rfl rfl (by decide) rfl rfl rfl ?_
  refine g_iload_n rfl rfl ?_
  refine g_if_lt (tgt := 9) rfl (by decide) (fun hx => absurd hx (by omega)) (fun _ => ?_)
  refine g_iload_n rfl rfl ?_
  refine g_iconst rfl ⟨by decide, by decide⟩ ?_
  refine g_icmp_lt (tgt := 11) rfl (by decide) (fun _ => ?_) (fun hx => absurd hx (by omega))
  refine g_aload_n rfl rfl ?_
  refine x_getF (r := 5) hG rfl rfl (by decide) (Or.inr ⟨_, rfl⟩) rfl ?_
  refine g_iload_n rfl rfl ?_
  refine x_iald (v := 2) rfl rfl (by decide) (by decide) (by decide) hM ?_
  refine g_istore_n rfl rfl rfl ?_
  refine g_iload_n rfl rfl ?_
  refine g_iconst rfl ⟨by decide, by decide⟩ ?_
  refine g_icmp_ne (tgt := 34) rfl (by decide) (fun hx => absurd hx (by omega)) (fun _ => ?_)
  refine g_iload_n rfl rfl ?_
  refine g_iconst rfl ⟨by decide, by decide⟩ ?_
  refine g_icmp_ge (tgt := 32) rfl (by decide) (fun _ => ?_) (fun hx => absurd hx (by omega))
  refine g_iconst rfl ⟨by decide, by decide⟩ ?_
  refine x_ireturn rfl rfl ?_
  intro _
  refine g_istore rfl rfl rfl ?_
  refine g_iload rfl rfl ?_
  refine g_iconst rfl ⟨by decide, by decide⟩ ?_
  refine g_icmp_ne (tgt := 52) rfl (by decide) (fun hx => absurd hx (by omega)) (fun _ => ?_)
  refine g_bipush rfl ⟨by decide, by decide⟩ (by decide) ?_
  refine x_ireturn rfl rfl ?_
  exact ⟨rfl, rfl, rfl, rfl, fun c z => by rw [tp_pi_ne z, tp_pi_ne z, tp_pi_ne z]⟩
set_option maxHeartbeats 4000000 in
set_option maxRecDepth 100000 in
theorem s_mr2x {G : tp_G} {μ : tp_M} (hG : tp_Gf G = true) (hM : μ.1 206 2 = 2) : tp_k G mX12_text [tR (some 201), tI 2, tI (-1)] μ (fun r μ' => r = some (tI (-2)) ∧ μ'.1 203 0 = 0 ∧ μ'.1 204 0 = 0 ∧ μ'.1 205 0 = -1 ∧ m_Qc μ μ' ∧ (∀ c, m_Lc c → μ'.1 c = μ.1 c)) := by
  refine tp_ok_of mX12_text_ok rfl (Nat.le_refl _) ?_
  refine g_aload_n rfl rfl ?_
  refine g_iconst rfl ⟨by decide, by decide⟩ ?_
  refine g_puti rfl rfl (by decide) rfl rfl ?_
  refine g_aload_n rfl rfl ?_
  refine g_aload_n rfl rfl ?_
  refine x_getF (r := 203) hG rfl rfl (by decide) (Or.inr ⟨_, rfl⟩) rfl ?_
  refine g_iconst rfl ⟨by decide, by decide⟩ ?_
  refine x_iald (v := (μ.1 203 0)) rfl rfl (by decide) (by decide) (by decide) rfl ?_
  refine g_puti rfl rfl (by decide) rfl rfl ?_
  refine g_aload_n rfl rfl ?_
  refine x_getF (r := 203) hG rfl rfl (by decide) (Or.inr ⟨_, rfl⟩) rfl ?_
  refine g_iconst rfl ⟨by decide, by decide⟩ ?_
  refine g_iconst rfl ⟨by decide, by decide⟩ ?_
  refine g_iast rfl rfl (by decide) (by decide) (by decide) ?_
  refine g_aload_n rfl rfl ?_
  refine x_getF (r := 204) hG rfl rfl (by decide) (Or.inr ⟨_, rfl⟩) rfl ?_
  refine g_iconst rfl ⟨by decide, by decide⟩ ?_
  refine g_iconst rfl ⟨by decide, by decide⟩ ?_
  refine g_iast rfl rfl (by decide) (by decide) (by decide) ?_
  refine g_aload_n rfl rfl ?_
  refine x_getF (r := 205) hG rfl rfl (by decide) (Or.inr ⟨_, rfl⟩) rfl ?_
  refine g_iconst rfl ⟨by decide, by decide⟩ ?_
  refine g_iconst rfl ⟨by decide, by decide⟩ ?_
  refine g_iast rfl rfl (by decide) (by decide) (by decide) ?_
  refine g_iload_n rfl rfl ?_
  refine g_iconst rfl ⟨by decide, by decide⟩ ?_
  refine g_iconst rfl ⟨by decide, by decide⟩ ?_
  refine g_iS (as := [tI 2, tI 0, tI 3]) mX12_in_ok rfl rfl rfl rfl rfl rfl rfl ?_
  refine g_iload_n rfl rfl ?_
  refine g_iload_n rfl rfl ?_
  refine g_icmp_lt (tgt := 14) rfl (by decide) (fun hx => absurd hx (by omega)) (fun _ => ?_)
  refine g_iload_n rfl rfl ?_
  refine g_iload_n rfl rfl ?_
  refine g_icmp_gt (tgt := 14) rfl (by decide) (fun hx => absurd hx (by omega)) (fun _ => ?_)
  refine g_iconst rfl ⟨by decide, by decide⟩ ?_
  refine g_goto (tgt := 15) rfl (by decide) ?_
  refine x_zreturn rfl rfl (Or.inr rfl) ?_
  intro _
  refine g_if_eq (tgt := 72) rfl (by decide) (fun hx => absurd hx (by omega)) (fun _ => ?_)
  refine g_iload_n rfl rfl ?_
  refine g_iconst rfl ⟨by decide, by decide⟩ ?_
  refine g_icmp_ne (tgt := 63) rfl (by decide) (fun hx => absurd hx (by omega)) (fun _ => ?_)
  refine g_aload_n rfl rfl ?_
  refine x_getF (r := 206) hG rfl rfl (by decide) (Or.inr ⟨_, rfl⟩) rfl ?_
  refine g_iload_n rfl rfl ?_
  refine x_iald (v := 2) rfl rfl (by decide) (by decide) (by decide) hM ?_
  refine g_iconst rfl ⟨by decide, by decide⟩ ?_
  refine g_icmp_ne (tgt := 75) rfl (by decide) (fun hx => absurd hx (by omega)) (fun _ => ?_)
  refine g_goto (tgt := 72) rfl (by decide) ?_
  refine g_bipush rfl ⟨by decide, by decide⟩ (by decide) ?_
  refine x_ireturn rfl rfl ?_
  exact ⟨rfl, rfl, rfl, rfl, fun q z => ⟨by rw [tp_pi_ne (by omega), tp_pi_ne (by omega), tp_pi_ix (by omega)]; rfl, by rw [tp_pi_ne (by omega), tp_pi_ix (by omega)]; rfl, by rw [tp_pi_ix (by omega)]; rfl⟩, fun c z => by rw [tp_pi_ne z.2.2.2.1, tp_pi_ne z.2.2.1, tp_pi_ne z.2.1, tp_pi_ne z.1, tp_pi_ne z.1]⟩
set_option maxHeartbeats 4000000 in
set_option maxRecDepth 100000 in
theorem s_xr2y {G : tp_G} {μ : tp_M} (hG : tp_Gf G = true) {b M : Int} (hM : μ.1 5 2 = M) (hb : b < -1 ∧ 0 ≤ M ∧ M ≤ 2) : tp_k G mX11_text [tR (some 0), tI 2, tI b] μ (fun r μ' => r = some (tI (-2)) ∧ μ'.1 1 1 = 0 ∧ μ'.1 1 2 = 0 ∧ μ'.1 1 3 = -1 ∧ (∀ c, c ≠ 1 → μ'.1 c = μ.1 c)) := by
  refine tp_ok_of mX11_text_ok rfl (Nat.le_refl _) ?_
  refine g_aload_n rfl rfl ?_
  refine x_getF (r := 1) hG rfl rfl (by decide) (Or.inl ⟨_, rfl⟩) rfl ?_
  refine x_geti (v := (μ.1 1 1)) rfl rfl (by decide) (Or.inl rfl) rfl ?_
  refine g_istore_n rfl rfl rfl ?_
  refine g_aload_n rfl rfl ?_
  refine x_getF (r := 1) hG rfl rfl (by decide) (Or.inl ⟨_, rfl⟩) rfl ?_
  refine g_iconst rfl ⟨by decide, by decide⟩ ?_
  refine g_puti rfl rfl (by decide) rfl rfl ?_
  refine g_aload_n rfl rfl ?_
  refine x_getF (r := 1) hG rfl rfl (by decide) (Or.inl ⟨_, rfl⟩) rfl ?_
  refine g_iconst rfl ⟨by decide, by decide⟩ ?_
  refine g_puti rfl rfl (by decide) rfl rfl ?_
  refine g_aload_n rfl rfl ?_
  refine x_getF (r := 1) hG rfl rfl (by decide) (Or.inl ⟨_, rfl⟩) rfl ?_
  refine g_iconst rfl ⟨by decide, by decide⟩ ?_
  refine g_puti rfl rfl (by decide) rfl rfl ?_
  refine g_aload_n rfl rfl ?_
  refine x_getF (r := 1) hG rfl rfl (by decide) (Or.inl ⟨_, rfl⟩) rfl ?_
  refine g_iload_n rfl rfl ?_
  refine g_iload_n rfl rfl ?_
  refine g_iV (as := [tI 2, tI b]) mX9_slotFor_ok rfl rfl rfl rfl rfl rfl (by decide) rfl rfl rfl ?_
  refine g_iload_n rfl rfl ?_
  refine g_if_lt (tgt := 9) rfl (by decide) (fun hx => absurd hx (by omega)) (fun _ => ?_)
  refine g_iload_n rfl rfl ?_
  refine g_iconst rfl ⟨by decide, by decide⟩ ?_
  refine g_icmp_lt (tgt := 11) rfl (by decide) (fun _ => ?_) (fun hx => absurd hx (by omega))
  refine g_aload_n rfl rfl ?_
  refine x_getF (r := 5) hG rfl rfl (by decide) (Or.inr ⟨_, rfl⟩) rfl ?_
  refine g_iload_n rfl rfl ?_
  refine x_iald (v := M) rfl rfl (by decide) (by decide) (by decide) hM ?_
  refine g_istore_n rfl rfl rfl ?_
  refine g_iload_n rfl rfl ?_
  refine g_iconst rfl ⟨by decide, by decide⟩ ?_
  refine g_icmp_ne (tgt := 34) rfl (by decide) (fun _ => ?_) (fun hx => absurd hx (by omega))
  refine g_iload_n rfl rfl ?_
  refine g_if_lt (tgt := 43) rfl (by decide) (fun _ => ?_) (fun hx => absurd hx (by omega))
  refine g_iconst rfl ⟨by decide, by decide⟩ ?_
  refine g_goto (tgt := 48) rfl (by decide) ?_
  refine x_ireturn rfl rfl ?_
  intro _
  refine g_istore rfl rfl rfl ?_
  refine g_iload rfl rfl ?_
  refine g_iconst rfl ⟨by decide, by decide⟩ ?_
  refine g_icmp_ne (tgt := 52) rfl (by decide) (fun hx => absurd hx (by omega)) (fun _ => ?_)
  refine g_bipush rfl ⟨by decide, by decide⟩ (by decide) ?_
  refine x_ireturn rfl rfl ?_
  exact ⟨rfl, rfl, rfl, rfl, fun c z => by rw [tp_pi_ne z, tp_pi_ne z, tp_pi_ne z]⟩
set_option maxHeartbeats 4000000 in
set_option maxRecDepth 100000 in
theorem s_mr2y {G : tp_G} {μ : tp_M} (hG : tp_Gf G = true) {b M : Int} (hM : μ.1 206 2 = M) (hb : b < -1 ∧ 0 ≤ M ∧ M ≤ 2) : tp_k G mX12_text [tR (some 201), tI 2, tI b] μ (fun r μ' => r = some (tI (-2)) ∧ μ'.1 203 0 = 0 ∧ μ'.1 204 0 = 0 ∧ μ'.1 205 0 = -1 ∧ m_Qc μ μ' ∧ (∀ c, m_Lc c → μ'.1 c = μ.1 c)) := by
  refine tp_ok_of mX12_text_ok rfl (Nat.le_refl _) ?_
  refine g_aload_n rfl rfl ?_
  refine g_iconst rfl ⟨by decide, by decide⟩ ?_
  refine g_puti rfl rfl (by decide) rfl rfl ?_
  refine g_aload_n rfl rfl ?_
  refine g_aload_n rfl rfl ?_
  refine x_getF (r := 203) hG rfl rfl (by decide) (Or.inr ⟨_, rfl⟩) rfl ?_
  refine g_iconst rfl ⟨by decide, by decide⟩ ?_
  refine x_iald (v := (μ.1 203 0)) rfl rfl (by decide) (by decide) (by decide) rfl ?_
  refine g_puti rfl rfl (by decide) rfl rfl ?_
  refine g_aload_n rfl rfl ?_
  refine x_getF (r := 203) hG rfl rfl (by decide) (Or.inr ⟨_, rfl⟩) rfl ?_
  refine g_iconst rfl ⟨by decide, by decide⟩ ?_
  refine g_iconst rfl ⟨by decide, by decide⟩ ?_
  refine g_iast rfl rfl (by decide) (by decide) (by decide) ?_
  refine g_aload_n rfl rfl ?_
  refine x_getF (r := 204) hG rfl rfl (by decide) (Or.inr ⟨_, rfl⟩) rfl ?_
  refine g_iconst rfl ⟨by decide, by decide⟩ ?_
  refine g_iconst rfl ⟨by decide, by decide⟩ ?_
  refine g_iast rfl rfl (by decide) (by decide) (by decide) ?_
  refine g_aload_n rfl rfl ?_
  refine x_getF (r := 205) hG rfl rfl (by decide) (Or.inr ⟨_, rfl⟩) rfl ?_
  refine g_iconst rfl ⟨by decide, by decide⟩ ?_
  refine g_iconst rfl ⟨by decide, by decide⟩ ?_
  refine g_iast rfl rfl (by decide) (by decide) (by decide) ?_
  refine g_iload_n rfl rfl ?_
  refine g_iconst rfl ⟨by decide, by decide⟩ ?_
  refine g_iconst rfl ⟨by decide, by decide⟩ ?_
  refine g_iS (as := [tI 2, tI 0, tI 3]) mX12_in_ok rfl rfl rfl rfl rfl rfl rfl ?_
  refine g_iload_n rfl rfl ?_
  refine g_iload_n rfl rfl ?_
  refine g_icmp_lt (tgt := 14) rfl (by decide) (fun hx => absurd hx (by omega)) (fun _ => ?_)
  refine g_iload_n rfl rfl ?_
  refine g_iload_n rfl rfl ?_
  refine g_icmp_gt (tgt := 14) rfl (by decide) (fun hx => absurd hx (by omega)) (fun _ => ?_)
  refine g_iconst rfl ⟨by decide, by decide⟩ ?_
  refine g_goto (tgt := 15) rfl (by decide) ?_
  refine x_zreturn rfl rfl (Or.inr rfl) ?_
  intro _
  refine g_if_eq (tgt := 72) rfl (by decide) (fun hx => absurd hx (by omega)) (fun _ => ?_)
  refine g_iload_n rfl rfl ?_
  refine g_iconst rfl ⟨by decide, by decide⟩ ?_
  refine g_icmp_ne (tgt := 63) rfl (by decide) (fun _ => ?_) (fun hx => absurd hx (by omega))
  refine g_aload_n rfl rfl ?_
  refine g_iload_n rfl rfl ?_
  refine g_iload_n rfl rfl ?_
  refine g_iV (as := [tI 2, tI b]) mX12_is_ok rfl rfl rfl rfl rfl rfl (by decide) rfl rfl rfl ?_
  refine g_iload_n rfl rfl ?_
  refine g_iconst rfl ⟨by decide, by decide⟩ ?_
  refine g_aload_n rfl rfl ?_
  refine x_getF (r := 206) hG rfl rfl (by decide) (Or.inr ⟨_, rfl⟩) rfl ?_
  refine g_iload_n rfl rfl ?_
  refine x_iald (v := M) rfl rfl (by decide) (by decide) (by decide) hM ?_
  refine g_iconst rfl ⟨by decide, by decide⟩ ?_
  refine x_isub (z := M - 1) rfl (by omega) ⟨by omega, by omega⟩ ?_
  refine g_iS (as := [tI b, tI 0, tI (M - 1)]) mX12_in_ok rfl rfl rfl rfl rfl rfl rfl ?_
  refine g_iload_n rfl rfl ?_
  refine g_iload_n rfl rfl ?_
  refine g_icmp_lt (tgt := 14) rfl (by decide) (fun _ => ?_) (fun hx => absurd hx (by omega))
  refine g_iconst rfl ⟨by decide, by decide⟩ ?_
  refine x_zreturn rfl rfl (Or.inl rfl) ?_
  intro _
  refine x_zreturn rfl rfl (Or.inl rfl) ?_
  intro _
  refine g_if_ne (tgt := 75) rfl (by decide) (fun hx => absurd hx (by omega)) (fun _ => ?_)
  refine g_bipush rfl ⟨by decide, by decide⟩ (by decide) ?_
  refine x_ireturn rfl rfl ?_
  exact ⟨rfl, rfl, rfl, rfl, fun q z => ⟨by rw [tp_pi_ne (by omega), tp_pi_ne (by omega), tp_pi_ix (by omega)]; rfl, by rw [tp_pi_ne (by omega), tp_pi_ix (by omega)]; rfl, by rw [tp_pi_ix (by omega)]; rfl⟩, fun c z => by rw [tp_pi_ne z.2.2.2.1, tp_pi_ne z.2.2.1, tp_pi_ne z.2.1, tp_pi_ne z.1, tp_pi_ne z.1]⟩
set_option maxHeartbeats 4000000 in
set_option maxRecDepth 100000 in
theorem s_xr2z {G : tp_G} {μ : tp_M} (hG : tp_Gf G = true) {b M : Int} (hM : μ.1 5 2 = M) (hb : 0 ≤ b ∧ M ≤ b ∧ 0 ≤ M ∧ M ≤ 2) : tp_k G mX11_text [tR (some 0), tI 2, tI b] μ (fun r μ' => r = some (tI (-2)) ∧ μ'.1 1 1 = 0 ∧ μ'.1 1 2 = 0 ∧ μ'.1 1 3 = -1 ∧ (∀ c, c ≠ 1 → μ'.1 c = μ.1 c)) := by
  refine tp_ok_of mX11_text_ok rfl (Nat.le_refl _) ?_
  refine g_aload_n rfl rfl ?_
  refine x_getF (r := 1) hG rfl rfl (by decide) (Or.inl ⟨_, rfl⟩) rfl ?_
  refine x_geti (v := (μ.1 1 1)) rfl rfl (by decide) (Or.inl rfl) rfl ?_
  refine g_istore_n rfl rfl rfl ?_
  refine g_aload_n rfl rfl ?_
  refine x_getF (r := 1) hG rfl rfl (by decide) (Or.inl ⟨_, rfl⟩) rfl ?_
  refine g_iconst rfl ⟨by decide, by decide⟩ ?_
  refine g_puti rfl rfl (by decide) rfl rfl ?_
  refine g_aload_n rfl rfl ?_
  refine x_getF (r := 1) hG rfl rfl (by decide) (Or.inl ⟨_, rfl⟩) rfl ?_
  refine g_iconst rfl ⟨by decide, by decide⟩ ?_
  refine g_puti rfl rfl (by decide) rfl rfl ?_
  refine g_aload_n rfl rfl ?_
  refine x_getF (r := 1) hG rfl rfl (by decide) (Or.inl ⟨_, rfl⟩) rfl ?_
  refine g_iconst rfl ⟨by decide, by decide⟩ ?_
  refine g_puti rfl rfl (by decide) rfl rfl ?_
  refine g_aload_n rfl rfl ?_
  refine x_getF (r := 1) hG rfl rfl (by decide) (Or.inl ⟨_, rfl⟩) rfl ?_
  refine g_iload_n rfl rfl ?_
  refine g_iload_n rfl rfl ?_
  refine g_iV (as := [tI 2, tI b]) mX9_slotFor_ok rfl rfl rfl rfl rfl rfl (by decide) rfl rfl rfl ?_
  refine g_iload_n rfl rfl ?_
  refine g_if_lt (tgt := 9) rfl (by decide) (fun hx => absurd hx (by omega)) (fun _ => ?_)
  refine g_iload_n rfl rfl ?_
  refine g_iconst rfl ⟨by decide, by decide⟩ ?_
  refine g_icmp_lt (tgt := 11) rfl (by decide) (fun _ => ?_) (fun hx => absurd hx (by omega))
  refine g_aload_n rfl rfl ?_
  refine x_getF (r := 5) hG rfl rfl (by decide) (Or.inr ⟨_, rfl⟩) rfl ?_
  refine g_iload_n rfl rfl ?_
  refine x_iald (v := M) rfl rfl (by decide) (by decide) (by decide) hM ?_
  refine g_istore_n rfl rfl rfl ?_
  refine g_iload_n rfl rfl ?_
  refine g_iconst rfl ⟨by decide, by decide⟩ ?_
  refine g_icmp_ne (tgt := 34) rfl (by decide) (fun _ => ?_) (fun hx => absurd hx (by omega))
  refine g_iload_n rfl rfl ?_
  refine g_if_lt (tgt := 43) rfl (by decide) (fun hx => absurd hx (by omega)) (fun _ => ?_)
  refine g_iload_n rfl rfl ?_
  refine g_iload_n rfl rfl ?_
  refine g_icmp_lt (tgt := 47) rfl (by decide) (fun hx => absurd hx (by omega)) (fun _ => ?_)
  refine g_iconst rfl ⟨by decide, by decide⟩ ?_
  refine g_goto (tgt := 48) rfl (by decide) ?_
  refine x_ireturn rfl rfl ?_
  intro _
  refine g_istore rfl rfl rfl ?_
  refine g_iload rfl rfl ?_
  refine g_iconst rfl ⟨by decide, by decide⟩ ?_
  refine g_icmp_ne (tgt := 52) rfl (by decide) (fun hx => absurd hx (by omega)) (fun _ => ?_)
  refine g_bipush rfl ⟨by decide, by decide⟩ (by decide) ?_
  refine x_ireturn rfl rfl ?_
  exact ⟨rfl, rfl, rfl, rfl, fun c z => by rw [tp_pi_ne z, tp_pi_ne z, tp_pi_ne z]⟩
set_option maxHeartbeats 4000000 in
set_option maxRecDepth 100000 in
theorem s_mr2z {G : tp_G} {μ : tp_M} (hG : tp_Gf G = true) {b M : Int} (hM : μ.1 206 2 = M) (hb : 0 ≤ b ∧ M ≤ b ∧ 0 ≤ M ∧ M ≤ 2) : tp_k G mX12_text [tR (some 201), tI 2, tI b] μ (fun r μ' => r = some (tI (-2)) ∧ μ'.1 203 0 = 0 ∧ μ'.1 204 0 = 0 ∧ μ'.1 205 0 = -1 ∧ m_Qc μ μ' ∧ (∀ c, m_Lc c → μ'.1 c = μ.1 c)) := by
  refine tp_ok_of mX12_text_ok rfl (Nat.le_refl _) ?_
  refine g_aload_n rfl rfl ?_
  refine g_iconst rfl ⟨by decide, by decide⟩ ?_
  refine g_puti rfl rfl (by decide) rfl rfl ?_
  refine g_aload_n rfl rfl ?_
  refine g_aload_n rfl rfl ?_
  refine x_getF (r := 203) hG rfl rfl (by decide) (Or.inr ⟨_, rfl⟩) rfl ?_
  refine g_iconst rfl ⟨by decide, by decide⟩ ?_
  refine x_iald (v := (μ.1 203 0)) rfl rfl (by decide) (by decide) (by decide) rfl ?_
  refine g_puti rfl rfl (by decide) rfl rfl ?_
  refine g_aload_n rfl rfl ?_
  refine x_getF (r := 203) hG rfl rfl (by decide) (Or.inr ⟨_, rfl⟩) rfl ?_
  refine g_iconst rfl ⟨by decide, by decide⟩ ?_
  refine g_iconst rfl ⟨by decide, by decide⟩ ?_
  refine g_iast rfl rfl (by decide) (by decide) (by decide) ?_
  refine g_aload_n rfl rfl ?_
  refine x_getF (r := 204) hG rfl rfl (by decide) (Or.inr ⟨_, rfl⟩) rfl ?_
  refine g_iconst rfl ⟨by decide, by decide⟩ ?_
  refine g_iconst rfl ⟨by decide, by decide⟩ ?_
  refine g_iast rfl rfl (by decide) (by decide) (by decide) ?_
  refine g_aload_n rfl rfl ?_
  refine x_getF (r := 205) hG rfl rfl (by decide) (Or.inr ⟨_, rfl⟩) rfl ?_
  refine g_iconst rfl ⟨by decide, by decide⟩ ?_
  refine g_iconst rfl ⟨by decide, by decide⟩ ?_
  refine g_iast rfl rfl (by decide) (by decide) (by decide) ?_
  refine g_iload_n rfl rfl ?_
  refine g_iconst rfl ⟨by decide, by decide⟩ ?_
  refine g_iconst rfl ⟨by decide, by decide⟩ ?_
  refine g_iS (as := [tI 2, tI 0, tI 3]) mX12_in_ok rfl rfl rfl rfl rfl rfl rfl ?_
  refine g_iload_n rfl rfl ?_
  refine g_iload_n rfl rfl ?_
  refine g_icmp_lt (tgt := 14) rfl (by decide) (fun hx => absurd hx (by omega)) (fun _ => ?_)
  refine g_iload_n rfl rfl ?_
  refine g_iload_n rfl rfl ?_
  refine g_icmp_gt (tgt := 14) rfl (by decide) (fun hx => absurd hx (by omega)) (fun _ => ?_)
  refine g_iconst rfl ⟨by decide, by decide⟩ ?_
  refine g_goto (tgt := 15) rfl (by decide) ?_
  refine x_zreturn rfl rfl (Or.inr rfl) ?_
  intro _
  refine g_if_eq (tgt := 72) rfl (by decide) (fun hx => absurd hx (by omega)) (fun _ => ?_)
  refine g_iload_n rfl rfl ?_
  refine g_iconst rfl ⟨by decide, by decide⟩ ?_
  refine g_icmp_ne (tgt := 63) rfl (by decide) (fun _ => ?_) (fun hx => absurd hx (by omega))
  refine g_aload_n rfl rfl ?_
  refine g_iload_n rfl rfl ?_
  refine g_iload_n rfl rfl ?_
  refine g_iV (as := [tI 2, tI b]) mX12_is_ok rfl rfl rfl rfl rfl rfl (by decide) rfl rfl rfl ?_
  refine g_iload_n rfl rfl ?_
  refine g_iconst rfl ⟨by decide, by decide⟩ ?_
  refine g_aload_n rfl rfl ?_
  refine x_getF (r := 206) hG rfl rfl (by decide) (Or.inr ⟨_, rfl⟩) rfl ?_
  refine g_iload_n rfl rfl ?_
  refine x_iald (v := M) rfl rfl (by decide) (by decide) (by decide) hM ?_
  refine g_iconst rfl ⟨by decide, by decide⟩ ?_
  refine x_isub (z := M - 1) rfl (by omega) ⟨by omega, by omega⟩ ?_
  refine g_iS (as := [tI b, tI 0, tI (M - 1)]) mX12_in_ok rfl rfl rfl rfl rfl rfl rfl ?_
  refine g_iload_n rfl rfl ?_
  refine g_iload_n rfl rfl ?_
  refine g_icmp_lt (tgt := 14) rfl (by decide) (fun hx => absurd hx (by omega)) (fun _ => ?_)
  refine g_iload_n rfl rfl ?_
  refine g_iload_n rfl rfl ?_
  refine g_icmp_gt (tgt := 14) rfl (by decide) (fun _ => ?_) (fun hx => absurd hx (by omega))
  refine g_iconst rfl ⟨by decide, by decide⟩ ?_
  refine x_zreturn rfl rfl (Or.inl rfl) ?_
  intro _
  refine x_zreturn rfl rfl (Or.inl rfl) ?_
  intro _
  refine g_if_ne (tgt := 75) rfl (by decide) (fun hx => absurd hx (by omega)) (fun _ => ?_)
  refine g_bipush rfl ⟨by decide, by decide⟩ (by decide) ?_
  refine x_ireturn rfl rfl ?_
  exact ⟨rfl, rfl, rfl, rfl, fun q z => ⟨by rw [tp_pi_ne (by omega), tp_pi_ne (by omega), tp_pi_ix (by omega)]; rfl, by rw [tp_pi_ne (by omega), tp_pi_ix (by omega)]; rfl, by rw [tp_pi_ix (by omega)]; rfl⟩, fun c z => by rw [tp_pi_ne z.2.2.2.1, tp_pi_ne z.2.2.1, tp_pi_ne z.2.1, tp_pi_ne z.1, tp_pi_ne z.1]⟩
set_option maxHeartbeats 4000000 in
set_option maxRecDepth 100000 in
theorem s_xr3x {G : tp_G} {μ : tp_M} (hG : tp_Gf G = true) (hM : μ.1 5 3 = 2) : tp_k G mX11_text [tR (some 0), tI 3, tI (-1)] μ (fun r μ' => r = some (tI (-2)) ∧ μ'.1 1 1 = 0 ∧ μ'.1 1 2 = 0 ∧ μ'.1 1 3 = -1 ∧ (∀ c, c ≠ 1 → μ'.1 c = μ.1 c)) := by
  refine tp_ok_of mX11_text_ok rfl (Nat.le_refl _) ?_
  refine g_aload_n rfl rfl ?_
  refine x_getF (r := 1) hG rfl rfl (by decide) (Or.inl ⟨_, rfl⟩) rfl ?_
  refine x_geti (v := (μ.1 1 1)) rfl rfl (by decide) (Or.inl rfl) rfl ?_
  refine g_istore_n rfl rfl rfl ?_
  refine g_aload_n rfl rfl ?_
  refine x_getF (r := 1) hG rfl rfl (by decide) (Or.inl ⟨_, rfl⟩) rfl ?_
  refine g_iconst rfl ⟨by decide, by decide⟩ ?_
  refine g_puti rfl rfl (by decide) rfl rfl ?_
  refine g_aload_n rfl rfl ?_
  refine x_getF (r := 1) hG rfl rfl (by decide) (Or.inl ⟨_, rfl⟩) rfl ?_
  refine g_iconst rfl ⟨by decide, by decide⟩ ?_
  refine g_puti rfl rfl (by decide) rfl rfl ?_
  refine g_aload_n rfl rfl ?_
  refine x_getF (r := 1) hG rfl rfl (by decide) (Or.inl ⟨_, rfl⟩) rfl ?_
  refine g_iconst rfl ⟨by decide, by decide⟩ ?_
  refine g_puti rfl rfl (by decide) rfl rfl ?_
  refine g_aload_n rfl rfl ?_
  refine x_getF (r := 1) hG rfl rfl (by decide) (Or.inl ⟨_, rfl⟩) rfl ?_
  refine g_iload_n rfl rfl ?_
  refine g_iload_n rfl rfl ?_
  refine g_iV (as := [tI 3, tI (-1)]) mX9_slotFor_ok rfl rfl rfl rfl rfl rfl (by decide) rfl rfl rfl ?_
  refine g_iload_n rfl rfl ?_
  refine g_if_lt (tgt := 9) rfl (by decide) (fun hx => absurd hx (by omega)) (fun _ => ?_)
  refine g_iload_n rfl rfl ?_
  refine g_iconst rfl ⟨by decide, by decide⟩ ?_
  refine g_icmp_lt (tgt := 11) rfl (by decide) (fun _ => ?_) (fun hx => absurd hx (by omega))
  refine g_aload_n rfl rfl ?_
  refine x_getF (r := 5) hG rfl rfl (by decide) (Or.inr ⟨_, rfl⟩) rfl ?_
  refine g_iload_n rfl rfl ?_
  refine x_iald (v := 2) rfl rfl (by decide) (by decide) (by decide) hM ?_
  refine g_istore_n rfl rfl rfl ?_
  refine g_iload_n rfl rfl ?_
  refine g_iconst rfl ⟨by decide, by decide⟩ ?_
  refine g_icmp_ne (tgt := 34) rfl (by decide) (fun hx => absurd hx (by omega)) (fun _ => ?_)
  refine g_iload_n rfl rfl ?_
  refine g_iconst rfl ⟨by decide, by decide⟩ ?_
  refine g_icmp_ge (tgt := 32) rfl (by decide) (fun _ => ?_) (fun hx => absurd hx (by omega))
  refine g_iconst rfl ⟨by decide, by decide⟩ ?_
  refine x_ireturn rfl rfl ?_
  intro _
  refine g_istore rfl rfl rfl ?_
  refine g_iload rfl rfl ?_
  refine g_iconst rfl ⟨by decide, by decide⟩ ?_
  refine g_icmp_ne (tgt := 52) rfl (by decide) (fun hx => absurd hx (by omega)) (fun _ => ?_)
  refine g_bipush rfl ⟨by decide, by decide⟩ (by decide) ?_
  refine x_ireturn rfl rfl ?_
  exact ⟨rfl, rfl, rfl, rfl, fun c z => by rw [tp_pi_ne z, tp_pi_ne z, tp_pi_ne z]⟩
set_option maxHeartbeats 4000000 in
set_option maxRecDepth 100000 in
theorem s_mr3x {G : tp_G} {μ : tp_M} (hG : tp_Gf G = true) (hM : μ.1 206 3 = 2) : tp_k G mX12_text [tR (some 201), tI 3, tI (-1)] μ (fun r μ' => r = some (tI (-2)) ∧ μ'.1 203 0 = 0 ∧ μ'.1 204 0 = 0 ∧ μ'.1 205 0 = -1 ∧ m_Qc μ μ' ∧ (∀ c, m_Lc c → μ'.1 c = μ.1 c)) := by
  refine tp_ok_of mX12_text_ok rfl (Nat.le_refl _) ?_
  refine g_aload_n rfl rfl ?_
  refine g_iconst rfl ⟨by decide, by decide⟩ ?_
  refine g_puti rfl rfl (by decide) rfl rfl ?_
  refine g_aload_n rfl rfl ?_
  refine g_aload_n rfl rfl ?_
  refine x_getF (r := 203) hG rfl rfl (by decide) (Or.inr ⟨_, rfl⟩) rfl ?_
  refine g_iconst rfl ⟨by decide, by decide⟩ ?_
  refine x_iald (v := (μ.1 203 0)) rfl rfl (by decide) (by decide) (by decide) rfl ?_
  refine g_puti rfl rfl (by decide) rfl rfl ?_
  refine g_aload_n rfl rfl ?_
  refine x_getF (r := 203) hG rfl rfl (by decide) (Or.inr ⟨_, rfl⟩) rfl ?_
  refine g_iconst rfl ⟨by decide, by decide⟩ ?_
  refine g_iconst rfl ⟨by decide, by decide⟩ ?_
  refine g_iast rfl rfl (by decide) (by decide) (by decide) ?_
  refine g_aload_n rfl rfl ?_
  refine x_getF (r := 204) hG rfl rfl (by decide) (Or.inr ⟨_, rfl⟩) rfl ?_
  refine g_iconst rfl ⟨by decide, by decide⟩ ?_
  refine g_iconst rfl ⟨by decide, by decide⟩ ?_
  refine g_iast rfl rfl (by decide) (by decide) (by decide) ?_
  refine g_aload_n rfl rfl ?_
  refine x_getF (r := 205) hG rfl rfl (by decide) (Or.inr ⟨_, rfl⟩) rfl ?_
  refine g_iconst rfl ⟨by decide, by decide⟩ ?_
  refine g_iconst rfl ⟨by decide, by decide⟩ ?_
  refine g_iast rfl rfl (by decide) (by decide) (by decide) ?_
  refine g_iload_n rfl rfl ?_
  refine g_iconst rfl ⟨by decide, by decide⟩ ?_
  refine g_iconst rfl ⟨by decide, by decide⟩ ?_
  refine g_iS (as := [tI 3, tI 0, tI 3]) mX12_in_ok rfl rfl rfl rfl rfl rfl rfl ?_
  refine g_iload_n rfl rfl ?_
  refine g_iload_n rfl rfl ?_
  refine g_icmp_lt (tgt := 14) rfl (by decide) (fun hx => absurd hx (by omega)) (fun _ => ?_)
  refine g_iload_n rfl rfl ?_
  refine g_iload_n rfl rfl ?_
  refine g_icmp_gt (tgt := 14) rfl (by decide) (fun hx => absurd hx (by omega)) (fun _ => ?_)
  refine g_iconst rfl ⟨by decide, by decide⟩ ?_
  refine g_goto (tgt := 15) rfl (by decide) ?_
  refine x_zreturn rfl rfl (Or.inr rfl) ?_
  intro _
  refine g_if_eq (tgt := 72) rfl (by decide) (fun hx => absurd hx (by omega)) (fun _ => ?_)
  refine g_iload_n rfl rfl ?_
  refine g_iconst rfl ⟨by decide, by decide⟩ ?_
  refine g_icmp_ne (tgt := 63) rfl (by decide) (fun hx => absurd hx (by omega)) (fun _ => ?_)
  refine g_aload_n rfl rfl ?_
  refine x_getF (r := 206) hG rfl rfl (by decide) (Or.inr ⟨_, rfl⟩) rfl ?_
  refine g_iload_n rfl rfl ?_
  refine x_iald (v := 2) rfl rfl (by decide) (by decide) (by decide) hM ?_
  refine g_iconst rfl ⟨by decide, by decide⟩ ?_
  refine g_icmp_ne (tgt := 75) rfl (by decide) (fun hx => absurd hx (by omega)) (fun _ => ?_)
  refine g_goto (tgt := 72) rfl (by decide) ?_
  refine g_bipush rfl ⟨by decide, by decide⟩ (by decide) ?_
  refine x_ireturn rfl rfl ?_
  exact ⟨rfl, rfl, rfl, rfl, fun q z => ⟨by rw [tp_pi_ne (by omega), tp_pi_ne (by omega), tp_pi_ix (by omega)]; rfl, by rw [tp_pi_ne (by omega), tp_pi_ix (by omega)]; rfl, by rw [tp_pi_ix (by omega)]; rfl⟩, fun c z => by rw [tp_pi_ne z.2.2.2.1, tp_pi_ne z.2.2.1, tp_pi_ne z.2.1, tp_pi_ne z.1, tp_pi_ne z.1]⟩
set_option maxHeartbeats 4000000 in
set_option maxRecDepth 100000 in
theorem s_xr3y {G : tp_G} {μ : tp_M} (hG : tp_Gf G = true) {b M : Int} (hM : μ.1 5 3 = M) (hb : b < -1 ∧ 0 ≤ M ∧ M ≤ 2) : tp_k G mX11_text [tR (some 0), tI 3, tI b] μ (fun r μ' => r = some (tI (-2)) ∧ μ'.1 1 1 = 0 ∧ μ'.1 1 2 = 0 ∧ μ'.1 1 3 = -1 ∧ (∀ c, c ≠ 1 → μ'.1 c = μ.1 c)) := by
  refine tp_ok_of mX11_text_ok rfl (Nat.le_refl _) ?_
  refine g_aload_n rfl rfl ?_
  refine x_getF (r := 1) hG rfl rfl (by decide) (Or.inl ⟨_, rfl⟩) rfl ?_
  refine x_geti (v := (μ.1 1 1)) rfl rfl (by decide) (Or.inl rfl) rfl ?_
  refine g_istore_n rfl rfl rfl ?_
  refine g_aload_n rfl rfl ?_
  refine x_getF (r := 1) hG rfl rfl (by decide) (Or.inl ⟨_, rfl⟩) rfl ?_
  refine g_iconst rfl ⟨by decide, by decide⟩ ?_
  refine g_puti rfl rfl (by decide) rfl rfl ?_
  refine g_aload_n rfl rfl ?_
  refine x_getF (r := 1) hG rfl rfl (by decide) (Or.inl ⟨_, rfl⟩) rfl ?_
  refine g_iconst rfl ⟨by decide, by decide⟩ ?_
  refine g_puti rfl rfl (by decide) rfl rfl ?_
  refine g_aload_n rfl rfl ?_
  refine x_getF (r := 1) hG rfl rfl (by decide) (Or.inl ⟨_, rfl⟩) rfl ?_
  refine g_iconst rfl ⟨by decide, by decide⟩ ?_
  refine g_puti rfl rfl (by decide) rfl rfl ?_
  refine g_aload_n rfl rfl ?_
  refine x_getF (r := 1) hG rfl rfl (by decide) (Or.inl ⟨_, rfl⟩) rfl ?_
  refine g_iload_n rfl rfl ?_
  refine g_iload_n rfl rfl ?_
  refine g_iV (as := [tI 3, tI b]) mX9_slotFor_ok rfl rfl rfl rfl rfl rfl (by decide) rfl rfl rfl ?_
  refine g_iload_n rfl rfl ?_
  refine g_if_lt (tgt := 9) rfl (by decide) (fun hx => absurd hx (by omega)) (fun _ => ?_)
  refine g_iload_n rfl rfl ?_
  refine g_iconst rfl ⟨by decide, by decide⟩ ?_
  refine g_icmp_lt (tgt := 11) rfl (by decide) (fun _ => ?_) (fun hx => absurd hx (by omega))
  refine g_aload_n rfl rfl ?_
  refine x_getF (r := 5) hG rfl rfl (by decide) (Or.inr ⟨_, rfl⟩) rfl ?_
  refine g_iload_n rfl rfl ?_
  refine x_iald (v := M) rfl rfl (by decide) (by decide) (by decide) hM ?_
  refine g_istore_n rfl rfl rfl ?_
  refine g_iload_n rfl rfl ?_
  refine g_iconst rfl ⟨by decide, by decide⟩ ?_
  refine g_icmp_ne (tgt := 34) rfl (by decide) (fun _ => ?_) (fun hx => absurd hx (by omega))
  refine g_iload_n rfl rfl ?_
  refine g_if_lt (tgt := 43) rfl (by decide) (fun _ => ?_) (fun hx => absurd hx (by omega))
  refine g_iconst rfl ⟨by decide, by decide⟩ ?_
  refine g_goto (tgt := 48) rfl (by decide) ?_
  refine x_ireturn rfl rfl ?_
  intro _
  refine g_istore rfl rfl rfl ?_
  refine g_iload rfl rfl ?_
  refine g_iconst rfl ⟨by decide, by decide⟩ ?_
  refine g_icmp_ne (tgt := 52) rfl (by decide) (fun hx => absurd hx (by omega)) (fun _ => ?_)
  refine g_bipush rfl ⟨by decide, by decide⟩ (by decide) ?_
  refine x_ireturn rfl rfl ?_
  exact ⟨rfl, rfl, rfl, rfl, fun c z => by rw [tp_pi_ne z, tp_pi_ne z, tp_pi_ne z]⟩
set_option maxHeartbeats 4000000 in
set_option maxRecDepth 100000 in
theorem s_mr3y {G : tp_G} {μ : tp_M} (hG : tp_Gf G = true) {b M : Int} (hM : μ.1 206 3 = M) (hb : b < -1 ∧ 0 ≤ M ∧ M ≤ 2) : tp_k G mX12_text [tR (some 201), tI 3, tI b] μ (fun r μ' => r = some (tI (-2)) ∧ μ'.1 203 0 = 0 ∧ μ'.1 204 0 = 0 ∧ μ'.1 205 0 = -1 ∧ m_Qc μ μ' ∧ (∀ c, m_Lc c → μ'.1 c = μ.1 c)) := by
  refine tp_ok_of mX12_text_ok rfl (Nat.le_refl _) ?_
  refine g_aload_n rfl rfl ?_
  refine g_iconst rfl ⟨by decide, by decide⟩ ?_
  refine g_puti rfl rfl (by decide) rfl rfl ?_
  refine g_aload_n rfl rfl ?_
  refine g_aload_n rfl rfl ?_
  refine x_getF (r := 203) hG rfl rfl (by decide) (Or.inr ⟨_, rfl⟩) rfl ?_
  refine g_iconst rfl ⟨by decide, by decide⟩ ?_
  refine x_iald (v := (μ.1 203 0)) rfl rfl (by decide) (by decide) (by decide) rfl ?_
  refine g_puti rfl rfl (by decide) rfl rfl ?_
  refine g_aload_n rfl rfl ?_
  refine x_getF (r := 203) hG rfl rfl (by decide) (Or.inr ⟨_, rfl⟩) rfl ?_
  refine g_iconst rfl ⟨by decide, by decide⟩ ?_
  refine g_iconst rfl ⟨by decide, by decide⟩ ?_
  refine g_iast rfl rfl (by decide) (by decide) (by decide) ?_
  refine g_aload_n rfl rfl ?_
  refine x_getF (r := 204) hG rfl rfl (by decide) (Or.inr ⟨_, rfl⟩) rfl ?_
  refine g_iconst rfl ⟨by decide, by decide⟩ ?_
  refine g_iconst rfl ⟨by decide, by decide⟩ ?_
  refine g_iast rfl rfl (by decide) (by decide) (by decide) ?_
  refine g_aload_n rfl rfl ?_
  refine x_getF (r := 205) hG rfl rfl (by decide) (Or.inr ⟨_, rfl⟩) rfl ?_
  refine g_iconst rfl ⟨by decide, by decide⟩ ?_
  refine g_iconst rfl ⟨by decide, by decide⟩ ?_
  refine g_iast rfl rfl (by decide) (by decide) (by decide) ?_
  refine g_iload_n rfl rfl ?_
  refine g_iconst rfl ⟨by decide, by decide⟩ ?_
  refine g_iconst rfl ⟨by decide, by decide⟩ ?_
  refine g_iS (as := [tI 3, tI 0, tI 3]) mX12_in_ok rfl rfl rfl rfl rfl rfl rfl ?_
  refine g_iload_n rfl rfl ?_
  refine g_iload_n rfl rfl ?_
  refine g_icmp_lt (tgt := 14) rfl (by decide) (fun hx => absurd hx (by omega)) (fun _ => ?_)
  refine g_iload_n rfl rfl ?_
  refine g_iload_n rfl rfl ?_
  refine g_icmp_gt (tgt := 14) rfl (by decide) (fun hx => absurd hx (by omega)) (fun _ => ?_)
  refine g_iconst rfl ⟨by decide, by decide⟩ ?_
  refine g_goto (tgt := 15) rfl (by decide) ?_
  refine x_zreturn rfl rfl (Or.inr rfl) ?_
  intro _
  refine g_if_eq (tgt := 72) rfl (by decide) (fun hx => absurd hx (by omega)) (fun _ => ?_)
  refine g_iload_n rfl rfl ?_
  refine g_iconst rfl ⟨by decide, by decide⟩ ?_
  refine g_icmp_ne (tgt := 63) rfl (by decide) (fun _ => ?_) (fun hx => absurd hx (by omega))
  refine g_aload_n rfl rfl ?_
  refine g_iload_n rfl rfl ?_
  refine g_iload_n rfl rfl ?_
  refine g_iV (as := [tI 3, tI b]) mX12_is_ok rfl rfl rfl rfl rfl rfl (by decide) rfl rfl rfl ?_
  refine g_iload_n rfl rfl ?_
  refine g_iconst rfl ⟨by decide, by decide⟩ ?_
  refine g_aload_n rfl rfl ?_
  refine x_getF (r := 206) hG rfl rfl (by decide) (Or.inr ⟨_, rfl⟩) rfl ?_
  refine g_iload_n rfl rfl ?_
  refine x_iald (v := M) rfl rfl (by decide) (by decide) (by decide) hM ?_
  refine g_iconst rfl ⟨by decide, by decide⟩ ?_
  refine x_isub (z := M - 1) rfl (by omega) ⟨by omega, by omega⟩ ?_
  refine g_iS (as := [tI b, tI 0, tI (M - 1)]) mX12_in_ok rfl rfl rfl rfl rfl rfl rfl ?_
  refine g_iload_n rfl rfl ?_
  refine g_iload_n rfl rfl ?_
  refine g_icmp_lt (tgt := 14) rfl (by decide) (fun _ => ?_) (fun hx => absurd hx (by omega))
  refine g_iconst rfl ⟨by decide, by decide⟩ ?_
  refine x_zreturn rfl rfl (Or.inl rfl) ?_
  intro _
  refine x_zreturn rfl rfl (Or.inl rfl) ?_
  intro _
  refine g_if_ne (tgt := 75) rfl (by decide) (fun hx => absurd hx (by omega)) (fun _ => ?_)
  refine g_bipush rfl ⟨by decide, by decide⟩ (by decide) ?_
  refine x_ireturn rfl rfl ?_
  exact ⟨rfl, rfl, rfl, rfl, fun q z => ⟨by rw [tp_pi_ne (by omega), tp_pi_ne (by omega), tp_pi_ix (by omega)]; rfl, by rw [tp_pi_ne (by omega), tp_pi_ix (by omega)]; rfl, by rw [tp_pi_ix (by omega)]; rfl⟩, fun c z => by rw [tp_pi_ne z.2.2.2.1, tp_pi_ne z.2.2.1, tp_pi_ne z.2.1, tp_pi_ne z.1, tp_pi_ne z.1]⟩
set_option maxHeartbeats 4000000 in
set_option maxRecDepth 100000 in
theorem s_xr3z {G : tp_G} {μ : tp_M} (hG : tp_Gf G = true) {b M : Int} (hM : μ.1 5 3 = M) (hb : 0 ≤ b ∧ M ≤ b ∧ 0 ≤ M ∧ M ≤ 2) : tp_k G mX11_text [tR (some 0), tI 3, tI b] μ (fun r μ' => r = some (tI (-2)) ∧ μ'.1 1 1 = 0 ∧ μ'.1 1 2 = 0 ∧ μ'.1 1 3 = -1 ∧ (∀ c, c ≠ 1 → μ'.1 c = μ.1 c)) := by
  refine tp_ok_of mX11_text_ok rfl (Nat.le_refl _) ?_
  refine g_aload_n rfl rfl ?_
  refine x_getF (r := 1) hG rfl rfl (by decide) (Or.inl ⟨_, rfl⟩) rfl ?_
  refine x_geti (v := (μ.1 1 1)) rfl rfl (by decide) (Or.inl rfl) rfl ?_
  refine g_istore_n rfl rfl rfl ?_
  refine g_aload_n rfl rfl ?_
  refine x_getF (r := 1) hG rfl rfl (by decide) (Or.inl ⟨_, rfl⟩) rfl ?_
  refine g_iconst rfl ⟨by decide, by decide⟩ ?_
  refine g_puti rfl rfl (by decide) rfl rfl ?_
  refine g_aload_n rfl rfl ?_
  refine x_getF (r := 1) hG rfl rfl (by decide) (Or.inl ⟨_, rfl⟩) rfl ?_
  refine g_iconst rfl ⟨by decide, by decide⟩ ?_
  refine g_puti rfl rfl (by decide) rfl rfl ?_
  refine g_aload_n rfl rfl ?_
  refine x_getF (r := 1) hG rfl rfl (by decide) (Or.inl ⟨_, rfl⟩) rfl ?_
  refine g_iconst rfl ⟨by decide, by decide⟩ ?_
  refine g_puti rfl rfl (by decide) rfl rfl ?_
  refine g_aload_n rfl rfl ?_
  refine x_getF (r := 1) hG rfl rfl (by decide) (Or.inl ⟨_, rfl⟩) rfl ?_
  refine g_iload_n rfl rfl ?_
  refine g_iload_n rfl rfl ?_
  refine g_iV (as := [tI 3, tI b]) mX9_slotFor_ok rfl rfl rfl rfl rfl rfl (by decide) rfl rfl rfl ?_
  refine g_iload_n rfl rfl ?_
  refine g_if_lt (tgt := 9) rfl (by decide) (fun hx => absurd hx (by omega)) (fun _ => ?_)
  refine g_iload_n rfl rfl ?_
  refine g_iconst rfl ⟨by decide, by decide⟩ ?_
  refine g_icmp_lt (tgt := 11) rfl (by decide) (fun _ => ?_) (fun hx => absurd hx (by omega))
  refine g_aload_n rfl rfl ?_
  refine x_getF (r := 5) hG rfl rfl (by decide) (Or.inr ⟨_, rfl⟩) rfl ?_
  refine g_iload_n rfl rfl ?_
  refine x_iald (v := M) rfl rfl (by decide) (by decide) (by decide) hM ?_
  refine g_istore_n rfl rfl rfl ?_
  refine g_iload_n rfl rfl ?_
  refine g_iconst rfl ⟨by decide, by decide⟩ ?_
  refine g_icmp_ne (tgt := 34) rfl (by decide) (fun _ => ?_) (fun hx => absurd hx (by omega))
  refine g_iload_n rfl rfl ?_
  refine g_if_lt (tgt := 43) rfl (by decide) (fun hx => absurd hx (by omega)) (fun _ => ?_)
  refine g_iload_n rfl rfl ?_
  refine g_iload_n rfl rfl ?_
  refine g_icmp_lt (tgt := 47) rfl (by decide) (fun hx => absurd hx (by omega)) (fun _ => ?_)
  refine g_iconst rfl ⟨by decide, by decide⟩ ?_
  refine g_goto (tgt := 48) rfl (by decide) ?_
  refine x_ireturn rfl rfl ?_
  intro _
  refine g_istore rfl rfl rfl ?_
  refine g_iload rfl rfl ?_
  refine g_iconst rfl ⟨by decide, by decide⟩ ?_
  refine g_icmp_ne (tgt := 52) rfl (by decide) (fun hx => absurd hx (by omega)) (fun _ => ?_)
  refine g_bipush rfl ⟨by decide, by decide⟩ (by decide) ?_
  refine x_ireturn rfl rfl ?_
  exact ⟨rfl, rfl, rfl, rfl, fun c z => by rw [tp_pi_ne z, tp_pi_ne z, tp_pi_ne z]⟩
set_option maxHeartbeats 4000000 in
set_option maxRecDepth 100000 in
theorem s_mr3z {G : tp_G} {μ : tp_M} (hG : tp_Gf G = true) {b M : Int} (hM : μ.1 206 3 = M) (hb : 0 ≤ b ∧ M ≤ b ∧ 0 ≤ M ∧ M ≤ 2) : tp_k G mX12_text [tR (some 201), tI 3, tI b] μ (fun r μ' => r = some (tI (-2)) ∧ μ'.1 203 0 = 0 ∧ μ'.1 204 0 = 0 ∧ μ'.1 205 0 = -1 ∧ m_Qc μ μ' ∧ (∀ c, m_Lc c → μ'.1 c = μ.1 c)) := by
  refine tp_ok_of mX12_text_ok rfl (Nat.le_refl _) ?_
  refine g_aload_n rfl rfl ?_
  refine g_iconst rfl ⟨by decide, by decide⟩ ?_
  refine g_puti rfl rfl (by decide) rfl rfl ?_
  refine g_aload_n rfl rfl ?_
  refine g_aload_n rfl rfl ?_
  refine x_getF (r := 203) hG rfl rfl (by decide) (Or.inr ⟨_, rfl⟩) rfl ?_
  refine g_iconst rfl ⟨by decide, by decide⟩ ?_
  refine x_iald (v := (μ.1 203 0)) rfl rfl (by decide) (by decide) (by decide) rfl ?_
  refine g_puti rfl rfl (by decide) rfl rfl ?_
  refine g_aload_n rfl rfl ?_
  refine x_getF (r := 203) hG rfl rfl (by decide) (Or.inr ⟨_, rfl⟩) rfl ?_
  refine g_iconst rfl ⟨by decide, by decide⟩ ?_
  refine g_iconst rfl ⟨by decide, by decide⟩ ?_
  refine g_iast rfl rfl (by decide) (by decide) (by decide) ?_
  refine g_aload_n rfl rfl ?_
  refine x_getF (r := 204) hG rfl rfl (by decide) (Or.inr ⟨_, rfl⟩) rfl ?_
  refine g_iconst rfl ⟨by decide, by decide⟩ ?_
  refine g_iconst rfl ⟨by decide, by decide⟩ ?_
  refine g_iast rfl rfl (by decide) (by decide) (by decide) ?_
  refine g_aload_n rfl rfl ?_
  refine x_getF (r := 205) hG rfl rfl (by decide) (Or.inr ⟨_, rfl⟩) rfl ?_
  refine g_iconst rfl ⟨by decide, by decide⟩ ?_
  refine g_iconst rfl ⟨by decide, by decide⟩ ?_
  refine g_iast rfl rfl (by decide) (by decide) (by decide) ?_
  refine g_iload_n rfl rfl ?_
  refine g_iconst rfl ⟨by decide, by decide⟩ ?_
  refine g_iconst rfl ⟨by decide, by decide⟩ ?_
  refine g_iS (as := [tI 3, tI 0, tI 3]) mX12_in_ok rfl rfl rfl rfl rfl rfl rfl ?_
  refine g_iload_n rfl rfl ?_
  refine g_iload_n rfl rfl ?_
  refine g_icmp_lt (tgt := 14) rfl (by decide) (fun hx => absurd hx (by omega)) (fun _ => ?_)
  refine g_iload_n rfl rfl ?_
  refine g_iload_n rfl rfl ?_
  refine g_icmp_gt (tgt := 14) rfl (by decide) (fun hx => absurd hx (by omega)) (fun _ => ?_)
  refine g_iconst rfl ⟨by decide, by decide⟩ ?_
  refine g_goto (tgt := 15) rfl (by decide) ?_
  refine x_zreturn rfl rfl (Or.inr rfl) ?_
  intro _
  refine g_if_eq (tgt := 72) rfl (by decide) (fun hx => absurd hx (by omega)) (fun _ => ?_)
  refine g_iload_n rfl rfl ?_
  refine g_iconst rfl ⟨by decide, by decide⟩ ?_
  refine g_icmp_ne (tgt := 63) rfl (by decide) (fun _ => ?_) (fun hx => absurd hx (by omega))
  refine g_aload_n rfl rfl ?_
  refine g_iload_n rfl rfl ?_
  refine g_iload_n rfl rfl ?_
  refine g_iV (as := [tI 3, tI b]) mX12_is_ok rfl rfl rfl rfl rfl rfl (by decide) rfl rfl rfl ?_
  refine g_iload_n rfl rfl ?_
  refine g_iconst rfl ⟨by decide, by decide⟩ ?_
  refine g_aload_n rfl rfl ?_
  refine x_getF (r := 206) hG rfl rfl (by decide) (Or.inr ⟨_, rfl⟩) rfl ?_
  refine g_iload_n rfl rfl ?_
  refine x_iald (v := M) rfl rfl (by decide) (by decide) (by decide) hM ?_
  refine g_iconst rfl ⟨by decide, by decide⟩ ?_
  refine x_isub (z := M - 1) rfl (by omega) ⟨by omega, by omega⟩ ?_
  refine g_iS (as := [tI b, tI 0, tI (M - 1)]) mX12_in_ok rfl rfl rfl rfl rfl rfl rfl ?_
  refine g_iload_n rfl rfl ?_
  refine g_iload_n rfl rfl ?_
  refine g_icmp_lt (tgt := 14) rfl (by decide) (fun hx => absurd hx (by omega)) (fun _ => ?_)
  refine g_iload_n rfl rfl ?_
  refine g_iload_n rfl rfl ?_
  refine g_icmp_gt (tgt := 14) rfl (by decide) (fun _ => ?_) (fun hx => absurd hx (by omega))
  refine g_iconst rfl ⟨by decide, by decide⟩ ?_
  refine x_zreturn rfl rfl (Or.inl rfl) ?_
  intro _
  refine x_zreturn rfl rfl (Or.inl rfl) ?_
  intro _
  refine g_if_ne (tgt := 75) rfl (by decide) (fun hx => absurd hx (by omega)) (fun _ => ?_)
  refine g_bipush rfl ⟨by decide, by decide⟩ (by decide) ?_
  refine x_ireturn rfl rfl ?_
  exact ⟨rfl, rfl, rfl, rfl, fun q z => ⟨by rw [tp_pi_ne (by omega), tp_pi_ne (by omega), tp_pi_ix (by omega)]; rfl, by rw [tp_pi_ne (by omega), tp_pi_ix (by omega)]; rfl, by rw [tp_pi_ix (by omega)]; rfl⟩, fun c z => by rw [tp_pi_ne z.2.2.2.1, tp_pi_ne z.2.2.1, tp_pi_ne z.2.1, tp_pi_ne z.1, tp_pi_ne z.1]⟩
theorem p_txr {G : tp_G} {μ : tp_M} (hR : tp_R μ) {as : List tp_V} (h : tp_k G mX11_text (tR (some 0) :: as) μ (fun r μ' => r = some (tI (-2)) ∧ μ'.1 1 1 = 0 ∧ μ'.1 1 2 = 0 ∧ μ'.1 1 3 = -1 ∧ (∀ c, c ≠ 1 → μ'.1 c = μ.1 c))) (h2 : ∀ μ1 : tp_M, (∀ c, c ≠ 1 → μ1.1 c = μ.1 c) → tp_k G mX12_text (tR (some 201) :: as) μ1 (fun r μ' => r = some (tI (-2)) ∧ μ'.1 203 0 = 0 ∧ μ'.1 204 0 = 0 ∧ μ'.1 205 0 = -1 ∧ m_Qc μ1 μ' ∧ (∀ c, m_Lc c → μ'.1 c = μ1.1 c))) : tp_q G mX11_text mX12_text as μ := by
  refine tp_kc (fun r μ1 z => ?_) h
  obtain ⟨z1, z2, z3, z4, z6⟩ := z
  refine ⟨-2, z1, tp_kc (fun r2 μ2 y => ?_) (h2 μ1 z6)⟩
  obtain ⟨y1, y2, y3, y4, y9, y10⟩ := y
  have yl : μ2.1 1 = μ1.1 1 := y10 1 (by unfold m_Lc; omega)
  refine ⟨y1, tp_R_head hR (fun k hk k1 k2 k3 => ?_) (fun j hj => ?_) (fun q hq => ?_) ?_ (fun j j0 j1 => ?_) ⟨?_, ?_⟩⟩
  · unfold tp_tl at hk
    rw [y10 k (by unfold m_Lc; omega), z6 k k1]
  · rw [y10 202 (by unfold m_Lc; omega), z6 202 (by omega)]
  · rw [(y9 q hq).1, (y9 q hq).2.1, (y9 q hq).2.2, z6 203 (by omega), z6 204 (by omega), z6 205 (by omega)]; exact ⟨rfl, rfl, rfl⟩
  · rw [yl, z2, y2]; decide
  · rw [yl, z2] at j1; omega
  · rw [yl, z3, y3]
  · rw [yl, z4, y4]
set_option maxHeartbeats 4000000 in
set_option maxRecDepth 100000 in
theorem p_text {G : tp_G} (hG : tp_Gf G = true) {a b : Int} : tp_pair G mX11_text mX12_text [tI a, tI b] := by
  intro μ hR
  show tp_q G mX11_text mX12_text [tI a, tI b] μ
  rcases (show a < 0 ∨ 4 ≤ a ∨ a = 0 ∨ a = 1 ∨ a = 2 ∨ a = 3 by omega) with u | u | u | u | u | u
  · exact p_txr hR (s_xra hG u) (fun μ1 _ => s_mra hG u)
  · exact p_txr hR (s_xrb hG u) (fun μ1 _ => s_mrb hG u)
  · subst u
    have hm := tp_R_many hR 0 (by decide) (by decide)
    rcases (show (b = -1 ∧ μ.1 5 0 = 2) ∨ b < -1 ∨ (0 ≤ b ∧ μ.1 5 0 ≤ b) ∨ (b = -1 ∧ μ.1 5 0 = 0) ∨ (b = -1 ∧ μ.1 5 0 = 1) ∨ (b = 0 ∧ 0 < μ.1 5 0) ∨ (b = 1 ∧ 1 < μ.1 5 0) by omega) with ⟨v, q⟩ | q | q | ⟨v, q⟩ | ⟨v, q⟩ | ⟨v, q⟩ | ⟨v, q⟩
    · subst v; exact p_txr hR (s_xr0x hG q) (fun μ1 z => s_mr0x hG (by rw [z 206 (by omega)]; exact hm.1.symm.trans q))
    · exact p_txr hR (s_xr0y hG rfl ⟨q, hm.2⟩) (fun μ1 z => s_mr0y hG (by rw [z 206 (by omega)]; exact hm.1.symm.trans rfl) ⟨q, hm.2⟩)
    · exact p_txr hR (s_xr0z hG rfl ⟨q.1, q.2, hm.2⟩) (fun μ1 z => s_mr0z hG (by rw [z 206 (by omega)]; exact hm.1.symm.trans rfl) ⟨q.1, q.2, hm.2⟩)
    · subst v; exact p_tx00m hG hR q
    · subst v; exact p_tx01m hG hR q
    · subst v; exact p_tx00s hG hR rfl ⟨q, hm.2.2⟩
    · subst v; exact p_tx01s hG hR rfl ⟨q, hm.2.2⟩
  · subst u
    have hm := tp_R_many hR 1 (by decide) (by decide)
    rcases (show (b = -1 ∧ μ.1 5 1 = 2) ∨ b < -1 ∨ (0 ≤ b ∧ μ.1 5 1 ≤ b) ∨ (b = -1 ∧ μ.1 5 1 = 0) ∨ (b = -1 ∧ μ.1 5 1 = 1) ∨ (b = 0 ∧ 0 < μ.1 5 1) ∨ (b = 1 ∧ 1 < μ.1 5 1) by omega) with ⟨v, q⟩ | q | q | ⟨v, q⟩ | ⟨v, q⟩ | ⟨v, q⟩ | ⟨v, q⟩
    · subst v; exact p_txr hR (s_xr1x hG q) (fun μ1 z => s_mr1x hG (by rw [z 206 (by omega)]; exact hm.1.symm.trans q))
    · exact p_txr hR (s_xr1y hG rfl ⟨q, hm.2⟩) (fun μ1 z => s_mr1y hG (by rw [z 206 (by omega)]; exact hm.1.symm.trans rfl) ⟨q, hm.2⟩)
    · exact p_txr hR (s_xr1z hG rfl ⟨q.1, q.2, hm.2⟩) (fun μ1 z => s_mr1z hG (by rw [z 206 (by omega)]; exact hm.1.symm.trans rfl) ⟨q.1, q.2, hm.2⟩)
    · subst v; exact p_tx10m hG hR q
    · subst v; exact p_tx11m hG hR q
    · subst v; exact p_tx10s hG hR rfl ⟨q, hm.2.2⟩
    · subst v; exact p_tx11s hG hR rfl ⟨q, hm.2.2⟩
  · subst u
    have hm := tp_R_many hR 2 (by decide) (by decide)
    rcases (show (b = -1 ∧ μ.1 5 2 = 2) ∨ b < -1 ∨ (0 ≤ b ∧ μ.1 5 2 ≤ b) ∨ (b = -1 ∧ μ.1 5 2 = 0) ∨ (b = -1 ∧ μ.1 5 2 = 1) ∨ (b = 0 ∧ 0 < μ.1 5 2) ∨ (b = 1 ∧ 1 < μ.1 5 2) by omega) with ⟨v, q⟩ | q | q | ⟨v, q⟩ | ⟨v, q⟩ | ⟨v, q⟩ | ⟨v, q⟩
    · subst v; exact p_txr hR (s_xr2x hG q) (fun μ1 z => s_mr2x hG (by rw [z 206 (by omega)]; exact hm.1.symm.trans q))
    · exact p_txr hR (s_xr2y hG rfl ⟨q, hm.2⟩) (fun μ1 z => s_mr2y hG (by rw [z 206 (by omega)]; exact hm.1.symm.trans rfl) ⟨q, hm.2⟩)
    · exact p_txr hR (s_xr2z hG rfl ⟨q.1, q.2, hm.2⟩) (fun μ1 z => s_mr2z hG (by rw [z 206 (by omega)]; exact hm.1.symm.trans rfl) ⟨q.1, q.2, hm.2⟩)
    · subst v; exact p_tx20m hG hR q
    · subst v; exact p_tx21m hG hR q
    · subst v; exact p_tx20s hG hR rfl ⟨q, hm.2.2⟩
    · subst v; exact p_tx21s hG hR rfl ⟨q, hm.2.2⟩
  · subst u
    have hm := tp_R_many hR 3 (by decide) (by decide)
    rcases (show (b = -1 ∧ μ.1 5 3 = 2) ∨ b < -1 ∨ (0 ≤ b ∧ μ.1 5 3 ≤ b) ∨ (b = -1 ∧ μ.1 5 3 = 0) ∨ (b = -1 ∧ μ.1 5 3 = 1) ∨ (b = 0 ∧ 0 < μ.1 5 3) ∨ (b = 1 ∧ 1 < μ.1 5 3) by omega) with ⟨v, q⟩ | q | q | ⟨v, q⟩ | ⟨v, q⟩ | ⟨v, q⟩ | ⟨v, q⟩
    · subst v; exact p_txr hR (s_xr3x hG q) (fun μ1 z => s_mr3x hG (by rw [z 206 (by omega)]; exact hm.1.symm.trans q))
    · exact p_txr hR (s_xr3y hG rfl ⟨q, hm.2⟩) (fun μ1 z => s_mr3y hG (by rw [z 206 (by omega)]; exact hm.1.symm.trans rfl) ⟨q, hm.2⟩)
    · exact p_txr hR (s_xr3z hG rfl ⟨q.1, q.2, hm.2⟩) (fun μ1 z => s_mr3z hG (by rw [z 206 (by omega)]; exact hm.1.symm.trans rfl) ⟨q.1, q.2, hm.2⟩)
    · subst v; exact p_tx30m hG hR q
    · subst v; exact p_tx31m hG hR q
    · subst v; exact p_tx30s hG hR rfl ⟨q, hm.2.2⟩
    · subst v; exact p_tx31s hG hR rfl ⟨q, hm.2.2⟩
