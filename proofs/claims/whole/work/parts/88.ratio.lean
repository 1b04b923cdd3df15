set_option maxHeartbeats 4000000 in
set_option maxRecDepth 100000 in
theorem s_pbits {G : tp_G} {μ : tp_M} (hG : tp_Gf G = true) {σ : tp_M} (hsz : μ.1 63 4 = σ.1 0 9) (hB : c_B σ μ) (hb : e_B σ) (hp : 0 ≤ σ.1 0 9 ∧ σ.1 0 9 ≤ 209) {k : Int} (h0 : 0 ≤ k) (h1 : k < σ.1 0 9) : tp_k G mX3_bits [tR (some 63), tI k] μ (fun r μ' => r = some (tI (σ.1 7 k)) ∧ μ' = μ) := by
  refine tp_ok_of mX3_bits_ok rfl (Nat.le_refl _) ?_
  have hBk0 := hB k (by omega) (by omega)
  have hbk0 := hb.1 k (by omega) (by omega)
  have hkd0 : 0 ≤ μ.1 64 k ∧ μ.1 64 k ≤ 5 := by rw [hBk0.1]; exact hbk0.1
  have hxx : μ.1 64 k = 1 ∨ μ.1 64 k = 2 → -1000 ≤ μ.1 66 k ∧ μ.1 66 k ≤ 1000 := fun z => by rw [hBk0.2.2.1]; rw [hBk0.1] at z; exact q_bi_x (by rw [← hbk0.2.1]; exact hbk0.2.2) z
  refine g_aload_n rfl rfl ?_
  refine g_iload_n rfl rfl ?_
  refine g_iV (as := [tI k]) mX3_kind_ok rfl rfl rfl rfl rfl rfl (by decide) rfl rfl rfl ?_
  refine g_aload_n rfl rfl ?_
  refine g_iload_n rfl rfl ?_
  refine g_iV (as := [tI k]) mX3_has_ok rfl rfl rfl rfl rfl rfl (by decide) rfl rfl rfl ?_
  refine g_iload_n rfl rfl ?_
  refine g_if_lt (tgt := 23) rfl (by decide) (fun hx => absurd hx (by omega)) (fun _ => ?_)
  refine g_iload_n rfl rfl ?_
  refine g_aload_n rfl rfl ?_
  refine x_geti (v := (μ.1 63 4)) rfl rfl (by decide) (Or.inl rfl) rfl ?_
  refine g_icmp_ge (tgt := 23) rfl (by decide) (fun hx => absurd hx (by omega)) (fun _ => ?_)
  refine g_iload_n rfl rfl ?_
  refine g_sipush rfl ⟨by decide, by decide⟩ (by decide) ?_
  refine g_icmp_ge (tgt := 23) rfl (by decide) (fun hx => absurd hx (by omega)) (fun _ => ?_)
  refine g_iconst rfl ⟨by decide, by decide⟩ ?_
  refine g_goto (tgt := 24) rfl (by decide) ?_
  refine x_zreturn rfl rfl (Or.inr rfl) ?_
  intro _
  refine g_if_eq (tgt := 17) rfl (by decide) (fun hx => absurd hx (by omega)) (fun _ => ?_)
  refine g_aload_n rfl rfl ?_
  refine x_getF (r := 64) hG rfl rfl (by decide) (Or.inr ⟨_, rfl⟩) rfl ?_
  refine g_iload_n rfl rfl ?_
  refine x_iald (v := (μ.1 64 k)) rfl rfl (by decide) (by omega) (by omega) rfl ?_
  refine g_goto (tgt := 18) rfl (by decide) ?_
  refine x_ireturn rfl rfl ?_
  intro _
  rcases (show (μ.1 64 k) < 0 ∨ (μ.1 64 k) = 0 ∨ (μ.1 64 k) = 1 ∨ (μ.1 64 k) = 2 ∨ (μ.1 64 k) = 3 ∨ (μ.1 64 k) = 4 ∨ (μ.1 64 k) = 5 ∨ 5 < (μ.1 64 k) by omega) with h1 | h1 | h1 | h1 | h1 | h1 | h1 | h1
  · omega
  · refine g_swIn (off := 39) (tgt := 44) rfl (by omega) (by omega) (by rw [show ((μ.1 64 k) - 0).toNat = 0 by omega]; rfl) (by decide) ?_
    refine g_bipush rfl ⟨by decide, by decide⟩ (by decide) ?_
    refine x_ireturn rfl rfl ?_
    exact ⟨congrArg (fun z => some (tI z)) ((hbk0.2.1).trans (by rw [← hBk0.1, ← hBk0.2.2.1]; unfold q_bi; first | (rw [if_pos (by omega)]; done) | (rw [if_neg (by omega), if_pos (by omega)]; omega) | (rw [if_neg (by omega), if_neg (by omega), if_pos (by omega)]; omega) | (rw [if_neg (by omega), if_neg (by omega), if_neg (by omega), if_pos (by omega)]; done) | (rw [if_neg (by omega), if_neg (by omega), if_neg (by omega), if_neg (by omega)]; done))).symm, rfl⟩
  · refine g_swIn (off := 42) (tgt := 47) rfl (by omega) (by omega) (by rw [show ((μ.1 64 k) - 0).toNat = 1 by omega]; rfl) (by decide) ?_
    refine g_iconst rfl ⟨by decide, by decide⟩ ?_
    refine g_aload_n rfl rfl ?_
    refine g_iload_n rfl rfl ?_
    refine g_iV (as := [tI k]) mX3_extra_ok rfl rfl rfl rfl rfl rfl (by decide) rfl rfl rfl ?_
    refine g_aload_n rfl rfl ?_
    refine g_iload_n rfl rfl ?_
    refine g_iV (as := [tI k]) mX3_has_ok rfl rfl rfl rfl rfl rfl (by decide) rfl rfl rfl ?_
    refine g_iload_n rfl rfl ?_
    refine g_if_lt (tgt := 23) rfl (by decide) (fun hx => absurd hx (by omega)) (fun _ => ?_)
    refine g_iload_n rfl rfl ?_
    refine g_aload_n rfl rfl ?_
    refine x_geti (v := (μ.1 63 4)) rfl rfl (by decide) (Or.inl rfl) rfl ?_
    refine g_icmp_ge (tgt := 23) rfl (by decide) (fun hx => absurd hx (by omega)) (fun _ => ?_)
    refine g_iload_n rfl rfl ?_
    refine g_sipush rfl ⟨by decide, by decide⟩ (by decide) ?_
    refine g_icmp_ge (tgt := 23) rfl (by decide) (fun hx => absurd hx (by omega)) (fun _ => ?_)
    refine g_iconst rfl ⟨by decide, by decide⟩ ?_
    refine g_goto (tgt := 24) rfl (by decide) ?_
    refine x_zreturn rfl rfl (Or.inr rfl) ?_
    intro _
    refine g_if_eq (tgt := 17) rfl (by decide) (fun hx => absurd hx (by omega)) (fun _ => ?_)
    refine g_aload_n rfl rfl ?_
    refine x_getF (r := 66) hG rfl rfl (by decide) (Or.inr ⟨_, rfl⟩) rfl ?_
    refine g_iload_n rfl rfl ?_
    refine x_iald (v := (μ.1 66 k)) rfl rfl (by decide) (by omega) (by omega) rfl ?_
    refine g_goto (tgt := 18) rfl (by decide) ?_
    refine x_ireturn rfl rfl ?_
    intro _
    refine x_iadd (z := (μ.1 66 k) + 4) rfl (by omega) ⟨by omega, by omega⟩ ?_
    refine x_ireturn rfl rfl ?_
    exact ⟨congrArg (fun z => some (tI z)) ((hbk0.2.1).trans (by rw [← hBk0.1, ← hBk0.2.2.1]; unfold q_bi; first | (rw [if_pos (by omega)]; done) | (rw [if_neg (by omega), if_pos (by omega)]; omega) | (rw [if_neg (by omega), if_neg (by omega), if_pos (by omega)]; omega) | (rw [if_neg (by omega), if_neg (by omega), if_neg (by omega), if_pos (by omega)]; done) | (rw [if_neg (by omega), if_neg (by omega), if_neg (by omega), if_neg (by omega)]; done))).symm, rfl⟩
  · refine g_swIn (off := 50) (tgt := 55) rfl (by omega) (by omega) (by rw [show ((μ.1 64 k) - 0).toNat = 2 by omega]; rfl) (by decide) ?_
    refine g_iconst rfl ⟨by decide, by decide⟩ ?_
    refine g_iconst rfl ⟨by decide, by decide⟩ ?_
    refine g_aload_n rfl rfl ?_
    refine g_iload_n rfl rfl ?_
    refine g_iV (as := [tI k]) mX3_extra_ok rfl rfl rfl rfl rfl rfl (by decide) rfl rfl rfl ?_
    refine g_aload_n rfl rfl ?_
    refine g_iload_n rfl rfl ?_
    refine g_iV (as := [tI k]) mX3_has_ok rfl rfl rfl rfl rfl rfl (by decide) rfl rfl rfl ?_
    refine g_iload_n rfl rfl ?_
    refine g_if_lt (tgt := 23) rfl (by decide) (fun hx => absurd hx (by omega)) (fun _ => ?_)
    refine g_iload_n rfl rfl ?_
    refine g_aload_n rfl rfl ?_
    refine x_geti (v := (μ.1 63 4)) rfl rfl (by decide) (Or.inl rfl) rfl ?_
    refine g_icmp_ge (tgt := 23) rfl (by decide) (fun hx => absurd hx (by omega)) (fun _ => ?_)
    refine g_iload_n rfl rfl ?_
    refine g_sipush rfl ⟨by decide, by decide⟩ (by decide) ?_
    refine g_icmp_ge (tgt := 23) rfl (by decide) (fun hx => absurd hx (by omega)) (fun _ => ?_)
    refine g_iconst rfl ⟨by decide, by decide⟩ ?_
    refine g_goto (tgt := 24) rfl (by decide) ?_
    refine x_zreturn rfl rfl (Or.inr rfl) ?_
    intro _
    refine g_if_eq (tgt := 17) rfl (by decide) (fun hx => absurd hx (by omega)) (fun _ => ?_)
    refine g_aload_n rfl rfl ?_
    refine x_getF (r := 66) hG rfl rfl (by decide) (Or.inr ⟨_, rfl⟩) rfl ?_
    refine g_iload_n rfl rfl ?_
    refine x_iald (v := (μ.1 66 k)) rfl rfl (by decide) (by omega) (by omega) rfl ?_
    refine g_goto (tgt := 18) rfl (by decide) ?_
    refine x_ireturn rfl rfl ?_
    intro _
    refine x_imul (z := 3 * (μ.1 66 k)) rfl (by omega) ⟨by omega, by omega⟩ ?_
    refine x_iadd (z := 3 * (μ.1 66 k) + 4) rfl (by omega) ⟨by omega, by omega⟩ ?_
    refine x_ireturn rfl rfl ?_
    exact ⟨congrArg (fun z => some (tI z)) ((hbk0.2.1).trans (by rw [← hBk0.1, ← hBk0.2.2.1]; unfold q_bi; first | (rw [if_pos (by omega)]; done) | (rw [if_neg (by omega), if_pos (by omega)]; omega) | (rw [if_neg (by omega), if_neg (by omega), if_pos (by omega)]; omega) | (rw [if_neg (by omega), if_neg (by omega), if_neg (by omega), if_pos (by omega)]; done) | (rw [if_neg (by omega), if_neg (by omega), if_neg (by omega), if_neg (by omega)]; done))).symm, rfl⟩
  · refine g_swIn (off := 60) (tgt := 65) rfl (by omega) (by omega) (by rw [show ((μ.1 64 k) - 0).toNat = 3 by omega]; rfl) (by decide) ?_
    refine g_bipush rfl ⟨by decide, by decide⟩ (by decide) ?_
    refine x_ireturn rfl rfl ?_
    exact ⟨congrArg (fun z => some (tI z)) ((hbk0.2.1).trans (by rw [← hBk0.1, ← hBk0.2.2.1]; unfold q_bi; first | (rw [if_pos (by omega)]; done) | (rw [if_neg (by omega), if_pos (by omega)]; omega) | (rw [if_neg (by omega), if_neg (by omega), if_pos (by omega)]; omega) | (rw [if_neg (by omega), if_neg (by omega), if_neg (by omega), if_pos (by omega)]; done) | (rw [if_neg (by omega), if_neg (by omega), if_neg (by omega), if_neg (by omega)]; done))).symm, rfl⟩
  · refine g_swIn (off := 60) (tgt := 65) rfl (by omega) (by omega) (by rw [show ((μ.1 64 k) - 0).toNat = 4 by omega]; rfl) (by decide) ?_
    refine g_bipush rfl ⟨by decide, by decide⟩ (by decide) ?_
    refine x_ireturn rfl rfl ?_
    exact ⟨congrArg (fun z => some (tI z)) ((hbk0.2.1).trans (by rw [← hBk0.1, ← hBk0.2.2.1]; unfold q_bi; first | (rw [if_pos (by omega)]; done) | (rw [if_neg (by omega), if_pos (by omega)]; omega) | (rw [if_neg (by omega), if_neg (by omega), if_pos (by omega)]; omega) | (rw [if_neg (by omega), if_neg (by omega), if_neg (by omega), if_pos (by omega)]; done) | (rw [if_neg (by omega), if_neg (by omega), if_neg (by omega), if_neg (by omega)]; done))).symm, rfl⟩
  · refine g_swIn (off := 63) (tgt := 68) rfl (by omega) (by omega) (by rw [show ((μ.1 64 k) - 0).toNat = 5 by omega]; rfl) (by decide) ?_
    refine g_iconst rfl ⟨by decide, by decide⟩ ?_
    refine x_ireturn rfl rfl ?_
    exact ⟨congrArg (fun z => some (tI z)) ((hbk0.2.1).trans (by rw [← hBk0.1, ← hBk0.2.2.1]; unfold q_bi; first | (rw [if_pos (by omega)]; done) | (rw [if_neg (by omega), if_pos (by omega)]; omega) | (rw [if_neg (by omega), if_neg (by omega), if_pos (by omega)]; omega) | (rw [if_neg (by omega), if_neg (by omega), if_neg (by omega), if_pos (by omega)]; done) | (rw [if_neg (by omega), if_neg (by omega), if_neg (by omega), if_neg (by omega)]; done))).symm, rfl⟩
  · omega
set_option maxHeartbeats 4000000 in
set_option maxRecDepth 100000 in
theorem l_psum {G : tp_G} {μ : tp_M} (hG : tp_Gf G = true) {σ : tp_M} (hsz : μ.1 63 4 = σ.1 0 9) (hB : c_B σ μ) (hb : e_B σ) (hp : 0 ≤ σ.1 0 9 ∧ σ.1 0 9 ≤ 209) : ∀ k, k ≤ σ.1 0 9 → ∀ (s : Int), 0 ≤ k → s = q_s (σ.1 7) k → tp_g G mX3_sum 4 [some (tR (some 63)), some (tI s), some (tI k)] [] μ (fun r μ' => r = some (tI (σ.1 0 12)) ∧ μ' = μ) := by
  refine tp_ind _ ?_
  intro k hkN ih s h0 hs
  have hsb := q_s_16 (F := σ.1 7) (n := k) h0 (fun i i0 i1 => (hb.1 i i0 (by omega)).2.2)
  rw [← hs] at hsb
  refine g_iload_n rfl rfl ?_
  refine g_aload_n rfl rfl ?_
  refine x_geti (v := (μ.1 63 4)) rfl rfl (by decide) (Or.inl rfl) rfl ?_
  refine g_icmp_ge (tgt := 26) rfl (by decide) (fun h1 => ?_) (fun h1 => ?_)
  · refine g_iload_n rfl rfl ?_
    refine x_ireturn rfl rfl ?_
    exact ⟨by rw [hb.2, show σ.1 0 9 = k by omega, hs], rfl⟩
  · refine g_iload_n rfl rfl ?_
    refine g_aload_n rfl rfl ?_
    refine g_iload_n rfl rfl ?_
    refine g_cV (as := [tI k]) (s_pbits hG hsz hB hb hp (by omega) (by omega)) rfl rfl mX3_bits_ok rfl rfl rfl (by decide) rfl rfl rfl ?_
    rintro _ w9 ⟨rfl, hw9⟩ _
    have hw9 := hw9.symm
    subst hw9
    have hb7 := (hb.1 k (by omega) (by omega)).2.2
    refine x_iadd (z := s + (σ.1 7 k)) rfl (by omega) ⟨by omega, by omega⟩ ?_
    refine g_istore_n rfl rfl rfl ?_
    refine x_iinc (z := k + 1) rfl rfl (by omega) ⟨by omega, by omega⟩ rfl rfl ?_
    refine g_goto (tgt := 4) rfl (by decide) ?_
    exact ih (by omega) _ (by omega) (by rw [q_s1 h0, ← hs])
set_option maxHeartbeats 4000000 in
set_option maxRecDepth 100000 in
theorem s_sum {G : tp_G} {μ : tp_M} (hG : tp_Gf G = true) {σ : tp_M} (hsz : μ.1 63 4 = σ.1 0 9) (hB : c_B σ μ) (hb : e_B σ) (hp : 0 ≤ σ.1 0 9 ∧ σ.1 0 9 ≤ 209) : tp_k G mX3_sum [tR (some 63)] μ (fun r μ' => r = some (tI (σ.1 0 12)) ∧ μ' = μ) := by
  refine tp_ok_of mX3_sum_ok rfl (Nat.le_refl _) ?_
  refine g_iconst rfl ⟨by decide, by decide⟩ ?_
  refine g_istore_n rfl rfl rfl ?_
  refine g_iconst rfl ⟨by decide, by decide⟩ ?_
  refine g_istore_n rfl rfl rfl ?_
  exact l_psum hG hsz hB hb hp 0 (by omega) 0 (by omega) rfl
theorem e_B_sum {σ : tp_M} (hb : e_B σ) (hp : 0 ≤ σ.1 0 9 ∧ σ.1 0 9 ≤ 209) : 0 ≤ σ.1 0 12 ∧ σ.1 0 12 ≤ 3344 := by
  have h := q_s_16 (F := σ.1 7) (n := σ.1 0 9) hp.1 (fun i i0 i1 => (hb.1 i i0 i1).2.2)
  rw [hb.2]
  omega
/-- how many packets of a kind -/
def q_kd (σ : tp_M) (kd i : Int) : Int := if σ.1 2 i = kd then 1 else 0
theorem q_kd_b (σ : tp_M) (kd i : Int) : 0 ≤ q_kd σ kd i ∧ q_kd σ kd i ≤ 1 := by unfold q_kd; split <;> omega
set_option maxHeartbeats 4000000 in
set_option maxRecDepth 100000 in
theorem l_ofK {G : tp_G} {μ : tp_M} (hG : tp_Gf G = true) {σ : tp_M} (hsz : μ.1 63 4 = σ.1 0 9) (hB : c_B σ μ) (hp : 0 ≤ σ.1 0 9 ∧ σ.1 0 9 ≤ 209) {kd : Int} : ∀ k, k ≤ σ.1 0 9 → ∀ (s : Int), 0 ≤ k → s = q_s (q_kd σ kd) k → tp_g G mX3_ofKind 4 [some (tR (some 63)), some (tI kd), some (tI s), some (tI k)] [] μ (fun r μ' => r = some (tI (q_s (q_kd σ kd) (σ.1 0 9))) ∧ μ' = μ) := by
  refine tp_ind _ ?_
  intro k hkN ih s h0 hs
  have hsb := q_s_B (F := q_kd σ kd) (k := k) h0 (fun j => q_kd_b σ kd j)
  rw [← hs] at hsb
  refine g_iload_n rfl rfl ?_
  refine g_aload_n rfl rfl ?_
  refine x_geti (v := (μ.1 63 4)) rfl rfl (by decide) (Or.inl rfl) rfl ?_
  refine g_icmp_ge (tgt := 30) rfl (by decide) (fun h1 => ?_) (fun h1 => ?_)
  · refine g_iload_n rfl rfl ?_
    refine x_ireturn rfl rfl ?_
    exact ⟨by rw [show σ.1 0 9 = k by omega, hs], rfl⟩
  · refine g_aload_n rfl rfl ?_
    refine g_iload_n rfl rfl ?_
    refine g_cV (as := [tI k]) (s_pk hG hsz hB hp.2 (by omega) (by omega)) rfl rfl mX3_kind_ok rfl rfl rfl (by decide) rfl rfl rfl ?_
    rintro _ w9 ⟨rfl, hw9⟩ _
    have hw9 := hw9.symm
    subst hw9
    refine g_iload_n rfl rfl ?_
    refine g_icmp_ne (tgt := 24) rfl (by decide) (fun h2 => ?_) (fun h2 => ?_)
    · refine x_iinc (z := k + 1) rfl rfl (by omega) ⟨by omega, by omega⟩ rfl rfl ?_
      refine g_goto (tgt := 4) rfl (by decide) ?_
      exact ih (by omega) _ (by omega) (by rw [q_s1 h0]; (first | rw [show q_kd σ kd k = 1 from if_pos (by omega)] | rw [show q_kd σ kd k = 0 from if_neg (by omega)]); omega)
    · refine x_iinc (z := s + 1) rfl rfl (by omega) ⟨by omega, by omega⟩ rfl rfl ?_
      refine x_iinc (z := k + 1) rfl rfl (by omega) ⟨by omega, by omega⟩ rfl rfl ?_
      refine g_goto (tgt := 4) rfl (by decide) ?_
      exact ih (by omega) _ (by omega) (by rw [q_s1 h0]; (first | rw [show q_kd σ kd k = 1 from if_pos (by omega)] | rw [show q_kd σ kd k = 0 from if_neg (by omega)]); omega)
set_option maxHeartbeats 4000000 in
set_option maxRecDepth 100000 in
theorem s_ofK {G : tp_G} {μ : tp_M} (hG : tp_Gf G = true) {σ : tp_M} (hsz : μ.1 63 4 = σ.1 0 9) (hB : c_B σ μ) (hp : 0 ≤ σ.1 0 9 ∧ σ.1 0 9 ≤ 209) {kd : Int} : tp_k G mX3_ofKind [tR (some 63), tI kd] μ (fun r μ' => r = some (tI (q_s (q_kd σ kd) (σ.1 0 9))) ∧ μ' = μ) := by
  refine tp_ok_of mX3_ofKind_ok rfl (Nat.le_refl _) ?_
  refine g_iconst rfl ⟨by decide, by decide⟩ ?_
  refine g_istore_n rfl rfl rfl ?_
  refine g_iconst rfl ⟨by decide, by decide⟩ ?_
  refine g_istore_n rfl rfl rfl ?_
  exact l_ofK hG hsz hB hp 0 (by omega) 0 (by omega) rfl
set_option maxHeartbeats 4000000 in
set_option maxRecDepth 100000 in
theorem l_ofKM {G : tp_G} {μ : tp_M} (hG : tp_Gf G = true) {σ : tp_M} (hQ : v_Q σ μ) (hp : 0 ≤ σ.1 0 9 ∧ σ.1 0 9 ≤ 209) {kd : Int} : ∀ k, k ≤ σ.1 0 9 → ∀ (s : Int), 0 ≤ k → s = q_s (q_kd σ kd) k → tp_g G mX12_ofKind 4 [some (tR (some 201)), some (tI kd), some (tI s), some (tI k)] [] μ (fun r μ' => r = some (tI (q_s (q_kd σ kd) (σ.1 0 9))) ∧ μ' = μ) := by
  refine tp_ind _ ?_
  intro k hkN ih s h0 hs
  have hsb := q_s_B (F := q_kd σ kd) (k := k) h0 (fun j => q_kd_b σ kd j)
  rw [← hs] at hsb
  have hq1 := hQ.1
  refine g_iload_n rfl rfl ?_
  refine g_aload_n rfl rfl ?_
  refine x_geti (v := (μ.1 201 47)) rfl rfl (by decide) (Or.inl rfl) rfl ?_
  refine g_icmp_ge (tgt := 36) rfl (by decide) (fun h1 => ?_) (fun h1 => ?_)
  · refine g_iload_n rfl rfl ?_
    refine x_ireturn rfl rfl ?_
    exact ⟨by rw [show σ.1 0 9 = k by omega, hs], rfl⟩
  · refine g_iload_n rfl rfl ?_
    refine g_aload_n rfl rfl ?_
    refine x_getF (r := 216) hG rfl rfl (by decide) (Or.inr ⟨_, rfl⟩) rfl ?_
    refine g_iload_n rfl rfl ?_
    refine x_iald (v := (μ.1 216 k)) rfl rfl (by decide) (by omega) (by omega) rfl ?_
    refine g_iload_n rfl rfl ?_
    refine g_icmp_ne (tgt := 27) rfl (by decide) (fun h2 => ?_) (fun h2 => ?_)
    · refine g_iconst rfl ⟨by decide, by decide⟩ ?_
      refine x_iadd (z := s) rfl (by omega) ⟨by omega, by omega⟩ ?_
      refine g_istore_n rfl rfl rfl ?_
      refine x_iinc (z := k + 1) rfl rfl (by omega) ⟨by omega, by omega⟩ rfl rfl ?_
      refine g_goto (tgt := 4) rfl (by decide) ?_
      have e1 := (hQ.2 k h0 (by omega)).1
      exact ih (by omega) _ (by omega) (by rw [q_s1 h0]; (first | rw [show q_kd σ kd k = 1 from if_pos (by omega)] | rw [show q_kd σ kd k = 0 from if_neg (by omega)]); omega)
    · refine g_iconst rfl ⟨by decide, by decide⟩ ?_
      refine g_goto (tgt := 28) rfl (by decide) ?_
      refine x_iadd (z := s + 1) rfl (by omega) ⟨by omega, by omega⟩ ?_
      refine g_istore_n rfl rfl rfl ?_
      refine x_iinc (z := k + 1) rfl rfl (by omega) ⟨by omega, by omega⟩ rfl rfl ?_
      refine g_goto (tgt := 4) rfl (by decide) ?_
      have e1 := (hQ.2 k h0 (by omega)).1
      exact ih (by omega) _ (by omega) (by rw [q_s1 h0]; (first | rw [show q_kd σ kd k = 1 from if_pos (by omega)] | rw [show q_kd σ kd k = 0 from if_neg (by omega)]); omega)
set_option maxHeartbeats 4000000 in
set_option maxRecDepth 100000 in
theorem s_ofKM {G : tp_G} {μ : tp_M} (hG : tp_Gf G = true) {σ : tp_M} (hQ : v_Q σ μ) (hp : 0 ≤ σ.1 0 9 ∧ σ.1 0 9 ≤ 209) {kd : Int} : tp_k G mX12_ofKind [tR (some 201), tI kd] μ (fun r μ' => r = some (tI (q_s (q_kd σ kd) (σ.1 0 9))) ∧ μ' = μ) := by
  refine tp_ok_of mX12_ofKind_ok rfl (Nat.le_refl _) ?_
  refine g_iconst rfl ⟨by decide, by decide⟩ ?_
  refine g_istore_n rfl rfl rfl ?_
  refine g_iconst rfl ⟨by decide, by decide⟩ ?_
  refine g_istore_n rfl rfl rfl ?_
  exact l_ofKM hG hQ hp 0 (by omega) 0 (by omega) rfl
def q_gc : Nat → Int → Int → Int × Int
  | 0, x, y => (x, y)
  | m + 1, x, y => if y = 0 then (x, y) else q_gc m y (x % y)
theorem q_gc0 : ∀ x : Fin 201, ∀ y : Fin 201, (q_gc 63 (x.val : Int) (y.val : Int)).2 = 0 := by decide +kernel
theorem q_gc_s {m : Nat} {x y : Int} (h : y ≠ 0) : q_gc (m + 1) x y = q_gc m y (x % y) := if_neg h
theorem q_gc_z {m : Nat} {x y : Int} (h : y = 0) : q_gc m x y = (x, y) := by
  cases m with
  | zero => rfl
  | succ m => exact if_pos h
theorem q_gc1 {x y : Int} (hy : 0 ≤ y ∧ y ≤ 200) : (q_gc 64 x y).2 = 0 := by
  by_cases q : y = 0
  · rw [q_gc_z q]; exact q
  · rw [q_gc_s q]
    have h0 := Int.emod_nonneg x q
    have h1 := Int.emod_lt_of_pos x (show 0 < y by omega)
    have e := q_gc0 ⟨y.toNat, by omega⟩ ⟨(x % y).toNat, by omega⟩
    rw [show ((y.toNat : Nat) : Int) = y by omega, show (((x % y).toNat : Nat) : Int) = x % y by omega] at e
    exact e
def q_g (x y : Int) : Int := ((Nat.gcd x.toNat y.toNat : Nat) : Int)
theorem q_g_0 {x : Int} (h : 0 ≤ x) : q_g x 0 = x := by
  unfold q_g
  rw [show (0 : Int).toNat = 0 from rfl, Nat.gcd_zero_right]
  omega
theorem q_g_s {x y : Int} (hx : 0 ≤ x) (hy : 0 < y) : q_g y (x % y) = q_g x y := by
  unfold q_g
  rw [Int.toNat_emod hx (by omega), Nat.gcd_comm x.toNat y.toNat, Nat.gcd_rec y.toNat x.toNat, Nat.gcd_comm]
theorem q_g_p {x y : Int} (hy : 0 < y) : 0 < q_g x y := by
  unfold q_g
  have := Nat.gcd_pos_of_pos_right x.toNat (show 0 < y.toNat by omega)
  omega
set_option maxHeartbeats 4000000 in
set_option maxRecDepth 100000 in
theorem l_gd {G : tp_G} {μ : tp_M} (hG : tp_Gf G = true) {X Y : Int} : ∀ k, k ≤ 64 → ∀ (x y : Int) (x5 : Option tp_V), 0 ≤ k → (0 ≤ x ∧ x ≤ 100000) → (0 ≤ y ∧ y ≤ 100000) → q_g x y = q_g X Y → (q_gc (64 - k).toNat x y).2 = 0 → tp_g G mX11_greatestDivisor 7 [some (tI X), some (tI Y), some (tI x), some (tI y), some (tI k), x5] [] μ (fun r μ' => r = some (tI (q_g X Y)) ∧ μ' = μ) := by
  refine tp_ind _ ?_
  intro k hkN ih x y x5 h0 hx hy hg hz
  refine g_iload rfl rfl ?_
  refine g_bipush rfl ⟨by decide, by decide⟩ (by decide) ?_
  refine g_icmp_ge (tgt := 34) rfl (by decide) (fun h1 => ?_) (fun h1 => ?_)
  · refine g_iload_n rfl rfl ?_
    refine x_ireturn rfl rfl ?_
    have hy0 : y = 0 := by
      rcases (show y = 0 ∨ k = 64 by omega) with z | z
      · exact z
      · rw [z] at hz; exact hz
    exact ⟨by rw [← hg, hy0, q_g_0 hx.1], rfl⟩
  · refine g_iload_n rfl rfl ?_
    refine g_if_eq (tgt := 34) rfl (by decide) (fun h2 => ?_) (fun h2 => ?_)
    · refine g_iload_n rfl rfl ?_
      refine x_ireturn rfl rfl ?_
      have hy0 : y = 0 := by
        rcases (show y = 0 ∨ k = 64 by omega) with z | z
        · exact z
        · rw [z] at hz; exact hz
      exact ⟨by rw [← hg, hy0, q_g_0 hx.1], rfl⟩
    · refine g_iload_n rfl rfl ?_
      refine g_iload_n rfl rfl ?_
      refine x_irem rfl (by omega) (by omega) ?_
      refine g_istore rfl rfl rfl ?_
      refine g_iload_n rfl rfl ?_
      refine g_istore_n rfl rfl rfl ?_
      refine g_iload rfl rfl ?_
      refine g_istore_n rfl rfl rfl ?_
      refine x_iinc (z := k + 1) rfl rfl (by omega) ⟨by omega, by omega⟩ rfl rfl ?_
      refine g_goto (tgt := 7) rfl (by decide) ?_
      have hm0 := Int.emod_nonneg x (show y ≠ 0 by omega)
      have hm1 := Int.emod_lt_of_pos x (show 0 < y by omega)
      exact ih (by omega) _ _ _ (by omega) (by omega) (by omega) (by rw [q_g_s hx.1 (by omega)]; exact hg) (by rw [show (64 - k).toNat = (64 - (k + 1)).toNat + 1 by omega, q_gc_s (by omega)] at hz; exact hz)
set_option maxHeartbeats 4000000 in
set_option maxRecDepth 100000 in
theorem s_gd {G : tp_G} {μ : tp_M} (hG : tp_Gf G = true) {X Y : Int} (hx : 0 ≤ X ∧ X ≤ 100000) (hy : 0 ≤ Y ∧ Y ≤ 200) : tp_k G mX11_greatestDivisor [tI X, tI Y] μ (fun r μ' => r = some (tI (q_g X Y)) ∧ μ' = μ) := by
  refine tp_ok_of mX11_greatestDivisor_ok rfl (Nat.le_refl _) ?_
  refine g_iload_n rfl rfl ?_
  refine g_istore_n rfl rfl rfl ?_
  refine g_iload_n rfl rfl ?_
  refine g_istore_n rfl rfl rfl ?_
  refine g_iconst rfl ⟨by decide, by decide⟩ ?_
  refine g_istore rfl rfl rfl ?_
  exact l_gd hG 0 (by omega) _ _ _ (by omega) (by omega) (by omega) rfl (q_gc1 hy)
set_option maxHeartbeats 4000000 in
set_option maxRecDepth 100000 in
theorem l_cm {G : tp_G} {μ : tp_M} (hG : tp_Gf G = true) {X Y : Int} : ∀ m : Nat, ∀ (x y : Int) (x4 : Option tp_V), (0 ≤ x ∧ x ≤ 100000) → (0 ≤ y ∧ y ≤ 100000) → y < m → q_g x y = q_g X Y → tp_g G mX12_common 4 [some (tI X), some (tI Y), some (tI x), some (tI y), x4] [] μ (fun r μ' => r = some (tI (q_g X Y)) ∧ μ' = μ) := by
  intro m
  induction m with
  | zero => intro x y x4 hx hy hm; omega
  | succ m ih =>
    intro x y x4 hx hy hm hg
    refine g_iload_n rfl rfl ?_
    refine g_if_eq (tgt := 21) rfl (by decide) (fun h1 => ?_) (fun h1 => ?_)
    · refine g_iload_n rfl rfl ?_
      refine x_ireturn rfl rfl ?_
      exact ⟨by rw [← hg, show y = 0 by omega, q_g_0 hx.1], rfl⟩
    · refine g_iload_n rfl rfl ?_
      refine g_iload_n rfl rfl ?_
      refine x_irem rfl (by omega) (by omega) ?_
      refine g_istore rfl rfl rfl ?_
      refine g_iload_n rfl rfl ?_
      refine g_istore_n rfl rfl rfl ?_
      refine g_iload rfl rfl ?_
      refine g_istore_n rfl rfl rfl ?_
      refine g_goto (tgt := 4) rfl (by decide) ?_
      have hm0 := Int.emod_nonneg x (show y ≠ 0 by omega)
      have hm1 := Int.emod_lt_of_pos x (show 0 < y by omega)
      exact ih _ _ _ (by omega) (by omega) (by omega) (by rw [q_g_s hx.1 (by omega)]; exact hg)
set_option maxHeartbeats 4000000 in
set_option maxRecDepth 100000 in
theorem s_cm {G : tp_G} {μ : tp_M} (hG : tp_Gf G = true) {X Y : Int} (hx : 0 ≤ X ∧ X ≤ 100000) (hy : 0 ≤ Y ∧ Y ≤ 200) : tp_k G mX12_common [tI X, tI Y] μ (fun r μ' => r = some (tI (q_g X Y)) ∧ μ' = μ) := by
  refine tp_ok_of mX12_common_ok rfl (Nat.le_refl _) ?_
  refine g_iload_n rfl rfl ?_
  refine g_istore_n rfl rfl rfl ?_
  refine g_iload_n rfl rfl ?_
  refine g_istore_n rfl rfl rfl ?_
  exact l_cm hG (Y.toNat + 1) _ _ _ (by omega) (by omega) (by omega) rfl
def q_rt (S t : Int) (num : Int) : Int := if t = 0 then -1 else (if num = 1 then S else t) / q_g S t
theorem q_rt_0 {S t num : Int} (h : t = 0) : q_rt S t num = -1 := if_pos h
theorem q_rt_1 {S t num : Int} (h : t ≠ 0) (hn : num = 1) : q_rt S t num = S / q_g S t := by unfold q_rt; rw [if_neg h, if_pos hn]
theorem q_rt_2 {S t num : Int} (h : t ≠ 0) (hn : num ≠ 1) : q_rt S t num = t / q_g S t := by unfold q_rt; rw [if_neg h, if_neg hn]
set_option maxHeartbeats 4000000 in
set_option maxRecDepth 100000 in
theorem s_ratio1 {G : tp_G} {μ : tp_M} (hG : tp_Gf G = true) {c : Nat} {f : Int → Int} {n : Int} {A B Y H : Int → Int} {E D U T : Int} (hc : tp_SH c = .inl 0) (hcl : c < 37) (hw : tp_Cw f) (hW : r_W f n A B Y H) (hT : c_T 50 n A B Y E D U T μ) (hCd : tp_Cd c f μ) (hco : μ.2 50 5 = some c) {σ : tp_M} (hsz : μ.1 63 4 = σ.1 0 9) (hB : c_B σ μ) (hb : e_B σ) (hp : 0 ≤ σ.1 0 9 ∧ σ.1 0 9 ≤ 209) : tp_k G mX11_ratio [tR (some 0), tI 1] μ (fun r μ' => r = some (tI (q_rt (σ.1 0 12) (q_s (fun j => q_tr f (A j)) n) 1)) ∧ μ' = μ) := by
  refine tp_ok_of mX11_ratio_ok rfl (Nat.le_refl _) ?_
  have hcn : c < 234 := by omega
  have hw0 := hw.1
  have hn0 := hW.1
  have htb := q_s_B (F := fun j => q_tr f (A j)) (k := n) hn0.1 (fun j => q_tr_b f (A j))
  have hsm := e_B_sum hb hp
  refine g_aload_n rfl rfl ?_
  refine x_getF (r := 62) hG rfl rfl (by decide) (Or.inl ⟨_, rfl⟩) rfl ?_
  refine x_getF (r := 63) hG rfl rfl (by decide) (Or.inl ⟨_, rfl⟩) rfl ?_
  refine g_cV (as := []) (s_sum hG hsz hB hb hp) rfl rfl mX3_sum_ok rfl rfl rfl (by decide) rfl rfl rfl ?_
  rintro _ w9 ⟨rfl, hw9⟩ _
  have hw9 := hw9.symm
  subst hw9
  refine g_istore_n rfl rfl rfl ?_
  refine g_aload_n rfl rfl ?_
  refine x_getF (r := 50) hG rfl rfl (by decide) (Or.inl ⟨_, rfl⟩) rfl ?_
  refine g_cV (as := []) (s_traced50 hG hc hcl hw hW hT hCd hco) rfl rfl mX7_traced_ok rfl rfl rfl (by decide) rfl rfl rfl ?_
  rintro _ w9 ⟨rfl, hw9⟩ _
  have hw9 := hw9.symm
  subst hw9
  refine g_istore_n rfl rfl rfl ?_
  refine g_iload_n rfl rfl ?_
  refine g_iload_n rfl rfl ?_
  refine g_cS (as := [tI (σ.1 0 12), tI (q_s (fun j => q_tr f (A j)) n)]) (s_gd hG (by omega) (by omega)) rfl rfl mX11_greatestDivisor_ok rfl rfl rfl rfl ?_
  rintro _ w9 ⟨rfl, hw9⟩ _
  have hw9 := hw9.symm
  subst hw9
  have hgp : 0 < q_s (fun j => q_tr f (A j)) n → 0 < q_g (σ.1 0 12) (q_s (fun j => q_tr f (A j)) n) := fun z => q_g_p z
  refine g_istore rfl rfl rfl ?_
  refine g_iload_n rfl rfl ?_
  refine g_if_eq (tgt := 35) rfl (by decide) (fun h1 => ?_) (fun h1 => ?_)
  · first
      | omega
      | refine g_iconst rfl ⟨by decide, by decide⟩ ?_
        refine x_ireturn rfl rfl ?_
        exact ⟨by rw [q_rt_0 (by omega)], rfl⟩
  · first
      | omega
      | refine g_iload rfl rfl ?_
        refine g_if_ne (tgt := 37) rfl (by decide) (fun h2 => ?_) (fun h2 => ?_)
        · first
            | omega
            | refine g_iload_n rfl rfl ?_
              refine g_if_eq (tgt := 45) rfl (by decide) (fun hx => absurd hx (by omega)) (fun _ => ?_)
              refine g_iload_n rfl rfl ?_
              refine g_goto (tgt := 46) rfl (by decide) ?_
              refine g_iload rfl rfl ?_
              refine x_idiv rfl (by omega) (by omega) ?_
              refine x_ireturn rfl rfl ?_
              exact ⟨by rw [q_rt_1 (by omega) (by omega)], rfl⟩
        · first
            | omega
            | refine g_iconst rfl ⟨by decide, by decide⟩ ?_
              refine x_ireturn rfl rfl ?_
              exact ⟨by rw [q_rt_0 (by omega)], rfl⟩
set_option maxHeartbeats 4000000 in
set_option maxRecDepth 100000 in
theorem s_ratioM1 {G : tp_G} {μ : tp_M} (hG : tp_Gf G = true) {ck : Int} {f : Int → Int} {n : Int} {A B Y H : Int → Int} {E D U T : Int} (hw : tp_Cw f) (hW : r_W f n A B Y H) (hT : m_T n A B Y E D U T μ) (hMc : tp_Mc ck f μ) {σ : tp_M} (hb : e_B σ) (hp : 0 ≤ σ.1 0 9 ∧ σ.1 0 9 ≤ 209) (h48 : μ.1 201 48 = σ.1 0 12) : tp_k G mX12_ratio [tR (some 201), tI 0] μ (fun r μ' => r = some (tI (q_rt (σ.1 0 12) (q_s (fun j => q_tr f (A j)) n) 1)) ∧ μ' = μ) := by
  refine tp_ok_of mX12_ratio_ok rfl (Nat.le_refl _) ?_
  have hw0 := hw.1
  have hn0 := hW.1
  have htb := q_s_B (F := fun j => q_tr f (A j)) (k := n) hn0.1 (fun j => q_tr_b f (A j))
  have hsm := e_B_sum hb hp
  refine g_aload_n rfl rfl ?_
  refine g_cV (as := []) (s_tracedM hG hw hW hT hMc) rfl rfl mX12_tracedMany_ok rfl rfl rfl (by decide) rfl rfl rfl ?_
  rintro _ w9 ⟨rfl, hw9⟩ _
  have hw9 := hw9.symm
  subst hw9
  refine g_istore_n rfl rfl rfl ?_
  refine g_iload_n rfl rfl ?_
  refine g_if_ne (tgt := 11) rfl (by decide) (fun h1 => ?_) (fun h1 => ?_)
  · refine g_aload_n rfl rfl ?_
    refine x_geti (v := σ.1 0 12) rfl rfl (by decide) (Or.inl rfl) h48 ?_
    refine g_iload_n rfl rfl ?_
    refine g_cS (as := [tI (σ.1 0 12), tI (q_s (fun j => q_tr f (A j)) n)]) (s_cm hG (by omega) (by omega)) rfl rfl mX12_common_ok rfl rfl rfl rfl ?_
    rintro _ w9 ⟨rfl, hw9⟩ _
    have hw9 := hw9.symm
    subst hw9
    have hgp : 0 < q_s (fun j => q_tr f (A j)) n → 0 < q_g (σ.1 0 12) (q_s (fun j => q_tr f (A j)) n) := fun z => q_g_p z
    refine g_istore_n rfl rfl rfl ?_
    refine g_iload_n rfl rfl ?_
    refine g_if_eq (tgt := 28) rfl (by decide) (fun _ => ?_) (fun hx => absurd hx (by omega))
    refine g_aload_n rfl rfl ?_
    refine x_geti (v := σ.1 0 12) rfl rfl (by decide) (Or.inl rfl) h48 ?_
    refine g_iload_n rfl rfl ?_
    refine x_idiv rfl (by omega) (by omega) ?_
    refine x_ireturn rfl rfl ?_
    exact ⟨by rw [q_rt_1 (by omega) (by omega)], rfl⟩
  · refine g_iconst rfl ⟨by decide, by decide⟩ ?_
    refine x_ireturn rfl rfl ?_
    exact ⟨by rw [q_rt_0 (by omega)], rfl⟩
set_option maxHeartbeats 4000000 in
set_option maxRecDepth 100000 in
theorem s_ratio0 {G : tp_G} {μ : tp_M} (hG : tp_Gf G = true) {c : Nat} {f : Int → Int} {n : Int} {A B Y H : Int → Int} {E D U T : Int} (hc : tp_SH c = .inl 0) (hcl : c < 37) (hw : tp_Cw f) (hW : r_W f n A B Y H) (hT : c_T 50 n A B Y E D U T μ) (hCd : tp_Cd c f μ) (hco : μ.2 50 5 = some c) {σ : tp_M} (hsz : μ.1 63 4 = σ.1 0 9) (hB : c_B σ μ) (hb : e_B σ) (hp : 0 ≤ σ.1 0 9 ∧ σ.1 0 9 ≤ 209) : tp_k G mX11_ratio [tR (some 0), tI 0] μ (fun r μ' => r = some (tI (q_rt (σ.1 0 12) (q_s (fun j => q_tr f (A j)) n) 0)) ∧ μ' = μ) := by
  refine tp_ok_of mX11_ratio_ok rfl (Nat.le_refl _) ?_
  have hcn : c < 234 := by omega
  have hw0 := hw.1
  have hn0 := hW.1
  have htb := q_s_B (F := fun j => q_tr f (A j)) (k := n) hn0.1 (fun j => q_tr_b f (A j))
  have hsm := e_B_sum hb hp
  refine g_aload_n rfl rfl ?_
  refine x_getF (r := 62) hG rfl rfl (by decide) (Or.inl ⟨_, rfl⟩) rfl ?_
  refine x_getF (r := 63) hG rfl rfl (by decide) (Or.inl ⟨_, rfl⟩) rfl ?_
  refine g_cV (as := []) (s_sum hG hsz hB hb hp) rfl rfl mX3_sum_ok rfl rfl rfl (by decide) rfl rfl rfl ?_
  rintro _ w9 ⟨rfl, hw9⟩ _
  have hw9 := hw9.symm
  subst hw9
  refine g_istore_n rfl rfl rfl ?_
  refine g_aload_n rfl rfl ?_
  refine x_getF (r := 50) hG rfl rfl (by decide) (Or.inl ⟨_, rfl⟩) rfl ?_
  refine g_cV (as := []) (s_traced50 hG hc hcl hw hW hT hCd hco) rfl rfl mX7_traced_ok rfl rfl rfl (by decide) rfl rfl rfl ?_
  rintro _ w9 ⟨rfl, hw9⟩ _
  have hw9 := hw9.symm
  subst hw9
  refine g_istore_n rfl rfl rfl ?_
  refine g_iload_n rfl rfl ?_
  refine g_iload_n rfl rfl ?_
  refine g_cS (as := [tI (σ.1 0 12), tI (q_s (fun j => q_tr f (A j)) n)]) (s_gd hG (by omega) (by omega)) rfl rfl mX11_greatestDivisor_ok rfl rfl rfl rfl ?_
  rintro _ w9 ⟨rfl, hw9⟩ _
  have hw9 := hw9.symm
  subst hw9
  have hgp : 0 < q_s (fun j => q_tr f (A j)) n → 0 < q_g (σ.1 0 12) (q_s (fun j => q_tr f (A j)) n) := fun z => q_g_p z
  refine g_istore rfl rfl rfl ?_
  refine g_iload_n rfl rfl ?_
  refine g_if_eq (tgt := 35) rfl (by decide) (fun h1 => ?_) (fun h1 => ?_)
  · first
      | omega
      | refine g_iconst rfl ⟨by decide, by decide⟩ ?_
        refine x_ireturn rfl rfl ?_
        exact ⟨by rw [q_rt_0 (by omega)], rfl⟩
  · first
      | omega
      | refine g_iload rfl rfl ?_
        refine g_if_ne (tgt := 37) rfl (by decide) (fun h2 => ?_) (fun h2 => ?_)
        · first
            | omega
            | refine g_iload_n rfl rfl ?_
              refine g_if_eq (tgt := 45) rfl (by decide) (fun _ => ?_) (fun hx => absurd hx (by omega))
              refine g_iload_n rfl rfl ?_
              refine g_iload rfl rfl ?_
              refine x_idiv rfl (by omega) (by omega) ?_
              refine x_ireturn rfl rfl ?_
              exact ⟨by rw [q_rt_2 (by omega) (by omega)], rfl⟩
        · first
            | omega
            | refine g_iconst rfl ⟨by decide, by decide⟩ ?_
              refine x_ireturn rfl rfl ?_
              exact ⟨by rw [q_rt_0 (by omega)], rfl⟩
set_option maxHeartbeats 4000000 in
set_option maxRecDepth 100000 in
theorem s_ratioM0 {G : tp_G} {μ : tp_M} (hG : tp_Gf G = true) {ck : Int} {f : Int → Int} {n : Int} {A B Y H : Int → Int} {E D U T : Int} (hw : tp_Cw f) (hW : r_W f n A B Y H) (hT : m_T n A B Y E D U T μ) (hMc : tp_Mc ck f μ) {σ : tp_M} (hb : e_B σ) (hp : 0 ≤ σ.1 0 9 ∧ σ.1 0 9 ≤ 209) (h48 : μ.1 201 48 = σ.1 0 12) : tp_k G mX12_ratio [tR (some 201), tI 1] μ (fun r μ' => r = some (tI (q_rt (σ.1 0 12) (q_s (fun j => q_tr f (A j)) n) 0)) ∧ μ' = μ) := by
  refine tp_ok_of mX12_ratio_ok rfl (Nat.le_refl _) ?_
  have hw0 := hw.1
  have hn0 := hW.1
  have htb := q_s_B (F := fun j => q_tr f (A j)) (k := n) hn0.1 (fun j => q_tr_b f (A j))
  have hsm := e_B_sum hb hp
  refine g_aload_n rfl rfl ?_
  refine g_cV (as := []) (s_tracedM hG hw hW hT hMc) rfl rfl mX12_tracedMany_ok rfl rfl rfl (by decide) rfl rfl rfl ?_
  rintro _ w9 ⟨rfl, hw9⟩ _
  have hw9 := hw9.symm
  subst hw9
  refine g_istore_n rfl rfl rfl ?_
  refine g_iload_n rfl rfl ?_
  refine g_if_ne (tgt := 11) rfl (by decide) (fun h1 => ?_) (fun h1 => ?_)
  · refine g_aload_n rfl rfl ?_
    refine x_geti (v := σ.1 0 12) rfl rfl (by decide) (Or.inl rfl) h48 ?_
    refine g_iload_n rfl rfl ?_
    refine g_cS (as := [tI (σ.1 0 12), tI (q_s (fun j => q_tr f (A j)) n)]) (s_cm hG (by omega) (by omega)) rfl rfl mX12_common_ok rfl rfl rfl rfl ?_
    rintro _ w9 ⟨rfl, hw9⟩ _
    have hw9 := hw9.symm
    subst hw9
    have hgp : 0 < q_s (fun j => q_tr f (A j)) n → 0 < q_g (σ.1 0 12) (q_s (fun j => q_tr f (A j)) n) := fun z => q_g_p z
    refine g_istore_n rfl rfl rfl ?_
    refine g_iload_n rfl rfl ?_
    refine g_if_eq (tgt := 28) rfl (by decide) (fun hx => absurd hx (by omega)) (fun _ => ?_)
    refine g_iload_n rfl rfl ?_
    refine g_goto (tgt := 32) rfl (by decide) ?_
    refine g_iload_n rfl rfl ?_
    refine x_idiv rfl (by omega) (by omega) ?_
    refine x_ireturn rfl rfl ?_
    exact ⟨by rw [q_rt_2 (by omega) (by omega)], rfl⟩
  · refine g_iconst rfl ⟨by decide, by decide⟩ ?_
    refine x_ireturn rfl rfl ?_
    exact ⟨by rw [q_rt_0 (by omega)], rfl⟩
