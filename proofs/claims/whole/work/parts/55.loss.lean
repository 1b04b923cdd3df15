set_option maxHeartbeats 4000000 in
set_option maxRecDepth 100000 in
theorem l_loss0 {G : tp_G} {μ : tp_M} (hG : tp_Gf G = true) {q x3 : Int} (hL : tp_Lo μ.1 28 (tp_of μ 0)) (hq : 0 ≤ q ∧ q < (tp_of μ 0) 0) : ∀ k, k ≤ 100 → ∀ (l j : Int), 0 ≤ k → (0 ≤ j ∧ j ≤ q) → l = q - j → (∀ i, 0 ≤ i → i < j → μ.1 29 i < k) → k ≤ μ.1 29 j → tp_g G mX12_loss 61 [some (tR (some 201)), some (tI 0), some (tI q), some (tI x3), some (tI l), some (tI k)] [] μ (fun r μ' => r = some (tI (μ.1 29 q)) ∧ μ' = μ) := by
  refine tp_ind _ ?_
  intro k hkN ih l j h0 hj hl hb hk
  have hLr : ∀ i j, 0 ≤ i → i < j → j < (tp_of μ 0) 0 → μ.1 29 i < μ.1 29 j := hL.2.2.1
  have hLv : ∀ i, 0 ≤ i → i < (tp_of μ 0) 0 → 0 ≤ μ.1 29 i ∧ μ.1 29 i < 100 ∧ (tp_of μ 0) (1 + μ.1 29 i) = 1 := hL.2.2.2.1
  have hLm : ∀ p, 0 ≤ p → p < 100 → (tp_of μ 0) (1 + p) = 0 ∨ ((tp_of μ 0) (1 + p) = 1 ∧ ∃ i, 0 ≤ i ∧ i < (tp_of μ 0) 0 ∧ μ.1 29 i = p) := hL.2.2.2.2
  have hj1 := hLv j hj.1 (by omega)
  have hmk : ((tp_of μ 0) (1 + k) = 0 ∧ k < μ.1 29 j) ∨ ((tp_of μ 0) (1 + k) = 1 ∧ k = μ.1 29 j) := by
    rcases hLm k h0 (by omega) with t | ⟨t, i, i0, i1, i2⟩
    · refine Or.inl ⟨t, ?_⟩
      rcases (show k < μ.1 29 j ∨ k = μ.1 29 j by omega) with u | u
      · exact u
      · rw [u, hj1.2.2] at t; omega
    · refine Or.inr ⟨t, ?_⟩
      rcases Int.lt_trichotomy i j with u | u | u
      · have := hb i i0 u; omega
      · rw [← u]; exact i2.symm
      · have := hLr j i hj.1 u i1; omega
  have e9 : μ.1 209 (k + 1) = (tp_of μ 0) (1 + k) := congrArg (μ.1 209) (by omega)
  have hf0 := hL.2.1
  rcases hmk with hmk | hmk
  · refine g_iload rfl rfl ?_
    refine g_if_gt (tgt := 83) rfl (by decide) (fun h1 => ?_) (fun h1 => ?_)
    · refine g_iload rfl rfl ?_
      refine g_aload_n rfl rfl ?_
      refine x_getF (r := 209) hG rfl rfl (by decide) (Or.inr ⟨_, rfl⟩) rfl ?_
      refine g_bipush rfl ⟨by decide, by decide⟩ (by decide) ?_
      refine g_iload_n rfl rfl ?_
      refine x_imul (z := 0) rfl (by omega) ⟨by omega, by omega⟩ ?_
      refine g_iconst rfl ⟨by decide, by decide⟩ ?_
      refine x_iadd (z := 1) rfl (by omega) ⟨by omega, by omega⟩ ?_
      refine g_iload rfl rfl ?_
      refine x_iadd (z := k + 1) rfl (by omega) ⟨by omega, by omega⟩ ?_
      refine x_iald (v := (μ.1 209 (k + 1))) rfl rfl (by decide) (by omega) (by omega) rfl ?_
      refine x_isub (z := l - (μ.1 209 (k + 1))) rfl (by omega) ⟨by omega, by omega⟩ ?_
      refine g_istore rfl rfl rfl ?_
      refine x_iinc (z := k + 1) rfl rfl (by omega) ⟨by omega, by omega⟩ rfl rfl ?_
      refine g_goto (tgt := 61) rfl (by decide) ?_
      exact ih (by omega) _ j (by omega) hj (by omega) (fun i i0 i1 => by have := hb i i0 i1; omega) (by omega)
    · refine g_aload_n rfl rfl ?_
      refine x_getF (r := 209) hG rfl rfl (by decide) (Or.inr ⟨_, rfl⟩) rfl ?_
      refine g_bipush rfl ⟨by decide, by decide⟩ (by decide) ?_
      refine g_iload_n rfl rfl ?_
      refine x_imul (z := 0) rfl (by omega) ⟨by omega, by omega⟩ ?_
      refine g_iconst rfl ⟨by decide, by decide⟩ ?_
      refine x_iadd (z := 1) rfl (by omega) ⟨by omega, by omega⟩ ?_
      refine g_iload rfl rfl ?_
      refine x_iadd (z := k + 1) rfl (by omega) ⟨by omega, by omega⟩ ?_
      refine x_iald (v := (μ.1 209 (k + 1))) rfl rfl (by decide) (by omega) (by omega) rfl ?_
      refine g_if_ne (tgt := 108) rfl (by decide) (fun hx => absurd hx (by omega)) (fun _ => ?_)
      refine g_iload rfl rfl ?_
      refine g_aload_n rfl rfl ?_
      refine x_getF (r := 209) hG rfl rfl (by decide) (Or.inr ⟨_, rfl⟩) rfl ?_
      refine g_bipush rfl ⟨by decide, by decide⟩ (by decide) ?_
      refine g_iload_n rfl rfl ?_
      refine x_imul (z := 0) rfl (by omega) ⟨by omega, by omega⟩ ?_
      refine g_iconst rfl ⟨by decide, by decide⟩ ?_
      refine x_iadd (z := 1) rfl (by omega) ⟨by omega, by omega⟩ ?_
      refine g_iload rfl rfl ?_
      refine x_iadd (z := k + 1) rfl (by omega) ⟨by omega, by omega⟩ ?_
      refine x_iald (v := (μ.1 209 (k + 1))) rfl rfl (by decide) (by omega) (by omega) rfl ?_
      refine x_isub (z := l - (μ.1 209 (k + 1))) rfl (by omega) ⟨by omega, by omega⟩ ?_
      refine g_istore rfl rfl rfl ?_
      refine x_iinc (z := k + 1) rfl rfl (by omega) ⟨by omega, by omega⟩ rfl rfl ?_
      refine g_goto (tgt := 61) rfl (by decide) ?_
      exact ih (by omega) _ j (by omega) hj (by omega) (fun i i0 i1 => by have := hb i i0 i1; omega) (by omega)
  · refine g_iload rfl rfl ?_
    refine g_if_gt (tgt := 83) rfl (by decide) (fun h1 => ?_) (fun h1 => ?_)
    · refine g_iload rfl rfl ?_
      refine g_aload_n rfl rfl ?_
      refine x_getF (r := 209) hG rfl rfl (by decide) (Or.inr ⟨_, rfl⟩) rfl ?_
      refine g_bipush rfl ⟨by decide, by decide⟩ (by decide) ?_
      refine g_iload_n rfl rfl ?_
      refine x_imul (z := 0) rfl (by omega) ⟨by omega, by omega⟩ ?_
      refine g_iconst rfl ⟨by decide, by decide⟩ ?_
      refine x_iadd (z := 1) rfl (by omega) ⟨by omega, by omega⟩ ?_
      refine g_iload rfl rfl ?_
      refine x_iadd (z := k + 1) rfl (by omega) ⟨by omega, by omega⟩ ?_
      refine x_iald (v := (μ.1 209 (k + 1))) rfl rfl (by decide) (by omega) (by omega) rfl ?_
      refine x_isub (z := l - (μ.1 209 (k + 1))) rfl (by omega) ⟨by omega, by omega⟩ ?_
      refine g_istore rfl rfl rfl ?_
      refine x_iinc (z := k + 1) rfl rfl (by omega) ⟨by omega, by omega⟩ rfl rfl ?_
      refine g_goto (tgt := 61) rfl (by decide) ?_
      have hr := hLr j (j + 1) hj.1 (by omega) (by omega)
      exact ih (by omega) _ (j + 1) (by omega) (by omega) (by omega) (fun i i0 i1 => by rcases (show i < j ∨ i = j by omega) with u | u; (have := hb i i0 u; omega); (rw [u]; omega)) (by omega)
    · refine g_aload_n rfl rfl ?_
      refine x_getF (r := 209) hG rfl rfl (by decide) (Or.inr ⟨_, rfl⟩) rfl ?_
      refine g_bipush rfl ⟨by decide, by decide⟩ (by decide) ?_
      refine g_iload_n rfl rfl ?_
      refine x_imul (z := 0) rfl (by omega) ⟨by omega, by omega⟩ ?_
      refine g_iconst rfl ⟨by decide, by decide⟩ ?_
      refine x_iadd (z := 1) rfl (by omega) ⟨by omega, by omega⟩ ?_
      refine g_iload rfl rfl ?_
      refine x_iadd (z := k + 1) rfl (by omega) ⟨by omega, by omega⟩ ?_
      refine x_iald (v := (μ.1 209 (k + 1))) rfl rfl (by decide) (by omega) (by omega) rfl ?_
      refine g_if_ne (tgt := 108) rfl (by decide) (fun _ => ?_) (fun hx => absurd hx (by omega))
      refine g_iload rfl rfl ?_
      refine x_ireturn rfl rfl ?_
      exact ⟨by rw [hmk.2, show j = q by omega], rfl⟩
set_option maxHeartbeats 4000000 in
set_option maxRecDepth 100000 in
theorem l_loss1 {G : tp_G} {μ : tp_M} (hG : tp_Gf G = true) {q x3 : Int} (hL : tp_Lo μ.1 31 (tp_of μ 1)) (hq : 0 ≤ q ∧ q < (tp_of μ 1) 0) : ∀ k, k ≤ 100 → ∀ (l j : Int), 0 ≤ k → (0 ≤ j ∧ j ≤ q) → l = q - j → (∀ i, 0 ≤ i → i < j → μ.1 32 i < k) → k ≤ μ.1 32 j → tp_g G mX12_loss 61 [some (tR (some 201)), some (tI 1), some (tI q), some (tI x3), some (tI l), some (tI k)] [] μ (fun r μ' => r = some (tI (μ.1 32 q)) ∧ μ' = μ) := by
  refine tp_ind _ ?_
  intro k hkN ih l j h0 hj hl hb hk
  have hLr : ∀ i j, 0 ≤ i → i < j → j < (tp_of μ 1) 0 → μ.1 32 i < μ.1 32 j := hL.2.2.1
  have hLv : ∀ i, 0 ≤ i → i < (tp_of μ 1) 0 → 0 ≤ μ.1 32 i ∧ μ.1 32 i < 100 ∧ (tp_of μ 1) (1 + μ.1 32 i) = 1 := hL.2.2.2.1
  have hLm : ∀ p, 0 ≤ p → p < 100 → (tp_of μ 1) (1 + p) = 0 ∨ ((tp_of μ 1) (1 + p) = 1 ∧ ∃ i, 0 ≤ i ∧ i < (tp_of μ 1) 0 ∧ μ.1 32 i = p) := hL.2.2.2.2
  have hj1 := hLv j hj.1 (by omega)
  have hmk : ((tp_of μ 1) (1 + k) = 0 ∧ k < μ.1 32 j) ∨ ((tp_of μ 1) (1 + k) = 1 ∧ k = μ.1 32 j) := by
    rcases hLm k h0 (by omega) with t | ⟨t, i, i0, i1, i2⟩
    · refine Or.inl ⟨t, ?_⟩
      rcases (show k < μ.1 32 j ∨ k = μ.1 32 j by omega) with u | u
      · exact u
      · rw [u, hj1.2.2] at t; omega
    · refine Or.inr ⟨t, ?_⟩
      rcases Int.lt_trichotomy i j with u | u | u
      · have := hb i i0 u; omega
      · rw [← u]; exact i2.symm
      · have := hLr j i hj.1 u i1; omega
  have e9 : μ.1 209 (k + 102) = (tp_of μ 1) (1 + k) := congrArg (μ.1 209) (by omega)
  have hf0 := hL.2.1
  rcases hmk with hmk | hmk
  · refine g_iload rfl rfl ?_
    refine g_if_gt (tgt := 83) rfl (by decide) (fun h1 => ?_) (fun h1 => ?_)
    · refine g_iload rfl rfl ?_
      refine g_aload_n rfl rfl ?_
      refine x_getF (r := 209) hG rfl rfl (by decide) (Or.inr ⟨_, rfl⟩) rfl ?_
      refine g_bipush rfl ⟨by decide, by decide⟩ (by decide) ?_
      refine g_iload_n rfl rfl ?_
      refine x_imul (z := 101) rfl (by omega) ⟨by omega, by omega⟩ ?_
      refine g_iconst rfl ⟨by decide, by decide⟩ ?_
      refine x_iadd (z := 102) rfl (by omega) ⟨by omega, by omega⟩ ?_
      refine g_iload rfl rfl ?_
      refine x_iadd (z := k + 102) rfl (by omega) ⟨by omega, by omega⟩ ?_
      refine x_iald (v := (μ.1 209 (k + 102))) rfl rfl (by decide) (by omega) (by omega) rfl ?_
      refine x_isub (z := l - (μ.1 209 (k + 102))) rfl (by omega) ⟨by omega, by omega⟩ ?_
      refine g_istore rfl rfl rfl ?_
      refine x_iinc (z := k + 1) rfl rfl (by omega) ⟨by omega, by omega⟩ rfl rfl ?_
      refine g_goto (tgt := 61) rfl (by decide) ?_
      exact ih (by omega) _ j (by omega) hj (by omega) (fun i i0 i1 => by have := hb i i0 i1; omega) (by omega)
    · refine g_aload_n rfl rfl ?_
      refine x_getF (r := 209) hG rfl rfl (by decide) (Or.inr ⟨_, rfl⟩) rfl ?_
      refine g_bipush rfl ⟨by decide, by decide⟩ (by decide) ?_
      refine g_iload_n rfl rfl ?_
      refine x_imul (z := 101) rfl (by omega) ⟨by omega, by omega⟩ ?_
      refine g_iconst rfl ⟨by decide, by decide⟩ ?_
      refine x_iadd (z := 102) rfl (by omega) ⟨by omega, by omega⟩ ?_
      refine g_iload rfl rfl ?_
      refine x_iadd (z := k + 102) rfl (by omega) ⟨by omega, by omega⟩ ?_
      refine x_iald (v := (μ.1 209 (k + 102))) rfl rfl (by decide) (by omega) (by omega) rfl ?_
      refine g_if_ne (tgt := 108) rfl (by decide) (fun hx => absurd hx (by omega)) (fun _ => ?_)
      refine g_iload rfl rfl ?_
      refine g_aload_n rfl rfl ?_
      refine x_getF (r := 209) hG rfl rfl (by decide) (Or.inr ⟨_, rfl⟩) rfl ?_
      refine g_bipush rfl ⟨by decide, by decide⟩ (by decide) ?_
      refine g_iload_n rfl rfl ?_
      refine x_imul (z := 101) rfl (by omega) ⟨by omega, by omega⟩ ?_
      refine g_iconst rfl ⟨by decide, by decide⟩ ?_
      refine x_iadd (z := 102) rfl (by omega) ⟨by omega, by omega⟩ ?_
      refine g_iload rfl rfl ?_
      refine x_iadd (z := k + 102) rfl (by omega) ⟨by omega, by omega⟩ ?_
      refine x_iald (v := (μ.1 209 (k + 102))) rfl rfl (by decide) (by omega) (by omega) rfl ?_
      refine x_isub (z := l - (μ.1 209 (k + 102))) rfl (by omega) ⟨by omega, by omega⟩ ?_
      refine g_istore rfl rfl rfl ?_
      refine x_iinc (z := k + 1) rfl rfl (by omega) ⟨by omega, by omega⟩ rfl rfl ?_
      refine g_goto (tgt := 61) rfl (by decide) ?_
      exact ih (by omega) _ j (by omega) hj (by omega) (fun i i0 i1 => by have := hb i i0 i1; omega) (by omega)
  · refine g_iload rfl rfl ?_
    refine g_if_gt (tgt := 83) rfl (by decide) (fun h1 => ?_) (fun h1 => ?_)
    · refine g_iload rfl rfl ?_
      refine g_aload_n rfl rfl ?_
      refine x_getF (r := 209) hG rfl rfl (by decide) (Or.inr ⟨_, rfl⟩) rfl ?_
      refine g_bipush rfl ⟨by decide, by decide⟩ (by decide) ?_
      refine g_iload_n rfl rfl ?_
      refine x_imul (z := 101) rfl (by omega) ⟨by omega, by omega⟩ ?_
      refine g_iconst rfl ⟨by decide, by decide⟩ ?_
      refine x_iadd (z := 102) rfl (by omega) ⟨by omega, by omega⟩ ?_
      refine g_iload rfl rfl ?_
      refine x_iadd (z := k + 102) rfl (by omega) ⟨by omega, by omega⟩ ?_
      refine x_iald (v := (μ.1 209 (k + 102))) rfl rfl (by decide) (by omega) (by omega) rfl ?_
      refine x_isub (z := l - (μ.1 209 (k + 102))) rfl (by omega) ⟨by omega, by omega⟩ ?_
      refine g_istore rfl rfl rfl ?_
      refine x_iinc (z := k + 1) rfl rfl (by omega) ⟨by omega, by omega⟩ rfl rfl ?_
      refine g_goto (tgt := 61) rfl (by decide) ?_
      have hr := hLr j (j + 1) hj.1 (by omega) (by omega)
      exact ih (by omega) _ (j + 1) (by omega) (by omega) (by omega) (fun i i0 i1 => by rcases (show i < j ∨ i = j by omega) with u | u; (have := hb i i0 u; omega); (rw [u]; omega)) (by omega)
    · refine g_aload_n rfl rfl ?_
      refine x_getF (r := 209) hG rfl rfl (by decide) (Or.inr ⟨_, rfl⟩) rfl ?_
      refine g_bipush rfl ⟨by decide, by decide⟩ (by decide) ?_
      refine g_iload_n rfl rfl ?_
      refine x_imul (z := 101) rfl (by omega) ⟨by omega, by omega⟩ ?_
      refine g_iconst rfl ⟨by decide, by decide⟩ ?_
      refine x_iadd (z := 102) rfl (by omega) ⟨by omega, by omega⟩ ?_
      refine g_iload rfl rfl ?_
      refine x_iadd (z := k + 102) rfl (by omega) ⟨by omega, by omega⟩ ?_
      refine x_iald (v := (μ.1 209 (k + 102))) rfl rfl (by decide) (by omega) (by omega) rfl ?_
      refine g_if_ne (tgt := 108) rfl (by decide) (fun _ => ?_) (fun hx => absurd hx (by omega))
      refine g_iload rfl rfl ?_
      refine x_ireturn rfl rfl ?_
      exact ⟨by rw [hmk.2, show j = q by omega], rfl⟩
set_option maxHeartbeats 4000000 in
set_option maxRecDepth 100000 in
theorem p_loss {G : tp_G} (hG : tp_Gf G = true) {a k : Int} : tp_pair G mX11_loss mX12_loss [tI a, tI k] := by
  intro μ hR
  have hM := tp_R_many hR 2 (by decide) (by decide)
  rcases (show (a = 0 ∧ 0 < μ.1 5 2) ∨ (a = 1 ∧ 1 < μ.1 5 2) ∨ ((a < 0 ∨ μ.1 5 2 ≤ a) ∧ μ.1 5 2 ≤ 2) by omega) with ⟨rfl, hd⟩ | ⟨rfl, hd⟩ | hd
  · have hL : tp_Lo μ.1 28 (tp_of μ 0) := tp_R_loss hR 0 (by decide) hd
    have hL0 : tp_of μ 0 0 = μ.1 209 0 := rfl
    have hL1 := hL.2.1
    have hLe := hL.1
    refine tp_ok_of mX11_loss_ok rfl (Nat.le_refl _) ?_
    refine g_aload_n rfl rfl ?_
    refine x_getF (r := 1) hG rfl rfl (by decide) (Or.inl ⟨_, rfl⟩) rfl ?_
    refine g_iconst rfl ⟨by decide, by decide⟩ ?_
    refine g_iload_n rfl rfl ?_
    refine g_cV (as := [tI 2, tI 0]) (s_rowOf20 hG hd) rfl rfl mX9_rowOf_ok rfl rfl rfl (by decide) rfl rfl rfl ?_
    rintro _ w9 ⟨rfl, hw9⟩ _
    have hw9 := hw9.symm
    subst hw9
    refine g_iload_n rfl rfl ?_
    refine g_iS (as := [tR (some 28), tI k]) mX11_sizeOrValue_ok rfl rfl rfl rfl rfl rfl rfl ?_
    refine g_aload_n rfl rfl ?_
    refine g_ifnonnull (tgt := 7) rfl (by decide) (fun _ _ => ?_) (fun hx => by cases hx)
    refine g_iload_n rfl rfl ?_
    refine g_iconst rfl ⟨by decide, by decide⟩ ?_
    refine g_icmp_ne (tgt := 17) rfl (by decide) (fun h1 => ?_) (fun h1 => ?_)
    · refine g_iload_n rfl rfl ?_
      refine g_if_lt (tgt := 29) rfl (by decide) (fun h2 => ?_) (fun h2 => ?_)
      · refine g_bipush rfl ⟨by decide, by decide⟩ (by decide) ?_
        refine g_goto (tgt := 39) rfl (by decide) ?_
        refine x_ireturn rfl rfl ?_
        intro _
        refine x_ireturn rfl rfl ?_
        refine ⟨_, rfl, ?_⟩
        refine tp_ok_of mX12_loss_ok rfl (Nat.le_refl _) ?_
        refine g_aload_n rfl rfl ?_
        refine g_iconst rfl ⟨by decide, by decide⟩ ?_
        refine g_puti rfl rfl (by decide) rfl rfl ?_
        refine g_aload_n rfl rfl ?_
        refine g_iconst rfl ⟨by decide, by decide⟩ ?_
        refine g_iload_n rfl rfl ?_
        refine g_iV (as := [tI 2, tI 0]) mX12_is_ok rfl rfl rfl rfl rfl rfl (by decide) rfl rfl rfl ?_
        refine g_iload_n rfl rfl ?_
        refine g_iconst rfl ⟨by decide, by decide⟩ ?_
        refine g_aload_n rfl rfl ?_
        refine x_getF (r := 206) hG rfl rfl (by decide) (Or.inr ⟨_, rfl⟩) rfl ?_
        refine g_iload_n rfl rfl ?_
        refine x_iald (v := (μ.1 206 2)) rfl rfl (by decide) (by decide) (by decide) rfl ?_
        refine g_iconst rfl ⟨by decide, by decide⟩ ?_
        refine x_isub (z := (μ.1 206 2) - 1) rfl (by omega) ⟨by omega, by omega⟩ ?_
        refine g_iS (as := [tI 0, tI 0, tI ((μ.1 206 2) - 1)]) mX12_in_ok rfl rfl rfl rfl rfl rfl rfl ?_
        refine g_iload_n rfl rfl ?_
        refine g_iload_n rfl rfl ?_
        refine g_icmp_lt (tgt := 14) rfl (by decide) (fun hx => absurd hx (by omega)) (fun _ => ?_)
        refine g_iload_n rfl rfl ?_
        refine g_iload_n rfl rfl ?_
        refine g_icmp_gt (tgt := 14) rfl (by decide) (fun hx => absurd hx (by omega)) (fun _ => ?_)
        refine g_iconst rfl ⟨by decide, by decide⟩ ?_
        refine g_goto (tgt := 15) rfl (by decide) ?_
        refine x_zreturn rfl rfl (Or.inr rfl) ?_
        intro _
        refine x_zreturn rfl rfl (Or.inr rfl) ?_
        intro _
        refine g_if_ne (tgt := 17) rfl (by decide) (fun _ => ?_) (fun hx => absurd hx (by omega))
        refine g_aload_n rfl rfl ?_
        refine x_getF (r := 209) hG rfl rfl (by decide) (Or.inr ⟨_, rfl⟩) rfl ?_
        refine g_bipush rfl ⟨by decide, by decide⟩ (by decide) ?_
        refine g_iload_n rfl rfl ?_
        refine x_imul (z := 0) rfl (by omega) ⟨by omega, by omega⟩ ?_
        refine x_iald (v := (μ.1 209 0)) rfl rfl (by decide) (by decide) (by decide) rfl ?_
        refine g_istore_n rfl rfl rfl ?_
        refine g_iload_n rfl rfl ?_
        refine g_iconst rfl ⟨by decide, by decide⟩ ?_
        refine g_icmp_eq (tgt := 43) rfl (by decide) (fun h3 => ?_) (fun h3 => ?_)
        · refine g_iload_n rfl rfl ?_
          refine g_iconst rfl ⟨by decide, by decide⟩ ?_
          refine g_icmp_ne (tgt := 52) rfl (by decide) (fun hx => absurd hx (by omega)) (fun _ => ?_)
          refine g_iload_n rfl rfl ?_
          refine g_goto (tgt := 54) rfl (by decide) ?_
          refine x_ireturn rfl rfl ?_
          exact ⟨(by first | rfl | (rw [hLe, hL0]) | (exfalso; omega)), tp_R_kp hR (tp_kp_pi (by decide) tp_kp_rf)⟩
        · refine g_iload_n rfl rfl ?_
          refine g_iconst rfl ⟨by decide, by decide⟩ ?_
          refine g_iload_n rfl rfl ?_
          refine g_iconst rfl ⟨by decide, by decide⟩ ?_
          refine x_isub (z := (μ.1 209 0) - 1) rfl (by omega) ⟨by omega, by omega⟩ ?_
          refine g_iS (as := [tI k, tI 0, tI ((μ.1 209 0) - 1)]) mX12_in_ok rfl rfl rfl rfl rfl rfl rfl ?_
          refine g_iload_n rfl rfl ?_
          refine g_iload_n rfl rfl ?_
          refine g_icmp_lt (tgt := 14) rfl (by decide) (fun _ => ?_) (fun hx => absurd hx (by omega))
          refine g_iconst rfl ⟨by decide, by decide⟩ ?_
          refine x_zreturn rfl rfl (Or.inl rfl) ?_
          intro _
          refine g_if_ne (tgt := 55) rfl (by decide) (fun hx => absurd hx (by omega)) (fun _ => ?_)
          refine g_iload_n rfl rfl ?_
          refine g_iconst rfl ⟨by decide, by decide⟩ ?_
          refine g_icmp_ne (tgt := 52) rfl (by decide) (fun _ => ?_) (fun hx => absurd hx (by omega))
          refine g_bipush rfl ⟨by decide, by decide⟩ (by decide) ?_
          refine x_ireturn rfl rfl ?_
          exact ⟨(by first | rfl | (rw [hLe, hL0]) | (exfalso; omega)), tp_R_kp hR (tp_kp_pi (by decide) tp_kp_rf)⟩
      · refine g_iload_n rfl rfl ?_
        refine g_aload_n rfl rfl ?_
        refine x_geti (v := (μ.1 28 2)) rfl rfl (by decide) (Or.inl rfl) rfl ?_
        refine g_icmp_lt (tgt := 34) rfl (by decide) (fun h4 => ?_) (fun h4 => ?_)
        · refine g_aload_n rfl rfl ?_
          refine g_iload_n rfl rfl ?_
          refine g_cV (as := [tI k]) (s_value hG rfl (by decide) (by omega) (by omega) (by show _ ≤ ((12 : Nat) : Int); omega)) rfl rfl mX6_value_ok rfl rfl rfl (by decide) rfl rfl rfl ?_
          rintro _ w9 ⟨rfl, hw9⟩ _
          have hw9 := hw9.symm
          subst hw9
          refine x_ireturn rfl rfl ?_
          intro _
          refine x_ireturn rfl rfl ?_
          refine ⟨_, rfl, ?_⟩
          refine tp_ok_of mX12_loss_ok rfl (Nat.le_refl _) ?_
          refine g_aload_n rfl rfl ?_
          refine g_iconst rfl ⟨by decide, by decide⟩ ?_
          refine g_puti rfl rfl (by decide) rfl rfl ?_
          refine g_aload_n rfl rfl ?_
          refine g_iconst rfl ⟨by decide, by decide⟩ ?_
          refine g_iload_n rfl rfl ?_
          refine g_iV (as := [tI 2, tI 0]) mX12_is_ok rfl rfl rfl rfl rfl rfl (by decide) rfl rfl rfl ?_
          refine g_iload_n rfl rfl ?_
          refine g_iconst rfl ⟨by decide, by decide⟩ ?_
          refine g_aload_n rfl rfl ?_
          refine x_getF (r := 206) hG rfl rfl (by decide) (Or.inr ⟨_, rfl⟩) rfl ?_
          refine g_iload_n rfl rfl ?_
          refine x_iald (v := (μ.1 206 2)) rfl rfl (by decide) (by decide) (by decide) rfl ?_
          refine g_iconst rfl ⟨by decide, by decide⟩ ?_
          refine x_isub (z := (μ.1 206 2) - 1) rfl (by omega) ⟨by omega, by omega⟩ ?_
          refine g_iS (as := [tI 0, tI 0, tI ((μ.1 206 2) - 1)]) mX12_in_ok rfl rfl rfl rfl rfl rfl rfl ?_
          refine g_iload_n rfl rfl ?_
          refine g_iload_n rfl rfl ?_
          refine g_icmp_lt (tgt := 14) rfl (by decide) (fun hx => absurd hx (by omega)) (fun _ => ?_)
          refine g_iload_n rfl rfl ?_
          refine g_iload_n rfl rfl ?_
          refine g_icmp_gt (tgt := 14) rfl (by decide) (fun hx => absurd hx (by omega)) (fun _ => ?_)
          refine g_iconst rfl ⟨by decide, by decide⟩ ?_
          refine g_goto (tgt := 15) rfl (by decide) ?_
          refine x_zreturn rfl rfl (Or.inr rfl) ?_
          intro _
          refine x_zreturn rfl rfl (Or.inr rfl) ?_
          intro _
          refine g_if_ne (tgt := 17) rfl (by decide) (fun _ => ?_) (fun hx => absurd hx (by omega))
          refine g_aload_n rfl rfl ?_
          refine x_getF (r := 209) hG rfl rfl (by decide) (Or.inr ⟨_, rfl⟩) rfl ?_
          refine g_bipush rfl ⟨by decide, by decide⟩ (by decide) ?_
          refine g_iload_n rfl rfl ?_
          refine x_imul (z := 0) rfl (by omega) ⟨by omega, by omega⟩ ?_
          refine x_iald (v := (μ.1 209 0)) rfl rfl (by decide) (by decide) (by decide) rfl ?_
          refine g_istore_n rfl rfl rfl ?_
          refine g_iload_n rfl rfl ?_
          refine g_iconst rfl ⟨by decide, by decide⟩ ?_
          refine g_icmp_eq (tgt := 43) rfl (by decide) (fun hx => absurd hx (by omega)) (fun _ => ?_)
          refine g_iload_n rfl rfl ?_
          refine g_iconst rfl ⟨by decide, by decide⟩ ?_
          refine g_iload_n rfl rfl ?_
          refine g_iconst rfl ⟨by decide, by decide⟩ ?_
          refine x_isub (z := (μ.1 209 0) - 1) rfl (by omega) ⟨by omega, by omega⟩ ?_
          refine g_iS (as := [tI k, tI 0, tI ((μ.1 209 0) - 1)]) mX12_in_ok rfl rfl rfl rfl rfl rfl rfl ?_
          refine g_iload_n rfl rfl ?_
          refine g_iload_n rfl rfl ?_
          refine g_icmp_lt (tgt := 14) rfl (by decide) (fun hx => absurd hx (by omega)) (fun _ => ?_)
          refine g_iload_n rfl rfl ?_
          refine g_iload_n rfl rfl ?_
          refine g_icmp_gt (tgt := 14) rfl (by decide) (fun hx => absurd hx (by omega)) (fun _ => ?_)
          refine g_iconst rfl ⟨by decide, by decide⟩ ?_
          refine g_goto (tgt := 15) rfl (by decide) ?_
          refine x_zreturn rfl rfl (Or.inr rfl) ?_
          intro _
          refine g_if_ne (tgt := 55) rfl (by decide) (fun _ => ?_) (fun hx => absurd hx (by omega))
          refine g_iload_n rfl rfl ?_
          refine g_istore rfl rfl rfl ?_
          refine g_iconst rfl ⟨by decide, by decide⟩ ?_
          refine g_istore rfl rfl rfl ?_
          have hL2 : 0 ≤ k ∧ k < tp_of (tp_pi μ 201 0 0) 0 0 := by show 0 ≤ k ∧ k < tp_of μ 0 0; omega
          refine tp_conseq (fun r9 μ8 q8 => ?_) (l_loss0 (μ := (tp_pi μ 201 0 0)) (q := k) hG hL hL2 0 (by omega) _ 0 (by omega) (by omega) (by omega) (fun i i0 i1 => by omega) (hL.2.2.2.1 0 (by omega) (by omega)).1)
          obtain ⟨e7, e8⟩ := q8
          rw [e7, e8]
          exact ⟨by first | rfl | (exfalso; omega), tp_R_kp hR (tp_kp_pi (by decide) tp_kp_rf)⟩
        · refine g_bipush rfl ⟨by decide, by decide⟩ (by decide) ?_
          refine g_goto (tgt := 39) rfl (by decide) ?_
          refine x_ireturn rfl rfl ?_
          intro _
          refine x_ireturn rfl rfl ?_
          refine ⟨_, rfl, ?_⟩
          refine tp_ok_of mX12_loss_ok rfl (Nat.le_refl _) ?_
          refine g_aload_n rfl rfl ?_
          refine g_iconst rfl ⟨by decide, by decide⟩ ?_
          refine g_puti rfl rfl (by decide) rfl rfl ?_
          refine g_aload_n rfl rfl ?_
          refine g_iconst rfl ⟨by decide, by decide⟩ ?_
          refine g_iload_n rfl rfl ?_
          refine g_iV (as := [tI 2, tI 0]) mX12_is_ok rfl rfl rfl rfl rfl rfl (by decide) rfl rfl rfl ?_
          refine g_iload_n rfl rfl ?_
          refine g_iconst rfl ⟨by decide, by decide⟩ ?_
          refine g_aload_n rfl rfl ?_
          refine x_getF (r := 206) hG rfl rfl (by decide) (Or.inr ⟨_, rfl⟩) rfl ?_
          refine g_iload_n rfl rfl ?_
          refine x_iald (v := (μ.1 206 2)) rfl rfl (by decide) (by decide) (by decide) rfl ?_
          refine g_iconst rfl ⟨by decide, by decide⟩ ?_
          refine x_isub (z := (μ.1 206 2) - 1) rfl (by omega) ⟨by omega, by omega⟩ ?_
          refine g_iS (as := [tI 0, tI 0, tI ((μ.1 206 2) - 1)]) mX12_in_ok rfl rfl rfl rfl rfl rfl rfl ?_
          refine g_iload_n rfl rfl ?_
          refine g_iload_n rfl rfl ?_
          refine g_icmp_lt (tgt := 14) rfl (by decide) (fun hx => absurd hx (by omega)) (fun _ => ?_)
          refine g_iload_n rfl rfl ?_
          refine g_iload_n rfl rfl ?_
          refine g_icmp_gt (tgt := 14) rfl (by decide) (fun hx => absurd hx (by omega)) (fun _ => ?_)
          refine g_iconst rfl ⟨by decide, by decide⟩ ?_
          refine g_goto (tgt := 15) rfl (by decide) ?_
          refine x_zreturn rfl rfl (Or.inr rfl) ?_
          intro _
          refine x_zreturn rfl rfl (Or.inr rfl) ?_
          intro _
          refine g_if_ne (tgt := 17) rfl (by decide) (fun _ => ?_) (fun hx => absurd hx (by omega))
          refine g_aload_n rfl rfl ?_
          refine x_getF (r := 209) hG rfl rfl (by decide) (Or.inr ⟨_, rfl⟩) rfl ?_
          refine g_bipush rfl ⟨by decide, by decide⟩ (by decide) ?_
          refine g_iload_n rfl rfl ?_
          refine x_imul (z := 0) rfl (by omega) ⟨by omega, by omega⟩ ?_
          refine x_iald (v := (μ.1 209 0)) rfl rfl (by decide) (by decide) (by decide) rfl ?_
          refine g_istore_n rfl rfl rfl ?_
          refine g_iload_n rfl rfl ?_
          refine g_iconst rfl ⟨by decide, by decide⟩ ?_
          refine g_icmp_eq (tgt := 43) rfl (by decide) (fun hx => absurd hx (by omega)) (fun _ => ?_)
          refine g_iload_n rfl rfl ?_
          refine g_iconst rfl ⟨by decide, by decide⟩ ?_
          refine g_iload_n rfl rfl ?_
          refine g_iconst rfl ⟨by decide, by decide⟩ ?_
          refine x_isub (z := (μ.1 209 0) - 1) rfl (by omega) ⟨by omega, by omega⟩ ?_
          refine g_iS (as := [tI k, tI 0, tI ((μ.1 209 0) - 1)]) mX12_in_ok rfl rfl rfl rfl rfl rfl rfl ?_
          refine g_iload_n rfl rfl ?_
          refine g_iload_n rfl rfl ?_
          refine g_icmp_lt (tgt := 14) rfl (by decide) (fun hx => absurd hx (by omega)) (fun _ => ?_)
          refine g_iload_n rfl rfl ?_
          refine g_iload_n rfl rfl ?_
          refine g_icmp_gt (tgt := 14) rfl (by decide) (fun _ => ?_) (fun hx => absurd hx (by omega))
          refine g_iconst rfl ⟨by decide, by decide⟩ ?_
          refine x_zreturn rfl rfl (Or.inl rfl) ?_
          intro _
          refine g_if_ne (tgt := 55) rfl (by decide) (fun hx => absurd hx (by omega)) (fun _ => ?_)
          refine g_iload_n rfl rfl ?_
          refine g_iconst rfl ⟨by decide, by decide⟩ ?_
          refine g_icmp_ne (tgt := 52) rfl (by decide) (fun _ => ?_) (fun hx => absurd hx (by omega))
          refine g_bipush rfl ⟨by decide, by decide⟩ (by decide) ?_
          refine x_ireturn rfl rfl ?_
          exact ⟨(by first | rfl | (rw [hLe, hL0]) | (exfalso; omega)), tp_R_kp hR (tp_kp_pi (by decide) tp_kp_rf)⟩
    · refine g_aload_n rfl rfl ?_
      refine x_geti (v := (μ.1 28 2)) rfl rfl (by decide) (Or.inl rfl) rfl ?_
      refine x_ireturn rfl rfl ?_
      intro _
      refine x_ireturn rfl rfl ?_
      refine ⟨_, rfl, ?_⟩
      refine tp_ok_of mX12_loss_ok rfl (Nat.le_refl _) ?_
      refine g_aload_n rfl rfl ?_
      refine g_iconst rfl ⟨by decide, by decide⟩ ?_
      refine g_puti rfl rfl (by decide) rfl rfl ?_
      refine g_aload_n rfl rfl ?_
      refine g_iconst rfl ⟨by decide, by decide⟩ ?_
      refine g_iload_n rfl rfl ?_
      refine g_iV (as := [tI 2, tI 0]) mX12_is_ok rfl rfl rfl rfl rfl rfl (by decide) rfl rfl rfl ?_
      refine g_iload_n rfl rfl ?_
      refine g_iconst rfl ⟨by decide, by decide⟩ ?_
      refine g_aload_n rfl rfl ?_
      refine x_getF (r := 206) hG rfl rfl (by decide) (Or.inr ⟨_, rfl⟩) rfl ?_
      refine g_iload_n rfl rfl ?_
      refine x_iald (v := (μ.1 206 2)) rfl rfl (by decide) (by decide) (by decide) rfl ?_
      refine g_iconst rfl ⟨by decide, by decide⟩ ?_
      refine x_isub (z := (μ.1 206 2) - 1) rfl (by omega) ⟨by omega, by omega⟩ ?_
      refine g_iS (as := [tI 0, tI 0, tI ((μ.1 206 2) - 1)]) mX12_in_ok rfl rfl rfl rfl rfl rfl rfl ?_
      refine g_iload_n rfl rfl ?_
      refine g_iload_n rfl rfl ?_
      refine g_icmp_lt (tgt := 14) rfl (by decide) (fun hx => absurd hx (by omega)) (fun _ => ?_)
      refine g_iload_n rfl rfl ?_
      refine g_iload_n rfl rfl ?_
      refine g_icmp_gt (tgt := 14) rfl (by decide) (fun hx => absurd hx (by omega)) (fun _ => ?_)
      refine g_iconst rfl ⟨by decide, by decide⟩ ?_
      refine g_goto (tgt := 15) rfl (by decide) ?_
      refine x_zreturn rfl rfl (Or.inr rfl) ?_
      intro _
      refine x_zreturn rfl rfl (Or.inr rfl) ?_
      intro _
      refine g_if_ne (tgt := 17) rfl (by decide) (fun _ => ?_) (fun hx => absurd hx (by omega))
      refine g_aload_n rfl rfl ?_
      refine x_getF (r := 209) hG rfl rfl (by decide) (Or.inr ⟨_, rfl⟩) rfl ?_
      refine g_bipush rfl ⟨by decide, by decide⟩ (by decide) ?_
      refine g_iload_n rfl rfl ?_
      refine x_imul (z := 0) rfl (by omega) ⟨by omega, by omega⟩ ?_
      refine x_iald (v := (μ.1 209 0)) rfl rfl (by decide) (by decide) (by decide) rfl ?_
      refine g_istore_n rfl rfl rfl ?_
      refine g_iload_n rfl rfl ?_
      refine g_iconst rfl ⟨by decide, by decide⟩ ?_
      refine g_icmp_eq (tgt := 43) rfl (by decide) (fun _ => ?_) (fun hx => absurd hx (by omega))
      refine g_iload_n rfl rfl ?_
      refine g_iconst rfl ⟨by decide, by decide⟩ ?_
      refine g_icmp_ne (tgt := 52) rfl (by decide) (fun hx => absurd hx (by omega)) (fun _ => ?_)
      refine g_iload_n rfl rfl ?_
      refine g_goto (tgt := 54) rfl (by decide) ?_
      refine x_ireturn rfl rfl ?_
      exact ⟨(by first | rfl | (rw [hLe, hL0]) | (exfalso; omega)), tp_R_kp hR (tp_kp_pi (by decide) tp_kp_rf)⟩
  · have hL : tp_Lo μ.1 31 (tp_of μ 1) := tp_R_loss hR 1 (by decide) hd
    have hL0 : tp_of μ 1 0 = μ.1 209 101 := rfl
    have hL1 := hL.2.1
    have hLe := hL.1
    refine tp_ok_of mX11_loss_ok rfl (Nat.le_refl _) ?_
    refine g_aload_n rfl rfl ?_
    refine x_getF (r := 1) hG rfl rfl (by decide) (Or.inl ⟨_, rfl⟩) rfl ?_
    refine g_iconst rfl ⟨by decide, by decide⟩ ?_
    refine g_iload_n rfl rfl ?_
    refine g_cV (as := [tI 2, tI 1]) (s_rowOf21 hG hd) rfl rfl mX9_rowOf_ok rfl rfl rfl (by decide) rfl rfl rfl ?_
    rintro _ w9 ⟨rfl, hw9⟩ _
    have hw9 := hw9.symm
    subst hw9
    refine g_iload_n rfl rfl ?_
    refine g_iS (as := [tR (some 31), tI k]) mX11_sizeOrValue_ok rfl rfl rfl rfl rfl rfl rfl ?_
    refine g_aload_n rfl rfl ?_
    refine g_ifnonnull (tgt := 7) rfl (by decide) (fun _ _ => ?_) (fun hx => by cases hx)
    refine g_iload_n rfl rfl ?_
    refine g_iconst rfl ⟨by decide, by decide⟩ ?_
    refine g_icmp_ne (tgt := 17) rfl (by decide) (fun h1 => ?_) (fun h1 => ?_)
    · refine g_iload_n rfl rfl ?_
      refine g_if_lt (tgt := 29) rfl (by decide) (fun h2 => ?_) (fun h2 => ?_)
      · refine g_bipush rfl ⟨by decide, by decide⟩ (by decide) ?_
        refine g_goto (tgt := 39) rfl (by decide) ?_
        refine x_ireturn rfl rfl ?_
        intro _
        refine x_ireturn rfl rfl ?_
        refine ⟨_, rfl, ?_⟩
        refine tp_ok_of mX12_loss_ok rfl (Nat.le_refl _) ?_
        refine g_aload_n rfl rfl ?_
        refine g_iconst rfl ⟨by decide, by decide⟩ ?_
        refine g_puti rfl rfl (by decide) rfl rfl ?_
        refine g_aload_n rfl rfl ?_
        refine g_iconst rfl ⟨by decide, by decide⟩ ?_
        refine g_iload_n rfl rfl ?_
        refine g_iV (as := [tI 2, tI 1]) mX12_is_ok rfl rfl rfl rfl rfl rfl (by decide) rfl rfl rfl ?_
        refine g_iload_n rfl rfl ?_
        refine g_iconst rfl ⟨by decide, by decide⟩ ?_
        refine g_aload_n rfl rfl ?_
        refine x_getF (r := 206) hG rfl rfl (by decide) (Or.inr ⟨_, rfl⟩) rfl ?_
        refine g_iload_n rfl rfl ?_
        refine x_iald (v := (μ.1 206 2)) rfl rfl (by decide) (by decide) (by decide) rfl ?_
        refine g_iconst rfl ⟨by decide, by decide⟩ ?_
        refine x_isub (z := (μ.1 206 2) - 1) rfl (by omega) ⟨by omega, by omega⟩ ?_
        refine g_iS (as := [tI 1, tI 0, tI ((μ.1 206 2) - 1)]) mX12_in_ok rfl rfl rfl rfl rfl rfl rfl ?_
        refine g_iload_n rfl rfl ?_
        refine g_iload_n rfl rfl ?_
        refine g_icmp_lt (tgt := 14) rfl (by decide) (fun hx => absurd hx (by omega)) (fun _ => ?_)
        refine g_iload_n rfl rfl ?_
        refine g_iload_n rfl rfl ?_
        refine g_icmp_gt (tgt := 14) rfl (by decide) (fun hx => absurd hx (by omega)) (fun _ => ?_)
        refine g_iconst rfl ⟨by decide, by decide⟩ ?_
        refine g_goto (tgt := 15) rfl (by decide) ?_
        refine x_zreturn rfl rfl (Or.inr rfl) ?_
        intro _
        refine x_zreturn rfl rfl (Or.inr rfl) ?_
        intro _
        refine g_if_ne (tgt := 17) rfl (by decide) (fun _ => ?_) (fun hx => absurd hx (by omega))
        refine g_aload_n rfl rfl ?_
        refine x_getF (r := 209) hG rfl rfl (by decide) (Or.inr ⟨_, rfl⟩) rfl ?_
        refine g_bipush rfl ⟨by decide, by decide⟩ (by decide) ?_
        refine g_iload_n rfl rfl ?_
        refine x_imul (z := 101) rfl (by omega) ⟨by omega, by omega⟩ ?_
        refine x_iald (v := (μ.1 209 101)) rfl rfl (by decide) (by decide) (by decide) rfl ?_
        refine g_istore_n rfl rfl rfl ?_
        refine g_iload_n rfl rfl ?_
        refine g_iconst rfl ⟨by decide, by decide⟩ ?_
        refine g_icmp_eq (tgt := 43) rfl (by decide) (fun h3 => ?_) (fun h3 => ?_)
        · refine g_iload_n rfl rfl ?_
          refine g_iconst rfl ⟨by decide, by decide⟩ ?_
          refine g_icmp_ne (tgt := 52) rfl (by decide) (fun hx => absurd hx (by omega)) (fun _ => ?_)
          refine g_iload_n rfl rfl ?_
          refine g_goto (tgt := 54) rfl (by decide) ?_
          refine x_ireturn rfl rfl ?_
          exact ⟨(by first | rfl | (rw [hLe, hL0]) | (exfalso; omega)), tp_R_kp hR (tp_kp_pi (by decide) tp_kp_rf)⟩
        · refine g_iload_n rfl rfl ?_
          refine g_iconst rfl ⟨by decide, by decide⟩ ?_
          refine g_iload_n rfl rfl ?_
          refine g_iconst rfl ⟨by decide, by decide⟩ ?_
          refine x_isub (z := (μ.1 209 101) - 1) rfl (by omega) ⟨by omega, by omega⟩ ?_
          refine g_iS (as := [tI k, tI 0, tI ((μ.1 209 101) - 1)]) mX12_in_ok rfl rfl rfl rfl rfl rfl rfl ?_
          refine g_iload_n rfl rfl ?_
          refine g_iload_n rfl rfl ?_
          refine g_icmp_lt (tgt := 14) rfl (by decide) (fun _ => ?_) (fun hx => absurd hx (by omega))
          refine g_iconst rfl ⟨by decide, by decide⟩ ?_
          refine x_zreturn rfl rfl (Or.inl rfl) ?_
          intro _
          refine g_if_ne (tgt := 55) rfl (by decide) (fun hx => absurd hx (by omega)) (fun _ => ?_)
          refine g_iload_n rfl rfl ?_
          refine g_iconst rfl ⟨by decide, by decide⟩ ?_
          refine g_icmp_ne (tgt := 52) rfl (by decide) (fun _ => ?_) (fun hx => absurd hx (by omega))
          refine g_bipush rfl ⟨by decide, by decide⟩ (by decide) ?_
          refine x_ireturn rfl rfl ?_
          exact ⟨(by first | rfl | (rw [hLe, hL0]) | (exfalso; omega)), tp_R_kp hR (tp_kp_pi (by decide) tp_kp_rf)⟩
      · refine g_iload_n rfl rfl ?_
        refine g_aload_n rfl rfl ?_
        refine x_geti (v := (μ.1 31 2)) rfl rfl (by decide) (Or.inl rfl) rfl ?_
        refine g_icmp_lt (tgt := 34) rfl (by decide) (fun h4 => ?_) (fun h4 => ?_)
        · refine g_aload_n rfl rfl ?_
          refine g_iload_n rfl rfl ?_
          refine g_cV (as := [tI k]) (s_value hG rfl (by decide) (by omega) (by omega) (by show _ ≤ ((12 : Nat) : Int); omega)) rfl rfl mX6_value_ok rfl rfl rfl (by decide) rfl rfl rfl ?_
          rintro _ w9 ⟨rfl, hw9⟩ _
          have hw9 := hw9.symm
          subst hw9
          refine x_ireturn rfl rfl ?_
          intro _
          refine x_ireturn rfl rfl ?_
          refine ⟨_, rfl, ?_⟩
          refine tp_ok_of mX12_loss_ok rfl (Nat.le_refl _) ?_
          refine g_aload_n rfl rfl ?_
          refine g_iconst rfl ⟨by decide, by decide⟩ ?_
          refine g_puti rfl rfl (by decide) rfl rfl ?_
          refine g_aload_n rfl rfl ?_
          refine g_iconst rfl ⟨by decide, by decide⟩ ?_
          refine g_iload_n rfl rfl ?_
          refine g_iV (as := [tI 2, tI 1]) mX12_is_ok rfl rfl rfl rfl rfl rfl (by decide) rfl rfl rfl ?_
          refine g_iload_n rfl rfl ?_
          refine g_iconst rfl ⟨by decide, by decide⟩ ?_
          refine g_aload_n rfl rfl ?_
          refine x_getF (r := 206) hG rfl rfl (by decide) (Or.inr ⟨_, rfl⟩) rfl ?_
          refine g_iload_n rfl rfl ?_
          refine x_iald (v := (μ.1 206 2)) rfl rfl (by decide) (by decide) (by decide) rfl ?_
          refine g_iconst rfl ⟨by decide, by decide⟩ ?_
          refine x_isub (z := (μ.1 206 2) - 1) rfl (by omega) ⟨by omega, by omega⟩ ?_
          refine g_iS (as := [tI 1, tI 0, tI ((μ.1 206 2) - 1)]) mX12_in_ok rfl rfl rfl rfl rfl rfl rfl ?_
          refine g_iload_n rfl rfl ?_
          refine g_iload_n rfl rfl ?_
          refine g_icmp_lt (tgt := 14) rfl (by decide) (fun hx => absurd hx (by omega)) (fun _ => ?_)
          refine g_iload_n rfl rfl ?_
          refine g_iload_n rfl rfl ?_
          refine g_icmp_gt (tgt := 14) rfl (by decide) (fun hx => absurd hx (by omega)) (fun _ => ?_)
          refine g_iconst rfl ⟨by decide, by decide⟩ ?_
          refine g_goto (tgt := 15) rfl (by decide) ?_
          refine x_zreturn rfl rfl (Or.inr rfl) ?_
          intro _
          refine x_zreturn rfl rfl (Or.inr rfl) ?_
          intro _
          refine g_if_ne (tgt := 17) rfl (by decide) (fun _ => ?_) (fun hx => absurd hx (by omega))
          refine g_aload_n rfl rfl ?_
          refine x_getF (r := 209) hG rfl rfl (by decide) (Or.inr ⟨_, rfl⟩) rfl ?_
          refine g_bipush rfl ⟨by decide, by decide⟩ (by decide) ?_
          refine g_iload_n rfl rfl ?_
          refine x_imul (z := 101) rfl (by omega) ⟨by omega, by omega⟩ ?_
          refine x_iald (v := (μ.1 209 101)) rfl rfl (by decide) (by decide) (by decide) rfl ?_
          refine g_istore_n rfl rfl rfl ?_
          refine g_iload_n rfl rfl ?_
          refine g_iconst rfl ⟨by decide, by decide⟩ ?_
          refine g_icmp_eq (tgt := 43) rfl (by decide) (fun hx => absurd hx (by omega)) (fun _ => ?_)
          refine g_iload_n rfl rfl ?_
          refine g_iconst rfl ⟨by decide, by decide⟩ ?_
          refine g_iload_n rfl rfl ?_
          refine g_iconst rfl ⟨by decide, by decide⟩ ?_
          refine x_isub (z := (μ.1 209 101) - 1) rfl (by omega) ⟨by omega, by omega⟩ ?_
          refine g_iS (as := [tI k, tI 0, tI ((μ.1 209 101) - 1)]) mX12_in_ok rfl rfl rfl rfl rfl rfl rfl ?_
          refine g_iload_n rfl rfl ?_
          refine g_iload_n rfl rfl ?_
          refine g_icmp_lt (tgt := 14) rfl (by decide) (fun hx => absurd hx (by omega)) (fun _ => ?_)
          refine g_iload_n rfl rfl ?_
          refine g_iload_n rfl rfl ?_
          refine g_icmp_gt (tgt := 14) rfl (by decide) (fun hx => absurd hx (by omega)) (fun _ => ?_)
          refine g_iconst rfl ⟨by decide, by decide⟩ ?_
          refine g_goto (tgt := 15) rfl (by decide) ?_
          refine x_zreturn rfl rfl (Or.inr rfl) ?_
          intro _
          refine g_if_ne (tgt := 55) rfl (by decide) (fun _ => ?_) (fun hx => absurd hx (by omega))
          refine g_iload_n rfl rfl ?_
          refine g_istore rfl rfl rfl ?_
          refine g_iconst rfl ⟨by decide, by decide⟩ ?_
          refine g_istore rfl rfl rfl ?_
          have hL2 : 0 ≤ k ∧ k < tp_of (tp_pi μ 201 0 0) 1 0 := by show 0 ≤ k ∧ k < tp_of μ 1 0; omega
          refine tp_conseq (fun r9 μ8 q8 => ?_) (l_loss1 (μ := (tp_pi μ 201 0 0)) (q := k) hG hL hL2 0 (by omega) _ 0 (by omega) (by omega) (by omega) (fun i i0 i1 => by omega) (hL.2.2.2.1 0 (by omega) (by omega)).1)
          obtain ⟨e7, e8⟩ := q8
          rw [e7, e8]
          exact ⟨by first | rfl | (exfalso; omega), tp_R_kp hR (tp_kp_pi (by decide) tp_kp_rf)⟩
        · refine g_bipush rfl ⟨by decide, by decide⟩ (by decide) ?_
          refine g_goto (tgt := 39) rfl (by decide) ?_
          refine x_ireturn rfl rfl ?_
          intro _
          refine x_ireturn rfl rfl ?_
          refine ⟨_, rfl, ?_⟩
          refine tp_ok_of mX12_loss_ok rfl (Nat.le_refl _) ?_
          refine g_aload_n rfl rfl ?_
          refine g_iconst rfl ⟨by decide, by decide⟩ ?_
          refine g_puti rfl rfl (by decide) rfl rfl ?_
          refine g_aload_n rfl rfl ?_
          refine g_iconst rfl ⟨by decide, by decide⟩ ?_
          refine g_iload_n rfl rfl ?_
          refine g_iV (as := [tI 2, tI 1]) mX12_is_ok rfl rfl rfl rfl rfl rfl (by decide) rfl rfl rfl ?_
          refine g_iload_n rfl rfl ?_
          refine g_iconst rfl ⟨by decide, by decide⟩ ?_
          refine g_aload_n rfl rfl ?_
          refine x_getF (r := 206) hG rfl rfl (by decide) (Or.inr ⟨_, rfl⟩) rfl ?_
          refine g_iload_n rfl rfl ?_
          refine x_iald (v := (μ.1 206 2)) rfl rfl (by decide) (by decide) (by decide) rfl ?_
          refine g_iconst rfl ⟨by decide, by decide⟩ ?_
          refine x_isub (z := (μ.1 206 2) - 1) rfl (by omega) ⟨by omega, by omega⟩ ?_
          refine g_iS (as := [tI 1, tI 0, tI ((μ.1 206 2) - 1)]) mX12_in_ok rfl rfl rfl rfl rfl rfl rfl ?_
          refine g_iload_n rfl rfl ?_
          refine g_iload_n rfl rfl ?_
          refine g_icmp_lt (tgt := 14) rfl (by decide) (fun hx => absurd hx (by omega)) (fun _ => ?_)
          refine g_iload_n rfl rfl ?_
          refine g_iload_n rfl rfl ?_
          refine g_icmp_gt (tgt := 14) rfl (by decide) (fun hx => absurd hx (by omega)) (fun _ => ?_)
          refine g_iconst rfl ⟨by decide, by decide⟩ ?_
          refine g_goto (tgt := 15) rfl (by decide) ?_
          refine x_zreturn rfl rfl (Or.inr rfl) ?_
          intro _
          refine x_zreturn rfl rfl (Or.inr rfl) ?_
          intro _
          refine g_if_ne (tgt := 17) rfl (by decide) (fun _ => ?_) (fun hx => absurd hx (by omega))
          refine g_aload_n rfl rfl ?_
          refine x_getF (r := 209) hG rfl rfl (by decide) (Or.inr ⟨_, rfl⟩) rfl ?_
          refine g_bipush rfl ⟨by decide, by decide⟩ (by decide) ?_
          refine g_iload_n rfl rfl ?_
          refine x_imul (z := 101) rfl (by omega) ⟨by omega, by omega⟩ ?_
          refine x_iald (v := (μ.1 209 101)) rfl rfl (by decide) (by decide) (by decide) rfl ?_
          refine g_istore_n rfl rfl rfl ?_
          refine g_iload_n rfl rfl ?_
          refine g_iconst rfl ⟨by decide, by decide⟩ ?_
          refine g_icmp_eq (tgt := 43) rfl (by decide) (fun hx => absurd hx (by omega)) (fun _ => ?_)
          refine g_iload_n rfl rfl ?_
          refine g_iconst rfl ⟨by decide, by decide⟩ ?_
          refine g_iload_n rfl rfl ?_
          refine g_iconst rfl ⟨by decide, by decide⟩ ?_
          refine x_isub (z := (μ.1 209 101) - 1) rfl (by omega) ⟨by omega, by omega⟩ ?_
          refine g_iS (as := [tI k, tI 0, tI ((μ.1 209 101) - 1)]) mX12_in_ok rfl rfl rfl rfl rfl rfl rfl ?_
          refine g_iload_n rfl rfl ?_
          refine g_iload_n rfl rfl ?_
          refine g_icmp_lt (tgt := 14) rfl (by decide) (fun hx => absurd hx (by omega)) (fun _ => ?_)
          refine g_iload_n rfl rfl ?_
          refine g_iload_n rfl rfl ?_
          refine g_icmp_gt (tgt := 14) rfl (by decide) (fun _ => ?_) (fun hx => absurd hx (by omega))
          refine g_iconst rfl ⟨by decide, by decide⟩ ?_
          refine x_zreturn rfl rfl (Or.inl rfl) ?_
          intro _
          refine g_if_ne (tgt := 55) rfl (by decide) (fun hx => absurd hx (by omega)) (fun _ => ?_)
          refine g_iload_n rfl rfl ?_
          refine g_iconst rfl ⟨by decide, by decide⟩ ?_
          refine g_icmp_ne (tgt := 52) rfl (by decide) (fun _ => ?_) (fun hx => absurd hx (by omega))
          refine g_bipush rfl ⟨by decide, by decide⟩ (by decide) ?_
          refine x_ireturn rfl rfl ?_
          exact ⟨(by first | rfl | (rw [hLe, hL0]) | (exfalso; omega)), tp_R_kp hR (tp_kp_pi (by decide) tp_kp_rf)⟩
    · refine g_aload_n rfl rfl ?_
      refine x_geti (v := (μ.1 31 2)) rfl rfl (by decide) (Or.inl rfl) rfl ?_
      refine x_ireturn rfl rfl ?_
      intro _
      refine x_ireturn rfl rfl ?_
      refine ⟨_, rfl, ?_⟩
      refine tp_ok_of mX12_loss_ok rfl (Nat.le_refl _) ?_
      refine g_aload_n rfl rfl ?_
      refine g_iconst rfl ⟨by decide, by decide⟩ ?_
      refine g_puti rfl rfl (by decide) rfl rfl ?_
      refine g_aload_n rfl rfl ?_
      refine g_iconst rfl ⟨by decide, by decide⟩ ?_
      refine g_iload_n rfl rfl ?_
      refine g_iV (as := [tI 2, tI 1]) mX12_is_ok rfl rfl rfl rfl rfl rfl (by decide) rfl rfl rfl ?_
      refine g_iload_n rfl rfl ?_
      refine g_iconst rfl ⟨by decide, by decide⟩ ?_
      refine g_aload_n rfl rfl ?_
      refine x_getF (r := 206) hG rfl rfl (by decide) (Or.inr ⟨_, rfl⟩) rfl ?_
      refine g_iload_n rfl rfl ?_
      refine x_iald (v := (μ.1 206 2)) rfl rfl (by decide) (by decide) (by decide) rfl ?_
      refine g_iconst rfl ⟨by decide, by decide⟩ ?_
      refine x_isub (z := (μ.1 206 2) - 1) rfl (by omega) ⟨by omega, by omega⟩ ?_
      refine g_iS (as := [tI 1, tI 0, tI ((μ.1 206 2) - 1)]) mX12_in_ok rfl rfl rfl rfl rfl rfl rfl ?_
      refine g_iload_n rfl rfl ?_
      refine g_iload_n rfl rfl ?_
      refine g_icmp_lt (tgt := 14) rfl (by decide) (fun hx => absurd hx (by omega)) (fun _ => ?_)
      refine g_iload_n rfl rfl ?_
      refine g_iload_n rfl rfl ?_
      refine g_icmp_gt (tgt := 14) rfl (by decide) (fun hx => absurd hx (by omega)) (fun _ => ?_)
      refine g_iconst rfl ⟨by decide, by decide⟩ ?_
      refine g_goto (tgt := 15) rfl (by decide) ?_
      refine x_zreturn rfl rfl (Or.inr rfl) ?_
      intro _
      refine x_zreturn rfl rfl (Or.inr rfl) ?_
      intro _
      refine g_if_ne (tgt := 17) rfl (by decide) (fun _ => ?_) (fun hx => absurd hx (by omega))
      refine g_aload_n rfl rfl ?_
      refine x_getF (r := 209) hG rfl rfl (by decide) (Or.inr ⟨_, rfl⟩) rfl ?_
      refine g_bipush rfl ⟨by decide, by decide⟩ (by decide) ?_
      refine g_iload_n rfl rfl ?_
      refine x_imul (z := 101) rfl (by omega) ⟨by omega, by omega⟩ ?_
      refine x_iald (v := (μ.1 209 101)) rfl rfl (by decide) (by decide) (by decide) rfl ?_
      refine g_istore_n rfl rfl rfl ?_
      refine g_iload_n rfl rfl ?_
      refine g_iconst rfl ⟨by decide, by decide⟩ ?_
      refine g_icmp_eq (tgt := 43) rfl (by decide) (fun _ => ?_) (fun hx => absurd hx (by omega))
      refine g_iload_n rfl rfl ?_
      refine g_iconst rfl ⟨by decide, by decide⟩ ?_
      refine g_icmp_ne (tgt := 52) rfl (by decide) (fun hx => absurd hx (by omega)) (fun _ => ?_)
      refine g_iload_n rfl rfl ?_
      refine g_goto (tgt := 54) rfl (by decide) ?_
      refine x_ireturn rfl rfl ?_
      exact ⟨(by first | rfl | (rw [hLe, hL0]) | (exfalso; omega)), tp_R_kp hR (tp_kp_pi (by decide) tp_kp_rf)⟩
  · refine tp_ok_of mX11_loss_ok rfl (Nat.le_refl _) ?_
    refine g_aload_n rfl rfl ?_
    refine x_getF (r := 1) hG rfl rfl (by decide) (Or.inl ⟨_, rfl⟩) rfl ?_
    refine g_iconst rfl ⟨by decide, by decide⟩ ?_
    refine g_iload_n rfl rfl ?_
    refine g_cV (as := [tI 2, tI a]) (s_rowOf2o hG hd) rfl rfl mX9_rowOf_ok rfl rfl rfl (by decide) rfl rfl rfl ?_
    rintro _ w9 ⟨rfl, hw9⟩ _
    have hw9 := hw9.symm
    subst hw9
    refine g_iload_n rfl rfl ?_
    refine g_iS (as := [tR none, tI k]) mX11_sizeOrValue_ok rfl rfl rfl rfl rfl rfl rfl ?_
    refine g_aload_n rfl rfl ?_
    refine g_ifnonnull (tgt := 7) rfl (by decide) (fun _ hx => by cases hx) (fun _ => ?_)
    refine g_bipush rfl ⟨by decide, by decide⟩ (by decide) ?_
    refine x_ireturn rfl rfl ?_
    intro _
    refine x_ireturn rfl rfl ?_
    refine ⟨_, rfl, ?_⟩
    refine tp_ok_of mX12_loss_ok rfl (Nat.le_refl _) ?_
    refine g_aload_n rfl rfl ?_
    refine g_iconst rfl ⟨by decide, by decide⟩ ?_
    refine g_puti rfl rfl (by decide) rfl rfl ?_
    refine g_aload_n rfl rfl ?_
    refine g_iconst rfl ⟨by decide, by decide⟩ ?_
    refine g_iload_n rfl rfl ?_
    refine g_iV (as := [tI 2, tI a]) mX12_is_ok rfl rfl rfl rfl rfl rfl (by decide) rfl rfl rfl ?_
    refine g_iload_n rfl rfl ?_
    refine g_iconst rfl ⟨by decide, by decide⟩ ?_
    refine g_aload_n rfl rfl ?_
    refine x_getF (r := 206) hG rfl rfl (by decide) (Or.inr ⟨_, rfl⟩) rfl ?_
    refine g_iload_n rfl rfl ?_
    refine x_iald (v := (μ.1 206 2)) rfl rfl (by decide) (by decide) (by decide) rfl ?_
    refine g_iconst rfl ⟨by decide, by decide⟩ ?_
    refine x_isub (z := (μ.1 206 2) - 1) rfl (by omega) ⟨by omega, by omega⟩ ?_
    refine g_iS (as := [tI a, tI 0, tI ((μ.1 206 2) - 1)]) mX12_in_ok rfl rfl rfl rfl rfl rfl rfl ?_
    refine g_iload_n rfl rfl ?_
    refine g_iload_n rfl rfl ?_
    refine g_icmp_lt (tgt := 14) rfl (by decide) (fun h1 => ?_) (fun h1 => ?_)
    · first
        | omega
        | refine g_iconst rfl ⟨by decide, by decide⟩ ?_
          refine x_zreturn rfl rfl (Or.inl rfl) ?_
          intro _
          refine x_zreturn rfl rfl (Or.inl rfl) ?_
          intro _
          refine g_if_ne (tgt := 17) rfl (by decide) (fun hx => absurd hx (by omega)) (fun _ => ?_)
          refine g_bipush rfl ⟨by decide, by decide⟩ (by decide) ?_
          refine x_ireturn rfl rfl ?_
          exact ⟨rfl, (tp_R_kp hR (tp_kp_pi (by decide) tp_kp_rf))⟩
    · first
        | omega
        | refine g_iload_n rfl rfl ?_
          refine g_iload_n rfl rfl ?_
          refine g_icmp_gt (tgt := 14) rfl (by decide) (fun h2 => ?_) (fun h2 => ?_)
          · first
              | omega
              | refine g_iconst rfl ⟨by decide, by decide⟩ ?_
                refine x_zreturn rfl rfl (Or.inl rfl) ?_
                intro _
                refine x_zreturn rfl rfl (Or.inl rfl) ?_
                intro _
                refine g_if_ne (tgt := 17) rfl (by decide) (fun hx => absurd hx (by omega)) (fun _ => ?_)
                refine g_bipush rfl ⟨by decide, by decide⟩ (by decide) ?_
                refine x_ireturn rfl rfl ?_
                exact ⟨rfl, (tp_R_kp hR (tp_kp_pi (by decide) tp_kp_rf))⟩
          · first
              | omega
              | refine g_iconst rfl ⟨by decide, by decide⟩ ?_
                refine g_goto (tgt := 15) rfl (by decide) ?_
                refine x_zreturn rfl rfl (Or.inr rfl) ?_
                intro _
                refine x_zreturn rfl rfl (Or.inr rfl) ?_
                intro _
                refine g_if_ne (tgt := 17) rfl (by decide) (fun _ => ?_) (fun hx => absurd hx (by omega))
                refine g_aload_n rfl rfl ?_
                refine x_getF (r := 209) hG rfl rfl (by decide) (Or.inr ⟨_, rfl⟩) rfl ?_
                refine g_bipush rfl ⟨by decide, by decide⟩ (by decide) ?_
                refine g_iload_n rfl rfl ?_
                refine x_imul (z := 101 * a) rfl (by omega) ⟨by omega, by omega⟩ ?_
                refine x_iald (v := (μ.1 209 (101 * a))) rfl rfl (by decide) (by omega) (by omega) rfl ?_
                refine g_istore_n rfl rfl rfl ?_
                refine g_iload_n rfl rfl ?_
                refine g_iconst rfl ⟨by decide, by decide⟩ ?_
                refine g_icmp_eq (tgt := 43) rfl (by decide) (fun h3 => ?_) (fun h3 => ?_)
                · first
                    | omega
                    | refine g_iload_n rfl rfl ?_
                      refine g_iconst rfl ⟨by decide, by decide⟩ ?_
                      refine g_icmp_ne (tgt := 52) rfl (by decide) (fun hx => absurd hx (by omega)) (fun _ => ?_)
                      refine g_iload_n rfl rfl ?_
                      refine g_goto (tgt := 54) rfl (by decide) ?_
                      refine x_ireturn rfl rfl ?_
                      exact ⟨rfl, (tp_R_kp hR (tp_kp_pi (by decide) tp_kp_rf))⟩
                · first
                    | omega
                    | refine g_iload_n rfl rfl ?_
                      refine g_iconst rfl ⟨by decide, by decide⟩ ?_
                      refine g_iload_n rfl rfl ?_
                      refine g_iconst rfl ⟨by decide, by decide⟩ ?_
                      refine x_isub (z := (μ.1 209 (101 * a)) - 1) rfl (by omega) ⟨by omega, by omega⟩ ?_
                      refine g_iS (as := [tI k, tI 0, tI ((μ.1 209 (101 * a)) - 1)]) mX12_in_ok rfl rfl rfl rfl rfl rfl rfl ?_
                      refine g_iload_n rfl rfl ?_
                      refine g_iload_n rfl rfl ?_
                      refine g_icmp_lt (tgt := 14) rfl (by decide) (fun h4 => ?_) (fun h4 => ?_)
                      · first
                          | omega
                          | refine g_iconst rfl ⟨by decide, by decide⟩ ?_
                            refine x_zreturn rfl rfl (Or.inl rfl) ?_
                            intro _
                            refine g_if_ne (tgt := 55) rfl (by decide) (fun hx => absurd hx (by omega)) (fun _ => ?_)
                            refine g_iload_n rfl rfl ?_
                            refine g_iconst rfl ⟨by decide, by decide⟩ ?_
                            refine g_icmp_ne (tgt := 52) rfl (by decide) (fun h5 => ?_) (fun h5 => ?_)
                            · first
                                | omega
                                | refine g_bipush rfl ⟨by decide, by decide⟩ (by decide) ?_
                                  refine x_ireturn rfl rfl ?_
                                  exact ⟨rfl, (tp_R_kp hR (tp_kp_pi (by decide) tp_kp_rf))⟩
                            · first
                                | omega
                                | refine g_iload_n rfl rfl ?_
                                  refine g_goto (tgt := 54) rfl (by decide) ?_
                                  refine x_ireturn rfl rfl ?_
                                  exact ⟨rfl, (tp_R_kp hR (tp_kp_pi (by decide) tp_kp_rf))⟩
                      · first
                          | omega
                          | refine g_iload_n rfl rfl ?_
                            refine g_iload_n rfl rfl ?_
                            refine g_icmp_gt (tgt := 14) rfl (by decide) (fun h6 => ?_) (fun h6 => ?_)
                            · first
                                | omega
                                | refine g_iconst rfl ⟨by decide, by decide⟩ ?_
                                  refine x_zreturn rfl rfl (Or.inl rfl) ?_
                                  intro _
                                  refine g_if_ne (tgt := 55) rfl (by decide) (fun hx => absurd hx (by omega)) (fun _ => ?_)
                                  refine g_iload_n rfl rfl ?_
                                  refine g_iconst rfl ⟨by decide, by decide⟩ ?_
                                  refine g_icmp_ne (tgt := 52) rfl (by decide) (fun _ => ?_) (fun hx => absurd hx (by omega))
                                  refine g_bipush rfl ⟨by decide, by decide⟩ (by decide) ?_
                                  refine x_ireturn rfl rfl ?_
                                  exact ⟨rfl, (tp_R_kp hR (tp_kp_pi (by decide) tp_kp_rf))⟩
                            · first
                                | omega
                                | refine g_iconst rfl ⟨by decide, by decide⟩ ?_
                                  refine g_goto (tgt := 15) rfl (by decide) ?_
                                  refine x_zreturn rfl rfl (Or.inr rfl) ?_
                                  intro _
                                  refine g_if_ne (tgt := 55) rfl (by decide) (fun _ => ?_) (fun hx => absurd hx (by omega))
                                  refine g_iload_n rfl rfl ?_
                                  refine g_istore rfl rfl rfl ?_
                                  refine g_iconst rfl ⟨by decide, by decide⟩ ?_
                                  refine g_istore rfl rfl rfl ?_
                                  omega
