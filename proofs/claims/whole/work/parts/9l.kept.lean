set_option maxHeartbeats 4000000 in
set_option maxRecDepth 100000 in
theorem l_rcop2 {G : tp_G} (hG : tp_Gf G = true) {c d : Nat} {μ0 : tp_M} (hc : tp_SH c = .inl 6) (hd : tp_SH d = .inl 6) (hcn : c < 234) (hdn : d < 234) (hcd : c + 2 < d ∨ d + 2 < c) (hs0 : 0 ≤ μ0.1 c 2) (hs1 : μ0.1 c 2 ≤ (tp_ln (c + 1) : Int)) (hs2 : μ0.1 c 2 ≤ (tp_ln (d + 1) : Int)) (hsz : μ0.1 c 2 < 2147483647) : ∀ k, k ≤ μ0.1 c 2 → ∀ (μ : tp_M), 0 ≤ k → μ.1 d 2 = k → (∀ j, 0 ≤ j → j < k → μ.1 (d + 1) j = μ0.1 (c + 1) j ∧ μ.1 (d + 2) j = μ0.1 (c + 2) j) → (∀ k, (k < d ∨ d + 2 < k) → μ.1 k = μ0.1 k) → tp_g G mX6_copyFrom 7 [some (tR (some d)), some (tR (some c)), some (tI k)] [] μ (fun r μ' => r = none ∧ μ'.1 d 2 = μ0.1 c 2 ∧ (∀ j, 0 ≤ j → j < μ0.1 c 2 → μ'.1 (d + 1) j = μ0.1 (c + 1) j ∧ μ'.1 (d + 2) j = μ0.1 (c + 2) j) ∧ ∀ k, (k < d ∨ d + 2 < k) → μ'.1 k = μ0.1 k) := by
  refine tp_ind _ ?_
  intro k hkN ih μ h0 hz hv hF
  have hcF : μ.1 c = μ0.1 c := hF c (by omega)
  have hcs : μ.1 c 2 = μ0.1 c 2 := by rw [hcF]
  refine g_iload_n rfl rfl ?_
  refine g_aload_n rfl rfl ?_
  refine x_geti (v := (μ.1 c 2)) rfl hc hcn (Or.inl rfl) rfl ?_
  refine g_icmp_ge (tgt := 35) rfl (by decide) (fun h1 => ?_) (fun h1 => ?_)
  · refine x_return rfl rfl ?_
    exact ⟨rfl, (show μ.1 d 2 = μ0.1 c 2 by omega), fun j j0 j1 => hv j j0 (by omega), hF⟩
  · refine g_aload_n rfl rfl ?_
    refine g_aload_n rfl rfl ?_
    refine g_iload_n rfl rfl ?_
    refine g_cV (as := [tI k]) (s_valueG hG hc hcn h0 (by omega) (by omega)) rfl rfl mX6_value_ok rfl hc rfl hcn rfl rfl rfl ?_
    rintro _ w9 ⟨rfl, hw9⟩ _
    have hw9 := hw9.symm
    subst hw9
    refine g_aload_n rfl rfl ?_
    refine g_iload_n rfl rfl ?_
    refine g_cV (as := [tI k]) (s_oftenG hG hc hcn h0 (by omega) (by omega)) rfl rfl mX6_often_ok rfl hc rfl hcn rfl rfl rfl ?_
    rintro _ w9 ⟨rfl, hw9⟩ _
    have hw9 := hw9.symm
    subst hw9
    refine g_cV (as := [tI (μ.1 (c + 1) k), tI (μ.1 (c + 2) k)]) (s_addY hG hd hdn (by omega) (by omega)) rfl rfl mX6_add_ok rfl hd rfl hdn rfl rfl rfl ?_
    rintro _ w9 ⟨rfl, hw9⟩ _
    refine x_iinc (z := k + 1) rfl rfl (by omega) ⟨by omega, by omega⟩ rfl rfl ?_
    refine g_goto (tgt := 7) rfl (by decide) ?_
    have e1 : w9.1 d 2 = μ.1 d 2 + 1 := by rw [hw9]; exact tp_pi_at
    have e2 : ∀ j, j ≠ μ.1 d 2 → w9.1 (d + 1) j = μ.1 (d + 1) j ∧ w9.1 (d + 2) j = μ.1 (d + 2) j := fun j hj => by
      rw [hw9, tp_pi_ne (by omega), tp_pi_ne (by omega), tp_pi_ix hj, tp_pi_ne (by omega), tp_pi_ix hj, tp_pi_ne (by omega)]
      exact ⟨rfl, rfl⟩
    have e3 : w9.1 (d + 1) (μ.1 d 2) = μ.1 (c + 1) k ∧ w9.1 (d + 2) (μ.1 d 2) = μ.1 (c + 2) k := by
      rw [hw9, tp_pi_ne (by omega), tp_pi_ne (by omega), tp_pi_at, tp_pi_ne (by omega), tp_pi_at]
      exact ⟨rfl, rfl⟩
    exact ih (by omega) _ (by omega) (by omega) (fun j j0 j1 => by
      by_cases q : j = μ.1 d 2
      · rw [q, e3.1, e3.2, ← hF (c + 1) (by omega), ← hF (c + 2) (by omega), hz]
        exact ⟨rfl, rfl⟩
      · rw [(e2 j q).1, (e2 j q).2]
        exact hv j j0 (by omega)) (fun k9 z9 => by rw [hw9, tp_pi_ne (by omega), tp_pi_ne (by omega), tp_pi_ne (by omega)]; exact hF k9 z9)
set_option maxHeartbeats 4000000 in
set_option maxRecDepth 100000 in
theorem s_rcop2 {G : tp_G} {μ : tp_M} (hG : tp_Gf G = true) {c d : Nat} (hc : tp_SH c = .inl 6) (hd : tp_SH d = .inl 6) (hcn : c < 234) (hdn : d < 234) (hcd : c + 2 < d ∨ d + 2 < c) (hs0 : 0 ≤ μ.1 c 2) (hs1 : μ.1 c 2 ≤ (tp_ln (c + 1) : Int)) (hs2 : μ.1 c 2 ≤ (tp_ln (d + 1) : Int)) (hsz : μ.1 c 2 < 2147483647) : tp_k G mX6_copyFrom [tR (some d), tR (some c)] μ (fun r μ' => r = none ∧ μ'.1 d 2 = μ.1 c 2 ∧ (∀ j, 0 ≤ j → j < μ.1 c 2 → μ'.1 (d + 1) j = μ.1 (c + 1) j ∧ μ'.1 (d + 2) j = μ.1 (c + 2) j) ∧ ∀ k, (k < d ∨ d + 2 < k) → μ'.1 k = μ.1 k) := by
  refine tp_ok_of mX6_copyFrom_ok rfl (Nat.le_refl _) ?_
  refine g_aload_n rfl rfl ?_
  refine g_iconst rfl ⟨by decide, by decide⟩ ?_
  refine g_puti rfl hd hdn rfl rfl ?_
  refine g_iconst rfl ⟨by decide, by decide⟩ ?_
  refine g_istore_n rfl rfl rfl ?_
  exact l_rcop2 hG hc hd hcn hdn hcd hs0 hs1 hs2 hsz 0 (by omega) _ (by omega) (show _ = (0 : Int) from tp_pi_at) (fun j j0 j1 => by omega) (fun k hk => tp_pi_ne (by omega))
set_option maxHeartbeats 4000000 in
set_option maxRecDepth 100000 in
theorem l_kpt00 {G : tp_G} (hG : tp_Gf G = true) {μ0 : tp_M} : ∀ k, k ≤ 129 → ∀ (μ : tp_M), 0 ≤ k → (∀ j, 0 ≤ j → j < k → μ.1 207 (0 + j) = μ0.1 211 j) → (∀ j, (j < 0 ∨ 129 ≤ j) → μ.1 207 j = μ0.1 207 j) → (∀ c, c ≠ 207 → μ.1 c = μ0.1 c) → tp_g G mX12_keep 3 [some (tR (some 201)), some (tR (some 207)), some (tI 129), some (tI 0), some (tI k)] [] μ (fun r μ' => r = none ∧ (∀ j, 0 ≤ j → j < 129 → μ'.1 207 (0 + j) = μ0.1 211 j) ∧ (∀ j, (j < 0 ∨ 129 ≤ j) → μ'.1 207 j = μ0.1 207 j) ∧ ∀ c, c ≠ 207 → μ'.1 c = μ0.1 c) := by
  refine tp_ind _ ?_
  intro k hkN ih μ h0 hv hw hF
  refine g_iload rfl rfl ?_
  refine g_iload_n rfl rfl ?_
  refine g_icmp_ge (tgt := 30) rfl (by decide) (fun h1 => ?_) (fun h1 => ?_)
  · refine x_return rfl rfl ?_
    exact ⟨rfl, fun j j0 j1 => hv j j0 (by omega), hw, hF⟩
  · refine g_aload_n rfl rfl ?_
    refine g_iload_n rfl rfl ?_
    refine g_iload_n rfl rfl ?_
    refine x_imul (z := 0) rfl (by omega) ⟨by omega, by omega⟩ ?_
    refine g_iload rfl rfl ?_
    refine x_iadd (z := k) rfl (by omega) ⟨by omega, by omega⟩ ?_
    refine g_aload_n rfl rfl ?_
    refine x_getF (r := 211) hG rfl rfl (by decide) (Or.inr ⟨_, rfl⟩) rfl ?_
    refine g_iload rfl rfl ?_
    refine x_iald (v := (μ.1 211 k)) rfl rfl (by decide) (by omega) (by omega) rfl ?_
    refine g_iast rfl rfl (by decide) (by omega) (by omega) ?_
    refine x_iinc (z := k + 1) rfl rfl (by omega) ⟨by omega, by omega⟩ rfl rfl ?_
    refine g_goto (tgt := 3) rfl (by decide) ?_
    exact ih (by omega) _ (by omega) (fun j j0 j1 => by
      rcases (show j = k ∨ j < k by omega) with q | q
      · rw [q, show (0 : Int) + k = k by omega, tp_pi_at]; exact congrFun (hF 211 (by decide)) k
      · rw [tp_pi_ix (by omega)]; exact hv j j0 q) (fun j z => by rw [tp_pi_ix (by omega)]; exact hw j z) (fun c9 z => by rw [tp_pi_ne z]; exact hF c9 z)
set_option maxHeartbeats 4000000 in
set_option maxRecDepth 100000 in
theorem s_kpt00 {G : tp_G} {μ : tp_M} (hG : tp_Gf G = true) : tp_k G mX12_keep [tR (some 201), tR (some 207), tI 129, tI 0] μ (fun r μ' => r = none ∧ (∀ j, 0 ≤ j → j < 129 → μ'.1 207 (0 + j) = μ.1 211 j) ∧ (∀ j, (j < 0 ∨ 129 ≤ j) → μ'.1 207 j = μ.1 207 j) ∧ ∀ c, c ≠ 207 → μ'.1 c = μ.1 c) := by
  refine tp_ok_of mX12_keep_ok rfl (Nat.le_refl _) ?_
  refine g_iconst rfl ⟨by decide, by decide⟩ ?_
  refine g_istore rfl rfl rfl ?_
  exact l_kpt00 (μ0 := μ) hG 0 (by omega) _ (by omega) (fun j j0 j1 => by omega) (fun _ _ => rfl) (fun _ _ => rfl)
set_option maxHeartbeats 4000000 in
set_option maxRecDepth 100000 in
theorem l_kpt01 {G : tp_G} (hG : tp_Gf G = true) {μ0 : tp_M} : ∀ k, k ≤ 129 → ∀ (μ : tp_M), 0 ≤ k → (∀ j, 0 ≤ j → j < k → μ.1 207 (129 + j) = μ0.1 211 j) → (∀ j, (j < 129 ∨ 258 ≤ j) → μ.1 207 j = μ0.1 207 j) → (∀ c, c ≠ 207 → μ.1 c = μ0.1 c) → tp_g G mX12_keep 3 [some (tR (some 201)), some (tR (some 207)), some (tI 129), some (tI 1), some (tI k)] [] μ (fun r μ' => r = none ∧ (∀ j, 0 ≤ j → j < 129 → μ'.1 207 (129 + j) = μ0.1 211 j) ∧ (∀ j, (j < 129 ∨ 258 ≤ j) → μ'.1 207 j = μ0.1 207 j) ∧ ∀ c, c ≠ 207 → μ'.1 c = μ0.1 c) := by
  refine tp_ind _ ?_
  intro k hkN ih μ h0 hv hw hF
  refine g_iload rfl rfl ?_
  refine g_iload_n rfl rfl ?_
  refine g_icmp_ge (tgt := 30) rfl (by decide) (fun h1 => ?_) (fun h1 => ?_)
  · refine x_return rfl rfl ?_
    exact ⟨rfl, fun j j0 j1 => hv j j0 (by omega), hw, hF⟩
  · refine g_aload_n rfl rfl ?_
    refine g_iload_n rfl rfl ?_
    refine g_iload_n rfl rfl ?_
    refine x_imul (z := 129) rfl (by omega) ⟨by omega, by omega⟩ ?_
    refine g_iload rfl rfl ?_
    refine x_iadd (z := k + 129) rfl (by omega) ⟨by omega, by omega⟩ ?_
    refine g_aload_n rfl rfl ?_
    refine x_getF (r := 211) hG rfl rfl (by decide) (Or.inr ⟨_, rfl⟩) rfl ?_
    refine g_iload rfl rfl ?_
    refine x_iald (v := (μ.1 211 k)) rfl rfl (by decide) (by omega) (by omega) rfl ?_
    refine g_iast rfl rfl (by decide) (by omega) (by omega) ?_
    refine x_iinc (z := k + 1) rfl rfl (by omega) ⟨by omega, by omega⟩ rfl rfl ?_
    refine g_goto (tgt := 3) rfl (by decide) ?_
    exact ih (by omega) _ (by omega) (fun j j0 j1 => by
      rcases (show j = k ∨ j < k by omega) with q | q
      · rw [q, show (129 : Int) + k = k + 129 by omega, tp_pi_at]; exact congrFun (hF 211 (by decide)) k
      · rw [tp_pi_ix (by omega)]; exact hv j j0 q) (fun j z => by rw [tp_pi_ix (by omega)]; exact hw j z) (fun c9 z => by rw [tp_pi_ne z]; exact hF c9 z)
set_option maxHeartbeats 4000000 in
set_option maxRecDepth 100000 in
theorem s_kpt01 {G : tp_G} {μ : tp_M} (hG : tp_Gf G = true) : tp_k G mX12_keep [tR (some 201), tR (some 207), tI 129, tI 1] μ (fun r μ' => r = none ∧ (∀ j, 0 ≤ j → j < 129 → μ'.1 207 (129 + j) = μ.1 211 j) ∧ (∀ j, (j < 129 ∨ 258 ≤ j) → μ'.1 207 j = μ.1 207 j) ∧ ∀ c, c ≠ 207 → μ'.1 c = μ.1 c) := by
  refine tp_ok_of mX12_keep_ok rfl (Nat.le_refl _) ?_
  refine g_iconst rfl ⟨by decide, by decide⟩ ?_
  refine g_istore rfl rfl rfl ?_
  exact l_kpt01 (μ0 := μ) hG 0 (by omega) _ (by omega) (fun j j0 j1 => by omega) (fun _ _ => rfl) (fun _ _ => rfl)
set_option maxHeartbeats 4000000 in
set_option maxRecDepth 100000 in
theorem l_kpt10 {G : tp_G} (hG : tp_Gf G = true) {μ0 : tp_M} : ∀ k, k ≤ 61 → ∀ (μ : tp_M), 0 ≤ k → (∀ j, 0 ≤ j → j < k → μ.1 208 (0 + j) = μ0.1 211 j) → (∀ j, (j < 0 ∨ 61 ≤ j) → μ.1 208 j = μ0.1 208 j) → (∀ c, c ≠ 208 → μ.1 c = μ0.1 c) → tp_g G mX12_keep 3 [some (tR (some 201)), some (tR (some 208)), some (tI 61), some (tI 0), some (tI k)] [] μ (fun r μ' => r = none ∧ (∀ j, 0 ≤ j → j < 61 → μ'.1 208 (0 + j) = μ0.1 211 j) ∧ (∀ j, (j < 0 ∨ 61 ≤ j) → μ'.1 208 j = μ0.1 208 j) ∧ ∀ c, c ≠ 208 → μ'.1 c = μ0.1 c) := by
  refine tp_ind _ ?_
  intro k hkN ih μ h0 hv hw hF
  refine g_iload rfl rfl ?_
  refine g_iload_n rfl rfl ?_
  refine g_icmp_ge (tgt := 30) rfl (by decide) (fun h1 => ?_) (fun h1 => ?_)
  · refine x_return rfl rfl ?_
    exact ⟨rfl, fun j j0 j1 => hv j j0 (by omega), hw, hF⟩
  · refine g_aload_n rfl rfl ?_
    refine g_iload_n rfl rfl ?_
    refine g_iload_n rfl rfl ?_
    refine x_imul (z := 0) rfl (by omega) ⟨by omega, by omega⟩ ?_
    refine g_iload rfl rfl ?_
    refine x_iadd (z := k) rfl (by omega) ⟨by omega, by omega⟩ ?_
    refine g_aload_n rfl rfl ?_
    refine x_getF (r := 211) hG rfl rfl (by decide) (Or.inr ⟨_, rfl⟩) rfl ?_
    refine g_iload rfl rfl ?_
    refine x_iald (v := (μ.1 211 k)) rfl rfl (by decide) (by omega) (by omega) rfl ?_
    refine g_iast rfl rfl (by decide) (by omega) (by omega) ?_
    refine x_iinc (z := k + 1) rfl rfl (by omega) ⟨by omega, by omega⟩ rfl rfl ?_
    refine g_goto (tgt := 3) rfl (by decide) ?_
    exact ih (by omega) _ (by omega) (fun j j0 j1 => by
      rcases (show j = k ∨ j < k by omega) with q | q
      · rw [q, show (0 : Int) + k = k by omega, tp_pi_at]; exact congrFun (hF 211 (by decide)) k
      · rw [tp_pi_ix (by omega)]; exact hv j j0 q) (fun j z => by rw [tp_pi_ix (by omega)]; exact hw j z) (fun c9 z => by rw [tp_pi_ne z]; exact hF c9 z)
set_option maxHeartbeats 4000000 in
set_option maxRecDepth 100000 in
theorem s_kpt10 {G : tp_G} {μ : tp_M} (hG : tp_Gf G = true) : tp_k G mX12_keep [tR (some 201), tR (some 208), tI 61, tI 0] μ (fun r μ' => r = none ∧ (∀ j, 0 ≤ j → j < 61 → μ'.1 208 (0 + j) = μ.1 211 j) ∧ (∀ j, (j < 0 ∨ 61 ≤ j) → μ'.1 208 j = μ.1 208 j) ∧ ∀ c, c ≠ 208 → μ'.1 c = μ.1 c) := by
  refine tp_ok_of mX12_keep_ok rfl (Nat.le_refl _) ?_
  refine g_iconst rfl ⟨by decide, by decide⟩ ?_
  refine g_istore rfl rfl rfl ?_
  exact l_kpt10 (μ0 := μ) hG 0 (by omega) _ (by omega) (fun j j0 j1 => by omega) (fun _ _ => rfl) (fun _ _ => rfl)
set_option maxHeartbeats 4000000 in
set_option maxRecDepth 100000 in
theorem l_kpt11 {G : tp_G} (hG : tp_Gf G = true) {μ0 : tp_M} : ∀ k, k ≤ 61 → ∀ (μ : tp_M), 0 ≤ k → (∀ j, 0 ≤ j → j < k → μ.1 208 (61 + j) = μ0.1 211 j) → (∀ j, (j < 61 ∨ 122 ≤ j) → μ.1 208 j = μ0.1 208 j) → (∀ c, c ≠ 208 → μ.1 c = μ0.1 c) → tp_g G mX12_keep 3 [some (tR (some 201)), some (tR (some 208)), some (tI 61), some (tI 1), some (tI k)] [] μ (fun r μ' => r = none ∧ (∀ j, 0 ≤ j → j < 61 → μ'.1 208 (61 + j) = μ0.1 211 j) ∧ (∀ j, (j < 61 ∨ 122 ≤ j) → μ'.1 208 j = μ0.1 208 j) ∧ ∀ c, c ≠ 208 → μ'.1 c = μ0.1 c) := by
  refine tp_ind _ ?_
  intro k hkN ih μ h0 hv hw hF
  refine g_iload rfl rfl ?_
  refine g_iload_n rfl rfl ?_
  refine g_icmp_ge (tgt := 30) rfl (by decide) (fun h1 => ?_) (fun h1 => ?_)
  · refine x_return rfl rfl ?_
    exact ⟨rfl, fun j j0 j1 => hv j j0 (by omega), hw, hF⟩
  · refine g_aload_n rfl rfl ?_
    refine g_iload_n rfl rfl ?_
    refine g_iload_n rfl rfl ?_
    refine x_imul (z := 61) rfl (by omega) ⟨by omega, by omega⟩ ?_
    refine g_iload rfl rfl ?_
    refine x_iadd (z := k + 61) rfl (by omega) ⟨by omega, by omega⟩ ?_
    refine g_aload_n rfl rfl ?_
    refine x_getF (r := 211) hG rfl rfl (by decide) (Or.inr ⟨_, rfl⟩) rfl ?_
    refine g_iload rfl rfl ?_
    refine x_iald (v := (μ.1 211 k)) rfl rfl (by decide) (by omega) (by omega) rfl ?_
    refine g_iast rfl rfl (by decide) (by omega) (by omega) ?_
    refine x_iinc (z := k + 1) rfl rfl (by omega) ⟨by omega, by omega⟩ rfl rfl ?_
    refine g_goto (tgt := 3) rfl (by decide) ?_
    exact ih (by omega) _ (by omega) (fun j j0 j1 => by
      rcases (show j = k ∨ j < k by omega) with q | q
      · rw [q, show (61 : Int) + k = k + 61 by omega, tp_pi_at]; exact congrFun (hF 211 (by decide)) k
      · rw [tp_pi_ix (by omega)]; exact hv j j0 q) (fun j z => by rw [tp_pi_ix (by omega)]; exact hw j z) (fun c9 z => by rw [tp_pi_ne z]; exact hF c9 z)
set_option maxHeartbeats 4000000 in
set_option maxRecDepth 100000 in
theorem s_kpt11 {G : tp_G} {μ : tp_M} (hG : tp_Gf G = true) : tp_k G mX12_keep [tR (some 201), tR (some 208), tI 61, tI 1] μ (fun r μ' => r = none ∧ (∀ j, 0 ≤ j → j < 61 → μ'.1 208 (61 + j) = μ.1 211 j) ∧ (∀ j, (j < 61 ∨ 122 ≤ j) → μ'.1 208 j = μ.1 208 j) ∧ ∀ c, c ≠ 208 → μ'.1 c = μ.1 c) := by
  refine tp_ok_of mX12_keep_ok rfl (Nat.le_refl _) ?_
  refine g_iconst rfl ⟨by decide, by decide⟩ ?_
  refine g_istore rfl rfl rfl ?_
  exact l_kpt11 (μ0 := μ) hG 0 (by omega) _ (by omega) (fun j j0 j1 => by omega) (fun _ _ => rfl) (fun _ _ => rfl)
set_option maxHeartbeats 4000000 in
set_option maxRecDepth 100000 in
theorem l_kpt20 {G : tp_G} (hG : tp_Gf G = true) {μ0 : tp_M} : ∀ k, k ≤ 101 → ∀ (μ : tp_M), 0 ≤ k → (∀ j, 0 ≤ j → j < k → μ.1 209 (0 + j) = μ0.1 211 j) → (∀ j, (j < 0 ∨ 101 ≤ j) → μ.1 209 j = μ0.1 209 j) → (∀ c, c ≠ 209 → μ.1 c = μ0.1 c) → tp_g G mX12_keep 3 [some (tR (some 201)), some (tR (some 209)), some (tI 101), some (tI 0), some (tI k)] [] μ (fun r μ' => r = none ∧ (∀ j, 0 ≤ j → j < 101 → μ'.1 209 (0 + j) = μ0.1 211 j) ∧ (∀ j, (j < 0 ∨ 101 ≤ j) → μ'.1 209 j = μ0.1 209 j) ∧ ∀ c, c ≠ 209 → μ'.1 c = μ0.1 c) := by
  refine tp_ind _ ?_
  intro k hkN ih μ h0 hv hw hF
  refine g_iload rfl rfl ?_
  refine g_iload_n rfl rfl ?_
  refine g_icmp_ge (tgt := 30) rfl (by decide) (fun h1 => ?_) (fun h1 => ?_)
  · refine x_return rfl rfl ?_
    exact ⟨rfl, fun j j0 j1 => hv j j0 (by omega), hw, hF⟩
  · refine g_aload_n rfl rfl ?_
    refine g_iload_n rfl rfl ?_
    refine g_iload_n rfl rfl ?_
    refine x_imul (z := 0) rfl (by omega) ⟨by omega, by omega⟩ ?_
    refine g_iload rfl rfl ?_
    refine x_iadd (z := k) rfl (by omega) ⟨by omega, by omega⟩ ?_
    refine g_aload_n rfl rfl ?_
    refine x_getF (r := 211) hG rfl rfl (by decide) (Or.inr ⟨_, rfl⟩) rfl ?_
    refine g_iload rfl rfl ?_
    refine x_iald (v := (μ.1 211 k)) rfl rfl (by decide) (by omega) (by omega) rfl ?_
    refine g_iast rfl rfl (by decide) (by omega) (by omega) ?_
    refine x_iinc (z := k + 1) rfl rfl (by omega) ⟨by omega, by omega⟩ rfl rfl ?_
    refine g_goto (tgt := 3) rfl (by decide) ?_
    exact ih (by omega) _ (by omega) (fun j j0 j1 => by
      rcases (show j = k ∨ j < k by omega) with q | q
      · rw [q, show (0 : Int) + k = k by omega, tp_pi_at]; exact congrFun (hF 211 (by decide)) k
      · rw [tp_pi_ix (by omega)]; exact hv j j0 q) (fun j z => by rw [tp_pi_ix (by omega)]; exact hw j z) (fun c9 z => by rw [tp_pi_ne z]; exact hF c9 z)
set_option maxHeartbeats 4000000 in
set_option maxRecDepth 100000 in
theorem s_kpt20 {G : tp_G} {μ : tp_M} (hG : tp_Gf G = true) : tp_k G mX12_keep [tR (some 201), tR (some 209), tI 101, tI 0] μ (fun r μ' => r = none ∧ (∀ j, 0 ≤ j → j < 101 → μ'.1 209 (0 + j) = μ.1 211 j) ∧ (∀ j, (j < 0 ∨ 101 ≤ j) → μ'.1 209 j = μ.1 209 j) ∧ ∀ c, c ≠ 209 → μ'.1 c = μ.1 c) := by
  refine tp_ok_of mX12_keep_ok rfl (Nat.le_refl _) ?_
  refine g_iconst rfl ⟨by decide, by decide⟩ ?_
  refine g_istore rfl rfl rfl ?_
  exact l_kpt20 (μ0 := μ) hG 0 (by omega) _ (by omega) (fun j j0 j1 => by omega) (fun _ _ => rfl) (fun _ _ => rfl)
set_option maxHeartbeats 4000000 in
set_option maxRecDepth 100000 in
theorem l_kpt21 {G : tp_G} (hG : tp_Gf G = true) {μ0 : tp_M} : ∀ k, k ≤ 101 → ∀ (μ : tp_M), 0 ≤ k → (∀ j, 0 ≤ j → j < k → μ.1 209 (101 + j) = μ0.1 211 j) → (∀ j, (j < 101 ∨ 202 ≤ j) → μ.1 209 j = μ0.1 209 j) → (∀ c, c ≠ 209 → μ.1 c = μ0.1 c) → tp_g G mX12_keep 3 [some (tR (some 201)), some (tR (some 209)), some (tI 101), some (tI 1), some (tI k)] [] μ (fun r μ' => r = none ∧ (∀ j, 0 ≤ j → j < 101 → μ'.1 209 (101 + j) = μ0.1 211 j) ∧ (∀ j, (j < 101 ∨ 202 ≤ j) → μ'.1 209 j = μ0.1 209 j) ∧ ∀ c, c ≠ 209 → μ'.1 c = μ0.1 c) := by
  refine tp_ind _ ?_
  intro k hkN ih μ h0 hv hw hF
  refine g_iload rfl rfl ?_
  refine g_iload_n rfl rfl ?_
  refine g_icmp_ge (tgt := 30) rfl (by decide) (fun h1 => ?_) (fun h1 => ?_)
  · refine x_return rfl rfl ?_
    exact ⟨rfl, fun j j0 j1 => hv j j0 (by omega), hw, hF⟩
  · refine g_aload_n rfl rfl ?_
    refine g_iload_n rfl rfl ?_
    refine g_iload_n rfl rfl ?_
    refine x_imul (z := 101) rfl (by omega) ⟨by omega, by omega⟩ ?_
    refine g_iload rfl rfl ?_
    refine x_iadd (z := k + 101) rfl (by omega) ⟨by omega, by omega⟩ ?_
    refine g_aload_n rfl rfl ?_
    refine x_getF (r := 211) hG rfl rfl (by decide) (Or.inr ⟨_, rfl⟩) rfl ?_
    refine g_iload rfl rfl ?_
    refine x_iald (v := (μ.1 211 k)) rfl rfl (by decide) (by omega) (by omega) rfl ?_
    refine g_iast rfl rfl (by decide) (by omega) (by omega) ?_
    refine x_iinc (z := k + 1) rfl rfl (by omega) ⟨by omega, by omega⟩ rfl rfl ?_
    refine g_goto (tgt := 3) rfl (by decide) ?_
    exact ih (by omega) _ (by omega) (fun j j0 j1 => by
      rcases (show j = k ∨ j < k by omega) with q | q
      · rw [q, show (101 : Int) + k = k + 101 by omega, tp_pi_at]; exact congrFun (hF 211 (by decide)) k
      · rw [tp_pi_ix (by omega)]; exact hv j j0 q) (fun j z => by rw [tp_pi_ix (by omega)]; exact hw j z) (fun c9 z => by rw [tp_pi_ne z]; exact hF c9 z)
set_option maxHeartbeats 4000000 in
set_option maxRecDepth 100000 in
theorem s_kpt21 {G : tp_G} {μ : tp_M} (hG : tp_Gf G = true) : tp_k G mX12_keep [tR (some 201), tR (some 209), tI 101, tI 1] μ (fun r μ' => r = none ∧ (∀ j, 0 ≤ j → j < 101 → μ'.1 209 (101 + j) = μ.1 211 j) ∧ (∀ j, (j < 101 ∨ 202 ≤ j) → μ'.1 209 j = μ.1 209 j) ∧ ∀ c, c ≠ 209 → μ'.1 c = μ.1 c) := by
  refine tp_ok_of mX12_keep_ok rfl (Nat.le_refl _) ?_
  refine g_iconst rfl ⟨by decide, by decide⟩ ?_
  refine g_istore rfl rfl rfl ?_
  exact l_kpt21 (μ0 := μ) hG 0 (by omega) _ (by omega) (fun j j0 j1 => by omega) (fun _ _ => rfl) (fun _ _ => rfl)
set_option maxHeartbeats 4000000 in
set_option maxRecDepth 100000 in
theorem l_kpt30 {G : tp_G} (hG : tp_Gf G = true) {μ0 : tp_M} : ∀ k, k ≤ 17 → ∀ (μ : tp_M), 0 ≤ k → (∀ j, 0 ≤ j → j < k → μ.1 210 (0 + j) = μ0.1 211 j) → (∀ j, (j < 0 ∨ 17 ≤ j) → μ.1 210 j = μ0.1 210 j) → (∀ c, c ≠ 210 → μ.1 c = μ0.1 c) → tp_g G mX12_keep 3 [some (tR (some 201)), some (tR (some 210)), some (tI 17), some (tI 0), some (tI k)] [] μ (fun r μ' => r = none ∧ (∀ j, 0 ≤ j → j < 17 → μ'.1 210 (0 + j) = μ0.1 211 j) ∧ (∀ j, (j < 0 ∨ 17 ≤ j) → μ'.1 210 j = μ0.1 210 j) ∧ ∀ c, c ≠ 210 → μ'.1 c = μ0.1 c) := by
  refine tp_ind _ ?_
  intro k hkN ih μ h0 hv hw hF
  refine g_iload rfl rfl ?_
  refine g_iload_n rfl rfl ?_
  refine g_icmp_ge (tgt := 30) rfl (by decide) (fun h1 => ?_) (fun h1 => ?_)
  · refine x_return rfl rfl ?_
    exact ⟨rfl, fun j j0 j1 => hv j j0 (by omega), hw, hF⟩
  · refine g_aload_n rfl rfl ?_
    refine g_iload_n rfl rfl ?_
    refine g_iload_n rfl rfl ?_
    refine x_imul (z := 0) rfl (by omega) ⟨by omega, by omega⟩ ?_
    refine g_iload rfl rfl ?_
    refine x_iadd (z := k) rfl (by omega) ⟨by omega, by omega⟩ ?_
    refine g_aload_n rfl rfl ?_
    refine x_getF (r := 211) hG rfl rfl (by decide) (Or.inr ⟨_, rfl⟩) rfl ?_
    refine g_iload rfl rfl ?_
    refine x_iald (v := (μ.1 211 k)) rfl rfl (by decide) (by omega) (by omega) rfl ?_
    refine g_iast rfl rfl (by decide) (by omega) (by omega) ?_
    refine x_iinc (z := k + 1) rfl rfl (by omega) ⟨by omega, by omega⟩ rfl rfl ?_
    refine g_goto (tgt := 3) rfl (by decide) ?_
    exact ih (by omega) _ (by omega) (fun j j0 j1 => by
      rcases (show j = k ∨ j < k by omega) with q | q
      · rw [q, show (0 : Int) + k = k by omega, tp_pi_at]; exact congrFun (hF 211 (by decide)) k
      · rw [tp_pi_ix (by omega)]; exact hv j j0 q) (fun j z => by rw [tp_pi_ix (by omega)]; exact hw j z) (fun c9 z => by rw [tp_pi_ne z]; exact hF c9 z)
set_option maxHeartbeats 4000000 in
set_option maxRecDepth 100000 in
theorem s_kpt30 {G : tp_G} {μ : tp_M} (hG : tp_Gf G = true) : tp_k G mX12_keep [tR (some 201), tR (some 210), tI 17, tI 0] μ (fun r μ' => r = none ∧ (∀ j, 0 ≤ j → j < 17 → μ'.1 210 (0 + j) = μ.1 211 j) ∧ (∀ j, (j < 0 ∨ 17 ≤ j) → μ'.1 210 j = μ.1 210 j) ∧ ∀ c, c ≠ 210 → μ'.1 c = μ.1 c) := by
  refine tp_ok_of mX12_keep_ok rfl (Nat.le_refl _) ?_
  refine g_iconst rfl ⟨by decide, by decide⟩ ?_
  refine g_istore rfl rfl rfl ?_
  exact l_kpt30 (μ0 := μ) hG 0 (by omega) _ (by omega) (fun j j0 j1 => by omega) (fun _ _ => rfl) (fun _ _ => rfl)
set_option maxHeartbeats 4000000 in
set_option maxRecDepth 100000 in
theorem l_kpt31 {G : tp_G} (hG : tp_Gf G = true) {μ0 : tp_M} : ∀ k, k ≤ 17 → ∀ (μ : tp_M), 0 ≤ k → (∀ j, 0 ≤ j → j < k → μ.1 210 (17 + j) = μ0.1 211 j) → (∀ j, (j < 17 ∨ 34 ≤ j) → μ.1 210 j = μ0.1 210 j) → (∀ c, c ≠ 210 → μ.1 c = μ0.1 c) → tp_g G mX12_keep 3 [some (tR (some 201)), some (tR (some 210)), some (tI 17), some (tI 1), some (tI k)] [] μ (fun r μ' => r = none ∧ (∀ j, 0 ≤ j → j < 17 → μ'.1 210 (17 + j) = μ0.1 211 j) ∧ (∀ j, (j < 17 ∨ 34 ≤ j) → μ'.1 210 j = μ0.1 210 j) ∧ ∀ c, c ≠ 210 → μ'.1 c = μ0.1 c) := by
  refine tp_ind _ ?_
  intro k hkN ih μ h0 hv hw hF
  refine g_iload rfl rfl ?_
  refine g_iload_n rfl rfl ?_
  refine g_icmp_ge (tgt := 30) rfl (by decide) (fun h1 => ?_) (fun h1 => ?_)
  · refine x_return rfl rfl ?_
    exact ⟨rfl, fun j j0 j1 => hv j j0 (by omega), hw, hF⟩
  · refine g_aload_n rfl rfl ?_
    refine g_iload_n rfl rfl ?_
    refine g_iload_n rfl rfl ?_
    refine x_imul (z := 17) rfl (by omega) ⟨by omega, by omega⟩ ?_
    refine g_iload rfl rfl ?_
    refine x_iadd (z := k + 17) rfl (by omega) ⟨by omega, by omega⟩ ?_
    refine g_aload_n rfl rfl ?_
    refine x_getF (r := 211) hG rfl rfl (by decide) (Or.inr ⟨_, rfl⟩) rfl ?_
    refine g_iload rfl rfl ?_
    refine x_iald (v := (μ.1 211 k)) rfl rfl (by decide) (by omega) (by omega) rfl ?_
    refine g_iast rfl rfl (by decide) (by omega) (by omega) ?_
    refine x_iinc (z := k + 1) rfl rfl (by omega) ⟨by omega, by omega⟩ rfl rfl ?_
    refine g_goto (tgt := 3) rfl (by decide) ?_
    exact ih (by omega) _ (by omega) (fun j j0 j1 => by
      rcases (show j = k ∨ j < k by omega) with q | q
      · rw [q, show (17 : Int) + k = k + 17 by omega, tp_pi_at]; exact congrFun (hF 211 (by decide)) k
      · rw [tp_pi_ix (by omega)]; exact hv j j0 q) (fun j z => by rw [tp_pi_ix (by omega)]; exact hw j z) (fun c9 z => by rw [tp_pi_ne z]; exact hF c9 z)
set_option maxHeartbeats 4000000 in
set_option maxRecDepth 100000 in
theorem s_kpt31 {G : tp_G} {μ : tp_M} (hG : tp_Gf G = true) : tp_k G mX12_keep [tR (some 201), tR (some 210), tI 17, tI 1] μ (fun r μ' => r = none ∧ (∀ j, 0 ≤ j → j < 17 → μ'.1 210 (17 + j) = μ.1 211 j) ∧ (∀ j, (j < 17 ∨ 34 ≤ j) → μ'.1 210 j = μ.1 210 j) ∧ ∀ c, c ≠ 210 → μ'.1 c = μ.1 c) := by
  refine tp_ok_of mX12_keep_ok rfl (Nat.le_refl _) ?_
  refine g_iconst rfl ⟨by decide, by decide⟩ ?_
  refine g_istore rfl rfl rfl ?_
  exact l_kpt31 (μ0 := μ) hG 0 (by omega) _ (by omega) (fun j j0 j1 => by omega) (fun _ _ => rfl) (fun _ _ => rfl)
theorem x_k0 {μ μ' : tp_M} {a : Nat} {D : Int → Int} (h : t_cont 0 D μ) (hw : tp_Cw D) (hk : q_kc 42 a μ.1 μ'.1) : tp_Co μ'.1 a D := by
  have h : μ.1 42 4 = D 0 ∧ (∀ a, 0 ≤ a → a < D 0 → μ.1 43 a = D (9 + a) ∧ μ.1 44 a = D (49 + a) ∧ μ.1 45 a = D (89 + a)) ∧ (∀ i, 0 ≤ i → i < 8 → μ.1 46 i = D (1 + i)) := h
  have hb := hw.1
  refine ⟨hk.1.trans h.1, fun i i0 i1 => ?_, fun i i0 i1 => (hk.2.2 i i0 i1).trans (h.2.2 i i0 i1), hw⟩
  have e := hk.2.1 i i0 (by omega)
  have g := h.2.1 i i0 i1
  exact ⟨e.1.trans g.1, e.2.1.trans g.2.1, e.2.2.trans g.2.2⟩
def x_kr (a : Nat) (μ μ' : tp_M) : Prop := μ'.1 a 2 = μ.1 47 2 ∧ ∀ j, 0 ≤ j → j < μ.1 47 2 → μ'.1 (a + 1) j = μ.1 48 j ∧ μ'.1 (a + 2) j = μ.1 49 j
theorem x_k1 {μ μ' : tp_M} {a : Nat} {D : Int → Int} (h : t_cont 1 D μ) (hw : tp_Dw D) (hk : x_kr a μ μ') : tp_Dr μ'.1 a D := by
  have h : μ.1 47 2 = D 0 ∧ ∀ i, 0 ≤ i → i < D 0 → μ.1 48 i = D (1 + i) := h
  exact ⟨hk.1.trans h.1, fun i i0 i1 => (hk.2 i i0 (by omega)).1.trans (h.2 i i0 i1), hw⟩
theorem x_k2 {μ μ' : tp_M} {a : Nat} {D : Int → Int} (h : t_cont 2 D μ) (hk : x_kr a μ μ') : tp_Lo μ'.1 a D := by
  have h : tp_Lo μ.1 47 D := h
  have e := h.1
  have ev : ∀ i, 0 ≤ i → i < D 0 → μ'.1 (a + 1) i = μ.1 48 i := fun i i0 i1 => (hk.2 i i0 (by omega)).1
  refine ⟨hk.1.trans h.1, h.2.1, fun i j i0 ij j1 => ?_, fun i i0 i1 => ?_, fun p p0 p1 => ?_⟩
  · rw [ev i i0 (by omega), ev j (by omega) j1]; exact h.2.2.1 i j i0 ij j1
  · rw [ev i i0 i1]; exact h.2.2.2.1 i i0 i1
  · rcases h.2.2.2.2 p p0 p1 with t | ⟨t, i, i0, i1, i2⟩
    · exact Or.inl t
    · exact Or.inr ⟨t, i, i0, i1, by rw [ev i i0 i1]; exact i2⟩
theorem x_k3 {μ μ' : tp_M} {a : Nat} {D : Int → Int} (h : t_cont 3 D μ) (hb : 0 ≤ D 0 ∧ D 0 ≤ 8) (hw : ∀ i, 0 ≤ i → i < D 0 → (0 ≤ D (1 + 2 * i) ∧ D (1 + 2 * i) ≤ 39) ∧ (0 ≤ D (2 + 2 * i) ∧ D (2 + 2 * i) ≤ 99)) (hk : x_kr a μ μ') : tp_Lg μ'.1 a D := by
  have h : μ.1 47 2 = D 0 ∧ ∀ i, 0 ≤ i → i < D 0 → μ.1 48 i = D (1 + 2 * i) ∧ μ.1 49 i = D (2 + 2 * i) := h
  exact ⟨hk.1.trans h.1, hb, fun i i0 i1 => ⟨(hk.2 i i0 (by omega)).1.trans (h.2 i i0 i1).1, (hk.2 i i0 (by omega)).2.trans (h.2 i i0 i1).2, hw i i0 i1⟩⟩
theorem tp_Co_A {A A' : Nat → Int → Int} {c : Nat} {f : Int → Int} (h : ∀ i, c ≤ i → i < c + 5 → A' i = A i) (q : tp_Co A c f) : tp_Co A' c f := by
  unfold tp_Co at q ⊢
  rw [h c (by omega) (by omega), h (c + 1) (by omega) (by omega), h (c + 2) (by omega) (by omega), h (c + 3) (by omega) (by omega), h (c + 4) (by omega) (by omega)]
  exact q
theorem tp_Dr_A {A A' : Nat → Int → Int} {c : Nat} {f : Int → Int} (h : ∀ i, c ≤ i → i < c + 3 → A' i = A i) (q : tp_Dr A c f) : tp_Dr A' c f := by
  unfold tp_Dr at q ⊢
  rw [h c (by omega) (by omega), h (c + 1) (by omega) (by omega)]
  exact q
theorem tp_Lo_A {A A' : Nat → Int → Int} {c : Nat} {f : Int → Int} (h : ∀ i, c ≤ i → i < c + 3 → A' i = A i) (q : tp_Lo A c f) : tp_Lo A' c f := by
  unfold tp_Lo at q ⊢
  rw [h c (by omega) (by omega), h (c + 1) (by omega) (by omega)]
  exact q
theorem tp_Lg_A {A A' : Nat → Int → Int} {c : Nat} {f : Int → Int} (h : ∀ i, c ≤ i → i < c + 3 → A' i = A i) (q : tp_Lg A c f) : tp_Lg A' c f := by
  unfold tp_Lg at q ⊢
  rw [h c (by omega) (by omega), h (c + 1) (by omega) (by omega), h (c + 2) (by omega) (by omega)]
  exact q
theorem tp_St_kept {A A' B B' : Nat → Int → Int} (h : tp_St A B 0) (h1 : A' 0 1 = 0 ∧ B' 1 0 = 0) (h3 : A' 0 2 = B' 2 0 ∧ A' 0 3 = B' 3 0) (h4 : ∀ t, 0 ≤ t → t < 4 → A' 4 t = B' 4 (4 * 0 + t) ∧ 0 ≤ A' 4 t ∧ A' 4 t ≤ 2)
    (h5 : ∀ k : Nat, k < 2 → (k : Int) < A' 4 0 → ((k : Int) < A 4 0 ∧ (∀ i, 5 + 5 * k ≤ i → i < 10 + 5 * k → A' i = A i) ∧ (∀ i, 0 ≤ i → i < 129 → B' 5 (258 * 0 + 129 * k + i) = B 5 (258 * 0 + 129 * k + i))) ∨ tp_Co A' (5 + 5 * k) (fun i => B' 5 (258 * 0 + 129 * k + i)))
    (h6 : ∀ k : Nat, k < 2 → (k : Int) < A' 4 1 → ((k : Int) < A 4 1 ∧ (∀ i, 21 + 3 * k ≤ i → i < 24 + 3 * k → A' i = A i) ∧ (∀ i, 0 ≤ i → i < 61 → B' 6 (122 * 0 + 61 * k + i) = B 6 (122 * 0 + 61 * k + i))) ∨ tp_Dr A' (21 + 3 * k) (fun i => B' 6 (122 * 0 + 61 * k + i)))
    (h7 : ∀ k : Nat, k < 2 → (k : Int) < A' 4 2 → ((k : Int) < A 4 2 ∧ (∀ i, 27 + 3 * k ≤ i → i < 30 + 3 * k → A' i = A i) ∧ (∀ i, 0 ≤ i → i < 101 → B' 7 (202 * 0 + 101 * k + i) = B 7 (202 * 0 + 101 * k + i))) ∨ tp_Lo A' (27 + 3 * k) (fun i => B' 7 (202 * 0 + 101 * k + i)))
    (h8 : ∀ k : Nat, k < 2 → (k : Int) < A' 4 3 → ((k : Int) < A 4 3 ∧ (∀ i, 33 + 3 * k ≤ i → i < 36 + 3 * k → A' i = A i) ∧ (∀ i, 0 ≤ i → i < 17 → B' 8 (34 * 0 + 17 * k + i) = B 8 (34 * 0 + 17 * k + i))) ∨ tp_Lg A' (33 + 3 * k) (fun i => B' 8 (34 * 0 + 17 * k + i))) : tp_St A' B' 0 := by
  obtain ⟨-, -, -, -, g5, g6, g7, g8⟩ := h
  refine ⟨⟨by omega, by rw [h1.1, h1.2]⟩, fun j j0 j1 => by omega, h3, h4, fun k hk hk1 => ?_, fun k hk hk1 => ?_, fun k hk hk1 => ?_, fun k hk hk1 => ?_⟩
  · rcases h5 k hk hk1 with z | z
    · exact tp_Co_f z.2.2 (tp_Co_A (fun i i0 i1 => z.2.1 i i0 (by omega)) (g5 k hk z.1))
    · exact z
  · rcases h6 k hk hk1 with z | z
    · exact tp_Dr_f z.2.2 (tp_Dr_A (fun i i0 i1 => z.2.1 i i0 (by omega)) (g6 k hk z.1))
    · exact z
  · rcases h7 k hk hk1 with z | z
    · exact tp_Lo_f z.2.2 (tp_Lo_A (fun i i0 i1 => z.2.1 i i0 (by omega)) (g7 k hk z.1))
    · exact z
  · rcases h8 k hk hk1 with z | z
    · exact tp_Lg_f z.2.2 (tp_Lg_A (fun i i0 i1 => z.2.1 i i0 (by omega)) (g8 k hk z.1))
    · exact z
set_option maxHeartbeats 4000000 in
set_option maxRecDepth 100000 in
theorem tp_R_k00 {μ μ' : tp_M} (h : tp_R μ) (hK : ∀ k, tp_tl k → k ≠ 1 → k ≠ 5 → (k < 6 ∨ 10 < k) → (k < 203 ∨ 206 < k) → k ≠ 207 → μ'.1 k = μ.1 k) (hy : ∀ q, 1 ≤ q → μ'.1 203 q = μ.1 203 q ∧ μ'.1 204 q = μ.1 204 q ∧ μ'.1 205 q = μ.1 205 q) (hz : ∀ j, 4 ≤ j → μ'.1 206 j = μ.1 206 j) (hm : ∀ t, 0 ≤ t → t < 4 → t ≠ 0 → μ'.1 5 t = μ.1 5 t ∧ μ'.1 206 t = μ.1 206 t) (hm2 : μ'.1 5 0 = μ'.1 206 0 ∧ (0 ≤ μ'.1 5 0 ∧ μ'.1 5 0 ≤ 2) ∧ (μ'.1 5 0 ≤ μ.1 5 0 ∨ (μ'.1 5 0 = 1 ∧ μ.1 5 0 = 0))) (hw : ∀ j, (j < 0 ∨ 129 ≤ j) → μ'.1 207 j = μ.1 207 j) (h1 : μ'.1 1 1 = 0 ∧ μ'.1 203 0 = 0) (h3 : μ'.1 1 2 = μ'.1 204 0 ∧ μ'.1 1 3 = μ'.1 205 0) (hC : tp_Co μ'.1 6 (fun i => μ'.1 207 (0 + i))) : tp_R μ' := by
  refine ⟨tp_St_kept h.1 ⟨h1.1, h1.2⟩ h3 (fun t t0 t1 => ?_) (fun k hk hk1 => ?_) (fun k hk hk1 => ?_) (fun k hk hk1 => ?_) (fun k hk hk1 => ?_), fun i hi => ?_⟩
  · show μ'.1 5 t = μ'.1 206 (4 * 0 + t) ∧ 0 ≤ μ'.1 5 t ∧ μ'.1 5 t ≤ 2
    rw [show (4 : Int) * 0 + t = t by omega]
    by_cases q : t = 0
    · rw [q]; exact ⟨hm2.1, hm2.2.1⟩
    · rw [(hm t t0 t1 q).1, (hm t t0 t1 q).2]; exact tp_R_many h t t0 t1
  · have hk1 : (k : Int) < μ'.1 5 0 := hk1
    rcases (show k = 0 ∨ k = 1 by omega) with u | u <;> subst u
    · refine Or.inr ?_
      have e : (fun i : Int => tp_cut μ'.1 202 9 5 (258 * 0 + 129 * ((0 : Nat) : Int) + i)) = fun i => μ'.1 207 (0 + i) := by
        funext i
        exact congrArg (μ'.1 207) (by omega)
      rw [e]
      exact hC
    · refine Or.inl ⟨by show _ < μ.1 5 0; omega, fun i i0 i1 => ?_, fun i i0 i1 => ?_⟩
      · rw [tp_cut_at (by omega), tp_cut_at (by omega)]; exact hK (1 + i) (by unfold tp_tl; omega) (by omega) (by omega) (by omega) (by omega) (by omega)
      · exact hw _ (by omega)
  · have hk1 : (k : Int) < μ'.1 5 1 := hk1
    rcases (show k = 0 ∨ k = 1 by omega) with u | u <;> subst u
    · refine Or.inl ⟨by have := (hm 1 (by decide) (by decide) (by decide)).1; show _ < μ.1 5 1; omega, fun i i0 i1 => ?_, fun i i0 i1 => ?_⟩
      · rw [tp_cut_at (by omega), tp_cut_at (by omega)]; exact hK (1 + i) (by unfold tp_tl; omega) (by omega) (by omega) (by omega) (by omega) (by omega)
      · exact congrFun (hK 208 (by unfold tp_tl; omega) (by decide) (by decide) (by decide) (by decide) (by decide)) _
    · refine Or.inl ⟨by have := (hm 1 (by decide) (by decide) (by decide)).1; show _ < μ.1 5 1; omega, fun i i0 i1 => ?_, fun i i0 i1 => ?_⟩
      · rw [tp_cut_at (by omega), tp_cut_at (by omega)]; exact hK (1 + i) (by unfold tp_tl; omega) (by omega) (by omega) (by omega) (by omega) (by omega)
      · exact congrFun (hK 208 (by unfold tp_tl; omega) (by decide) (by decide) (by decide) (by decide) (by decide)) _
  · have hk1 : (k : Int) < μ'.1 5 2 := hk1
    rcases (show k = 0 ∨ k = 1 by omega) with u | u <;> subst u
    · refine Or.inl ⟨by have := (hm 2 (by decide) (by decide) (by decide)).1; show _ < μ.1 5 2; omega, fun i i0 i1 => ?_, fun i i0 i1 => ?_⟩
      · rw [tp_cut_at (by omega), tp_cut_at (by omega)]; exact hK (1 + i) (by unfold tp_tl; omega) (by omega) (by omega) (by omega) (by omega) (by omega)
      · exact congrFun (hK 209 (by unfold tp_tl; omega) (by decide) (by decide) (by decide) (by decide) (by decide)) _
    · refine Or.inl ⟨by have := (hm 2 (by decide) (by decide) (by decide)).1; show _ < μ.1 5 2; omega, fun i i0 i1 => ?_, fun i i0 i1 => ?_⟩
      · rw [tp_cut_at (by omega), tp_cut_at (by omega)]; exact hK (1 + i) (by unfold tp_tl; omega) (by omega) (by omega) (by omega) (by omega) (by omega)
      · exact congrFun (hK 209 (by unfold tp_tl; omega) (by decide) (by decide) (by decide) (by decide) (by decide)) _
  · have hk1 : (k : Int) < μ'.1 5 3 := hk1
    rcases (show k = 0 ∨ k = 1 by omega) with u | u <;> subst u
    · refine Or.inl ⟨by have := (hm 3 (by decide) (by decide) (by decide)).1; show _ < μ.1 5 3; omega, fun i i0 i1 => ?_, fun i i0 i1 => ?_⟩
      · rw [tp_cut_at (by omega), tp_cut_at (by omega)]; exact hK (1 + i) (by unfold tp_tl; omega) (by omega) (by omega) (by omega) (by omega) (by omega)
      · exact congrFun (hK 210 (by unfold tp_tl; omega) (by decide) (by decide) (by decide) (by decide) (by decide)) _
    · refine Or.inl ⟨by have := (hm 3 (by decide) (by decide) (by decide)).1; show _ < μ.1 5 3; omega, fun i i0 i1 => ?_, fun i i0 i1 => ?_⟩
      · rw [tp_cut_at (by omega), tp_cut_at (by omega)]; exact hK (1 + i) (by unfold tp_tl; omega) (by omega) (by omega) (by omega) (by omega) (by omega)
      · exact congrFun (hK 210 (by unfold tp_tl; omega) (by decide) (by decide) (by decide) (by decide) (by decide)) _
  · have c := h.2 i hi
    rw [tp_cut_eq (M := μ.1) (M' := μ'.1) (s := 84 + 39 * i) (n := 39) (fun k z1 z2 => hK k (by unfold tp_tl; omega) (by omega) (by omega) (by omega) (by omega) (by omega)), hK (84 + 39 * i) (by unfold tp_tl; omega) (by omega) (by omega) (by omega) (by omega) (by omega), hK 233 (by unfold tp_tl; omega) (by decide) (by decide) (by decide) (by decide) (by decide)]
    refine ⟨c.1, fun z => tp_St_mv (c.2 z) (fun i9 h9 j hj0 hj1 => ?_)⟩
    rcases (show i9 = 0 ∨ i9 = 1 ∨ i9 = 2 ∨ i9 = 3 ∨ i9 = 4 ∨ i9 = 5 ∨ i9 = 6 ∨ i9 = 7 ∨ i9 = 8 by omega) with u | u | u | u | u | u | u | u | u <;> subst u
    · have hj1 : j < 600 := hj1
      show μ'.1 202 (600 * (1 + (i : Int)) + j) = μ.1 202 (600 * (1 + (i : Int)) + j)
      exact congrFun (hK 202 (by unfold tp_tl; omega) (by decide) (by decide) (by decide) (by decide) (by decide)) _
    · have hj1 : j < 1 := hj1
      show μ'.1 203 (1 * (1 + (i : Int)) + j) = μ.1 203 (1 * (1 + (i : Int)) + j)
      exact (hy _ (by omega)).1
    · have hj1 : j < 1 := hj1
      show μ'.1 204 (1 * (1 + (i : Int)) + j) = μ.1 204 (1 * (1 + (i : Int)) + j)
      exact (hy _ (by omega)).2.1
    · have hj1 : j < 1 := hj1
      show μ'.1 205 (1 * (1 + (i : Int)) + j) = μ.1 205 (1 * (1 + (i : Int)) + j)
      exact (hy _ (by omega)).2.2
    · have hj1 : j < 4 := hj1
      show μ'.1 206 (4 * (1 + (i : Int)) + j) = μ.1 206 (4 * (1 + (i : Int)) + j)
      exact hz _ (by omega)
    · have hj1 : j < 258 := hj1
      show μ'.1 207 (258 * (1 + (i : Int)) + j) = μ.1 207 (258 * (1 + (i : Int)) + j)
      exact hw _ (by omega)
    · have hj1 : j < 122 := hj1
      show μ'.1 208 (122 * (1 + (i : Int)) + j) = μ.1 208 (122 * (1 + (i : Int)) + j)
      exact congrFun (hK 208 (by unfold tp_tl; omega) (by decide) (by decide) (by decide) (by decide) (by decide)) _
    · have hj1 : j < 202 := hj1
      show μ'.1 209 (202 * (1 + (i : Int)) + j) = μ.1 209 (202 * (1 + (i : Int)) + j)
      exact congrFun (hK 209 (by unfold tp_tl; omega) (by decide) (by decide) (by decide) (by decide) (by decide)) _
    · have hj1 : j < 34 := hj1
      show μ'.1 210 (34 * (1 + (i : Int)) + j) = μ.1 210 (34 * (1 + (i : Int)) + j)
      exact congrFun (hK 210 (by unfold tp_tl; omega) (by decide) (by decide) (by decide) (by decide) (by decide)) _
set_option maxHeartbeats 4000000 in
set_option maxRecDepth 100000 in
theorem tp_R_k01 {μ μ' : tp_M} (h : tp_R μ) (hK : ∀ k, tp_tl k → k ≠ 1 → k ≠ 5 → (k < 11 ∨ 15 < k) → (k < 203 ∨ 206 < k) → k ≠ 207 → μ'.1 k = μ.1 k) (hy : ∀ q, 1 ≤ q → μ'.1 203 q = μ.1 203 q ∧ μ'.1 204 q = μ.1 204 q ∧ μ'.1 205 q = μ.1 205 q) (hz : ∀ j, 4 ≤ j → μ'.1 206 j = μ.1 206 j) (hm : ∀ t, 0 ≤ t → t < 4 → t ≠ 0 → μ'.1 5 t = μ.1 5 t ∧ μ'.1 206 t = μ.1 206 t) (hm2 : μ'.1 5 0 = μ'.1 206 0 ∧ (0 ≤ μ'.1 5 0 ∧ μ'.1 5 0 ≤ 2) ∧ (μ'.1 5 0 ≤ μ.1 5 0 ∨ (μ'.1 5 0 = 2 ∧ μ.1 5 0 = 1))) (hw : ∀ j, (j < 129 ∨ 258 ≤ j) → μ'.1 207 j = μ.1 207 j) (h1 : μ'.1 1 1 = 0 ∧ μ'.1 203 0 = 0) (h3 : μ'.1 1 2 = μ'.1 204 0 ∧ μ'.1 1 3 = μ'.1 205 0) (hC : tp_Co μ'.1 11 (fun i => μ'.1 207 (129 + i))) : tp_R μ' := by
  refine ⟨tp_St_kept h.1 ⟨h1.1, h1.2⟩ h3 (fun t t0 t1 => ?_) (fun k hk hk1 => ?_) (fun k hk hk1 => ?_) (fun k hk hk1 => ?_) (fun k hk hk1 => ?_), fun i hi => ?_⟩
  · show μ'.1 5 t = μ'.1 206 (4 * 0 + t) ∧ 0 ≤ μ'.1 5 t ∧ μ'.1 5 t ≤ 2
    rw [show (4 : Int) * 0 + t = t by omega]
    by_cases q : t = 0
    · rw [q]; exact ⟨hm2.1, hm2.2.1⟩
    · rw [(hm t t0 t1 q).1, (hm t t0 t1 q).2]; exact tp_R_many h t t0 t1
  · have hk1 : (k : Int) < μ'.1 5 0 := hk1
    rcases (show k = 0 ∨ k = 1 by omega) with u | u <;> subst u
    · refine Or.inl ⟨by show _ < μ.1 5 0; omega, fun i i0 i1 => ?_, fun i i0 i1 => ?_⟩
      · rw [tp_cut_at (by omega), tp_cut_at (by omega)]; exact hK (1 + i) (by unfold tp_tl; omega) (by omega) (by omega) (by omega) (by omega) (by omega)
      · exact hw _ (by omega)
    · refine Or.inr ?_
      have e : (fun i : Int => tp_cut μ'.1 202 9 5 (258 * 0 + 129 * ((1 : Nat) : Int) + i)) = fun i => μ'.1 207 (129 + i) := by
        funext i
        exact congrArg (μ'.1 207) (by omega)
      rw [e]
      exact hC
  · have hk1 : (k : Int) < μ'.1 5 1 := hk1
    rcases (show k = 0 ∨ k = 1 by omega) with u | u <;> subst u
    · refine Or.inl ⟨by have := (hm 1 (by decide) (by decide) (by decide)).1; show _ < μ.1 5 1; omega, fun i i0 i1 => ?_, fun i i0 i1 => ?_⟩
      · rw [tp_cut_at (by omega), tp_cut_at (by omega)]; exact hK (1 + i) (by unfold tp_tl; omega) (by omega) (by omega) (by omega) (by omega) (by omega)
      · exact congrFun (hK 208 (by unfold tp_tl; omega) (by decide) (by decide) (by decide) (by decide) (by decide)) _
    · refine Or.inl ⟨by have := (hm 1 (by decide) (by decide) (by decide)).1; show _ < μ.1 5 1; omega, fun i i0 i1 => ?_, fun i i0 i1 => ?_⟩
      · rw [tp_cut_at (by omega), tp_cut_at (by omega)]; exact hK (1 + i) (by unfold tp_tl; omega) (by omega) (by omega) (by omega) (by omega) (by omega)
      · exact congrFun (hK 208 (by unfold tp_tl; omega) (by decide) (by decide) (by decide) (by decide) (by decide)) _
  · have hk1 : (k : Int) < μ'.1 5 2 := hk1
    rcases (show k = 0 ∨ k = 1 by omega) with u | u <;> subst u
    · refine Or.inl ⟨by have := (hm 2 (by decide) (by decide) (by decide)).1; show _ < μ.1 5 2; omega, fun i i0 i1 => ?_, fun i i0 i1 => ?_⟩
      · rw [tp_cut_at (by omega), tp_cut_at (by omega)]; exact hK (1 + i) (by unfold tp_tl; omega) (by omega) (by omega) (by omega) (by omega) (by omega)
      · exact congrFun (hK 209 (by unfold tp_tl; omega) (by decide) (by decide) (by decide) (by decide) (by decide)) _
    · refine Or.inl ⟨by have := (hm 2 (by decide) (by decide) (by decide)).1; show _ < μ.1 5 2; omega, fun i i0 i1 => ?_, fun i i0 i1 => ?_⟩
      · rw [tp_cut_at (by omega), tp_cut_at (by omega)]; exact hK (1 + i) (by unfold tp_tl; omega) (by omega) (by omega) (by omega) (by omega) (by omega)
      · exact congrFun (hK 209 (by unfold tp_tl; omega) (by decide) (by decide) (by decide) (by decide) (by decide)) _
  · have hk1 : (k : Int) < μ'.1 5 3 := hk1
    rcases (show k = 0 ∨ k = 1 by omega) with u | u <;> subst u
    · refine Or.inl ⟨by have := (hm 3 (by decide) (by decide) (by decide)).1; show _ < μ.1 5 3; omega, fun i i0 i1 => ?_, fun i i0 i1 => ?_⟩
      · rw [tp_cut_at (by omega), tp_cut_at (by omega)]; exact hK (1 + i) (by unfold tp_tl; omega) (by omega) (by omega) (by omega) (by omega) (by omega)
      · exact congrFun (hK 210 (by unfold tp_tl; omega) (by decide) (by decide) (by decide) (by decide) (by decide)) _
    · refine Or.inl ⟨by have := (hm 3 (by decide) (by decide) (by decide)).1; show _ < μ.1 5 3; omega, fun i i0 i1 => ?_, fun i i0 i1 => ?_⟩
      · rw [tp_cut_at (by omega), tp_cut_at (by omega)]; exact hK (1 + i) (by unfold tp_tl; omega) (by omega) (by omega) (by omega) (by omega) (by omega)
      · exact congrFun (hK 210 (by unfold tp_tl; omega) (by decide) (by decide) (by decide) (by decide) (by decide)) _
  · have c := h.2 i hi
    rw [tp_cut_eq (M := μ.1) (M' := μ'.1) (s := 84 + 39 * i) (n := 39) (fun k z1 z2 => hK k (by unfold tp_tl; omega) (by omega) (by omega) (by omega) (by omega) (by omega)), hK (84 + 39 * i) (by unfold tp_tl; omega) (by omega) (by omega) (by omega) (by omega) (by omega), hK 233 (by unfold tp_tl; omega) (by decide) (by decide) (by decide) (by decide) (by decide)]
    refine ⟨c.1, fun z => tp_St_mv (c.2 z) (fun i9 h9 j hj0 hj1 => ?_)⟩
    rcases (show i9 = 0 ∨ i9 = 1 ∨ i9 = 2 ∨ i9 = 3 ∨ i9 = 4 ∨ i9 = 5 ∨ i9 = 6 ∨ i9 = 7 ∨ i9 = 8 by omega) with u | u | u | u | u | u | u | u | u <;> subst u
    · have hj1 : j < 600 := hj1
      show μ'.1 202 (600 * (1 + (i : Int)) + j) = μ.1 202 (600 * (1 + (i : Int)) + j)
      exact congrFun (hK 202 (by unfold tp_tl; omega) (by decide) (by decide) (by decide) (by decide) (by decide)) _
    · have hj1 : j < 1 := hj1
      show μ'.1 203 (1 * (1 + (i : Int)) + j) = μ.1 203 (1 * (1 + (i : Int)) + j)
      exact (hy _ (by omega)).1
    · have hj1 : j < 1 := hj1
      show μ'.1 204 (1 * (1 + (i : Int)) + j) = μ.1 204 (1 * (1 + (i : Int)) + j)
      exact (hy _ (by omega)).2.1
    · have hj1 : j < 1 := hj1
      show μ'.1 205 (1 * (1 + (i : Int)) + j) = μ.1 205 (1 * (1 + (i : Int)) + j)
      exact (hy _ (by omega)).2.2
    · have hj1 : j < 4 := hj1
      show μ'.1 206 (4 * (1 + (i : Int)) + j) = μ.1 206 (4 * (1 + (i : Int)) + j)
      exact hz _ (by omega)
    · have hj1 : j < 258 := hj1
      show μ'.1 207 (258 * (1 + (i : Int)) + j) = μ.1 207 (258 * (1 + (i : Int)) + j)
      exact hw _ (by omega)
    · have hj1 : j < 122 := hj1
      show μ'.1 208 (122 * (1 + (i : Int)) + j) = μ.1 208 (122 * (1 + (i : Int)) + j)
      exact congrFun (hK 208 (by unfold tp_tl; omega) (by decide) (by decide) (by decide) (by decide) (by decide)) _
    · have hj1 : j < 202 := hj1
      show μ'.1 209 (202 * (1 + (i : Int)) + j) = μ.1 209 (202 * (1 + (i : Int)) + j)
      exact congrFun (hK 209 (by unfold tp_tl; omega) (by decide) (by decide) (by decide) (by decide) (by decide)) _
    · have hj1 : j < 34 := hj1
      show μ'.1 210 (34 * (1 + (i : Int)) + j) = μ.1 210 (34 * (1 + (i : Int)) + j)
      exact congrFun (hK 210 (by unfold tp_tl; omega) (by decide) (by decide) (by decide) (by decide) (by decide)) _
set_option maxHeartbeats 4000000 in
set_option maxRecDepth 100000 in
theorem tp_R_k10 {μ μ' : tp_M} (h : tp_R μ) (hK : ∀ k, tp_tl k → k ≠ 1 → k ≠ 5 → (k < 22 ∨ 24 < k) → (k < 203 ∨ 206 < k) → k ≠ 208 → μ'.1 k = μ.1 k) (hy : ∀ q, 1 ≤ q → μ'.1 203 q = μ.1 203 q ∧ μ'.1 204 q = μ.1 204 q ∧ μ'.1 205 q = μ.1 205 q) (hz : ∀ j, 4 ≤ j → μ'.1 206 j = μ.1 206 j) (hm : ∀ t, 0 ≤ t → t < 4 → t ≠ 1 → μ'.1 5 t = μ.1 5 t ∧ μ'.1 206 t = μ.1 206 t) (hm2 : μ'.1 5 1 = μ'.1 206 1 ∧ (0 ≤ μ'.1 5 1 ∧ μ'.1 5 1 ≤ 2) ∧ (μ'.1 5 1 ≤ μ.1 5 1 ∨ (μ'.1 5 1 = 1 ∧ μ.1 5 1 = 0))) (hw : ∀ j, (j < 0 ∨ 61 ≤ j) → μ'.1 208 j = μ.1 208 j) (h1 : μ'.1 1 1 = 0 ∧ μ'.1 203 0 = 0) (h3 : μ'.1 1 2 = μ'.1 204 0 ∧ μ'.1 1 3 = μ'.1 205 0) (hC : tp_Dr μ'.1 22 (fun i => μ'.1 208 (0 + i))) : tp_R μ' := by
  refine ⟨tp_St_kept h.1 ⟨h1.1, h1.2⟩ h3 (fun t t0 t1 => ?_) (fun k hk hk1 => ?_) (fun k hk hk1 => ?_) (fun k hk hk1 => ?_) (fun k hk hk1 => ?_), fun i hi => ?_⟩
  · show μ'.1 5 t = μ'.1 206 (4 * 0 + t) ∧ 0 ≤ μ'.1 5 t ∧ μ'.1 5 t ≤ 2
    rw [show (4 : Int) * 0 + t = t by omega]
    by_cases q : t = 1
    · rw [q]; exact ⟨hm2.1, hm2.2.1⟩
    · rw [(hm t t0 t1 q).1, (hm t t0 t1 q).2]; exact tp_R_many h t t0 t1
  · have hk1 : (k : Int) < μ'.1 5 0 := hk1
    rcases (show k = 0 ∨ k = 1 by omega) with u | u <;> subst u
    · refine Or.inl ⟨by have := (hm 0 (by decide) (by decide) (by decide)).1; show _ < μ.1 5 0; omega, fun i i0 i1 => ?_, fun i i0 i1 => ?_⟩
      · rw [tp_cut_at (by omega), tp_cut_at (by omega)]; exact hK (1 + i) (by unfold tp_tl; omega) (by omega) (by omega) (by omega) (by omega) (by omega)
      · exact congrFun (hK 207 (by unfold tp_tl; omega) (by decide) (by decide) (by decide) (by decide) (by decide)) _
    · refine Or.inl ⟨by have := (hm 0 (by decide) (by decide) (by decide)).1; show _ < μ.1 5 0; omega, fun i i0 i1 => ?_, fun i i0 i1 => ?_⟩
      · rw [tp_cut_at (by omega), tp_cut_at (by omega)]; exact hK (1 + i) (by unfold tp_tl; omega) (by omega) (by omega) (by omega) (by omega) (by omega)
      · exact congrFun (hK 207 (by unfold tp_tl; omega) (by decide) (by decide) (by decide) (by decide) (by decide)) _
  · have hk1 : (k : Int) < μ'.1 5 1 := hk1
    rcases (show k = 0 ∨ k = 1 by omega) with u | u <;> subst u
    · refine Or.inr ?_
      have e : (fun i : Int => tp_cut μ'.1 202 9 6 (122 * 0 + 61 * ((0 : Nat) : Int) + i)) = fun i => μ'.1 208 (0 + i) := by
        funext i
        exact congrArg (μ'.1 208) (by omega)
      rw [e]
      exact hC
    · refine Or.inl ⟨by show _ < μ.1 5 1; omega, fun i i0 i1 => ?_, fun i i0 i1 => ?_⟩
      · rw [tp_cut_at (by omega), tp_cut_at (by omega)]; exact hK (1 + i) (by unfold tp_tl; omega) (by omega) (by omega) (by omega) (by omega) (by omega)
      · exact hw _ (by omega)
  · have hk1 : (k : Int) < μ'.1 5 2 := hk1
    rcases (show k = 0 ∨ k = 1 by omega) with u | u <;> subst u
    · refine Or.inl ⟨by have := (hm 2 (by decide) (by decide) (by decide)).1; show _ < μ.1 5 2; omega, fun i i0 i1 => ?_, fun i i0 i1 => ?_⟩
      · rw [tp_cut_at (by omega), tp_cut_at (by omega)]; exact hK (1 + i) (by unfold tp_tl; omega) (by omega) (by omega) (by omega) (by omega) (by omega)
      · exact congrFun (hK 209 (by unfold tp_tl; omega) (by decide) (by decide) (by decide) (by decide) (by decide)) _
    · refine Or.inl ⟨by have := (hm 2 (by decide) (by decide) (by decide)).1; show _ < μ.1 5 2; omega, fun i i0 i1 => ?_, fun i i0 i1 => ?_⟩
      · rw [tp_cut_at (by omega), tp_cut_at (by omega)]; exact hK (1 + i) (by unfold tp_tl; omega) (by omega) (by omega) (by omega) (by omega) (by omega)
      · exact congrFun (hK 209 (by unfold tp_tl; omega) (by decide) (by decide) (by decide) (by decide) (by decide)) _
  · have hk1 : (k : Int) < μ'.1 5 3 := hk1
    rcases (show k = 0 ∨ k = 1 by omega) with u | u <;> subst u
    · refine Or.inl ⟨by have := (hm 3 (by decide) (by decide) (by decide)).1; show _ < μ.1 5 3; omega, fun i i0 i1 => ?_, fun i i0 i1 => ?_⟩
      · rw [tp_cut_at (by omega), tp_cut_at (by omega)]; exact hK (1 + i) (by unfold tp_tl; omega) (by omega) (by omega) (by omega) (by omega) (by omega)
      · exact congrFun (hK 210 (by unfold tp_tl; omega) (by decide) (by decide) (by decide) (by decide) (by decide)) _
    · refine Or.inl ⟨by have := (hm 3 (by decide) (by decide) (by decide)).1; show _ < μ.1 5 3; omega, fun i i0 i1 => ?_, fun i i0 i1 => ?_⟩
      · rw [tp_cut_at (by omega), tp_cut_at (by omega)]; exact hK (1 + i) (by unfold tp_tl; omega) (by omega) (by omega) (by omega) (by omega) (by omega)
      · exact congrFun (hK 210 (by unfold tp_tl; omega) (by decide) (by decide) (by decide) (by decide) (by decide)) _
  · have c := h.2 i hi
    rw [tp_cut_eq (M := μ.1) (M' := μ'.1) (s := 84 + 39 * i) (n := 39) (fun k z1 z2 => hK k (by unfold tp_tl; omega) (by omega) (by omega) (by omega) (by omega) (by omega)), hK (84 + 39 * i) (by unfold tp_tl; omega) (by omega) (by omega) (by omega) (by omega) (by omega), hK 233 (by unfold tp_tl; omega) (by decide) (by decide) (by decide) (by decide) (by decide)]
    refine ⟨c.1, fun z => tp_St_mv (c.2 z) (fun i9 h9 j hj0 hj1 => ?_)⟩
    rcases (show i9 = 0 ∨ i9 = 1 ∨ i9 = 2 ∨ i9 = 3 ∨ i9 = 4 ∨ i9 = 5 ∨ i9 = 6 ∨ i9 = 7 ∨ i9 = 8 by omega) with u | u | u | u | u | u | u | u | u <;> subst u
    · have hj1 : j < 600 := hj1
      show μ'.1 202 (600 * (1 + (i : Int)) + j) = μ.1 202 (600 * (1 + (i : Int)) + j)
      exact congrFun (hK 202 (by unfold tp_tl; omega) (by decide) (by decide) (by decide) (by decide) (by decide)) _
    · have hj1 : j < 1 := hj1
      show μ'.1 203 (1 * (1 + (i : Int)) + j) = μ.1 203 (1 * (1 + (i : Int)) + j)
      exact (hy _ (by omega)).1
    · have hj1 : j < 1 := hj1
      show μ'.1 204 (1 * (1 + (i : Int)) + j) = μ.1 204 (1 * (1 + (i : Int)) + j)
      exact (hy _ (by omega)).2.1
    · have hj1 : j < 1 := hj1
      show μ'.1 205 (1 * (1 + (i : Int)) + j) = μ.1 205 (1 * (1 + (i : Int)) + j)
      exact (hy _ (by omega)).2.2
    · have hj1 : j < 4 := hj1
      show μ'.1 206 (4 * (1 + (i : Int)) + j) = μ.1 206 (4 * (1 + (i : Int)) + j)
      exact hz _ (by omega)
    · have hj1 : j < 258 := hj1
      show μ'.1 207 (258 * (1 + (i : Int)) + j) = μ.1 207 (258 * (1 + (i : Int)) + j)
      exact congrFun (hK 207 (by unfold tp_tl; omega) (by decide) (by decide) (by decide) (by decide) (by decide)) _
    · have hj1 : j < 122 := hj1
      show μ'.1 208 (122 * (1 + (i : Int)) + j) = μ.1 208 (122 * (1 + (i : Int)) + j)
      exact hw _ (by omega)
    · have hj1 : j < 202 := hj1
      show μ'.1 209 (202 * (1 + (i : Int)) + j) = μ.1 209 (202 * (1 + (i : Int)) + j)
      exact congrFun (hK 209 (by unfold tp_tl; omega) (by decide) (by decide) (by decide) (by decide) (by decide)) _
    · have hj1 : j < 34 := hj1
      show μ'.1 210 (34 * (1 + (i : Int)) + j) = μ.1 210 (34 * (1 + (i : Int)) + j)
      exact congrFun (hK 210 (by unfold tp_tl; omega) (by decide) (by decide) (by decide) (by decide) (by decide)) _
set_option maxHeartbeats 4000000 in
set_option maxRecDepth 100000 in
theorem tp_R_k11 {μ μ' : tp_M} (h : tp_R μ) (hK : ∀ k, tp_tl k → k ≠ 1 → k ≠ 5 → (k < 25 ∨ 27 < k) → (k < 203 ∨ 206 < k) → k ≠ 208 → μ'.1 k = μ.1 k) (hy : ∀ q, 1 ≤ q → μ'.1 203 q = μ.1 203 q ∧ μ'.1 204 q = μ.1 204 q ∧ μ'.1 205 q = μ.1 205 q) (hz : ∀ j, 4 ≤ j → μ'.1 206 j = μ.1 206 j) (hm : ∀ t, 0 ≤ t → t < 4 → t ≠ 1 → μ'.1 5 t = μ.1 5 t ∧ μ'.1 206 t = μ.1 206 t) (hm2 : μ'.1 5 1 = μ'.1 206 1 ∧ (0 ≤ μ'.1 5 1 ∧ μ'.1 5 1 ≤ 2) ∧ (μ'.1 5 1 ≤ μ.1 5 1 ∨ (μ'.1 5 1 = 2 ∧ μ.1 5 1 = 1))) (hw : ∀ j, (j < 61 ∨ 122 ≤ j) → μ'.1 208 j = μ.1 208 j) (h1 : μ'.1 1 1 = 0 ∧ μ'.1 203 0 = 0) (h3 : μ'.1 1 2 = μ'.1 204 0 ∧ μ'.1 1 3 = μ'.1 205 0) (hC : tp_Dr μ'.1 25 (fun i => μ'.1 208 (61 + i))) : tp_R μ' := by
  refine ⟨tp_St_kept h.1 ⟨h1.1, h1.2⟩ h3 (fun t t0 t1 => ?_) (fun k hk hk1 => ?_) (fun k hk hk1 => ?_) (fun k hk hk1 => ?_) (fun k hk hk1 => ?_), fun i hi => ?_⟩
  · show μ'.1 5 t = μ'.1 206 (4 * 0 + t) ∧ 0 ≤ μ'.1 5 t ∧ μ'.1 5 t ≤ 2
    rw [show (4 : Int) * 0 + t = t by omega]
    by_cases q : t = 1
    · rw [q]; exact ⟨hm2.1, hm2.2.1⟩
    · rw [(hm t t0 t1 q).1, (hm t t0 t1 q).2]; exact tp_R_many h t t0 t1
  · have hk1 : (k : Int) < μ'.1 5 0 := hk1
    rcases (show k = 0 ∨ k = 1 by omega) with u | u <;> subst u
    · refine Or.inl ⟨by have := (hm 0 (by decide) (by decide) (by decide)).1; show _ < μ.1 5 0; omega, fun i i0 i1 => ?_, fun i i0 i1 => ?_⟩
      · rw [tp_cut_at (by omega), tp_cut_at (by omega)]; exact hK (1 + i) (by unfold tp_tl; omega) (by omega) (by omega) (by omega) (by omega) (by omega)
      · exact congrFun (hK 207 (by unfold tp_tl; omega) (by decide) (by decide) (by decide) (by decide) (by decide)) _
    · refine Or.inl ⟨by have := (hm 0 (by decide) (by decide) (by decide)).1; show _ < μ.1 5 0; omega, fun i i0 i1 => ?_, fun i i0 i1 => ?_⟩
      · rw [tp_cut_at (by omega), tp_cut_at (by omega)]; exact hK (1 + i) (by unfold tp_tl; omega) (by omega) (by omega) (by omega) (by omega) (by omega)
      · exact congrFun (hK 207 (by unfold tp_tl; omega) (by decide) (by decide) (by decide) (by decide) (by decide)) _
  · have hk1 : (k : Int) < μ'.1 5 1 := hk1
    rcases (show k = 0 ∨ k = 1 by omega) with u | u <;> subst u
    · refine Or.inl ⟨by show _ < μ.1 5 1; omega, fun i i0 i1 => ?_, fun i i0 i1 => ?_⟩
      · rw [tp_cut_at (by omega), tp_cut_at (by omega)]; exact hK (1 + i) (by unfold tp_tl; omega) (by omega) (by omega) (by omega) (by omega) (by omega)
      · exact hw _ (by omega)
    · refine Or.inr ?_
      have e : (fun i : Int => tp_cut μ'.1 202 9 6 (122 * 0 + 61 * ((1 : Nat) : Int) + i)) = fun i => μ'.1 208 (61 + i) := by
        funext i
        exact congrArg (μ'.1 208) (by omega)
      rw [e]
      exact hC
  · have hk1 : (k : Int) < μ'.1 5 2 := hk1
    rcases (show k = 0 ∨ k = 1 by omega) with u | u <;> subst u
    · refine Or.inl ⟨by have := (hm 2 (by decide) (by decide) (by decide)).1; show _ < μ.1 5 2; omega, fun i i0 i1 => ?_, fun i i0 i1 => ?_⟩
      · rw [tp_cut_at (by omega), tp_cut_at (by omega)]; exact hK (1 + i) (by unfold tp_tl; omega) (by omega) (by omega) (by omega) (by omega) (by omega)
      · exact congrFun (hK 209 (by unfold tp_tl; omega) (by decide) (by decide) (by decide) (by decide) (by decide)) _
    · refine Or.inl ⟨by have := (hm 2 (by decide) (by decide) (by decide)).1; show _ < μ.1 5 2; omega, fun i i0 i1 => ?_, fun i i0 i1 => ?_⟩
      · rw [tp_cut_at (by omega), tp_cut_at (by omega)]; exact hK (1 + i) (by unfold tp_tl; omega) (by omega) (by omega) (by omega) (by omega) (by omega)
      · exact congrFun (hK 209 (by unfold tp_tl; omega) (by decide) (by decide) (by decide) (by decide) (by decide)) _
  · have hk1 : (k : Int) < μ'.1 5 3 := hk1
    rcases (show k = 0 ∨ k = 1 by omega) with u | u <;> subst u
    · refine Or.inl ⟨by have := (hm 3 (by decide) (by decide) (by decide)).1; show _ < μ.1 5 3; omega, fun i i0 i1 => ?_, fun i i0 i1 => ?_⟩
      · rw [tp_cut_at (by omega), tp_cut_at (by omega)]; exact hK (1 + i) (by unfold tp_tl; omega) (by omega) (by omega) (by omega) (by omega) (by omega)
      · exact congrFun (hK 210 (by unfold tp_tl; omega) (by decide) (by decide) (by decide) (by decide) (by decide)) _
    · refine Or.inl ⟨by have := (hm 3 (by decide) (by decide) (by decide)).1; show _ < μ.1 5 3; omega, fun i i0 i1 => ?_, fun i i0 i1 => ?_⟩
      · rw [tp_cut_at (by omega), tp_cut_at (by omega)]; exact hK (1 + i) (by unfold tp_tl; omega) (by omega) (by omega) (by omega) (by omega) (by omega)
      · exact congrFun (hK 210 (by unfold tp_tl; omega) (by decide) (by decide) (by decide) (by decide) (by decide)) _
  · have c := h.2 i hi
    rw [tp_cut_eq (M := μ.1) (M' := μ'.1) (s := 84 + 39 * i) (n := 39) (fun k z1 z2 => hK k (by unfold tp_tl; omega) (by omega) (by omega) (by omega) (by omega) (by omega)), hK (84 + 39 * i) (by unfold tp_tl; omega) (by omega) (by omega) (by omega) (by omega) (by omega), hK 233 (by unfold tp_tl; omega) (by decide) (by decide) (by decide) (by decide) (by decide)]
    refine ⟨c.1, fun z => tp_St_mv (c.2 z) (fun i9 h9 j hj0 hj1 => ?_)⟩
    rcases (show i9 = 0 ∨ i9 = 1 ∨ i9 = 2 ∨ i9 = 3 ∨ i9 = 4 ∨ i9 = 5 ∨ i9 = 6 ∨ i9 = 7 ∨ i9 = 8 by omega) with u | u | u | u | u | u | u | u | u <;> subst u
    · have hj1 : j < 600 := hj1
      show μ'.1 202 (600 * (1 + (i : Int)) + j) = μ.1 202 (600 * (1 + (i : Int)) + j)
      exact congrFun (hK 202 (by unfold tp_tl; omega) (by decide) (by decide) (by decide) (by decide) (by decide)) _
    · have hj1 : j < 1 := hj1
      show μ'.1 203 (1 * (1 + (i : Int)) + j) = μ.1 203 (1 * (1 + (i : Int)) + j)
      exact (hy _ (by omega)).1
    · have hj1 : j < 1 := hj1
      show μ'.1 204 (1 * (1 + (i : Int)) + j) = μ.1 204 (1 * (1 + (i : Int)) + j)
      exact (hy _ (by omega)).2.1
    · have hj1 : j < 1 := hj1
      show μ'.1 205 (1 * (1 + (i : Int)) + j) = μ.1 205 (1 * (1 + (i : Int)) + j)
      exact (hy _ (by omega)).2.2
    · have hj1 : j < 4 := hj1
      show μ'.1 206 (4 * (1 + (i : Int)) + j) = μ.1 206 (4 * (1 + (i : Int)) + j)
      exact hz _ (by omega)
    · have hj1 : j < 258 := hj1
      show μ'.1 207 (258 * (1 + (i : Int)) + j) = μ.1 207 (258 * (1 + (i : Int)) + j)
      exact congrFun (hK 207 (by unfold tp_tl; omega) (by decide) (by decide) (by decide) (by decide) (by decide)) _
    · have hj1 : j < 122 := hj1
      show μ'.1 208 (122 * (1 + (i : Int)) + j) = μ.1 208 (122 * (1 + (i : Int)) + j)
      exact hw _ (by omega)
    · have hj1 : j < 202 := hj1
      show μ'.1 209 (202 * (1 + (i : Int)) + j) = μ.1 209 (202 * (1 + (i : Int)) + j)
      exact congrFun (hK 209 (by unfold tp_tl; omega) (by decide) (by decide) (by decide) (by decide) (by decide)) _
    · have hj1 : j < 34 := hj1
      show μ'.1 210 (34 * (1 + (i : Int)) + j) = μ.1 210 (34 * (1 + (i : Int)) + j)
      exact congrFun (hK 210 (by unfold tp_tl; omega) (by decide) (by decide) (by decide) (by decide) (by decide)) _
set_option maxHeartbeats 4000000 in
set_option maxRecDepth 100000 in
theorem tp_R_k20 {μ μ' : tp_M} (h : tp_R μ) (hK : ∀ k, tp_tl k → k ≠ 1 → k ≠ 5 → (k < 28 ∨ 30 < k) → (k < 203 ∨ 206 < k) → k ≠ 209 → μ'.1 k = μ.1 k) (hy : ∀ q, 1 ≤ q → μ'.1 203 q = μ.1 203 q ∧ μ'.1 204 q = μ.1 204 q ∧ μ'.1 205 q = μ.1 205 q) (hz : ∀ j, 4 ≤ j → μ'.1 206 j = μ.1 206 j) (hm : ∀ t, 0 ≤ t → t < 4 → t ≠ 2 → μ'.1 5 t = μ.1 5 t ∧ μ'.1 206 t = μ.1 206 t) (hm2 : μ'.1 5 2 = μ'.1 206 2 ∧ (0 ≤ μ'.1 5 2 ∧ μ'.1 5 2 ≤ 2) ∧ (μ'.1 5 2 ≤ μ.1 5 2 ∨ (μ'.1 5 2 = 1 ∧ μ.1 5 2 = 0))) (hw : ∀ j, (j < 0 ∨ 101 ≤ j) → μ'.1 209 j = μ.1 209 j) (h1 : μ'.1 1 1 = 0 ∧ μ'.1 203 0 = 0) (h3 : μ'.1 1 2 = μ'.1 204 0 ∧ μ'.1 1 3 = μ'.1 205 0) (hC : tp_Lo μ'.1 28 (fun i => μ'.1 209 (0 + i))) : tp_R μ' := by
  refine ⟨tp_St_kept h.1 ⟨h1.1, h1.2⟩ h3 (fun t t0 t1 => ?_) (fun k hk hk1 => ?_) (fun k hk hk1 => ?_) (fun k hk hk1 => ?_) (fun k hk hk1 => ?_), fun i hi => ?_⟩
  · show μ'.1 5 t = μ'.1 206 (4 * 0 + t) ∧ 0 ≤ μ'.1 5 t ∧ μ'.1 5 t ≤ 2
    rw [show (4 : Int) * 0 + t = t by omega]
    by_cases q : t = 2
    · rw [q]; exact ⟨hm2.1, hm2.2.1⟩
    · rw [(hm t t0 t1 q).1, (hm t t0 t1 q).2]; exact tp_R_many h t t0 t1
  · have hk1 : (k : Int) < μ'.1 5 0 := hk1
    rcases (show k = 0 ∨ k = 1 by omega) with u | u <;> subst u
    · refine Or.inl ⟨by have := (hm 0 (by decide) (by decide) (by decide)).1; show _ < μ.1 5 0; omega, fun i i0 i1 => ?_, fun i i0 i1 => ?_⟩
      · rw [tp_cut_at (by omega), tp_cut_at (by omega)]; exact hK (1 + i) (by unfold tp_tl; omega) (by omega) (by omega) (by omega) (by omega) (by omega)
      · exact congrFun (hK 207 (by unfold tp_tl; omega) (by decide) (by decide) (by decide) (by decide) (by decide)) _
    · refine Or.inl ⟨by have := (hm 0 (by decide) (by decide) (by decide)).1; show _ < μ.1 5 0; omega, fun i i0 i1 => ?_, fun i i0 i1 => ?_⟩
      · rw [tp_cut_at (by omega), tp_cut_at (by omega)]; exact hK (1 + i) (by unfold tp_tl; omega) (by omega) (by omega) (by omega) (by omega) (by omega)
      · exact congrFun (hK 207 (by unfold tp_tl; omega) (by decide) (by decide) (by decide) (by decide) (by decide)) _
  · have hk1 : (k : Int) < μ'.1 5 1 := hk1
    rcases (show k = 0 ∨ k = 1 by omega) with u | u <;> subst u
    · refine Or.inl ⟨by have := (hm 1 (by decide) (by decide) (by decide)).1; show _ < μ.1 5 1; omega, fun i i0 i1 => ?_, fun i i0 i1 => ?_⟩
      · rw [tp_cut_at (by omega), tp_cut_at (by omega)]; exact hK (1 + i) (by unfold tp_tl; omega) (by omega) (by omega) (by omega) (by omega) (by omega)
      · exact congrFun (hK 208 (by unfold tp_tl; omega) (by decide) (by decide) (by decide) (by decide) (by decide)) _
    · refine Or.inl ⟨by have := (hm 1 (by decide) (by decide) (by decide)).1; show _ < μ.1 5 1; omega, fun i i0 i1 => ?_, fun i i0 i1 => ?_⟩
      · rw [tp_cut_at (by omega), tp_cut_at (by omega)]; exact hK (1 + i) (by unfold tp_tl; omega) (by omega) (by omega) (by omega) (by omega) (by omega)
      · exact congrFun (hK 208 (by unfold tp_tl; omega) (by decide) (by decide) (by decide) (by decide) (by decide)) _
  · have hk1 : (k : Int) < μ'.1 5 2 := hk1
    rcases (show k = 0 ∨ k = 1 by omega) with u | u <;> subst u
    · refine Or.inr ?_
      have e : (fun i : Int => tp_cut μ'.1 202 9 7 (202 * 0 + 101 * ((0 : Nat) : Int) + i)) = fun i => μ'.1 209 (0 + i) := by
        funext i
        exact congrArg (μ'.1 209) (by omega)
      rw [e]
      exact hC
    · refine Or.inl ⟨by show _ < μ.1 5 2; omega, fun i i0 i1 => ?_, fun i i0 i1 => ?_⟩
      · rw [tp_cut_at (by omega), tp_cut_at (by omega)]; exact hK (1 + i) (by unfold tp_tl; omega) (by omega) (by omega) (by omega) (by omega) (by omega)
      · exact hw _ (by omega)
  · have hk1 : (k : Int) < μ'.1 5 3 := hk1
    rcases (show k = 0 ∨ k = 1 by omega) with u | u <;> subst u
    · refine Or.inl ⟨by have := (hm 3 (by decide) (by decide) (by decide)).1; show _ < μ.1 5 3; omega, fun i i0 i1 => ?_, fun i i0 i1 => ?_⟩
      · rw [tp_cut_at (by omega), tp_cut_at (by omega)]; exact hK (1 + i) (by unfold tp_tl; omega) (by omega) (by omega) (by omega) (by omega) (by omega)
      · exact congrFun (hK 210 (by unfold tp_tl; omega) (by decide) (by decide) (by decide) (by decide) (by decide)) _
    · refine Or.inl ⟨by have := (hm 3 (by decide) (by decide) (by decide)).1; show _ < μ.1 5 3; omega, fun i i0 i1 => ?_, fun i i0 i1 => ?_⟩
      · rw [tp_cut_at (by omega), tp_cut_at (by omega)]; exact hK (1 + i) (by unfold tp_tl; omega) (by omega) (by omega) (by omega) (by omega) (by omega)
      · exact congrFun (hK 210 (by unfold tp_tl; omega) (by decide) (by decide) (by decide) (by decide) (by decide)) _
  · have c := h.2 i hi
    rw [tp_cut_eq (M := μ.1) (M' := μ'.1) (s := 84 + 39 * i) (n := 39) (fun k z1 z2 => hK k (by unfold tp_tl; omega) (by omega) (by omega) (by omega) (by omega) (by omega)), hK (84 + 39 * i) (by unfold tp_tl; omega) (by omega) (by omega) (by omega) (by omega) (by omega), hK 233 (by unfold tp_tl; omega) (by decide) (by decide) (by decide) (by decide) (by decide)]
    refine ⟨c.1, fun z => tp_St_mv (c.2 z) (fun i9 h9 j hj0 hj1 => ?_)⟩
    rcases (show i9 = 0 ∨ i9 = 1 ∨ i9 = 2 ∨ i9 = 3 ∨ i9 = 4 ∨ i9 = 5 ∨ i9 = 6 ∨ i9 = 7 ∨ i9 = 8 by omega) with u | u | u | u | u | u | u | u | u <;> subst u
    · have hj1 : j < 600 := hj1
      show μ'.1 202 (600 * (1 + (i : Int)) + j) = μ.1 202 (600 * (1 + (i : Int)) + j)
      exact congrFun (hK 202 (by unfold tp_tl; omega) (by decide) (by decide) (by decide) (by decide) (by decide)) _
    · have hj1 : j < 1 := hj1
      show μ'.1 203 (1 * (1 + (i : Int)) + j) = μ.1 203 (1 * (1 + (i : Int)) + j)
      exact (hy _ (by omega)).1
    · have hj1 : j < 1 := hj1
      show μ'.1 204 (1 * (1 + (i : Int)) + j) = μ.1 204 (1 * (1 + (i : Int)) + j)
      exact (hy _ (by omega)).2.1
    · have hj1 : j < 1 := hj1
      show μ'.1 205 (1 * (1 + (i : Int)) + j) = μ.1 205 (1 * (1 + (i : Int)) + j)
      exact (hy _ (by omega)).2.2
    · have hj1 : j < 4 := hj1
      show μ'.1 206 (4 * (1 + (i : Int)) + j) = μ.1 206 (4 * (1 + (i : Int)) + j)
      exact hz _ (by omega)
    · have hj1 : j < 258 := hj1
      show μ'.1 207 (258 * (1 + (i : Int)) + j) = μ.1 207 (258 * (1 + (i : Int)) + j)
      exact congrFun (hK 207 (by unfold tp_tl; omega) (by decide) (by decide) (by decide) (by decide) (by decide)) _
    · have hj1 : j < 122 := hj1
      show μ'.1 208 (122 * (1 + (i : Int)) + j) = μ.1 208 (122 * (1 + (i : Int)) + j)
      exact congrFun (hK 208 (by unfold tp_tl; omega) (by decide) (by decide) (by decide) (by decide) (by decide)) _
    · have hj1 : j < 202 := hj1
      show μ'.1 209 (202 * (1 + (i : Int)) + j) = μ.1 209 (202 * (1 + (i : Int)) + j)
      exact hw _ (by omega)
    · have hj1 : j < 34 := hj1
      show μ'.1 210 (34 * (1 + (i : Int)) + j) = μ.1 210 (34 * (1 + (i : Int)) + j)
      exact congrFun (hK 210 (by unfold tp_tl; omega) (by decide) (by decide) (by decide) (by decide) (by decide)) _
set_option maxHeartbeats 4000000 in
set_option maxRecDepth 100000 in
theorem tp_R_k21 {μ μ' : tp_M} (h : tp_R μ) (hK : ∀ k, tp_tl k → k ≠ 1 → k ≠ 5 → (k < 31 ∨ 33 < k) → (k < 203 ∨ 206 < k) → k ≠ 209 → μ'.1 k = μ.1 k) (hy : ∀ q, 1 ≤ q → μ'.1 203 q = μ.1 203 q ∧ μ'.1 204 q = μ.1 204 q ∧ μ'.1 205 q = μ.1 205 q) (hz : ∀ j, 4 ≤ j → μ'.1 206 j = μ.1 206 j) (hm : ∀ t, 0 ≤ t → t < 4 → t ≠ 2 → μ'.1 5 t = μ.1 5 t ∧ μ'.1 206 t = μ.1 206 t) (hm2 : μ'.1 5 2 = μ'.1 206 2 ∧ (0 ≤ μ'.1 5 2 ∧ μ'.1 5 2 ≤ 2) ∧ (μ'.1 5 2 ≤ μ.1 5 2 ∨ (μ'.1 5 2 = 2 ∧ μ.1 5 2 = 1))) (hw : ∀ j, (j < 101 ∨ 202 ≤ j) → μ'.1 209 j = μ.1 209 j) (h1 : μ'.1 1 1 = 0 ∧ μ'.1 203 0 = 0) (h3 : μ'.1 1 2 = μ'.1 204 0 ∧ μ'.1 1 3 = μ'.1 205 0) (hC : tp_Lo μ'.1 31 (fun i => μ'.1 209 (101 + i))) : tp_R μ' := by
  refine ⟨tp_St_kept h.1 ⟨h1.1, h1.2⟩ h3 (fun t t0 t1 => ?_) (fun k hk hk1 => ?_) (fun k hk hk1 => ?_) (fun k hk hk1 => ?_) (fun k hk hk1 => ?_), fun i hi => ?_⟩
  · show μ'.1 5 t = μ'.1 206 (4 * 0 + t) ∧ 0 ≤ μ'.1 5 t ∧ μ'.1 5 t ≤ 2
    rw [show (4 : Int) * 0 + t = t by omega]
    by_cases q : t = 2
    · rw [q]; exact ⟨hm2.1, hm2.2.1⟩
    · rw [(hm t t0 t1 q).1, (hm t t0 t1 q).2]; exact tp_R_many h t t0 t1
  · have hk1 : (k : Int) < μ'.1 5 0 := hk1
    rcases (show k = 0 ∨ k = 1 by omega) with u | u <;> subst u
    · refine Or.inl ⟨by have := (hm 0 (by decide) (by decide) (by decide)).1; show _ < μ.1 5 0; omega, fun i i0 i1 => ?_, fun i i0 i1 => ?_⟩
      · rw [tp_cut_at (by omega), tp_cut_at (by omega)]; exact hK (1 + i) (by unfold tp_tl; omega) (by omega) (by omega) (by omega) (by omega) (by omega)
      · exact congrFun (hK 207 (by unfold tp_tl; omega) (by decide) (by decide) (by decide) (by decide) (by decide)) _
    · refine Or.inl ⟨by have := (hm 0 (by decide) (by decide) (by decide)).1; show _ < μ.1 5 0; omega, fun i i0 i1 => ?_, fun i i0 i1 => ?_⟩
      · rw [tp_cut_at (by omega), tp_cut_at (by omega)]; exact hK (1 + i) (by unfold tp_tl; omega) (by omega) (by omega) (by omega) (by omega) (by omega)
      · exact congrFun (hK 207 (by unfold tp_tl; omega) (by decide) (by decide) (by decide) (by decide) (by decide)) _
  · have hk1 : (k : Int) < μ'.1 5 1 := hk1
    rcases (show k = 0 ∨ k = 1 by omega) with u | u <;> subst u
    · refine Or.inl ⟨by have := (hm 1 (by decide) (by decide) (by decide)).1; show _ < μ.1 5 1; omega, fun i i0 i1 => ?_, fun i i0 i1 => ?_⟩
      · rw [tp_cut_at (by omega), tp_cut_at (by omega)]; exact hK (1 + i) (by unfold tp_tl; omega) (by omega) (by omega) (by omega) (by omega) (by omega)
      · exact congrFun (hK 208 (by unfold tp_tl; omega) (by decide) (by decide) (by decide) (by decide) (by decide)) _
    · refine Or.inl ⟨by have := (hm 1 (by decide) (by decide) (by decide)).1; show _ < μ.1 5 1; omega, fun i i0 i1 => ?_, fun i i0 i1 => ?_⟩
      · rw [tp_cut_at (by omega), tp_cut_at (by omega)]; exact hK (1 + i) (by unfold tp_tl; omega) (by omega) (by omega) (by omega) (by omega) (by omega)
      · exact congrFun (hK 208 (by unfold tp_tl; omega) (by decide) (by decide) (by decide) (by decide) (by decide)) _
  · have hk1 : (k : Int) < μ'.1 5 2 := hk1
    rcases (show k = 0 ∨ k = 1 by omega) with u | u <;> subst u
    · refine Or.inl ⟨by show _ < μ.1 5 2; omega, fun i i0 i1 => ?_, fun i i0 i1 => ?_⟩
      · rw [tp_cut_at (by omega), tp_cut_at (by omega)]; exact hK (1 + i) (by unfold tp_tl; omega) (by omega) (by omega) (by omega) (by omega) (by omega)
      · exact hw _ (by omega)
    · refine Or.inr ?_
      have e : (fun i : Int => tp_cut μ'.1 202 9 7 (202 * 0 + 101 * ((1 : Nat) : Int) + i)) = fun i => μ'.1 209 (101 + i) := by
        funext i
        exact congrArg (μ'.1 209) (by omega)
      rw [e]
      exact hC
  · have hk1 : (k : Int) < μ'.1 5 3 := hk1
    rcases (show k = 0 ∨ k = 1 by omega) with u | u <;> subst u
    · refine Or.inl ⟨by have := (hm 3 (by decide) (by decide) (by decide)).1; show _ < μ.1 5 3; omega, fun i i0 i1 => ?_, fun i i0 i1 => ?_⟩
      · rw [tp_cut_at (by omega), tp_cut_at (by omega)]; exact hK (1 + i) (by unfold tp_tl; omega) (by omega) (by omega) (by omega) (by omega) (by omega)
      · exact congrFun (hK 210 (by unfold tp_tl; omega) (by decide) (by decide) (by decide) (by decide) (by decide)) _
    · refine Or.inl ⟨by have := (hm 3 (by decide) (by decide) (by decide)).1; show _ < μ.1 5 3; omega, fun i i0 i1 => ?_, fun i i0 i1 => ?_⟩
      · rw [tp_cut_at (by omega), tp_cut_at (by omega)]; exact hK (1 + i) (by unfold tp_tl; omega) (by omega) (by omega) (by omega) (by omega) (by omega)
      · exact congrFun (hK 210 (by unfold tp_tl; omega) (by decide) (by decide) (by decide) (by decide) (by decide)) _
  · have c := h.2 i hi
    rw [tp_cut_eq (M := μ.1) (M' := μ'.1) (s := 84 + 39 * i) (n := 39) (fun k z1 z2 => hK k (by unfold tp_tl; omega) (by omega) (by omega) (by omega) (by omega) (by omega)), hK (84 + 39 * i) (by unfold tp_tl; omega) (by omega) (by omega) (by omega) (by omega) (by omega), hK 233 (by unfold tp_tl; omega) (by decide) (by decide) (by decide) (by decide) (by decide)]
    refine ⟨c.1, fun z => tp_St_mv (c.2 z) (fun i9 h9 j hj0 hj1 => ?_)⟩
    rcases (show i9 = 0 ∨ i9 = 1 ∨ i9 = 2 ∨ i9 = 3 ∨ i9 = 4 ∨ i9 = 5 ∨ i9 = 6 ∨ i9 = 7 ∨ i9 = 8 by omega) with u | u | u | u | u | u | u | u | u <;> subst u
    · have hj1 : j < 600 := hj1
      show μ'.1 202 (600 * (1 + (i : Int)) + j) = μ.1 202 (600 * (1 + (i : Int)) + j)
      exact congrFun (hK 202 (by unfold tp_tl; omega) (by decide) (by decide) (by decide) (by decide) (by decide)) _
    · have hj1 : j < 1 := hj1
      show μ'.1 203 (1 * (1 + (i : Int)) + j) = μ.1 203 (1 * (1 + (i : Int)) + j)
      exact (hy _ (by omega)).1
    · have hj1 : j < 1 := hj1
      show μ'.1 204 (1 * (1 + (i : Int)) + j) = μ.1 204 (1 * (1 + (i : Int)) + j)
      exact (hy _ (by omega)).2.1
    · have hj1 : j < 1 := hj1
      show μ'.1 205 (1 * (1 + (i : Int)) + j) = μ.1 205 (1 * (1 + (i : Int)) + j)
      exact (hy _ (by omega)).2.2
    · have hj1 : j < 4 := hj1
      show μ'.1 206 (4 * (1 + (i : Int)) + j) = μ.1 206 (4 * (1 + (i : Int)) + j)
      exact hz _ (by omega)
    · have hj1 : j < 258 := hj1
      show μ'.1 207 (258 * (1 + (i : Int)) + j) = μ.1 207 (258 * (1 + (i : Int)) + j)
      exact congrFun (hK 207 (by unfold tp_tl; omega) (by decide) (by decide) (by decide) (by decide) (by decide)) _
    · have hj1 : j < 122 := hj1
      show μ'.1 208 (122 * (1 + (i : Int)) + j) = μ.1 208 (122 * (1 + (i : Int)) + j)
      exact congrFun (hK 208 (by unfold tp_tl; omega) (by decide) (by decide) (by decide) (by decide) (by decide)) _
    · have hj1 : j < 202 := hj1
      show μ'.1 209 (202 * (1 + (i : Int)) + j) = μ.1 209 (202 * (1 + (i : Int)) + j)
      exact hw _ (by omega)
    · have hj1 : j < 34 := hj1
      show μ'.1 210 (34 * (1 + (i : Int)) + j) = μ.1 210 (34 * (1 + (i : Int)) + j)
      exact congrFun (hK 210 (by unfold tp_tl; omega) (by decide) (by decide) (by decide) (by decide) (by decide)) _
set_option maxHeartbeats 4000000 in
set_option maxRecDepth 100000 in
theorem tp_R_k30 {μ μ' : tp_M} (h : tp_R μ) (hK : ∀ k, tp_tl k → k ≠ 1 → k ≠ 5 → (k < 34 ∨ 36 < k) → (k < 203 ∨ 206 < k) → k ≠ 210 → μ'.1 k = μ.1 k) (hy : ∀ q, 1 ≤ q → μ'.1 203 q = μ.1 203 q ∧ μ'.1 204 q = μ.1 204 q ∧ μ'.1 205 q = μ.1 205 q) (hz : ∀ j, 4 ≤ j → μ'.1 206 j = μ.1 206 j) (hm : ∀ t, 0 ≤ t → t < 4 → t ≠ 3 → μ'.1 5 t = μ.1 5 t ∧ μ'.1 206 t = μ.1 206 t) (hm2 : μ'.1 5 3 = μ'.1 206 3 ∧ (0 ≤ μ'.1 5 3 ∧ μ'.1 5 3 ≤ 2) ∧ (μ'.1 5 3 ≤ μ.1 5 3 ∨ (μ'.1 5 3 = 1 ∧ μ.1 5 3 = 0))) (hw : ∀ j, (j < 0 ∨ 17 ≤ j) → μ'.1 210 j = μ.1 210 j) (h1 : μ'.1 1 1 = 0 ∧ μ'.1 203 0 = 0) (h3 : μ'.1 1 2 = μ'.1 204 0 ∧ μ'.1 1 3 = μ'.1 205 0) (hC : tp_Lg μ'.1 34 (fun i => μ'.1 210 (0 + i))) : tp_R μ' := by
  refine ⟨tp_St_kept h.1 ⟨h1.1, h1.2⟩ h3 (fun t t0 t1 => ?_) (fun k hk hk1 => ?_) (fun k hk hk1 => ?_) (fun k hk hk1 => ?_) (fun k hk hk1 => ?_), fun i hi => ?_⟩
  · show μ'.1 5 t = μ'.1 206 (4 * 0 + t) ∧ 0 ≤ μ'.1 5 t ∧ μ'.1 5 t ≤ 2
    rw [show (4 : Int) * 0 + t = t by omega]
    by_cases q : t = 3
    · rw [q]; exact ⟨hm2.1, hm2.2.1⟩
    · rw [(hm t t0 t1 q).1, (hm t t0 t1 q).2]; exact tp_R_many h t t0 t1
  · have hk1 : (k : Int) < μ'.1 5 0 := hk1
    rcases (show k = 0 ∨ k = 1 by omega) with u | u <;> subst u
    · refine Or.inl ⟨by have := (hm 0 (by decide) (by decide) (by decide)).1; show _ < μ.1 5 0; omega, fun i i0 i1 => ?_, fun i i0 i1 => ?_⟩
      · rw [tp_cut_at (by omega), tp_cut_at (by omega)]; exact hK (1 + i) (by unfold tp_tl; omega) (by omega) (by omega) (by omega) (by omega) (by omega)
      · exact congrFun (hK 207 (by unfold tp_tl; omega) (by decide) (by decide) (by decide) (by decide) (by decide)) _
    · refine Or.inl ⟨by have := (hm 0 (by decide) (by decide) (by decide)).1; show _ < μ.1 5 0; omega, fun i i0 i1 => ?_, fun i i0 i1 => ?_⟩
      · rw [tp_cut_at (by omega), tp_cut_at (by omega)]; exact hK (1 + i) (by unfold tp_tl; omega) (by omega) (by omega) (by omega) (by omega) (by omega)
      · exact congrFun (hK 207 (by unfold tp_tl; omega) (by decide) (by decide) (by decide) (by decide) (by decide)) _
  · have hk1 : (k : Int) < μ'.1 5 1 := hk1
    rcases (show k = 0 ∨ k = 1 by omega) with u | u <;> subst u
    · refine Or.inl ⟨by have := (hm 1 (by decide) (by decide) (by decide)).1; show _ < μ.1 5 1; omega, fun i i0 i1 => ?_, fun i i0 i1 => ?_⟩
      · rw [tp_cut_at (by omega), tp_cut_at (by omega)]; exact hK (1 + i) (by unfold tp_tl; omega) (by omega) (by omega) (by omega) (by omega) (by omega)
      · exact congrFun (hK 208 (by unfold tp_tl; omega) (by decide) (by decide) (by decide) (by decide) (by decide)) _
    · refine Or.inl ⟨by have := (hm 1 (by decide) (by decide) (by decide)).1; show _ < μ.1 5 1; omega, fun i i0 i1 => ?_, fun i i0 i1 => ?_⟩
      · rw [tp_cut_at (by omega), tp_cut_at (by omega)]; exact hK (1 + i) (by unfold tp_tl; omega) (by omega) (by omega) (by omega) (by omega) (by omega)
      · exact congrFun (hK 208 (by unfold tp_tl; omega) (by decide) (by decide) (by decide) (by decide) (by decide)) _
  · have hk1 : (k : Int) < μ'.1 5 2 := hk1
    rcases (show k = 0 ∨ k = 1 by omega) with u | u <;> subst u
    · refine Or.inl ⟨by have := (hm 2 (by decide) (by decide) (by decide)).1; show _ < μ.1 5 2; omega, fun i i0 i1 => ?_, fun i i0 i1 => ?_⟩
      · rw [tp_cut_at (by omega), tp_cut_at (by omega)]; exact hK (1 + i) (by unfold tp_tl; omega) (by omega) (by omega) (by omega) (by omega) (by omega)
      · exact congrFun (hK 209 (by unfold tp_tl; omega) (by decide) (by decide) (by decide) (by decide) (by decide)) _
    · refine Or.inl ⟨by have := (hm 2 (by decide) (by decide) (by decide)).1; show _ < μ.1 5 2; omega, fun i i0 i1 => ?_, fun i i0 i1 => ?_⟩
      · rw [tp_cut_at (by omega), tp_cut_at (by omega)]; exact hK (1 + i) (by unfold tp_tl; omega) (by omega) (by omega) (by omega) (by omega) (by omega)
      · exact congrFun (hK 209 (by unfold tp_tl; omega) (by decide) (by decide) (by decide) (by decide) (by decide)) _
  · have hk1 : (k : Int) < μ'.1 5 3 := hk1
    rcases (show k = 0 ∨ k = 1 by omega) with u | u <;> subst u
    · refine Or.inr ?_
      have e : (fun i : Int => tp_cut μ'.1 202 9 8 (34 * 0 + 17 * ((0 : Nat) : Int) + i)) = fun i => μ'.1 210 (0 + i) := by
        funext i
        exact congrArg (μ'.1 210) (by omega)
      rw [e]
      exact hC
    · refine Or.inl ⟨by show _ < μ.1 5 3; omega, fun i i0 i1 => ?_, fun i i0 i1 => ?_⟩
      · rw [tp_cut_at (by omega), tp_cut_at (by omega)]; exact hK (1 + i) (by unfold tp_tl; omega) (by omega) (by omega) (by omega) (by omega) (by omega)
      · exact hw _ (by omega)
  · have c := h.2 i hi
    rw [tp_cut_eq (M := μ.1) (M' := μ'.1) (s := 84 + 39 * i) (n := 39) (fun k z1 z2 => hK k (by unfold tp_tl; omega) (by omega) (by omega) (by omega) (by omega) (by omega)), hK (84 + 39 * i) (by unfold tp_tl; omega) (by omega) (by omega) (by omega) (by omega) (by omega), hK 233 (by unfold tp_tl; omega) (by decide) (by decide) (by decide) (by decide) (by decide)]
    refine ⟨c.1, fun z => tp_St_mv (c.2 z) (fun i9 h9 j hj0 hj1 => ?_)⟩
    rcases (show i9 = 0 ∨ i9 = 1 ∨ i9 = 2 ∨ i9 = 3 ∨ i9 = 4 ∨ i9 = 5 ∨ i9 = 6 ∨ i9 = 7 ∨ i9 = 8 by omega) with u | u | u | u | u | u | u | u | u <;> subst u
    · have hj1 : j < 600 := hj1
      show μ'.1 202 (600 * (1 + (i : Int)) + j) = μ.1 202 (600 * (1 + (i : Int)) + j)
      exact congrFun (hK 202 (by unfold tp_tl; omega) (by decide) (by decide) (by decide) (by decide) (by decide)) _
    · have hj1 : j < 1 := hj1
      show μ'.1 203 (1 * (1 + (i : Int)) + j) = μ.1 203 (1 * (1 + (i : Int)) + j)
      exact (hy _ (by omega)).1
    · have hj1 : j < 1 := hj1
      show μ'.1 204 (1 * (1 + (i : Int)) + j) = μ.1 204 (1 * (1 + (i : Int)) + j)
      exact (hy _ (by omega)).2.1
    · have hj1 : j < 1 := hj1
      show μ'.1 205 (1 * (1 + (i : Int)) + j) = μ.1 205 (1 * (1 + (i : Int)) + j)
      exact (hy _ (by omega)).2.2
    · have hj1 : j < 4 := hj1
      show μ'.1 206 (4 * (1 + (i : Int)) + j) = μ.1 206 (4 * (1 + (i : Int)) + j)
      exact hz _ (by omega)
    · have hj1 : j < 258 := hj1
      show μ'.1 207 (258 * (1 + (i : Int)) + j) = μ.1 207 (258 * (1 + (i : Int)) + j)
      exact congrFun (hK 207 (by unfold tp_tl; omega) (by decide) (by decide) (by decide) (by decide) (by decide)) _
    · have hj1 : j < 122 := hj1
      show μ'.1 208 (122 * (1 + (i : Int)) + j) = μ.1 208 (122 * (1 + (i : Int)) + j)
      exact congrFun (hK 208 (by unfold tp_tl; omega) (by decide) (by decide) (by decide) (by decide) (by decide)) _
    · have hj1 : j < 202 := hj1
      show μ'.1 209 (202 * (1 + (i : Int)) + j) = μ.1 209 (202 * (1 + (i : Int)) + j)
      exact congrFun (hK 209 (by unfold tp_tl; omega) (by decide) (by decide) (by decide) (by decide) (by decide)) _
    · have hj1 : j < 34 := hj1
      show μ'.1 210 (34 * (1 + (i : Int)) + j) = μ.1 210 (34 * (1 + (i : Int)) + j)
      exact hw _ (by omega)
set_option maxHeartbeats 4000000 in
set_option maxRecDepth 100000 in
theorem tp_R_k31 {μ μ' : tp_M} (h : tp_R μ) (hK : ∀ k, tp_tl k → k ≠ 1 → k ≠ 5 → (k < 37 ∨ 39 < k) → (k < 203 ∨ 206 < k) → k ≠ 210 → μ'.1 k = μ.1 k) (hy : ∀ q, 1 ≤ q → μ'.1 203 q = μ.1 203 q ∧ μ'.1 204 q = μ.1 204 q ∧ μ'.1 205 q = μ.1 205 q) (hz : ∀ j, 4 ≤ j → μ'.1 206 j = μ.1 206 j) (hm : ∀ t, 0 ≤ t → t < 4 → t ≠ 3 → μ'.1 5 t = μ.1 5 t ∧ μ'.1 206 t = μ.1 206 t) (hm2 : μ'.1 5 3 = μ'.1 206 3 ∧ (0 ≤ μ'.1 5 3 ∧ μ'.1 5 3 ≤ 2) ∧ (μ'.1 5 3 ≤ μ.1 5 3 ∨ (μ'.1 5 3 = 2 ∧ μ.1 5 3 = 1))) (hw : ∀ j, (j < 17 ∨ 34 ≤ j) → μ'.1 210 j = μ.1 210 j) (h1 : μ'.1 1 1 = 0 ∧ μ'.1 203 0 = 0) (h3 : μ'.1 1 2 = μ'.1 204 0 ∧ μ'.1 1 3 = μ'.1 205 0) (hC : tp_Lg μ'.1 37 (fun i => μ'.1 210 (17 + i))) : tp_R μ' := by
  refine ⟨tp_St_kept h.1 ⟨h1.1, h1.2⟩ h3 (fun t t0 t1 => ?_) (fun k hk hk1 => ?_) (fun k hk hk1 => ?_) (fun k hk hk1 => ?_) (fun k hk hk1 => ?_), fun i hi => ?_⟩
  · show μ'.1 5 t = μ'.1 206 (4 * 0 + t) ∧ 0 ≤ μ'.1 5 t ∧ μ'.1 5 t ≤ 2
    rw [show (4 : Int) * 0 + t = t by omega]
    by_cases q : t = 3
    · rw [q]; exact ⟨hm2.1, hm2.2.1⟩
    · rw [(hm t t0 t1 q).1, (hm t t0 t1 q).2]; exact tp_R_many h t t0 t1
  · have hk1 : (k : Int) < μ'.1 5 0 := hk1
    rcases (show k = 0 ∨ k = 1 by omega) with u | u <;> subst u
    · refine Or.inl ⟨by have := (hm 0 (by decide) (by decide) (by decide)).1; show _ < μ.1 5 0; omega, fun i i0 i1 => ?_, fun i i0 i1 => ?_⟩
      · rw [tp_cut_at (by omega), tp_cut_at (by omega)]; exact hK (1 + i) (by unfold tp_tl; omega) (by omega) (by omega) (by omega) (by omega) (by omega)
      · exact congrFun (hK 207 (by unfold tp_tl; omega) (by decide) (by decide) (by decide) (by decide) (by decide)) _
    · refine Or.inl ⟨by have := (hm 0 (by decide) (by decide) (by decide)).1; show _ < μ.1 5 0; omega, fun i i0 i1 => ?_, fun i i0 i1 => ?_⟩
      · rw [tp_cut_at (by omega), tp_cut_at (by omega)]; exact hK (1 + i) (by unfold tp_tl; omega) (by omega) (by omega) (by omega) (by omega) (by omega)
      · exact congrFun (hK 207 (by unfold tp_tl; omega) (by decide) (by decide) (by decide) (by decide) (by decide)) _
  · have hk1 : (k : Int) < μ'.1 5 1 := hk1
    rcases (show k = 0 ∨ k = 1 by omega) with u | u <;> subst u
    · refine Or.inl ⟨by have := (hm 1 (by decide) (by decide) (by decide)).1; show _ < μ.1 5 1; omega, fun i i0 i1 => ?_, fun i i0 i1 => ?_⟩
      · rw [tp_cut_at (by omega), tp_cut_at (by omega)]; exact hK (1 + i) (by unfold tp_tl; omega) (by omega) (by omega) (by omega) (by omega) (by omega)
      · exact congrFun (hK 208 (by unfold tp_tl; omega) (by decide) (by decide) (by decide) (by decide) (by decide)) _
    · refine Or.inl ⟨by have := (hm 1 (by decide) (by decide) (by decide)).1; show _ < μ.1 5 1; omega, fun i i0 i1 => ?_, fun i i0 i1 => ?_⟩
      · rw [tp_cut_at (by omega), tp_cut_at (by omega)]; exact hK (1 + i) (by unfold tp_tl; omega) (by omega) (by omega) (by omega) (by omega) (by omega)
      · exact congrFun (hK 208 (by unfold tp_tl; omega) (by decide) (by decide) (by decide) (by decide) (by decide)) _
  · have hk1 : (k : Int) < μ'.1 5 2 := hk1
    rcases (show k = 0 ∨ k = 1 by omega) with u | u <;> subst u
    · refine Or.inl ⟨by have := (hm 2 (by decide) (by decide) (by decide)).1; show _ < μ.1 5 2; omega, fun i i0 i1 => ?_, fun i i0 i1 => ?_⟩
      · rw [tp_cut_at (by omega), tp_cut_at (by omega)]; exact hK (1 + i) (by unfold tp_tl; omega) (by omega) (by omega) (by omega) (by omega) (by omega)
      · exact congrFun (hK 209 (by unfold tp_tl; omega) (by decide) (by decide) (by decide) (by decide) (by decide)) _
    · refine Or.inl ⟨by have := (hm 2 (by decide) (by decide) (by decide)).1; show _ < μ.1 5 2; omega, fun i i0 i1 => ?_, fun i i0 i1 => ?_⟩
      · rw [tp_cut_at (by omega), tp_cut_at (by omega)]; exact hK (1 + i) (by unfold tp_tl; omega) (by omega) (by omega) (by omega) (by omega) (by omega)
      · exact congrFun (hK 209 (by unfold tp_tl; omega) (by decide) (by decide) (by decide) (by decide) (by decide)) _
  · have hk1 : (k : Int) < μ'.1 5 3 := hk1
    rcases (show k = 0 ∨ k = 1 by omega) with u | u <;> subst u
    · refine Or.inl ⟨by show _ < μ.1 5 3; omega, fun i i0 i1 => ?_, fun i i0 i1 => ?_⟩
      · rw [tp_cut_at (by omega), tp_cut_at (by omega)]; exact hK (1 + i) (by unfold tp_tl; omega) (by omega) (by omega) (by omega) (by omega) (by omega)
      · exact hw _ (by omega)
    · refine Or.inr ?_
      have e : (fun i : Int => tp_cut μ'.1 202 9 8 (34 * 0 + 17 * ((1 : Nat) : Int) + i)) = fun i => μ'.1 210 (17 + i) := by
        funext i
        exact congrArg (μ'.1 210) (by omega)
      rw [e]
      exact hC
  · have c := h.2 i hi
    rw [tp_cut_eq (M := μ.1) (M' := μ'.1) (s := 84 + 39 * i) (n := 39) (fun k z1 z2 => hK k (by unfold tp_tl; omega) (by omega) (by omega) (by omega) (by omega) (by omega)), hK (84 + 39 * i) (by unfold tp_tl; omega) (by omega) (by omega) (by omega) (by omega) (by omega), hK 233 (by unfold tp_tl; omega) (by decide) (by decide) (by decide) (by decide) (by decide)]
    refine ⟨c.1, fun z => tp_St_mv (c.2 z) (fun i9 h9 j hj0 hj1 => ?_)⟩
    rcases (show i9 = 0 ∨ i9 = 1 ∨ i9 = 2 ∨ i9 = 3 ∨ i9 = 4 ∨ i9 = 5 ∨ i9 = 6 ∨ i9 = 7 ∨ i9 = 8 by omega) with u | u | u | u | u | u | u | u | u <;> subst u
    · have hj1 : j < 600 := hj1
      show μ'.1 202 (600 * (1 + (i : Int)) + j) = μ.1 202 (600 * (1 + (i : Int)) + j)
      exact congrFun (hK 202 (by unfold tp_tl; omega) (by decide) (by decide) (by decide) (by decide) (by decide)) _
    · have hj1 : j < 1 := hj1
      show μ'.1 203 (1 * (1 + (i : Int)) + j) = μ.1 203 (1 * (1 + (i : Int)) + j)
      exact (hy _ (by omega)).1
    · have hj1 : j < 1 := hj1
      show μ'.1 204 (1 * (1 + (i : Int)) + j) = μ.1 204 (1 * (1 + (i : Int)) + j)
      exact (hy _ (by omega)).2.1
    · have hj1 : j < 1 := hj1
      show μ'.1 205 (1 * (1 + (i : Int)) + j) = μ.1 205 (1 * (1 + (i : Int)) + j)
      exact (hy _ (by omega)).2.2
    · have hj1 : j < 4 := hj1
      show μ'.1 206 (4 * (1 + (i : Int)) + j) = μ.1 206 (4 * (1 + (i : Int)) + j)
      exact hz _ (by omega)
    · have hj1 : j < 258 := hj1
      show μ'.1 207 (258 * (1 + (i : Int)) + j) = μ.1 207 (258 * (1 + (i : Int)) + j)
      exact congrFun (hK 207 (by unfold tp_tl; omega) (by decide) (by decide) (by decide) (by decide) (by decide)) _
    · have hj1 : j < 122 := hj1
      show μ'.1 208 (122 * (1 + (i : Int)) + j) = μ.1 208 (122 * (1 + (i : Int)) + j)
      exact congrFun (hK 208 (by unfold tp_tl; omega) (by decide) (by decide) (by decide) (by decide) (by decide)) _
    · have hj1 : j < 202 := hj1
      show μ'.1 209 (202 * (1 + (i : Int)) + j) = μ.1 209 (202 * (1 + (i : Int)) + j)
      exact congrFun (hK 209 (by unfold tp_tl; omega) (by decide) (by decide) (by decide) (by decide) (by decide)) _
    · have hj1 : j < 34 := hj1
      show μ'.1 210 (34 * (1 + (i : Int)) + j) = μ.1 210 (34 * (1 + (i : Int)) + j)
      exact hw _ (by omega)
