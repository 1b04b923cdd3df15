/-- the log that is asked for, as the reference reads it -/
def f_L (lg : Int) (g : Int → Int) (μ : tp_M) : Prop := (0 ≤ lg ∧ lg ≤ 1) ∧ μ.1 201 70 = lg ∧ (∀ i, 0 ≤ i → i < 17 → μ.1 210 (17 * lg + i) = g i) ∧ (0 ≤ g 0 ∧ g 0 ≤ 8) ∧ ∀ i, 0 ≤ i → i < g 0 → (0 ≤ g (1 + 2 * i) ∧ g (1 + 2 * i) ≤ 39) ∧ (0 ≤ g (2 + 2 * i) ∧ g (2 + 2 * i) ≤ 99)
/-- what fits, as the reference holds it -/
def f_R (f A : Int → Int) (n : Int) (σ : tp_M) (s : Int × (Int → Int)) (μ : tp_M) : Prop := μ.1 201 73 = s.1 ∧ (∀ i, 0 ≤ i → i < s.1 → μ.1 231 i = s.2 i) ∧ ∀ i a, 0 ≤ i → i < s.1 → 0 ≤ a → a < f 0 → μ.1 232 (40 * i + a) = q_O A n σ (s.2 i) a
def v_G3 (μ0 μ : tp_M) : Prop := (∀ c, c ≠ 201 → c ≠ 223 → c ≠ 224 → c ≠ 225 → c ≠ 226 → c ≠ 231 → c ≠ 232 → μ.1 c = μ0.1 c) ∧ (∀ j, j ≠ 62 → j ≠ 63 → j ≠ 73 → μ.1 201 j = μ0.1 201 j)
theorem v_G3_rf {μ : tp_M} : v_G3 μ μ := ⟨fun _ _ _ _ _ _ _ _ => rfl, fun _ _ _ _ => rfl⟩
theorem v_G3_2 {μ μ1 μ2 : tp_M} (h : v_G3 μ μ1) (h2 : v_G2 μ1 μ2) : v_G3 μ μ2 := ⟨fun c z1 z2 z3 z4 z5 z6 z7 => (h2.1 c z1 z2 z3 z4 z5).trans (h.1 c z1 z2 z3 z4 z5 z6 z7), fun j z1 z2 z3 => (h2.2 j z1 z2).trans (h.2 j z1 z2 z3)⟩
theorem m_T_G3 {n : Int} {A B Y : Int → Int} {E D U T : Int} {μ μ' : tp_M} (h : v_G3 μ μ') (hT : m_T n A B Y E D U T μ) : m_T n A B Y E D U T μ' := by
  unfold m_T
  rw [h.2 27 (by omega) (by omega) (by omega), h.2 28 (by omega) (by omega) (by omega), h.2 30 (by omega) (by omega) (by omega), h.2 31 (by omega) (by omega) (by omega), h.2 32 (by omega) (by omega) (by omega), h.1 212 (by omega) (by omega) (by omega) (by omega) (by omega) (by omega) (by omega), h.1 213 (by omega) (by omega) (by omega) (by omega) (by omega) (by omega) (by omega), h.1 214 (by omega) (by omega) (by omega) (by omega) (by omega) (by omega) (by omega)]
  exact hT
theorem v_Q_G3 {σ μ μ' : tp_M} (h : v_G3 μ μ') (hQ : v_Q σ μ) : v_Q σ μ' := by
  unfold v_Q
  rw [h.2 47 (by omega) (by omega) (by omega), h.1 216 (by omega) (by omega) (by omega) (by omega) (by omega) (by omega) (by omega), h.1 220 (by omega) (by omega) (by omega) (by omega) (by omega) (by omega) (by omega), h.1 221 (by omega) (by omega) (by omega) (by omega) (by omega) (by omega) (by omega)]
  exact hQ
theorem f_L_G3 {lg : Int} {g : Int → Int} {μ μ' : tp_M} (h : v_G3 μ μ') (hL : f_L lg g μ) : f_L lg g μ' := by
  unfold f_L
  rw [h.2 70 (by omega) (by omega) (by omega), h.1 210 (by omega) (by omega) (by omega) (by omega) (by omega) (by omega) (by omega)]
  exact hL
theorem v_G3_kp {μ μ1 μ2 : tp_M} (h : tp_kp μ μ1) (h2 : v_G3 μ1 μ2) : tp_kp μ μ2 := fun k hk => (h2.1 k (by unfold tp_tl at hk; omega) (by unfold tp_tl at hk; omega) (by unfold tp_tl at hk; omega) (by unfold tp_tl at hk; omega) (by unfold tp_tl at hk; omega) (by unfold tp_tl at hk; omega) (by unfold tp_tl at hk; omega)).trans (h k hk)
set_option maxHeartbeats 4000000 in
set_option maxRecDepth 100000 in
theorem l_isSo {G : tp_G} {μ : tp_M} (hG : tp_Gf G = true) {A : Int → Int} {n p lg : Int} {σ : tp_M} {g : Int → Int} (hn : 0 ≤ n ∧ n ≤ 200) (hn6 : μ.1 201 27 = n) (hA : ∀ j, 0 ≤ j → j < n → μ.1 212 j = A j) (hI : ∀ i, 0 ≤ i → i < n → μ.1 226 i = q_im (q_Jp n σ p) (q_WZ σ p) i) (hL : f_L lg g μ) : ∀ k, k ≤ g 0 → 0 ≤ k → q_fP A n σ g k p → tp_g G mX12_isSo 2 [some (tR (some 201)), some (tI k)] [] μ (fun r μ' => ∃ v, r = some (tI v) ∧ (v = 0 ∨ v = 1) ∧ (v = 1 ↔ q_fP A n σ g (g 0) p) ∧ μ' = μ) := by
  refine tp_ind _ ?_
  intro k hkN ih  h0 hz
  obtain ⟨l1, l2, l3, l4, l5⟩ := hL
  have e0 : μ.1 210 (17 * (μ.1 201 70)) = g 0 := by rw [← l3 0 (by omega) (by omega), l2]; exact congrArg (μ.1 210) (by omega)
  have e1 : k < g 0 → μ.1 210 (17 * (μ.1 201 70) + 2 * k + 1) = g (1 + 2 * k) := fun z => by rw [← l3 (1 + 2 * k) (by omega) (by omega), l2]; exact congrArg (μ.1 210) (by omega)
  have e2 : k < g 0 → μ.1 210 (17 * (μ.1 201 70) + 2 * k + 2) = g (2 + 2 * k) := fun z => by rw [← l3 (2 + 2 * k) (by omega) (by omega), l2]; exact congrArg (μ.1 210) (by omega)
  refine g_iload_n rfl rfl ?_
  refine g_aload_n rfl rfl ?_
  refine g_iV (as := []) mX12_facts_ok rfl rfl rfl rfl rfl rfl (by decide) rfl rfl rfl ?_
  refine g_aload_n rfl rfl ?_
  refine x_getF (r := 210) hG rfl rfl (by decide) (Or.inr ⟨_, rfl⟩) rfl ?_
  refine g_bipush rfl ⟨by decide, by decide⟩ (by decide) ?_
  refine g_aload_n rfl rfl ?_
  refine x_geti (v := (μ.1 201 70)) rfl rfl (by decide) (Or.inl rfl) rfl ?_
  refine x_imul (z := 17 * (μ.1 201 70)) rfl (by omega) ⟨by omega, by omega⟩ ?_
  refine x_iald (v := (μ.1 210 (17 * μ.1 201 70))) rfl rfl (by decide) (by omega) (by omega) rfl ?_
  refine x_ireturn rfl rfl ?_
  intro _
  refine g_icmp_ge (tgt := 37) rfl (by decide) (fun h1 => ?_) (fun h1 => ?_)
  · refine g_iconst rfl ⟨by decide, by decide⟩ ?_
    refine x_zreturn rfl rfl (Or.inr rfl) ?_
    exact ⟨1, rfl, Or.inr rfl, ⟨fun _ => by rw [show g 0 = k by omega]; exact hz, fun _ => rfl⟩, rfl⟩
  · refine g_aload_n rfl rfl ?_
    refine g_aload_n rfl rfl ?_
    refine g_iload_n rfl rfl ?_
    refine g_iconst rfl ⟨by decide, by decide⟩ ?_
    refine g_iV (as := [tI k, tI 0]) mX12_factOf_ok rfl rfl rfl rfl rfl rfl (by decide) rfl rfl rfl ?_
    refine g_aload_n rfl rfl ?_
    refine x_getF (r := 210) hG rfl rfl (by decide) (Or.inr ⟨_, rfl⟩) rfl ?_
    refine g_bipush rfl ⟨by decide, by decide⟩ (by decide) ?_
    refine g_aload_n rfl rfl ?_
    refine x_geti (v := (μ.1 201 70)) rfl rfl (by decide) (Or.inl rfl) rfl ?_
    refine x_imul (z := 17 * (μ.1 201 70)) rfl (by omega) ⟨by omega, by omega⟩ ?_
    refine g_iconst rfl ⟨by decide, by decide⟩ ?_
    refine x_iadd (z := 17 * (μ.1 201 70) + 1) rfl (by omega) ⟨by omega, by omega⟩ ?_
    refine g_iconst rfl ⟨by decide, by decide⟩ ?_
    refine g_iload_n rfl rfl ?_
    refine x_imul (z := 2 * k) rfl (by omega) ⟨by omega, by omega⟩ ?_
    refine x_iadd (z := 17 * (μ.1 201 70) + 2 * k + 1) rfl (by omega) ⟨by omega, by omega⟩ ?_
    refine g_iload_n rfl rfl ?_
    refine x_iadd (z := 17 * (μ.1 201 70) + 2 * k + 1) rfl (by omega) ⟨by omega, by omega⟩ ?_
    refine x_iald (v := (μ.1 210 (17 * μ.1 201 70 + 2 * k + 1))) rfl rfl (by decide) (by omega) (by omega) rfl ?_
    refine x_ireturn rfl rfl ?_
    intro _
    refine g_cV (as := [tI (μ.1 210 (17 * μ.1 201 70 + 2 * k + 1))]) ((show tp_k G mX12_rebuiltAt [tR (some 201), tI ((μ.1 210 (17 * μ.1 201 70 + 2 * k + 1)))] μ (fun r μ' => r = some (tI (q_O A n σ p ((μ.1 210 (17 * μ.1 201 70 + 2 * k + 1))))) ∧ μ' = μ) from s_rat hG hn hn6 hA hI)) rfl rfl mX12_rebuiltAt_ok rfl rfl rfl (by decide) rfl rfl rfl ?_
    rintro _ w9 ⟨rfl, hw9⟩ _
    have hw9 := hw9.symm
    subst hw9
    refine g_aload_n rfl rfl ?_
    refine g_iload_n rfl rfl ?_
    refine g_iconst rfl ⟨by decide, by decide⟩ ?_
    refine g_iV (as := [tI k, tI 1]) mX12_factOf_ok rfl rfl rfl rfl rfl rfl (by decide) rfl rfl rfl ?_
    refine g_aload_n rfl rfl ?_
    refine x_getF (r := 210) hG rfl rfl (by decide) (Or.inr ⟨_, rfl⟩) rfl ?_
    refine g_bipush rfl ⟨by decide, by decide⟩ (by decide) ?_
    refine g_aload_n rfl rfl ?_
    refine x_geti (v := (μ.1 201 70)) rfl rfl (by decide) (Or.inl rfl) rfl ?_
    refine x_imul (z := 17 * (μ.1 201 70)) rfl (by omega) ⟨by omega, by omega⟩ ?_
    refine g_iconst rfl ⟨by decide, by decide⟩ ?_
    refine x_iadd (z := 17 * (μ.1 201 70) + 1) rfl (by omega) ⟨by omega, by omega⟩ ?_
    refine g_iconst rfl ⟨by decide, by decide⟩ ?_
    refine g_iload_n rfl rfl ?_
    refine x_imul (z := 2 * k) rfl (by omega) ⟨by omega, by omega⟩ ?_
    refine x_iadd (z := 17 * (μ.1 201 70) + 2 * k + 1) rfl (by omega) ⟨by omega, by omega⟩ ?_
    refine g_iload_n rfl rfl ?_
    refine x_iadd (z := 17 * (μ.1 201 70) + 2 * k + 2) rfl (by omega) ⟨by omega, by omega⟩ ?_
    refine x_iald (v := (μ.1 210 (17 * μ.1 201 70 + 2 * k + 2))) rfl rfl (by decide) (by omega) (by omega) rfl ?_
    refine x_ireturn rfl rfl ?_
    intro _
    refine g_icmp_eq (tgt := 31) rfl (by decide) (fun h2 => ?_) (fun h2 => ?_)
    · refine x_iinc (z := k + 1) rfl rfl (by omega) ⟨by omega, by omega⟩ rfl rfl ?_
      refine g_goto (tgt := 2) rfl (by decide) ?_
      exact ih (by omega) (by omega) (fun j j0 j1 => by rcases (show j < k ∨ j = k by omega) with u | u; (exact hz j j0 u); (rw [u, ← e1 (by omega), ← e2 (by omega)]; omega))
    · refine g_iconst rfl ⟨by decide, by decide⟩ ?_
      refine x_zreturn rfl rfl (Or.inl rfl) ?_
      refine ⟨0, rfl, Or.inl rfl, ⟨fun z => absurd z (by decide), fun z => ?_⟩, rfl⟩
      have z9 := z k h0 (by omega)
      rw [← e1 (by omega), ← e2 (by omega)] at z9
      omega
set_option maxHeartbeats 4000000 in
set_option maxRecDepth 100000 in
theorem s_isSo {G : tp_G} {μ : tp_M} (hG : tp_Gf G = true) {A : Int → Int} {n p lg : Int} {σ : tp_M} {g : Int → Int} (hn : 0 ≤ n ∧ n ≤ 200) (hn6 : μ.1 201 27 = n) (hA : ∀ j, 0 ≤ j → j < n → μ.1 212 j = A j) (hI : ∀ i, 0 ≤ i → i < n → μ.1 226 i = q_im (q_Jp n σ p) (q_WZ σ p) i) (hL : f_L lg g μ) : tp_k G mX12_isSo [tR (some 201)] μ (fun r μ' => ∃ v, r = some (tI v) ∧ (v = 0 ∨ v = 1) ∧ (v = 1 ↔ q_fP A n σ g (g 0) p) ∧ μ' = μ) := by
  refine tp_ok_of mX12_isSo_ok rfl (Nat.le_refl _) ?_
  refine g_iconst rfl ⟨by decide, by decide⟩ ?_
  refine g_istore_n rfl rfl rfl ?_
  exact l_isSo hG hn hn6 hA hI hL 0 hL.2.2.2.1.1 (by omega) (fun j j0 j1 => by omega)
set_option maxHeartbeats 4000000 in
set_option maxRecDepth 100000 in
theorem l_fiI {G : tp_G} (hG : tp_Gf G = true) {f A : Int → Int} {n p N : Int} {μ0 σ : tp_M} (hn : 0 ≤ n ∧ n ≤ 200) (hN : 0 ≤ N ∧ N ≤ 255) (hf0 : 0 ≤ f 0 ∧ f 0 ≤ 40) (h73 : μ0.1 201 73 = N) (h26 : μ0.1 201 26 = f 0) (hn6 : μ0.1 201 27 = n) (hA : ∀ j, 0 ≤ j → j < n → μ0.1 212 j = A j) (hI : ∀ i, 0 ≤ i → i < n → μ0.1 226 i = q_im (q_Jp n σ p) (q_WZ σ p) i) {Φ : Option tp_V → tp_M → Prop} (hΦ : ∀ μ, (∀ a, 0 ≤ a → a < f 0 → μ.1 232 (40 * N + a) = q_O A n σ p a) → (∀ j, j < 40 * N → μ.1 232 j = μ0.1 232 j) → q_f1 232 μ0 μ → tp_g G mX12_findsAll 76 [some (tR (some 201)), some (tI p), some (tI (f 0))] [] μ Φ) : ∀ k, k ≤ f 0 → ∀ (μ : tp_M), 0 ≤ k → (∀ a, 0 ≤ a → a < k → μ.1 232 (40 * N + a) = q_O A n σ p a) → (∀ j, j < 40 * N → μ.1 232 j = μ0.1 232 j) → q_f1 232 μ0 μ → tp_g G mX12_findsAll 43 [some (tR (some 201)), some (tI p), some (tI k)] [] μ Φ := by
  refine tp_ind _ ?_
  intro k hkN ih μ h0 hz hlow hF
  have h73' : μ.1 201 73 = N := by rw [hF.1 201 (by omega)]; exact h73
  have h26' : μ.1 201 26 = f 0 := by rw [hF.1 201 (by omega)]; exact h26
  refine g_iload_n rfl rfl ?_
  refine g_aload_n rfl rfl ?_
  refine x_geti (v := (μ.1 201 26)) rfl rfl (by decide) (Or.inl rfl) rfl ?_
  refine g_icmp_ge (tgt := 76) rfl (by decide) (fun h1 => ?_) (fun h1 => ?_)
  · have hkf : k = f 0 := by omega
    rw [hkf] at hz ⊢
    exact hΦ _ hz hlow hF
  · refine g_aload_n rfl rfl ?_
    refine x_getF (r := 232) hG rfl rfl (by decide) (Or.inr ⟨_, rfl⟩) rfl ?_
    refine g_bipush rfl ⟨by decide, by decide⟩ (by decide) ?_
    refine g_aload_n rfl rfl ?_
    refine x_geti (v := (μ.1 201 73)) rfl rfl (by decide) (Or.inl rfl) rfl ?_
    refine x_imul (z := 40 * (μ.1 201 73)) rfl (by omega) ⟨by omega, by omega⟩ ?_
    refine g_iload_n rfl rfl ?_
    refine x_iadd (z := 40 * (μ.1 201 73) + k) rfl (by omega) ⟨by omega, by omega⟩ ?_
    refine g_aload_n rfl rfl ?_
    refine g_iload_n rfl rfl ?_
    refine g_cV (as := [tI k]) ((show tp_k G mX12_rebuiltAt [tR (some 201), tI k] μ (fun r μ' => r = some (tI (q_O A n σ p k)) ∧ μ' = μ) from s_rat hG hn (by rw [hF.1 201 (by omega)]; exact hn6) (by rw [hF.1 212 (by omega)]; exact hA) (by rw [hF.1 226 (by omega)]; exact hI))) rfl rfl mX12_rebuiltAt_ok rfl rfl rfl (by decide) rfl rfl rfl ?_
    rintro _ w9 ⟨rfl, hw9⟩ _
    have hw9 := hw9.symm
    subst hw9
    refine g_iast rfl rfl (by decide) (by omega) (by omega) ?_
    refine x_iinc (z := k + 1) rfl rfl (by omega) ⟨by omega, by omega⟩ rfl rfl ?_
    refine g_goto (tgt := 43) rfl (by decide) ?_
    exact ih (by omega) _ (by omega) (fun a a0 a1 => by
      rw [tp_pi1, h73']
      by_cases u : a = k
      · rw [if_pos ⟨rfl, by omega⟩, u]
      · rw [if_neg (fun z => u (by omega))]; exact hz a a0 (by omega)) (fun j z => by rw [tp_pi_no (by omega)]; exact hlow j z) (q_f1_pi hF)
set_option maxHeartbeats 4000000 in
set_option maxRecDepth 100000 in
theorem l_fiA {G : tp_G} (hG : tp_Gf G = true) {f A B Y H : Int → Int} {n lg : Int} (hw : tp_Cw f) (hW : r_W f n A B Y H) {σ : tp_M} (hp9 : 0 ≤ σ.1 0 9 ∧ σ.1 0 9 ≤ 209) (HH : ∀ p, 0 ≤ p → p < σ.1 0 9 → s_H f A B Y (f 2) n σ p) {g : Int → Int} {μ0 : tp_M} (hQ0 : v_Q σ μ0) (hL0 : f_L lg g μ0) (h26 : μ0.1 201 26 = f 0) (hn6 : μ0.1 201 27 = n) (hA0 : ∀ j, 0 ≤ j → j < n → μ0.1 212 j = A j) : ∀ k, k ≤ σ.1 0 9 → ∀ (μ : tp_M) (x2 : Option tp_V), -1 ≤ k → f_R f A n σ (q_FL A n σ g k) μ → v_G3 μ0 μ → tp_g G mX12_findsAll 7 [some (tR (some 201)), some (tI k), x2] [] μ (fun r μ' => r = none ∧ f_R f A n σ (q_FL A n σ g (σ.1 0 9)) μ' ∧ v_G3 μ0 μ') := by
  refine tp_ind _ ?_
  intro k hkN ih μ x2 hk0 hf hF
  have hn0 := hW.1
  have hw0 := hw.1
  have hQ := v_Q_G3 hF hQ0
  have hq47 := hQ.1
  have hqb := q_FL_b (A := A) (n := n) (σ := σ) (g := g) hk0
  refine g_iload_n rfl rfl ?_
  refine g_aload_n rfl rfl ?_
  refine x_geti (v := (μ.1 201 47)) rfl rfl (by decide) (Or.inl rfl) rfl ?_
  refine g_icmp_ge (tgt := 92) rfl (by decide) (fun h1 => ?_) (fun h1 => ?_)
  · refine x_return rfl rfl ?_
    exact ⟨rfl, by rw [show σ.1 0 9 = k by omega]; exact hf, hF⟩
  · refine g_aload_n rfl rfl ?_
    refine g_iload_n rfl rfl ?_
    refine g_cV (as := [tI k]) (s_but (a := k) hG hQ hp9 hn0.2 HH) rfl rfl mX12_rebuildsBut_ok rfl rfl rfl (by decide) rfl rfl rfl ?_
    rintro _ w1 ⟨rfl, hM1, hs1, hG1⟩ _
    have hnp1 := (v_I_all (l := v_1 k) HH hp9.1 (Int.le_refl _)).2.1
    have hn1 : w1.1 201 27 = n := by rw [hG1.2 27 (by omega) (by omega), hF.2 27 (by omega) (by omega) (by omega)]; exact hn6
    have hJ1 := q_Jp_s hn0.1 hp9.1 HH k
    refine g_aload_n rfl rfl ?_
    refine g_cV (as := []) (s_marks hG hJ1 (by omega) hn0.2 hM1 hn1 hs1) rfl rfl mX12_marks_ok rfl rfl rfl (by decide) rfl rfl rfl ?_
    rintro _ w2 ⟨rfl, hI2, hF2⟩ _
    have hG2 := v_G2_i hG1 hF2
    have hF3 := v_G3_2 hF hG2
    have hfr : f_R f A n σ (q_FL A n σ g k) w2 := by
      unfold f_R
      rw [hG2.2 73 (by omega) (by omega), hG2.1 231 (by omega) (by omega) (by omega) (by omega) (by omega), hG2.1 232 (by omega) (by omega) (by omega) (by omega) (by omega)]
      exact hf
    have hn2 : w2.1 201 27 = n := by rw [hF3.2 27 (by omega) (by omega) (by omega)]; exact hn6
    have hA2 : ∀ j, 0 ≤ j → j < n → w2.1 212 j = A j := fun j j0 j1 => by rw [hF3.1 212 (by omega) (by omega) (by omega) (by omega) (by omega) (by omega) (by omega)]; exact hA0 j j0 j1
    have h732 : w2.1 201 73 = (q_FL A n σ g k).1 := hfr.1
    refine g_aload_n rfl rfl ?_
    refine g_cV (as := []) (s_isSo (p := k) hG hn0 hn2 hA2 hI2 (f_L_G3 hF3 hL0)) rfl rfl mX12_isSo_ok rfl rfl rfl (by decide) rfl rfl rfl ?_
    rintro _ w9 ⟨v, rfl, hv01, hvP, hw9⟩ _
    have hw9 := hw9.symm
    subst hw9
    refine g_if_eq (tgt := 86) rfl (by decide) (fun h2 => ?_) (fun h2 => ?_)
    · refine x_iinc (z := k + 1) rfl rfl (by omega) ⟨by omega, by omega⟩ rfl rfl ?_
      refine g_goto (tgt := 7) rfl (by decide) ?_
      have hnP : ¬ q_fP A n σ g (g 0) k := fun z => by have := hvP.2 z; omega
      exact ih (by omega) _ _ (by omega) (by rw [q_FL_n hk0 hnP]; exact hfr) hF3
    · refine g_aload_n rfl rfl ?_
      refine x_getF (r := 231) hG rfl rfl (by decide) (Or.inr ⟨_, rfl⟩) rfl ?_
      refine g_aload_n rfl rfl ?_
      refine x_geti (v := (w2.1 201 73)) rfl rfl (by decide) (Or.inl rfl) rfl ?_
      refine g_iload_n rfl rfl ?_
      refine g_iast rfl rfl (by decide) (by omega) (by omega) ?_
      refine g_iconst rfl ⟨by decide, by decide⟩ ?_
      refine g_istore_n rfl rfl rfl ?_
      have hyP : q_fP A n σ g (g 0) k := hvP.1 (by omega)
      refine l_fiI (μ0 := (tp_pi w2 231 (w2.1 201 73) k)) (N := (q_FL A n σ g k).1) (p := k) (A := A) (n := n) (σ := σ) hG hn0 (by omega) hw.1 (by rw [tp_pi_ne (by omega)]; exact h732) (by rw [tp_pi_ne (by omega), hF3.2 26 (by omega) (by omega) (by omega)]; exact h26) (by rw [tp_pi_ne (by omega)]; exact hn2) (by rw [tp_pi_ne (by omega)]; exact hA2) (by rw [tp_pi_ne (by omega)]; exact hI2) (fun w3 hz3 hl3 hF4 => ?_) 0 (by omega) _ (by omega) (fun a a0 a1 => by omega) (fun j z => rfl) q_f1_rf
      have h733 : w3.1 201 73 = (q_FL A n σ g k).1 := by rw [hF4.1 201 (by omega), tp_pi_ne (by omega)]; exact h732
      refine g_aload_n rfl rfl ?_
      refine g_dupr rfl ?_
      refine x_geti (v := (w3.1 201 73)) rfl rfl (by decide) (Or.inl rfl) rfl ?_
      refine g_iconst rfl ⟨by decide, by decide⟩ ?_
      refine x_iadd (z := (w3.1 201 73) + 1) rfl (by omega) ⟨by omega, by omega⟩ ?_
      refine g_puti rfl rfl (by decide) rfl rfl ?_
      refine x_iinc (z := k + 1) rfl rfl (by omega) ⟨by omega, by omega⟩ rfl rfl ?_
      refine g_goto (tgt := 7) rfl (by decide) ?_
      refine ih (by omega) _ _ (by omega) ?_ ⟨fun c9 z1 z2 z3 z4 z5 z6 z7 => by rw [tp_pi_ne (by omega), hF4.1 c9 (by omega), tp_pi_ne (by omega)]; exact hF3.1 c9 z1 z2 z3 z4 z5 z6 z7, fun j z1 z2 z3 => by rw [tp_pi_no (by omega), hF4.1 201 (by omega), tp_pi_ne (by omega)]; exact hF3.2 j z1 z2 z3⟩
      rw [q_FL_y hk0 hyP]
      refine ⟨by show w3.1 201 73 + 1 = _; omega, fun i i0 i1 => ?_, fun i a i0 i1 a0 a1 => ?_⟩
      · have i1 : i < (q_FL A n σ g k).1 + 1 := i1
        show w3.1 231 i = v_u (q_FL A n σ g k).2 (q_FL A n σ g k).1 k i
        rw [hF4.1 231 (by omega)]
        by_cases u : i = (q_FL A n σ g k).1
        · rw [u, v_u_at, ← h732, tp_pi_at]
        · rw [v_u_ne u, tp_pi_ix (by omega)]; exact hfr.2.1 i i0 (by omega)
      · have i1 : i < (q_FL A n σ g k).1 + 1 := i1
        show w3.1 232 (40 * i + a) = q_O A n σ (v_u (q_FL A n σ g k).2 (q_FL A n σ g k).1 k i) a
        by_cases u : i = (q_FL A n σ g k).1
        · rw [u, v_u_at]; exact hz3 a a0 a1
        · rw [v_u_ne u, hl3 _ (by omega), tp_pi_ne (by omega)]; exact hfr.2.2 i a i0 (by omega) a0 a1
set_option maxHeartbeats 4000000 in
set_option maxRecDepth 100000 in
theorem s_fiA {G : tp_G} {μ : tp_M} (hG : tp_Gf G = true) {f A B Y H : Int → Int} {n lg : Int} (hw : tp_Cw f) (hW : r_W f n A B Y H) {σ : tp_M} (hp9 : 0 ≤ σ.1 0 9 ∧ σ.1 0 9 ≤ 209) (HH : ∀ p, 0 ≤ p → p < σ.1 0 9 → s_H f A B Y (f 2) n σ p) {g : Int → Int} (hQ : v_Q σ μ) (hL : f_L lg g μ) (h26 : μ.1 201 26 = f 0) (hn6 : μ.1 201 27 = n) (hA : ∀ j, 0 ≤ j → j < n → μ.1 212 j = A j) : tp_k G mX12_findsAll [tR (some 201)] μ (fun r μ' => r = none ∧ f_R f A n σ (q_FL A n σ g (σ.1 0 9)) μ' ∧ v_G3 μ μ') := by
  refine tp_ok_of mX12_findsAll_ok rfl (Nat.le_refl _) ?_
  refine g_aload_n rfl rfl ?_
  refine g_iconst rfl ⟨by decide, by decide⟩ ?_
  refine g_puti rfl rfl (by decide) rfl rfl ?_
  refine g_iconst rfl ⟨by decide, by decide⟩ ?_
  refine g_istore_n rfl rfl rfl ?_
  refine l_fiA (μ0 := μ) hG hw hW hp9 HH hQ hL h26 hn6 hA (-1) (by omega) _ _ (by omega) ⟨rfl, fun i i0 i1 => by have i1 : i < 0 := i1; omega, fun i a i0 i1 => by have i1 : i < 0 := i1; omega⟩ ⟨fun c9 z1 _ _ _ _ _ _ => by rw [tp_pi_ne z1], fun j _ _ z3 => tp_pi_ix z3⟩
