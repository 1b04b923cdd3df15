def q_ap (A1 A2 : Int → Int) (n1 n2 v : Int) : Prop := (v = -1 ∧ n1 = n2 ∧ ∀ j, 0 ≤ j → j < n1 → A1 j = A2 j) ∨ (0 ≤ v ∧ (∀ j, 0 ≤ j → j < v → j < n1 ∧ j < n2 ∧ A1 j = A2 j) ∧ (v < n1 ∨ v < n2) ∧ (n1 ≤ v ∨ n2 ≤ v ∨ A1 v ≠ A2 v))
theorem q_ap_u {A1 A2 : Int → Int} {n1 n2 v v' : Int} (h : q_ap A1 A2 n1 n2 v) (h' : q_ap A1 A2 n1 n2 v') : v = v' := by
  rcases h with ⟨a1, a2, a3⟩ | ⟨a1, a2, a3, a4⟩ <;> rcases h' with ⟨b1, b2, b3⟩ | ⟨b1, b2, b3, b4⟩
  · omega
  · rcases b4 with b4 | b4 | b4
    · omega
    · omega
    · exact absurd (a3 v' b1 (by omega)) b4
  · rcases a4 with a4 | a4 | a4
    · omega
    · omega
    · exact absurd (b3 v a1 (by omega)) a4
  · rcases Int.lt_trichotomy v v' with q | q | q
    · have z := b2 v a1 q
      rcases a4 with a4 | a4 | a4
      · omega
      · omega
      · exact absurd z.2.2 a4
    · exact q
    · have z := a2 v' b1 q
      rcases b4 with b4 | b4 | b4
      · omega
      · omega
      · exact absurd z.2.2 b4
set_option maxHeartbeats 4000000 in
set_option maxRecDepth 100000 in
theorem l_apart {G : tp_G} {μ : tp_M} (hG : tp_Gf G = true) {n1 n2 : Int} {A1 B1 Y1 A2 B2 Y2 : Int → Int} {E1 D1 U1 T1 E2 D2 U2 T2 : Int} (hn1 : 0 ≤ n1 ∧ n1 ≤ 200) (hn2 : 0 ≤ n2 ∧ n2 ≤ 200) {x1 x2 x3 x4 : Option tp_V} (hT1 : c_T 50 n1 A1 B1 Y1 E1 D1 U1 T1 μ) (hT2 : c_T 56 n2 A2 B2 Y2 E2 D2 U2 T2 μ) : ∀ k, k ≤ min n1 n2 → 0 ≤ k → (∀ j, 0 ≤ j → j < k → A1 j = A2 j) → tp_g G mX11_apart 72 [some (tR (some 0)), x1, x2, x3, x4, some (tI (min n1 n2)), some (tI k)] [] μ (fun r μ' => ∃ v, r = some (tI v) ∧ q_ap A1 A2 n1 n2 v ∧ μ' = μ) := by
  have e1 := hT1.1
  have e2 := hT2.1
  refine tp_ind _ ?_
  intro k hkN ih h0 hz
  refine g_iload rfl rfl ?_
  refine g_iload rfl rfl ?_
  refine g_icmp_ge (tgt := 109) rfl (by decide) (fun h1 => ?_) (fun h1 => ?_)
  · refine g_aload_n rfl rfl ?_
    refine x_getF (r := 50) hG rfl rfl (by decide) (Or.inl ⟨_, rfl⟩) rfl ?_
    refine x_geti (v := (μ.1 50 6)) rfl rfl (by decide) (Or.inl rfl) rfl ?_
    refine g_aload_n rfl rfl ?_
    refine x_getF (r := 56) hG rfl rfl (by decide) (Or.inl ⟨_, rfl⟩) rfl ?_
    refine x_geti (v := (μ.1 56 6)) rfl rfl (by decide) (Or.inl rfl) rfl ?_
    refine g_icmp_ne (tgt := 130) rfl (by decide) (fun h2 => ?_) (fun h2 => ?_)
    · refine g_iload rfl rfl ?_
      refine x_ireturn rfl rfl ?_
      exact ⟨_, rfl, Or.inr ⟨by omega, fun j g1 g2 => ⟨by omega, by omega, hz j g1 (by omega)⟩, by omega, by omega⟩, rfl⟩
    · refine g_iconst rfl ⟨by decide, by decide⟩ ?_
      refine g_goto (tgt := 132) rfl (by decide) ?_
      refine x_ireturn rfl rfl ?_
      exact ⟨_, rfl, Or.inl ⟨rfl, by omega, fun j g1 g2 => hz j g1 (by omega)⟩, rfl⟩
  · refine g_aload_n rfl rfl ?_
    refine x_getF (r := 50) hG rfl rfl (by decide) (Or.inl ⟨_, rfl⟩) rfl ?_
    refine g_iload rfl rfl ?_
    refine g_cV (as := [tI k]) (s_at50 hG hT1 (by omega) (by omega) (by omega)) rfl rfl mX7_at_ok rfl rfl rfl (by decide) rfl rfl rfl ?_
    rintro _ w9 ⟨rfl, hw9⟩ _
    have hw9 := hw9.symm
    subst hw9
    refine g_aload_n rfl rfl ?_
    refine x_getF (r := 56) hG rfl rfl (by decide) (Or.inl ⟨_, rfl⟩) rfl ?_
    refine g_iload rfl rfl ?_
    refine g_cV (as := [tI k]) (s_at56 hG hT2 (by omega) (by omega) (by omega)) rfl rfl mX7_at_ok rfl rfl rfl (by decide) rfl rfl rfl ?_
    rintro _ w9 ⟨rfl, hw9⟩ _
    have hw9 := hw9.symm
    subst hw9
    refine g_icmp_eq (tgt := 103) rfl (by decide) (fun h3 => ?_) (fun h3 => ?_)
    · refine x_iinc (z := k + 1) rfl rfl (by omega) ⟨by omega, by omega⟩ rfl rfl ?_
      refine g_goto (tgt := 72) rfl (by decide) ?_
      exact ih (by omega) (by omega) (fun j g1 g2 => by rcases (show j < k ∨ j = k by omega) with q | q; exact hz j g1 q; rw [q]; omega)
    · refine g_iload rfl rfl ?_
      refine x_ireturn rfl rfl ?_
      exact ⟨_, rfl, Or.inr ⟨by omega, fun j g1 g2 => ⟨by omega, by omega, hz j g1 g2⟩, by omega, by omega⟩, rfl⟩
set_option maxHeartbeats 4000000 in
set_option maxRecDepth 100000 in
theorem l_apartM {G : tp_G} {μ : tp_M} (hG : tp_Gf G = true) {n1 n2 : Int} {A1 A2 B2 Y2 : Int → Int} {E2 D2 U2 T2 : Int} (hn1 : 0 ≤ n1 ∧ n1 ≤ 200) (hn2 : 0 ≤ n2 ∧ n2 ≤ 200) {x1 x2 x3 : Option tp_V} (hO : ∀ j, 0 ≤ j → j < n1 → μ.1 229 j = A1 j) (hT2 : m_T n2 A2 B2 Y2 E2 D2 U2 T2 μ) : ∀ k, k ≤ min n1 n2 → 0 ≤ k → (k ≤ n1 ∧ k ≤ n2) → (∀ j, 0 ≤ j → j < k → A1 j = A2 j) → tp_g G mX12_apart 75 [some (tR (some 201)), x1, x2, x3, some (tI n1), some (tI k)] [] μ (fun r μ' => ∃ v, r = some (tI v) ∧ q_ap A1 A2 n1 n2 v ∧ μ' = μ) := by
  have e2 := hT2.1
  refine tp_ind _ ?_
  intro k hkN ih h0 hkk hz
  refine g_iload rfl rfl ?_
  refine g_iload rfl rfl ?_
  refine g_icmp_lt (tgt := 91) rfl (by decide) (fun h1 => ?_) (fun h1 => ?_)
  · refine g_iload rfl rfl ?_
    refine g_iload rfl rfl ?_
    refine g_icmp_ge (tgt := 124) rfl (by decide) (fun hx => absurd hx (by omega)) (fun _ => ?_)
    refine g_iload rfl rfl ?_
    refine g_aload_n rfl rfl ?_
    refine x_geti (v := (μ.1 201 27)) rfl rfl (by decide) (Or.inl rfl) rfl ?_
    refine g_icmp_ge (tgt := 124) rfl (by decide) (fun h2 => ?_) (fun h2 => ?_)
    · refine g_iload rfl rfl ?_
      refine x_ireturn rfl rfl ?_
      have z1 : k < n1 → μ.1 229 k = A1 k := fun q => hO k h0 q
      have z2 : k < n2 → μ.1 212 k = A2 k := fun q => hT2.2.1 k h0 q
      exact ⟨_, rfl, Or.inr ⟨by omega, fun j g1 g2 => ⟨by omega, by omega, hz j g1 g2⟩, by omega, by omega⟩, rfl⟩
    · refine g_aload_n rfl rfl ?_
      refine x_getF (r := 229) hG rfl rfl (by decide) (Or.inr ⟨_, rfl⟩) rfl ?_
      refine g_iload rfl rfl ?_
      refine x_iald (v := (μ.1 229 k)) rfl rfl (by decide) (by omega) (by omega) rfl ?_
      refine g_aload_n rfl rfl ?_
      refine x_getF (r := 212) hG rfl rfl (by decide) (Or.inr ⟨_, rfl⟩) rfl ?_
      refine g_iload rfl rfl ?_
      refine x_iald (v := (μ.1 212 k)) rfl rfl (by decide) (by omega) (by omega) rfl ?_
      refine g_icmp_eq (tgt := 127) rfl (by decide) (fun h3 => ?_) (fun h3 => ?_)
      · refine x_iinc (z := k + 1) rfl rfl (by omega) ⟨by omega, by omega⟩ rfl rfl ?_
        refine g_goto (tgt := 75) rfl (by decide) ?_
        have z1 := hO k h0 (by omega)
        have z2 := hT2.2.1 k h0 (by omega)
        exact ih (by omega) (by omega) (by omega) (fun j g1 g2 => by rcases (show j < k ∨ j = k by omega) with q | q; exact hz j g1 q; rw [q]; omega)
      · refine g_iload rfl rfl ?_
        refine x_ireturn rfl rfl ?_
        have z1 : k < n1 → μ.1 229 k = A1 k := fun q => hO k h0 q
        have z2 : k < n2 → μ.1 212 k = A2 k := fun q => hT2.2.1 k h0 q
        exact ⟨_, rfl, Or.inr ⟨by omega, fun j g1 g2 => ⟨by omega, by omega, hz j g1 g2⟩, by omega, by omega⟩, rfl⟩
  · refine g_iload rfl rfl ?_
    refine g_aload_n rfl rfl ?_
    refine x_geti (v := (μ.1 201 27)) rfl rfl (by decide) (Or.inl rfl) rfl ?_
    refine g_icmp_ge (tgt := 133) rfl (by decide) (fun h4 => ?_) (fun h4 => ?_)
    · refine g_iconst rfl ⟨by decide, by decide⟩ ?_
      refine x_ireturn rfl rfl ?_
      exact ⟨_, rfl, Or.inl ⟨rfl, by omega, fun j g1 g2 => hz j g1 (by omega)⟩, rfl⟩
    · refine g_iload rfl rfl ?_
      refine g_iload rfl rfl ?_
      refine g_icmp_ge (tgt := 124) rfl (by decide) (fun _ => ?_) (fun hx => absurd hx (by omega))
      refine g_iload rfl rfl ?_
      refine x_ireturn rfl rfl ?_
      have z1 : k < n1 → μ.1 229 k = A1 k := fun q => hO k h0 q
      have z2 : k < n2 → μ.1 212 k = A2 k := fun q => hT2.2.1 k h0 q
      exact ⟨_, rfl, Or.inr ⟨by omega, fun j g1 g2 => ⟨by omega, by omega, hz j g1 g2⟩, by omega, by omega⟩, rfl⟩
theorem q_f1_rf {p : Nat} {μ : tp_M} : q_f1 p μ μ := ⟨fun _ _ => rfl, rfl⟩
set_option maxHeartbeats 4000000 in
set_option maxRecDepth 100000 in
theorem l_apartC0 {G : tp_G} (hG : tp_Gf G = true) {ck : Int} {f g1 g2 : Int → Int} {n1 n2 : Nat} {μ0 : tp_M} {x1 x2 : Option tp_V} (hw : tp_Cw f) (hgw2 : tp_Dw g2) (hn12 : 0 ≤ (n1 : Int) ∧ (n1 : Int) ≤ 200) (hn22 : 0 ≤ (n2 : Int) ∧ (n2 : Int) ≤ 200) (hn2 : r_N f (r_dr g2) 0 n2) (hT1 : m_D f g1 n1 μ0) (hMc : tp_Mc ck f μ0) (hdm : μ0.1 201 37 < 0) (hgv : ∀ i, 0 ≤ i → i < 61 → μ0.1 208 (61 * 0 + i) = g2 i) : ∀ k, k ≤ (n1 : Int) → ∀ μ : tp_M, 0 ≤ k → (∀ j, 0 ≤ j → j < k → μ.1 229 j = r_A f (r_dr g1) 0 j) → q_f1 229 μ0 μ → tp_g G mX12_apart 34 [some (tR (some 201)), x1, x2, some (tI 0), some (tI (n1 : Int)), some (tI k)] [] μ (fun r μ' => ∃ v, r = some (tI v) ∧ q_ap (r_A f (r_dr g1) 0) (r_A f (r_dr g2) 0) n1 n2 v ∧ ∀ c9, c9 ≠ 201 → c9 < 212 ∨ 215 < c9 → c9 ≠ 229 → μ'.1 c9 = μ0.1 c9) := by
  refine tp_ind _ ?_
  intro k hkN ih μ h0 hO hF
  have hMcv : tp_Mc ck f μ := tp_Mc_fr ⟨by rw [hF.1 201 (by omega)], by rw [hF.1 201 (by omega)]⟩ (hF.1 207 (by omega)) hMc
  have e0 : μ.1 201 27 = n1 := by rw [hF.1 201 (by omega)]; exact hT1.1
  have e1 : ∀ j, 0 ≤ j → j < (n1 : Int) → μ.1 212 j = r_A f (r_dr g1) 0 j := by rw [hF.1 212 (by omega)]; exact hT1.2.1
  refine g_iload rfl rfl ?_
  refine g_aload_n rfl rfl ?_
  refine x_geti (v := (μ.1 201 27)) rfl rfl (by decide) (Or.inl rfl) rfl ?_
  refine g_icmp_ge (tgt := 63) rfl (by decide) (fun h1 => ?_) (fun h1 => ?_)
  · refine g_aload_n rfl rfl ?_
    refine g_iload_n rfl rfl ?_
    refine g_puti rfl rfl (by decide) rfl rfl ?_
    refine g_aload_n rfl rfl ?_
    refine g_cV (as := []) (s_runs (ck := ck) (f := f) (ch := r_dr g2) hG (tp_Mc_pi (by omega) hMcv) hw (r_src_dr hgw2) (m_Hc_dr (d := 0) hG (by omega) rfl (by show μ.1 201 37 < 0; rw [hF.1 201 (by omega)]; exact hdm) (fun i g1 g2 => by show μ.1 208 _ = _; rw [hF.1 208 (by omega)]; exact hgv i g1 g2) hgw2)) rfl rfl mX12_runs_ok rfl rfl rfl (by decide) rfl rfl rfl ?_
    rintro _ w5 ⟨rfl, ⟨m, hm1, hm2, hm3⟩, hF5⟩ _
    have hT5 := m_D_of hn2 hm2 hm3
    have hO5 : ∀ j : Int, 0 ≤ j → j < (n1 : Int) → w5.1 229 j = r_A f (r_dr g1) 0 j := fun j y1 y2 => by rw [hF5.1 229 (by omega) (by omega), tp_pi_ne (by omega)]; exact hO j y1 (by omega)
    have hfr5 : ∀ c9, c9 ≠ 201 → c9 < 212 ∨ 215 < c9 → c9 ≠ 229 → w5.1 c9 = μ0.1 c9 := fun c9 z1 z2 z3 => by rw [hF5.1 c9 z1 z2, tp_pi_ne z1, hF.1 c9 z3]
    refine g_iconst rfl ⟨by decide, by decide⟩ ?_
    refine g_istore rfl rfl rfl ?_
    exact tp_conseq (fun r μ' q => by obtain ⟨v, q1, q2, q3⟩ := q; subst q3; exact ⟨v, q1, q2, hfr5⟩) (l_apartM hG hn12 hn22 hO5 hT5 0 (by omega) (by omega) (by omega) (fun j g1 g2 => absurd g2 (by omega)))
  · refine g_aload_n rfl rfl ?_
    refine x_getF (r := 229) hG rfl rfl (by decide) (Or.inr ⟨_, rfl⟩) rfl ?_
    refine g_iload rfl rfl ?_
    refine g_aload_n rfl rfl ?_
    refine x_getF (r := 212) hG rfl rfl (by decide) (Or.inr ⟨_, rfl⟩) rfl ?_
    refine g_iload rfl rfl ?_
    refine x_iald (v := (μ.1 212 k)) rfl rfl (by decide) (by omega) (by omega) rfl ?_
    refine g_iast rfl rfl (by decide) (by omega) (by omega) ?_
    refine x_iinc (z := k + 1) rfl rfl (by omega) ⟨by omega, by omega⟩ rfl rfl ?_
    refine g_goto (tgt := 34) rfl (by decide) ?_
    exact ih (by omega) _ (by omega) (fun j g1 g2 => by rw [tp_pi1]; split; (rename_i q; rw [q.2]; exact e1 k (by omega) (by omega)); (rename_i q; exact hO j g1 (by omega))) (q_f1_pi hF)
set_option maxHeartbeats 4000000 in
set_option maxRecDepth 100000 in
theorem l_apartC1 {G : tp_G} (hG : tp_Gf G = true) {ck : Int} {f g1 g2 : Int → Int} {n1 n2 : Nat} {μ0 : tp_M} {x1 x2 : Option tp_V} (hw : tp_Cw f) (hgw2 : tp_Dw g2) (hn12 : 0 ≤ (n1 : Int) ∧ (n1 : Int) ≤ 200) (hn22 : 0 ≤ (n2 : Int) ∧ (n2 : Int) ≤ 200) (hn2 : r_N f (r_dr g2) 0 n2) (hT1 : m_D f g1 n1 μ0) (hMc : tp_Mc ck f μ0) (hdm : μ0.1 201 37 < 0) (hgv : ∀ i, 0 ≤ i → i < 61 → μ0.1 208 (61 * 1 + i) = g2 i) : ∀ k, k ≤ (n1 : Int) → ∀ μ : tp_M, 0 ≤ k → (∀ j, 0 ≤ j → j < k → μ.1 229 j = r_A f (r_dr g1) 0 j) → q_f1 229 μ0 μ → tp_g G mX12_apart 34 [some (tR (some 201)), x1, x2, some (tI 1), some (tI (n1 : Int)), some (tI k)] [] μ (fun r μ' => ∃ v, r = some (tI v) ∧ q_ap (r_A f (r_dr g1) 0) (r_A f (r_dr g2) 0) n1 n2 v ∧ ∀ c9, c9 ≠ 201 → c9 < 212 ∨ 215 < c9 → c9 ≠ 229 → μ'.1 c9 = μ0.1 c9) := by
  refine tp_ind _ ?_
  intro k hkN ih μ h0 hO hF
  have hMcv : tp_Mc ck f μ := tp_Mc_fr ⟨by rw [hF.1 201 (by omega)], by rw [hF.1 201 (by omega)]⟩ (hF.1 207 (by omega)) hMc
  have e0 : μ.1 201 27 = n1 := by rw [hF.1 201 (by omega)]; exact hT1.1
  have e1 : ∀ j, 0 ≤ j → j < (n1 : Int) → μ.1 212 j = r_A f (r_dr g1) 0 j := by rw [hF.1 212 (by omega)]; exact hT1.2.1
  refine g_iload rfl rfl ?_
  refine g_aload_n rfl rfl ?_
  refine x_geti (v := (μ.1 201 27)) rfl rfl (by decide) (Or.inl rfl) rfl ?_
  refine g_icmp_ge (tgt := 63) rfl (by decide) (fun h1 => ?_) (fun h1 => ?_)
  · refine g_aload_n rfl rfl ?_
    refine g_iload_n rfl rfl ?_
    refine g_puti rfl rfl (by decide) rfl rfl ?_
    refine g_aload_n rfl rfl ?_
    refine g_cV (as := []) (s_runs (ck := ck) (f := f) (ch := r_dr g2) hG (tp_Mc_pi (by omega) hMcv) hw (r_src_dr hgw2) (m_Hc_dr (d := 1) hG (by omega) rfl (by show μ.1 201 37 < 0; rw [hF.1 201 (by omega)]; exact hdm) (fun i g1 g2 => by show μ.1 208 _ = _; rw [hF.1 208 (by omega)]; exact hgv i g1 g2) hgw2)) rfl rfl mX12_runs_ok rfl rfl rfl (by decide) rfl rfl rfl ?_
    rintro _ w5 ⟨rfl, ⟨m, hm1, hm2, hm3⟩, hF5⟩ _
    have hT5 := m_D_of hn2 hm2 hm3
    have hO5 : ∀ j : Int, 0 ≤ j → j < (n1 : Int) → w5.1 229 j = r_A f (r_dr g1) 0 j := fun j y1 y2 => by rw [hF5.1 229 (by omega) (by omega), tp_pi_ne (by omega)]; exact hO j y1 (by omega)
    have hfr5 : ∀ c9, c9 ≠ 201 → c9 < 212 ∨ 215 < c9 → c9 ≠ 229 → w5.1 c9 = μ0.1 c9 := fun c9 z1 z2 z3 => by rw [hF5.1 c9 z1 z2, tp_pi_ne z1, hF.1 c9 z3]
    refine g_iconst rfl ⟨by decide, by decide⟩ ?_
    refine g_istore rfl rfl rfl ?_
    exact tp_conseq (fun r μ' q => by obtain ⟨v, q1, q2, q3⟩ := q; subst q3; exact ⟨v, q1, q2, hfr5⟩) (l_apartM hG hn12 hn22 hO5 hT5 0 (by omega) (by omega) (by omega) (fun j g1 g2 => absurd g2 (by omega)))
  · refine g_aload_n rfl rfl ?_
    refine x_getF (r := 229) hG rfl rfl (by decide) (Or.inr ⟨_, rfl⟩) rfl ?_
    refine g_iload rfl rfl ?_
    refine g_aload_n rfl rfl ?_
    refine x_getF (r := 212) hG rfl rfl (by decide) (Or.inr ⟨_, rfl⟩) rfl ?_
    refine g_iload rfl rfl ?_
    refine x_iald (v := (μ.1 212 k)) rfl rfl (by decide) (by omega) (by omega) rfl ?_
    refine g_iast rfl rfl (by decide) (by omega) (by omega) ?_
    refine x_iinc (z := k + 1) rfl rfl (by omega) ⟨by omega, by omega⟩ rfl rfl ?_
    refine g_goto (tgt := 34) rfl (by decide) ?_
    exact ih (by omega) _ (by omega) (fun j g1 g2 => by rw [tp_pi1]; split; (rename_i q; rw [q.2]; exact e1 k (by omega) (by omega)); (rename_i q; exact hO j g1 (by omega))) (q_f1_pi hF)
set_option maxHeartbeats 4000000 in
set_option maxRecDepth 100000 in
theorem p_apart {G : tp_G} (hG : tp_Gf G = true) {a d x : Int} : tp_pair G mX11_apart mX12_apart [tI a, tI d, tI x] := by
  intro μ hR
  have hm0 := tp_R_many hR 0 (by decide) (by decide)
  have hM := tp_R_many hR 1 (by decide) (by decide)
  have hm1 := hM
  rcases (show (x = 0 ∧ 0 < μ.1 5 1) ∨ (x = 1 ∧ 1 < μ.1 5 1) ∨ ((x < 0 ∨ μ.1 5 1 ≤ x) ∧ μ.1 5 1 ≤ 2) by omega) with ⟨rfl, hd⟩ | ⟨rfl, hd⟩ | hd
  · by_cases hab : ((a < 0 ∨ μ.1 5 0 ≤ a) ∨ (d < 0 ∨ μ.1 5 1 ≤ d))
    · obtain ⟨hX, hM⟩ := tp_layo hG hR hab
      refine tp_ok_of mX11_apart_ok rfl (Nat.le_refl _) ?_
      refine g_aload_n rfl rfl ?_
      refine x_getF (r := 1) hG rfl rfl (by decide) (Or.inl ⟨_, rfl⟩) rfl ?_
      refine g_iconst rfl ⟨by decide, by decide⟩ ?_
      refine g_iload_n rfl rfl ?_
      refine g_cV (as := [tI 1, tI 0]) (s_rowOf10 hG hd) rfl rfl mX9_rowOf_ok rfl rfl rfl (by decide) rfl rfl rfl ?_
      rintro _ w9 ⟨rfl, hw9⟩ _
      have hw9 := hw9.symm
      subst hw9
      refine g_astore rfl rfl rfl ?_
      refine g_aload rfl rfl ?_
      refine g_ifnull (tgt := 25) rfl (by decide) (fun hx => by cases hx) (fun _ _ => ?_)
      refine g_aload_n rfl rfl ?_
      refine g_iload_n rfl rfl ?_
      refine g_iload_n rfl rfl ?_
      refine g_cV (as := [tI a, tI d]) (hX) rfl rfl mX11_follow_ok rfl rfl rfl (by decide) rfl rfl rfl ?_
      rintro _ w9 ⟨rfl, hw9⟩ _
      have hw9 := hw9.symm
      subst hw9
      refine g_if_ne (tgt := 27) rfl (by decide) (fun hx => absurd hx (by omega)) (fun _ => ?_)
      refine g_iconst rfl ⟨by decide, by decide⟩ ?_
      refine x_ireturn rfl rfl ?_
      refine ⟨_, rfl, ?_⟩
      refine tp_ok_of mX12_apart_ok rfl (Nat.le_refl _) ?_
      refine g_aload_n rfl rfl ?_
      refine g_iconst rfl ⟨by decide, by decide⟩ ?_
      refine g_puti rfl rfl (by decide) rfl rfl ?_
      refine g_aload_n rfl rfl ?_
      refine g_iload_n rfl rfl ?_
      refine g_iload_n rfl rfl ?_
      refine g_cV (as := [tI a, tI d]) (hM _ (tp_kp_pi (by decide) tp_kp_rf)) rfl rfl mX12_lay_ok rfl rfl rfl (by decide) rfl rfl rfl ?_
      rintro _ w4 ⟨rfl, hGm⟩ _
      have hkp4 : tp_kp μ w4 := m_G_kp (tp_kp_pi (by decide) tp_kp_rf) hGm
      refine g_if_eq (tgt := 23) rfl (by decide) (fun _ => ?_) (fun hx => absurd hx (by omega))
      refine g_iconst rfl ⟨by decide, by decide⟩ ?_
      refine x_ireturn rfl rfl ?_
      exact ⟨rfl, tp_R_kp hR hkp4⟩
    · obtain ⟨a, rfl⟩ : ∃ a9 : Nat, a = (a9 : Int) := ⟨a.toNat, by omega⟩
      obtain ⟨d, rfl⟩ : ∃ d9 : Nat, d = (d9 : Int) := ⟨d.toNat, by omega⟩
      have hk : a < 2 := by omega
      have hd9 : d < 2 := by omega
      have hk1 : (a : Int) < μ.1 5 0 := by omega
      have hd1 : (d : Int) < μ.1 5 1 := by omega
      obtain ⟨f, ef⟩ : ∃ f, f = tp_cf μ (a : Int) := ⟨_, rfl⟩
      obtain ⟨g1, eg1⟩ : ∃ g1, g1 = tp_df μ (d : Int) := ⟨_, rfl⟩
      obtain ⟨g2, eg2⟩ : ∃ g2, g2 = tp_df μ 0 := ⟨_, rfl⟩
      obtain ⟨n1, hn1, hN1⟩ := r_N_ex f (r_dr g1) 0
      obtain ⟨n2, hn2, hN2⟩ := r_N_ex f (r_dr g2) 0
      have hC := tp_Cd_R hR hk hk1
      rw [← ef] at hC
      have hw := hC.2
      obtain ⟨c, hcE⟩ : ∃ c, c = 6 + 5 * a := ⟨_, rfl⟩
      have hCd0 : tp_Cd c f μ := by rw [hcE]; exact hC.1
      have hc : tp_SH c = .inl 0 := by rcases (show a = 0 ∨ a = 1 by omega) with q | q <;> (subst q; subst hcE; rfl)
      have hcl : c < 37 := by omega
      have hcn : c < 234 := by omega
      have hD1 : tp_Dw g1 := by rw [eg1]; exact (tp_R_drive hR d hd9 hd1).2.2
      have hD2 : μ.1 22 2 = g2 0 ∧ (∀ i, 0 ≤ i → i < g2 0 → μ.1 23 i = g2 (1 + i)) ∧ tp_Dw g2 := by rw [eg2]; exact tp_R_drive hR 0 (by decide) hd
      refine tp_ok_of mX11_apart_ok rfl (Nat.le_refl _) ?_
      refine g_aload_n rfl rfl ?_
      refine x_getF (r := 1) hG rfl rfl (by decide) (Or.inl ⟨_, rfl⟩) rfl ?_
      refine g_iconst rfl ⟨by decide, by decide⟩ ?_
      refine g_iload_n rfl rfl ?_
      refine g_cV (as := [tI 1, tI 0]) (s_rowOf10 hG hd) rfl rfl mX9_rowOf_ok rfl rfl rfl (by decide) rfl rfl rfl ?_
      rintro _ w9 ⟨rfl, hw9⟩ _
      have hw9 := hw9.symm
      subst hw9
      refine g_astore rfl rfl rfl ?_
      refine g_aload rfl rfl ?_
      refine g_ifnull (tgt := 25) rfl (by decide) (fun hx => by cases hx) (fun _ _ => ?_)
      refine g_aload_n rfl rfl ?_
      refine g_iload_n rfl rfl ?_
      refine g_iload_n rfl rfl ?_
      refine g_cV (as := [tI (a : Int), tI (d : Int)]) (s_follow hG hR hk hd9 hk1 hd1 ef eg1 hN1) rfl rfl mX11_follow_ok rfl rfl rfl (by decide) rfl rfl rfl ?_
      rintro _ w1 ⟨rfl, hT1, hco, hfr⟩ _
      rw [← hcE] at hco
      have hkp1 : tp_kp μ w1 := fun k9 z9 => hfr k9 (by unfold tp_tl at z9; omega)
      have hCd : tp_Cd c f w1 := tp_Cd_fr hcl (fun k9 z9 => hfr k9 (by omega)) hCd0
      refine g_if_ne (tgt := 27) rfl (by decide) (fun _ => ?_) (fun hx => absurd hx (by omega))
      refine g_aload_n rfl rfl ?_
      refine x_getF (r := 56) hG rfl rfl (by decide) (Or.inl ⟨_, rfl⟩) rfl ?_
      refine g_aload_n rfl rfl ?_
      refine x_getF (r := 50) hG rfl rfl (by decide) (Or.inl ⟨_, rfl⟩) rfl ?_
      refine x_getM (v := (some c)) hG rfl rfl (by decide) (Or.inl ⟨_, rfl⟩) rfl hco ?_
      refine g_aload rfl rfl ?_
      refine g_iV (as := [tR (some c), tR (some 22)]) mX7_driveBy_ok rfl rfl rfl rfl rfl rfl (by decide) rfl rfl rfl ?_
      refine g_aload_n rfl rfl ?_
      refine g_aload_n rfl rfl ?_
      refine x_putr rfl rfl (by decide) rfl (Or.inl ⟨_, rfl⟩) rfl ?_
      refine g_aload_n rfl rfl ?_
      refine g_aload_n rfl rfl ?_
      refine x_putr rfl rfl (by decide) rfl (Or.inl ⟨_, rfl⟩) rfl ?_
      refine x_return rfl rfl ?_
      intro _
      refine g_aload_n rfl rfl ?_
      refine x_getF (r := 56) hG rfl rfl (by decide) (Or.inl ⟨_, rfl⟩) rfl ?_
      refine g_cV (as := []) (s_go56 (c := c) (f := f) (ch := r_dr g2) hG hc hcl rfl hCd hw (r_src_dr hD2.2.2) (r_Hc_dr56 hG (d := 22) rfl (by decide) rfl (by show w1.1 22 2 = _; rw [hfr 22 (by omega)]; exact hD2.1) (by show ∀ i, 0 ≤ i → i < g2 0 → w1.1 23 i = _; rw [hfr 23 (by omega)]; exact hD2.2.1) hD2.2.2 (by show _ ≤ ((60 : Nat) : Int); have := hD2.2.2.1; omega))) rfl rfl mX7_go_ok rfl rfl rfl (by decide) rfl rfl rfl ?_
      rintro _ w3 ⟨rfl, ⟨m, hr⟩, hF⟩ _
      have hT2 := c_D_of hN2 hr
      have hT13 : c_T 50 n1 _ _ _ _ _ _ _ w3 := c_T_fr (fun c9 z1 z2 => hF.1 c9 (by omega)) hT1
      have hkp3 : tp_kp μ w3 := fun k9 z9 => (hF.1 k9 (by unfold tp_tl at z9; omega)).trans (hkp1 k9 z9)
      have e1 := hT13.1
      have e2 := hT2.1
      refine g_aload_n rfl rfl ?_
      refine x_getF (r := 50) hG rfl rfl (by decide) (Or.inl ⟨_, rfl⟩) rfl ?_
      refine x_geti (v := (w3.1 50 6)) rfl rfl (by decide) (Or.inl rfl) rfl ?_
      refine g_aload_n rfl rfl ?_
      refine x_getF (r := 56) hG rfl rfl (by decide) (Or.inl ⟨_, rfl⟩) rfl ?_
      refine x_geti (v := (w3.1 56 6)) rfl rfl (by decide) (Or.inl rfl) rfl ?_
      refine g_min rfl rfl ?_
      refine g_istore rfl rfl rfl ?_
      refine g_iconst rfl ⟨by decide, by decide⟩ ?_
      refine g_istore rfl rfl rfl ?_
      rw [e1, e2]
      refine tp_conseq (fun r9 μ9 q9 => ?_) (l_apart hG ⟨by omega, by omega⟩ ⟨by omega, by omega⟩ hT13 hT2 0 (by omega) (by omega) (fun j g1 g2 => absurd g2 (by omega)))
      obtain ⟨v, rfl, hq, e9⟩ := q9
      have e9 := e9.symm
      subst e9
      refine ⟨v, rfl, ?_⟩
      refine tp_ok_of mX12_apart_ok rfl (Nat.le_refl _) ?_
      refine g_aload_n rfl rfl ?_
      refine g_iconst rfl ⟨by decide, by decide⟩ ?_
      refine g_puti rfl rfl (by decide) rfl rfl ?_
      refine g_aload_n rfl rfl ?_
      refine g_iload_n rfl rfl ?_
      refine g_iload_n rfl rfl ?_
      refine g_cV (as := [tI (a : Int), tI (d : Int)]) (s_lay hG (k := (a : Int)) (d := (d : Int)) (f := f) (g := g1) (by omega) (by omega) (by show (a : Int) < w3.1 206 0 ∧ w3.1 206 0 ≤ 2; rw [hkp3 206 (by unfold tp_tl; omega)]; omega) (by show (d : Int) < w3.1 206 1 ∧ w3.1 206 1 ≤ 2; rw [hkp3 206 (by unfold tp_tl; omega)]; omega) (by rw [ef]; show _ = fun i => w3.1 207 _; rw [hkp3 207 (by unfold tp_tl; omega)]; rfl) (by rw [eg1]; show _ = fun i => w3.1 208 _; rw [hkp3 208 (by unfold tp_tl; omega)]; rfl) hw hD1 hN1) rfl rfl mX12_lay_ok rfl rfl rfl (by decide) rfl rfl rfl ?_
      rintro _ w4 ⟨rfl, hTm, hMc, hGm, hdr, hdm⟩ _
      have hkp4 : tp_kp μ w4 := m_G_kp (tp_kp_pi (by decide) hkp3) hGm
      have h206 : w4.1 206 1 = μ.1 206 1 := by rw [hkp4 206 (by unfold tp_tl; omega)]
      have e4 := hTm.1
      refine g_if_eq (tgt := 23) rfl (by decide) (fun hx => absurd hx (by omega)) (fun _ => ?_)
      refine g_aload_n rfl rfl ?_
      refine g_iconst rfl ⟨by decide, by decide⟩ ?_
      refine g_iload_n rfl rfl ?_
      refine g_iV (as := [tI 1, tI 0]) mX12_is_ok rfl rfl rfl rfl rfl rfl (by decide) rfl rfl rfl ?_
      refine g_iload_n rfl rfl ?_
      refine g_iconst rfl ⟨by decide, by decide⟩ ?_
      refine g_aload_n rfl rfl ?_
      refine x_getF (r := 206) hG rfl rfl (by decide) (Or.inr ⟨_, rfl⟩) rfl ?_
      refine g_iload_n rfl rfl ?_
      refine x_iald (v := (w4.1 206 1)) rfl rfl (by decide) (by decide) (by decide) rfl ?_
      refine g_iconst rfl ⟨by decide, by decide⟩ ?_
      refine x_isub (z := (w4.1 206 1) - 1) rfl (by omega) ⟨by omega, by omega⟩ ?_
      refine g_iS (as := [tI 0, tI 0, tI ((w4.1 206 1) - 1)]) mX12_in_ok rfl rfl rfl rfl rfl rfl rfl ?_
      refine g_iload_n rfl rfl ?_
      refine g_iload_n rfl rfl ?_
      refine g_icmp_lt (tgt := 14) rfl (by decide) (fun hx => absurd hx (by omega)) (fun _ => ?_)
      refine g_iload_n rfl rfl ?_
      refine g_iload_n rfl rfl ?_
      refine g_icmp_gt (tgt := 14) rfl (by decide) (fun hx => absurd hx (by omega)) (fun _ => ?_)
      refine g_iconst rfl ⟨by decide, by decide⟩ ?_
      refine g_goto (tgt := 15) rfl (by decide) ?_
      refine x_zreturn rfl rfl (Or.inr rfl) ?_
      intro _
      refine x_zreturn rfl rfl (Or.inr rfl) ?_
      intro _
      refine g_if_ne (tgt := 25) rfl (by decide) (fun _ => ?_) (fun hx => absurd hx (by omega))
      refine g_aload_n rfl rfl ?_
      refine x_geti (v := (w4.1 201 27)) rfl rfl (by decide) (Or.inl rfl) rfl ?_
      refine g_istore rfl rfl rfl ?_
      refine g_iconst rfl ⟨by decide, by decide⟩ ?_
      refine g_istore rfl rfl rfl ?_
      rw [e4]
      refine tp_conseq (fun r9 μ9 q9 => ?_) (l_apartC0 hG hw hD2.2.2 ⟨by omega, by omega⟩ ⟨by omega, by omega⟩ hN2 hTm hMc hdm (fun i g1 g2 => by rw [hkp4 208 (by unfold tp_tl; omega), eg2]; rfl) 0 (by omega) _ (by omega) (fun j g1 g2 => absurd g2 (by omega)) q_f1_rf)
      obtain ⟨v2, rfl, hq2, hfr9⟩ := q9
      exact ⟨by rw [q_ap_u hq hq2], tp_R_kp hR (fun k9 z9 => (hfr9 k9 (by unfold tp_tl at z9; omega) (by unfold tp_tl at z9; omega) (by unfold tp_tl at z9; omega)).trans (hkp4 k9 z9))⟩
  · by_cases hab : ((a < 0 ∨ μ.1 5 0 ≤ a) ∨ (d < 0 ∨ μ.1 5 1 ≤ d))
    · obtain ⟨hX, hM⟩ := tp_layo hG hR hab
      refine tp_ok_of mX11_apart_ok rfl (Nat.le_refl _) ?_
      refine g_aload_n rfl rfl ?_
      refine x_getF (r := 1) hG rfl rfl (by decide) (Or.inl ⟨_, rfl⟩) rfl ?_
      refine g_iconst rfl ⟨by decide, by decide⟩ ?_
      refine g_iload_n rfl rfl ?_
      refine g_cV (as := [tI 1, tI 1]) (s_rowOf11 hG hd) rfl rfl mX9_rowOf_ok rfl rfl rfl (by decide) rfl rfl rfl ?_
      rintro _ w9 ⟨rfl, hw9⟩ _
      have hw9 := hw9.symm
      subst hw9
      refine g_astore rfl rfl rfl ?_
      refine g_aload rfl rfl ?_
      refine g_ifnull (tgt := 25) rfl (by decide) (fun hx => by cases hx) (fun _ _ => ?_)
      refine g_aload_n rfl rfl ?_
      refine g_iload_n rfl rfl ?_
      refine g_iload_n rfl rfl ?_
      refine g_cV (as := [tI a, tI d]) (hX) rfl rfl mX11_follow_ok rfl rfl rfl (by decide) rfl rfl rfl ?_
      rintro _ w9 ⟨rfl, hw9⟩ _
      have hw9 := hw9.symm
      subst hw9
      refine g_if_ne (tgt := 27) rfl (by decide) (fun hx => absurd hx (by omega)) (fun _ => ?_)
      refine g_iconst rfl ⟨by decide, by decide⟩ ?_
      refine x_ireturn rfl rfl ?_
      refine ⟨_, rfl, ?_⟩
      refine tp_ok_of mX12_apart_ok rfl (Nat.le_refl _) ?_
      refine g_aload_n rfl rfl ?_
      refine g_iconst rfl ⟨by decide, by decide⟩ ?_
      refine g_puti rfl rfl (by decide) rfl rfl ?_
      refine g_aload_n rfl rfl ?_
      refine g_iload_n rfl rfl ?_
      refine g_iload_n rfl rfl ?_
      refine g_cV (as := [tI a, tI d]) (hM _ (tp_kp_pi (by decide) tp_kp_rf)) rfl rfl mX12_lay_ok rfl rfl rfl (by decide) rfl rfl rfl ?_
      rintro _ w4 ⟨rfl, hGm⟩ _
      have hkp4 : tp_kp μ w4 := m_G_kp (tp_kp_pi (by decide) tp_kp_rf) hGm
      refine g_if_eq (tgt := 23) rfl (by decide) (fun _ => ?_) (fun hx => absurd hx (by omega))
      refine g_iconst rfl ⟨by decide, by decide⟩ ?_
      refine x_ireturn rfl rfl ?_
      exact ⟨rfl, tp_R_kp hR hkp4⟩
    · obtain ⟨a, rfl⟩ : ∃ a9 : Nat, a = (a9 : Int) := ⟨a.toNat, by omega⟩
      obtain ⟨d, rfl⟩ : ∃ d9 : Nat, d = (d9 : Int) := ⟨d.toNat, by omega⟩
      have hk : a < 2 := by omega
      have hd9 : d < 2 := by omega
      have hk1 : (a : Int) < μ.1 5 0 := by omega
      have hd1 : (d : Int) < μ.1 5 1 := by omega
      obtain ⟨f, ef⟩ : ∃ f, f = tp_cf μ (a : Int) := ⟨_, rfl⟩
      obtain ⟨g1, eg1⟩ : ∃ g1, g1 = tp_df μ (d : Int) := ⟨_, rfl⟩
      obtain ⟨g2, eg2⟩ : ∃ g2, g2 = tp_df μ 1 := ⟨_, rfl⟩
      obtain ⟨n1, hn1, hN1⟩ := r_N_ex f (r_dr g1) 0
      obtain ⟨n2, hn2, hN2⟩ := r_N_ex f (r_dr g2) 0
      have hC := tp_Cd_R hR hk hk1
      rw [← ef] at hC
      have hw := hC.2
      obtain ⟨c, hcE⟩ : ∃ c, c = 6 + 5 * a := ⟨_, rfl⟩
      have hCd0 : tp_Cd c f μ := by rw [hcE]; exact hC.1
      have hc : tp_SH c = .inl 0 := by rcases (show a = 0 ∨ a = 1 by omega) with q | q <;> (subst q; subst hcE; rfl)
      have hcl : c < 37 := by omega
      have hcn : c < 234 := by omega
      have hD1 : tp_Dw g1 := by rw [eg1]; exact (tp_R_drive hR d hd9 hd1).2.2
      have hD2 : μ.1 25 2 = g2 0 ∧ (∀ i, 0 ≤ i → i < g2 0 → μ.1 26 i = g2 (1 + i)) ∧ tp_Dw g2 := by rw [eg2]; exact tp_R_drive hR 1 (by decide) hd
      refine tp_ok_of mX11_apart_ok rfl (Nat.le_refl _) ?_
      refine g_aload_n rfl rfl ?_
      refine x_getF (r := 1) hG rfl rfl (by decide) (Or.inl ⟨_, rfl⟩) rfl ?_
      refine g_iconst rfl ⟨by decide, by decide⟩ ?_
      refine g_iload_n rfl rfl ?_
      refine g_cV (as := [tI 1, tI 1]) (s_rowOf11 hG hd) rfl rfl mX9_rowOf_ok rfl rfl rfl (by decide) rfl rfl rfl ?_
      rintro _ w9 ⟨rfl, hw9⟩ _
      have hw9 := hw9.symm
      subst hw9
      refine g_astore rfl rfl rfl ?_
      refine g_aload rfl rfl ?_
      refine g_ifnull (tgt := 25) rfl (by decide) (fun hx => by cases hx) (fun _ _ => ?_)
      refine g_aload_n rfl rfl ?_
      refine g_iload_n rfl rfl ?_
      refine g_iload_n rfl rfl ?_
      refine g_cV (as := [tI (a : Int), tI (d : Int)]) (s_follow hG hR hk hd9 hk1 hd1 ef eg1 hN1) rfl rfl mX11_follow_ok rfl rfl rfl (by decide) rfl rfl rfl ?_
      rintro _ w1 ⟨rfl, hT1, hco, hfr⟩ _
      rw [← hcE] at hco
      have hkp1 : tp_kp μ w1 := fun k9 z9 => hfr k9 (by unfold tp_tl at z9; omega)
      have hCd : tp_Cd c f w1 := tp_Cd_fr hcl (fun k9 z9 => hfr k9 (by omega)) hCd0
      refine g_if_ne (tgt := 27) rfl (by decide) (fun _ => ?_) (fun hx => absurd hx (by omega))
      refine g_aload_n rfl rfl ?_
      refine x_getF (r := 56) hG rfl rfl (by decide) (Or.inl ⟨_, rfl⟩) rfl ?_
      refine g_aload_n rfl rfl ?_
      refine x_getF (r := 50) hG rfl rfl (by decide) (Or.inl ⟨_, rfl⟩) rfl ?_
      refine x_getM (v := (some c)) hG rfl rfl (by decide) (Or.inl ⟨_, rfl⟩) rfl hco ?_
      refine g_aload rfl rfl ?_
      refine g_iV (as := [tR (some c), tR (some 25)]) mX7_driveBy_ok rfl rfl rfl rfl rfl rfl (by decide) rfl rfl rfl ?_
      refine g_aload_n rfl rfl ?_
      refine g_aload_n rfl rfl ?_
      refine x_putr rfl rfl (by decide) rfl (Or.inl ⟨_, rfl⟩) rfl ?_
      refine g_aload_n rfl rfl ?_
      refine g_aload_n rfl rfl ?_
      refine x_putr rfl rfl (by decide) rfl (Or.inl ⟨_, rfl⟩) rfl ?_
      refine x_return rfl rfl ?_
      intro _
      refine g_aload_n rfl rfl ?_
      refine x_getF (r := 56) hG rfl rfl (by decide) (Or.inl ⟨_, rfl⟩) rfl ?_
      refine g_cV (as := []) (s_go56 (c := c) (f := f) (ch := r_dr g2) hG hc hcl rfl hCd hw (r_src_dr hD2.2.2) (r_Hc_dr56 hG (d := 25) rfl (by decide) rfl (by show w1.1 25 2 = _; rw [hfr 25 (by omega)]; exact hD2.1) (by show ∀ i, 0 ≤ i → i < g2 0 → w1.1 26 i = _; rw [hfr 26 (by omega)]; exact hD2.2.1) hD2.2.2 (by show _ ≤ ((60 : Nat) : Int); have := hD2.2.2.1; omega))) rfl rfl mX7_go_ok rfl rfl rfl (by decide) rfl rfl rfl ?_
      rintro _ w3 ⟨rfl, ⟨m, hr⟩, hF⟩ _
      have hT2 := c_D_of hN2 hr
      have hT13 : c_T 50 n1 _ _ _ _ _ _ _ w3 := c_T_fr (fun c9 z1 z2 => hF.1 c9 (by omega)) hT1
      have hkp3 : tp_kp μ w3 := fun k9 z9 => (hF.1 k9 (by unfold tp_tl at z9; omega)).trans (hkp1 k9 z9)
      have e1 := hT13.1
      have e2 := hT2.1
      refine g_aload_n rfl rfl ?_
      refine x_getF (r := 50) hG rfl rfl (by decide) (Or.inl ⟨_, rfl⟩) rfl ?_
      refine x_geti (v := (w3.1 50 6)) rfl rfl (by decide) (Or.inl rfl) rfl ?_
      refine g_aload_n rfl rfl ?_
      refine x_getF (r := 56) hG rfl rfl (by decide) (Or.inl ⟨_, rfl⟩) rfl ?_
      refine x_geti (v := (w3.1 56 6)) rfl rfl (by decide) (Or.inl rfl) rfl ?_
      refine g_min rfl rfl ?_
      refine g_istore rfl rfl rfl ?_
      refine g_iconst rfl ⟨by decide, by decide⟩ ?_
      refine g_istore rfl rfl rfl ?_
      rw [e1, e2]
      refine tp_conseq (fun r9 μ9 q9 => ?_) (l_apart hG ⟨by omega, by omega⟩ ⟨by omega, by omega⟩ hT13 hT2 0 (by omega) (by omega) (fun j g1 g2 => absurd g2 (by omega)))
      obtain ⟨v, rfl, hq, e9⟩ := q9
      have e9 := e9.symm
      subst e9
      refine ⟨v, rfl, ?_⟩
      refine tp_ok_of mX12_apart_ok rfl (Nat.le_refl _) ?_
      refine g_aload_n rfl rfl ?_
      refine g_iconst rfl ⟨by decide, by decide⟩ ?_
      refine g_puti rfl rfl (by decide) rfl rfl ?_
      refine g_aload_n rfl rfl ?_
      refine g_iload_n rfl rfl ?_
      refine g_iload_n rfl rfl ?_
      refine g_cV (as := [tI (a : Int), tI (d : Int)]) (s_lay hG (k := (a : Int)) (d := (d : Int)) (f := f) (g := g1) (by omega) (by omega) (by show (a : Int) < w3.1 206 0 ∧ w3.1 206 0 ≤ 2; rw [hkp3 206 (by unfold tp_tl; omega)]; omega) (by show (d : Int) < w3.1 206 1 ∧ w3.1 206 1 ≤ 2; rw [hkp3 206 (by unfold tp_tl; omega)]; omega) (by rw [ef]; show _ = fun i => w3.1 207 _; rw [hkp3 207 (by unfold tp_tl; omega)]; rfl) (by rw [eg1]; show _ = fun i => w3.1 208 _; rw [hkp3 208 (by unfold tp_tl; omega)]; rfl) hw hD1 hN1) rfl rfl mX12_lay_ok rfl rfl rfl (by decide) rfl rfl rfl ?_
      rintro _ w4 ⟨rfl, hTm, hMc, hGm, hdr, hdm⟩ _
      have hkp4 : tp_kp μ w4 := m_G_kp (tp_kp_pi (by decide) hkp3) hGm
      have h206 : w4.1 206 1 = μ.1 206 1 := by rw [hkp4 206 (by unfold tp_tl; omega)]
      have e4 := hTm.1
      refine g_if_eq (tgt := 23) rfl (by decide) (fun hx => absurd hx (by omega)) (fun _ => ?_)
      refine g_aload_n rfl rfl ?_
      refine g_iconst rfl ⟨by decide, by decide⟩ ?_
      refine g_iload_n rfl rfl ?_
      refine g_iV (as := [tI 1, tI 1]) mX12_is_ok rfl rfl rfl rfl rfl rfl (by decide) rfl rfl rfl ?_
      refine g_iload_n rfl rfl ?_
      refine g_iconst rfl ⟨by decide, by decide⟩ ?_
      refine g_aload_n rfl rfl ?_
      refine x_getF (r := 206) hG rfl rfl (by decide) (Or.inr ⟨_, rfl⟩) rfl ?_
      refine g_iload_n rfl rfl ?_
      refine x_iald (v := (w4.1 206 1)) rfl rfl (by decide) (by decide) (by decide) rfl ?_
      refine g_iconst rfl ⟨by decide, by decide⟩ ?_
      refine x_isub (z := (w4.1 206 1) - 1) rfl (by omega) ⟨by omega, by omega⟩ ?_
      refine g_iS (as := [tI 1, tI 0, tI ((w4.1 206 1) - 1)]) mX12_in_ok rfl rfl rfl rfl rfl rfl rfl ?_
      refine g_iload_n rfl rfl ?_
      refine g_iload_n rfl rfl ?_
      refine g_icmp_lt (tgt := 14) rfl (by decide) (fun hx => absurd hx (by omega)) (fun _ => ?_)
      refine g_iload_n rfl rfl ?_
      refine g_iload_n rfl rfl ?_
      refine g_icmp_gt (tgt := 14) rfl (by decide) (fun hx => absurd hx (by omega)) (fun _ => ?_)
      refine g_iconst rfl ⟨by decide, by decide⟩ ?_
      refine g_goto (tgt := 15) rfl (by decide) ?_
      refine x_zreturn rfl rfl (Or.inr rfl) ?_
      intro _
      refine x_zreturn rfl rfl (Or.inr rfl) ?_
      intro _
      refine g_if_ne (tgt := 25) rfl (by decide) (fun _ => ?_) (fun hx => absurd hx (by omega))
      refine g_aload_n rfl rfl ?_
      refine x_geti (v := (w4.1 201 27)) rfl rfl (by decide) (Or.inl rfl) rfl ?_
      refine g_istore rfl rfl rfl ?_
      refine g_iconst rfl ⟨by decide, by decide⟩ ?_
      refine g_istore rfl rfl rfl ?_
      rw [e4]
      refine tp_conseq (fun r9 μ9 q9 => ?_) (l_apartC1 hG hw hD2.2.2 ⟨by omega, by omega⟩ ⟨by omega, by omega⟩ hN2 hTm hMc hdm (fun i g1 g2 => by rw [hkp4 208 (by unfold tp_tl; omega), eg2]; rfl) 0 (by omega) _ (by omega) (fun j g1 g2 => absurd g2 (by omega)) q_f1_rf)
      obtain ⟨v2, rfl, hq2, hfr9⟩ := q9
      exact ⟨by rw [q_ap_u hq hq2], tp_R_kp hR (fun k9 z9 => (hfr9 k9 (by unfold tp_tl at z9; omega) (by unfold tp_tl at z9; omega) (by unfold tp_tl at z9; omega)).trans (hkp4 k9 z9))⟩
  · by_cases hab : ((a < 0 ∨ μ.1 5 0 ≤ a) ∨ (d < 0 ∨ μ.1 5 1 ≤ d))
    · obtain ⟨hX, hM⟩ := tp_layo hG hR hab
      refine tp_ok_of mX11_apart_ok rfl (Nat.le_refl _) ?_
      refine g_aload_n rfl rfl ?_
      refine x_getF (r := 1) hG rfl rfl (by decide) (Or.inl ⟨_, rfl⟩) rfl ?_
      refine g_iconst rfl ⟨by decide, by decide⟩ ?_
      refine g_iload_n rfl rfl ?_
      refine g_cV (as := [tI 1, tI x]) (s_rowOf1o hG hd) rfl rfl mX9_rowOf_ok rfl rfl rfl (by decide) rfl rfl rfl ?_
      rintro _ w9 ⟨rfl, hw9⟩ _
      have hw9 := hw9.symm
      subst hw9
      refine g_astore rfl rfl rfl ?_
      refine g_aload rfl rfl ?_
      refine g_ifnull (tgt := 25) rfl (by decide) (fun _ => ?_) (fun _ hx => by cases hx)
      refine g_iconst rfl ⟨by decide, by decide⟩ ?_
      refine x_ireturn rfl rfl ?_
      refine ⟨_, rfl, ?_⟩
      refine tp_ok_of mX12_apart_ok rfl (Nat.le_refl _) ?_
      refine g_aload_n rfl rfl ?_
      refine g_iconst rfl ⟨by decide, by decide⟩ ?_
      refine g_puti rfl rfl (by decide) rfl rfl ?_
      refine g_aload_n rfl rfl ?_
      refine g_iload_n rfl rfl ?_
      refine g_iload_n rfl rfl ?_
      refine g_cV (as := [tI a, tI d]) (hM _ (tp_kp_pi (by decide) tp_kp_rf)) rfl rfl mX12_lay_ok rfl rfl rfl (by decide) rfl rfl rfl ?_
      rintro _ w4 ⟨rfl, hGm⟩ _
      have hkp4 : tp_kp μ w4 := m_G_kp (tp_kp_pi (by decide) tp_kp_rf) hGm
      refine g_if_eq (tgt := 23) rfl (by decide) (fun _ => ?_) (fun hx => absurd hx (by omega))
      refine g_iconst rfl ⟨by decide, by decide⟩ ?_
      refine x_ireturn rfl rfl ?_
      exact ⟨rfl, tp_R_kp hR hkp4⟩
    · obtain ⟨a, rfl⟩ : ∃ a9 : Nat, a = (a9 : Int) := ⟨a.toNat, by omega⟩
      obtain ⟨d, rfl⟩ : ∃ d9 : Nat, d = (d9 : Int) := ⟨d.toNat, by omega⟩
      obtain ⟨n, A, B, Y, H, E, D, U, T, hW, hw, hCd0, hX, hM⟩ := tp_lay hG hR (k := a) (d := d) (by omega) (by omega) (by omega) (by omega)
      refine tp_ok_of mX11_apart_ok rfl (Nat.le_refl _) ?_
      refine g_aload_n rfl rfl ?_
      refine x_getF (r := 1) hG rfl rfl (by decide) (Or.inl ⟨_, rfl⟩) rfl ?_
      refine g_iconst rfl ⟨by decide, by decide⟩ ?_
      refine g_iload_n rfl rfl ?_
      refine g_cV (as := [tI 1, tI x]) (s_rowOf1o hG hd) rfl rfl mX9_rowOf_ok rfl rfl rfl (by decide) rfl rfl rfl ?_
      rintro _ w9 ⟨rfl, hw9⟩ _
      have hw9 := hw9.symm
      subst hw9
      refine g_astore rfl rfl rfl ?_
      refine g_aload rfl rfl ?_
      refine g_ifnull (tgt := 25) rfl (by decide) (fun _ => ?_) (fun _ hx => by cases hx)
      refine g_iconst rfl ⟨by decide, by decide⟩ ?_
      refine x_ireturn rfl rfl ?_
      refine ⟨_, rfl, ?_⟩
      refine tp_ok_of mX12_apart_ok rfl (Nat.le_refl _) ?_
      refine g_aload_n rfl rfl ?_
      refine g_iconst rfl ⟨by decide, by decide⟩ ?_
      refine g_puti rfl rfl (by decide) rfl rfl ?_
      refine g_aload_n rfl rfl ?_
      refine g_iload_n rfl rfl ?_
      refine g_iload_n rfl rfl ?_
      refine g_cV (as := [tI (a : Int), tI (d : Int)]) (hM _ (tp_kp_pi (by decide) tp_kp_rf)) rfl rfl mX12_lay_ok rfl rfl rfl (by decide) rfl rfl rfl ?_
      rintro _ w4 ⟨rfl, hTm, hMc, hGm, hdr, hdm⟩ _
      have hkp4 : tp_kp μ w4 := m_G_kp (tp_kp_pi (by decide) tp_kp_rf) hGm
      have h206 : w4.1 206 1 = μ.1 206 1 := by rw [hkp4 206 (by unfold tp_tl; omega)]
      refine g_if_eq (tgt := 23) rfl (by decide) (fun hx => absurd hx (by omega)) (fun _ => ?_)
      refine g_aload_n rfl rfl ?_
      refine g_iconst rfl ⟨by decide, by decide⟩ ?_
      refine g_iload_n rfl rfl ?_
      refine g_iV (as := [tI 1, tI x]) mX12_is_ok rfl rfl rfl rfl rfl rfl (by decide) rfl rfl rfl ?_
      refine g_iload_n rfl rfl ?_
      refine g_iconst rfl ⟨by decide, by decide⟩ ?_
      refine g_aload_n rfl rfl ?_
      refine x_getF (r := 206) hG rfl rfl (by decide) (Or.inr ⟨_, rfl⟩) rfl ?_
      refine g_iload_n rfl rfl ?_
      refine x_iald (v := (w4.1 206 1)) rfl rfl (by decide) (by decide) (by decide) rfl ?_
      refine g_iconst rfl ⟨by decide, by decide⟩ ?_
      refine x_isub (z := (w4.1 206 1) - 1) rfl (by omega) ⟨by omega, by omega⟩ ?_
      refine g_iS (as := [tI x, tI 0, tI ((w4.1 206 1) - 1)]) mX12_in_ok rfl rfl rfl rfl rfl rfl rfl ?_
      refine g_iload_n rfl rfl ?_
      refine g_iload_n rfl rfl ?_
      refine g_icmp_lt (tgt := 14) rfl (by decide) (fun h1 => ?_) (fun h1 => ?_)
      · refine g_iconst rfl ⟨by decide, by decide⟩ ?_
        refine x_zreturn rfl rfl (Or.inl rfl) ?_
        intro _
        refine x_zreturn rfl rfl (Or.inl rfl) ?_
        intro _
        refine g_if_ne (tgt := 25) rfl (by decide) (fun hx => absurd hx (by omega)) (fun _ => ?_)
        refine g_iconst rfl ⟨by decide, by decide⟩ ?_
        refine x_ireturn rfl rfl ?_
        exact ⟨rfl, tp_R_kp hR hkp4⟩
      · refine g_iload_n rfl rfl ?_
        refine g_iload_n rfl rfl ?_
        refine g_icmp_gt (tgt := 14) rfl (by decide) (fun h2 => ?_) (fun h2 => ?_)
        · refine g_iconst rfl ⟨by decide, by decide⟩ ?_
          refine x_zreturn rfl rfl (Or.inl rfl) ?_
          intro _
          refine x_zreturn rfl rfl (Or.inl rfl) ?_
          intro _
          refine g_if_ne (tgt := 25) rfl (by decide) (fun hx => absurd hx (by omega)) (fun _ => ?_)
          refine g_iconst rfl ⟨by decide, by decide⟩ ?_
          refine x_ireturn rfl rfl ?_
          exact ⟨rfl, tp_R_kp hR hkp4⟩
        · refine g_iconst rfl ⟨by decide, by decide⟩ ?_
          refine g_goto (tgt := 15) rfl (by decide) ?_
          refine x_zreturn rfl rfl (Or.inr rfl) ?_
          intro _
          refine x_zreturn rfl rfl (Or.inr rfl) ?_
          intro _
          refine g_if_ne (tgt := 25) rfl (by decide) (fun _ => ?_) (fun hx => absurd hx (by omega))
          refine g_aload_n rfl rfl ?_
          refine x_geti (v := (w4.1 201 27)) rfl rfl (by decide) (Or.inl rfl) rfl ?_
          refine g_istore rfl rfl rfl ?_
          refine g_iconst rfl ⟨by decide, by decide⟩ ?_
          refine g_istore rfl rfl rfl ?_
          omega
