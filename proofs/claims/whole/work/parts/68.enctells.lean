theorem e_gto_on {f : Int → Int} {b k : Int} {σ : tp_M} (h : σ.1 0 5 = 1) : e_ppk f k σ = 1 ↔ (e_gto f b k σ).1 0 5 = 1 := by
  rcases e_ppk_b f k σ with q | q
  · have := e_gto_off (b := b) q
    omega
  · refine ⟨fun _ => ?_, fun _ => q⟩
    have e := e_ppk_y q
    unfold e_gto
    rw [if_pos q, e_pp_y e.1]
    show (e_put f 2 b (e_dg b σ) (4 + 3 * e_dg b σ) k (k + 1) (e_pm f k σ)).1 0 5 = 1
    rw [(e_put_kp e.2).1, (e_pm_kp e.1).1]
    exact h
theorem e_ppk_l (f : Int → Int) (k : Int) (σ : tp_M) : 0 ≤ e_ppk f k σ ∧ e_ppk f k σ ≤ 1 := by have := e_ppk_b f k σ; omega
set_option maxHeartbeats 4000000 in
set_option maxRecDepth 100000 in
theorem s_tellsM {G : tp_G} {μ : tp_M} (hG : tp_Gf G = true) {ck : Int} {f : Int → Int} {μ0 σ : tp_M} {m k : Int} (hw : tp_Cw f) (hMc0 : tp_Mc ck f μ0) (hm : 0 ≤ m ∧ m ≤ 200) (hk : 0 ≤ k ∧ k ≤ 200) (hE : m_E μ0 σ μ) (hJ : e_J f m k σ) {n : Int} {A B Y H : Int → Int} {E D U T : Int} (hW : r_W f n A B Y H) (hT0 : m_T n A B Y E D U T μ0) (hkn : k < n) {dp : Int} (hdp4 : 0 ≤ dp ∧ dp ≤ 4) (hmm : σ.1 0 2 < 9) (hon : σ.1 0 5 = 1) : tp_k G mX12_tells [tR (some 201), tI k, tI dp] μ (fun r μ' => ∃ v, r = some (tI v) ∧ (v = 0 ∨ v = 1) ∧ (v = 1 ↔ (e_tel f (A k) (B k) (Y k) dp k σ).1 0 5 = 1) ∧ m_E μ0 (e_tel f (A k) (B k) (Y k) dp k σ) μ') := by
  have hw0 := hw.1
  have hrl := hw.2.2
  obtain ⟨⟨a0, a1, a2, a4, a5, a6, a7, a8, a9, a10, a12, ak, al⟩, hB, hS, hF, hG2⟩ := m_E_lin hE
  obtain ⟨j1, j2, j3, j4, j5, j6, j7, j8, j9⟩ := e_J_lin hJ
  have hMc : tp_Mc ck f μ := m_E_Mc hF hG2 hMc0
  have hT : m_T n A B Y E D U T μ := m_E_T hF hG2 hT0
  have hn0 := hW.1
  have hak := (hW.2.2.2 k hk.1 hkn).1.1
  have hbk : q_H (B k = -1 ∨ (0 ≤ B k ∧ B k ≤ 40)) := (hW.2.2.2 k hk.1 hkn).1.2.1
  have hyk : q_H (Y k = 0 ∨ Y k = 1) := (hW.2.2.2 k hk.1 hkn).1.2.2.1
  have hyl : 0 ≤ Y k ∧ Y k ≤ 1 := by rcases hyk with q | q <;> omega
  have eA : μ.1 212 k = A k := hT.2.1 k hk.1 hkn
  have eB : μ.1 213 k = B k := hT.2.2.1 k hk.1 hkn
  have eY : μ.1 214 k = Y k := hT.2.2.2.1 k hk.1 hkn
  have hkk := (hw.2.1 (A k) hak.1 hak.2).1
  refine tp_ok_of mX12_tells_ok rfl (Nat.le_refl _) ?_
  rcases (show f (9 + A k) = 0 ∨ f (9 + A k) = 1 ∨ f (9 + A k) = 2 ∨ f (9 + A k) = 3 ∨ f (9 + A k) = 4 ∨ f (9 + A k) = 5 ∨ f (9 + A k) = 6 by omega) with hkd | hkd | hkd | hkd | hkd | hkd | hkd
  · by_cases hbn : B k = -1
    · refine g_aload_n rfl rfl ?_
      refine g_aload_n rfl rfl ?_
      refine x_getF (r := 212) hG rfl rfl (by decide) (Or.inr ⟨_, rfl⟩) rfl ?_
      refine g_iload_n rfl rfl ?_
      refine x_iald (v := (μ.1 212 k)) rfl rfl (by decide) (by omega) (by omega) rfl ?_
      refine g_cV (as := [tI (μ.1 212 k)]) ((by rw [eA]; exact s_kindM hG hMc (by omega) (by omega))) rfl rfl mX12_kindAt_ok rfl rfl rfl (by decide) rfl rfl rfl ?_
      rintro _ w9 ⟨rfl, hw9⟩ _
      have hw9 := hw9.symm
      subst hw9
      refine g_istore_n rfl rfl rfl ?_
      refine g_iload_n rfl rfl ?_
      refine g_iconst rfl ⟨by decide, by decide⟩ ?_
      refine g_icmp_ne (tgt := 31) rfl (by decide) (fun _ => ?_) (fun hx => absurd hx (by omega))
      refine g_aload_n rfl rfl ?_
      refine x_getF (r := 213) hG rfl rfl (by decide) (Or.inr ⟨_, rfl⟩) rfl ?_
      refine g_iload_n rfl rfl ?_
      refine x_iald (v := (μ.1 213 k)) rfl rfl (by decide) (by omega) (by omega) rfl ?_
      refine g_iconst rfl ⟨by decide, by decide⟩ ?_
      refine g_icmp_ne (tgt := 43) rfl (by decide) (fun hx => absurd hx (by omega)) (fun _ => ?_)
      refine g_iconst rfl ⟨by decide, by decide⟩ ?_
      refine x_zreturn rfl rfl (Or.inr rfl) ?_
      have e9 : e_tel f (A k) (B k) (Y k) dp k σ = σ := by
        unfold e_tel
        rw [if_neg (by omega), if_pos (by omega)]
      rw [e9]
      exact ⟨_, rfl, (by omega), ⟨fun _ => hon, fun _ => rfl⟩, hE⟩
    · have hb0 : 0 ≤ B k ∧ B k ≤ 40 := by rcases hbk with q | q; exact absurd q hbn; exact q
      refine g_aload_n rfl rfl ?_
      refine g_aload_n rfl rfl ?_
      refine x_getF (r := 212) hG rfl rfl (by decide) (Or.inr ⟨_, rfl⟩) rfl ?_
      refine g_iload_n rfl rfl ?_
      refine x_iald (v := (μ.1 212 k)) rfl rfl (by decide) (by omega) (by omega) rfl ?_
      refine g_cV (as := [tI (μ.1 212 k)]) ((by rw [eA]; exact s_kindM hG hMc (by omega) (by omega))) rfl rfl mX12_kindAt_ok rfl rfl rfl (by decide) rfl rfl rfl ?_
      rintro _ w9 ⟨rfl, hw9⟩ _
      have hw9 := hw9.symm
      subst hw9
      refine g_istore_n rfl rfl rfl ?_
      refine g_iload_n rfl rfl ?_
      refine g_iconst rfl ⟨by decide, by decide⟩ ?_
      refine g_icmp_ne (tgt := 31) rfl (by decide) (fun _ => ?_) (fun hx => absurd hx (by omega))
      refine g_aload_n rfl rfl ?_
      refine x_getF (r := 213) hG rfl rfl (by decide) (Or.inr ⟨_, rfl⟩) rfl ?_
      refine g_iload_n rfl rfl ?_
      refine x_iald (v := (μ.1 213 k)) rfl rfl (by decide) (by omega) (by omega) rfl ?_
      refine g_iconst rfl ⟨by decide, by decide⟩ ?_
      refine g_icmp_ne (tgt := 43) rfl (by decide) (fun _ => ?_) (fun hx => absurd hx (by omega))
      refine g_iload_n rfl rfl ?_
      refine g_iconst rfl ⟨by decide, by decide⟩ ?_
      refine g_icmp_ne (tgt := 69) rfl (by decide) (fun _ => ?_) (fun hx => absurd hx (by omega))
      refine g_iload_n rfl rfl ?_
      refine g_iconst rfl ⟨by decide, by decide⟩ ?_
      refine g_icmp_ne (tgt := 82) rfl (by decide) (fun _ => ?_) (fun hx => absurd hx (by omega))
      refine g_iload_n rfl rfl ?_
      refine g_iconst rfl ⟨by decide, by decide⟩ ?_
      refine g_icmp_ne (tgt := 95) rfl (by decide) (fun _ => ?_) (fun hx => absurd hx (by omega))
      refine g_iconst rfl ⟨by decide, by decide⟩ ?_
      refine g_goto (tgt := 100) rfl (by decide) ?_
      refine x_zreturn rfl rfl (Or.inr rfl) ?_
      have e9 : e_tel f (A k) (B k) (Y k) dp k σ = σ := by
        unfold e_tel
        rw [if_neg (by omega), if_neg (by omega), if_neg (by omega), if_neg (by omega), if_neg (by omega)]
      rw [e9]
      exact ⟨_, rfl, (by omega), ⟨fun _ => hon, fun _ => rfl⟩, hE⟩
  · by_cases hbn : B k = -1
    · refine g_aload_n rfl rfl ?_
      refine g_aload_n rfl rfl ?_
      refine x_getF (r := 212) hG rfl rfl (by decide) (Or.inr ⟨_, rfl⟩) rfl ?_
      refine g_iload_n rfl rfl ?_
      refine x_iald (v := (μ.1 212 k)) rfl rfl (by decide) (by omega) (by omega) rfl ?_
      refine g_cV (as := [tI (μ.1 212 k)]) ((by rw [eA]; exact s_kindM hG hMc (by omega) (by omega))) rfl rfl mX12_kindAt_ok rfl rfl rfl (by decide) rfl rfl rfl ?_
      rintro _ w9 ⟨rfl, hw9⟩ _
      have hw9 := hw9.symm
      subst hw9
      refine g_istore_n rfl rfl rfl ?_
      refine g_iload_n rfl rfl ?_
      refine g_iconst rfl ⟨by decide, by decide⟩ ?_
      refine g_icmp_ne (tgt := 31) rfl (by decide) (fun _ => ?_) (fun hx => absurd hx (by omega))
      refine g_aload_n rfl rfl ?_
      refine x_getF (r := 213) hG rfl rfl (by decide) (Or.inr ⟨_, rfl⟩) rfl ?_
      refine g_iload_n rfl rfl ?_
      refine x_iald (v := (μ.1 213 k)) rfl rfl (by decide) (by omega) (by omega) rfl ?_
      refine g_iconst rfl ⟨by decide, by decide⟩ ?_
      refine g_icmp_ne (tgt := 43) rfl (by decide) (fun hx => absurd hx (by omega)) (fun _ => ?_)
      refine g_iconst rfl ⟨by decide, by decide⟩ ?_
      refine x_zreturn rfl rfl (Or.inr rfl) ?_
      have e9 : e_tel f (A k) (B k) (Y k) dp k σ = σ := by
        unfold e_tel
        rw [if_neg (by omega), if_pos (by omega)]
      rw [e9]
      exact ⟨_, rfl, (by omega), ⟨fun _ => hon, fun _ => rfl⟩, hE⟩
    · have hb0 : 0 ≤ B k ∧ B k ≤ 40 := by rcases hbk with q | q; exact absurd q hbn; exact q
      refine g_aload_n rfl rfl ?_
      refine g_aload_n rfl rfl ?_
      refine x_getF (r := 212) hG rfl rfl (by decide) (Or.inr ⟨_, rfl⟩) rfl ?_
      refine g_iload_n rfl rfl ?_
      refine x_iald (v := (μ.1 212 k)) rfl rfl (by decide) (by omega) (by omega) rfl ?_
      refine g_cV (as := [tI (μ.1 212 k)]) ((by rw [eA]; exact s_kindM hG hMc (by omega) (by omega))) rfl rfl mX12_kindAt_ok rfl rfl rfl (by decide) rfl rfl rfl ?_
      rintro _ w9 ⟨rfl, hw9⟩ _
      have hw9 := hw9.symm
      subst hw9
      refine g_istore_n rfl rfl rfl ?_
      refine g_iload_n rfl rfl ?_
      refine g_iconst rfl ⟨by decide, by decide⟩ ?_
      refine g_icmp_ne (tgt := 31) rfl (by decide) (fun _ => ?_) (fun hx => absurd hx (by omega))
      refine g_aload_n rfl rfl ?_
      refine x_getF (r := 213) hG rfl rfl (by decide) (Or.inr ⟨_, rfl⟩) rfl ?_
      refine g_iload_n rfl rfl ?_
      refine x_iald (v := (μ.1 213 k)) rfl rfl (by decide) (by omega) (by omega) rfl ?_
      refine g_iconst rfl ⟨by decide, by decide⟩ ?_
      refine g_icmp_ne (tgt := 43) rfl (by decide) (fun _ => ?_) (fun hx => absurd hx (by omega))
      refine g_iload_n rfl rfl ?_
      refine g_iconst rfl ⟨by decide, by decide⟩ ?_
      refine g_icmp_ne (tgt := 69) rfl (by decide) (fun hx => absurd hx (by omega)) (fun _ => ?_)
      refine g_aload_n rfl rfl ?_
      refine g_aload_n rfl rfl ?_
      refine x_getF (r := 214) hG rfl rfl (by decide) (Or.inr ⟨_, rfl⟩) rfl ?_
      refine g_iload_n rfl rfl ?_
      refine g_zald rfl rfl (by decide) (by omega) (by omega) ?_
      refine g_if_eq (tgt := 62) rfl (by decide) (fun h1 => ?_) (fun h1 => ?_)
      · refine g_iconst rfl ⟨by decide, by decide⟩ ?_
        refine g_iload_n rfl rfl ?_
        refine g_iV (as := [tI 0, tI k]) mX12_adds_ok rfl rfl rfl rfl rfl rfl (by decide) rfl rfl rfl ?_
        refine g_aload_n rfl rfl ?_
        refine g_dupr rfl ?_
        refine x_geti (v := (μ.1 201 52)) rfl rfl (by decide) (Or.inl rfl) rfl ?_
        refine g_iload_n rfl rfl ?_
        refine g_aload_n rfl rfl ?_
        refine x_geti (v := (μ.1 201 53)) rfl rfl (by decide) (Or.inl rfl) rfl ?_
        refine g_ishl rfl ?_
        refine g_ior rfl ?_
        refine g_puti rfl rfl (by decide) rfl rfl ?_
        refine g_aload_n rfl rfl ?_
        refine g_dupr rfl ?_
        refine x_geti (v := (μ.1 201 53)) rfl rfl (by decide) (Or.inl rfl) rfl ?_
        refine g_iconst rfl ⟨by decide, by decide⟩ ?_
        refine x_iadd (z := (μ.1 201 53) + 1) rfl (by omega) ⟨by omega, by omega⟩ ?_
        refine g_puti rfl rfl (by decide) rfl rfl ?_
        refine g_aload_n rfl rfl ?_
        refine g_iload_n rfl rfl ?_
        refine g_iconst rfl ⟨by decide, by decide⟩ ?_
        refine x_iadd (z := k + 1) rfl (by omega) ⟨by omega, by omega⟩ ?_
        refine g_puti rfl rfl (by decide) rfl rfl ?_
        refine x_return rfl rfl ?_
        intro _
        refine g_iconst rfl ⟨by decide, by decide⟩ ?_
        refine x_zreturn rfl rfl (Or.inr rfl) ?_
        have e9 : e_tel f (A k) (B k) (Y k) dp k σ = e_bit 0 k σ := by
          unfold e_tel
          rw [if_neg (by omega), if_neg (by omega), if_pos (by omega), show Y k = 0 by omega]
        rw [e9]
        exact ⟨_, rfl, (by omega), ⟨fun _ => hon, fun _ => rfl⟩, ⟨⟨a0, (by show (tp_or (μ.1 201 52) (tp_ishl 0 (μ.1 201 53))) = (tp_or (σ.1 0 1) (tp_ishl 0 (σ.1 0 2))); first | (rw [a1]; done) | (simp only [a0, a1, a2, a4, a5, a6, a7, a8, a9, a10, a12]; done) | omega), (by show (μ.1 201 53) + 1 = (σ.1 0 2) + 1; first | (rw [a2]; done) | (simp only [a0, a1, a2, a4, a5, a6, a7, a8, a9, a10, a12]; done) | omega), a4, a5, a6, a7, a8, a9, a10, a12, (fun _ => by show k + 1 = k + 1; first | rfl | omega), al⟩, (fun i i0 i1 => hB i i0 i1), (fun i i0 i1 => hS i i0 i1), (fun c9 z1 z2 => by rw [tp_pi_ne (by omega), tp_pi_ne (by omega), tp_pi_ne (by omega)]; exact hF c9 z1 z2), (fun j9 z9 => by rw [tp_pi_no (by omega), tp_pi_no (by omega), tp_pi_no (by omega)]; exact hG2 j9 z9)⟩⟩
      · refine g_iconst rfl ⟨by decide, by decide⟩ ?_
        refine g_goto (tgt := 63) rfl (by decide) ?_
        refine g_iload_n rfl rfl ?_
        refine g_iV (as := [tI 1, tI k]) mX12_adds_ok rfl rfl rfl rfl rfl rfl (by decide) rfl rfl rfl ?_
        refine g_aload_n rfl rfl ?_
        refine g_dupr rfl ?_
        refine x_geti (v := (μ.1 201 52)) rfl rfl (by decide) (Or.inl rfl) rfl ?_
        refine g_iload_n rfl rfl ?_
        refine g_aload_n rfl rfl ?_
        refine x_geti (v := (μ.1 201 53)) rfl rfl (by decide) (Or.inl rfl) rfl ?_
        refine g_ishl rfl ?_
        refine g_ior rfl ?_
        refine g_puti rfl rfl (by decide) rfl rfl ?_
        refine g_aload_n rfl rfl ?_
        refine g_dupr rfl ?_
        refine x_geti (v := (μ.1 201 53)) rfl rfl (by decide) (Or.inl rfl) rfl ?_
        refine g_iconst rfl ⟨by decide, by decide⟩ ?_
        refine x_iadd (z := (μ.1 201 53) + 1) rfl (by omega) ⟨by omega, by omega⟩ ?_
        refine g_puti rfl rfl (by decide) rfl rfl ?_
        refine g_aload_n rfl rfl ?_
        refine g_iload_n rfl rfl ?_
        refine g_iconst rfl ⟨by decide, by decide⟩ ?_
        refine x_iadd (z := k + 1) rfl (by omega) ⟨by omega, by omega⟩ ?_
        refine g_puti rfl rfl (by decide) rfl rfl ?_
        refine x_return rfl rfl ?_
        intro _
        refine g_iconst rfl ⟨by decide, by decide⟩ ?_
        refine x_zreturn rfl rfl (Or.inr rfl) ?_
        have e9 : e_tel f (A k) (B k) (Y k) dp k σ = e_bit 1 k σ := by
          unfold e_tel
          rw [if_neg (by omega), if_neg (by omega), if_pos (by omega), show Y k = 1 by omega]
        rw [e9]
        exact ⟨_, rfl, (by omega), ⟨fun _ => hon, fun _ => rfl⟩, ⟨⟨a0, (by show (tp_or (μ.1 201 52) (tp_ishl 1 (μ.1 201 53))) = (tp_or (σ.1 0 1) (tp_ishl 1 (σ.1 0 2))); first | (rw [a1]; done) | (simp only [a0, a1, a2, a4, a5, a6, a7, a8, a9, a10, a12]; done) | omega), (by show (μ.1 201 53) + 1 = (σ.1 0 2) + 1; first | (rw [a2]; done) | (simp only [a0, a1, a2, a4, a5, a6, a7, a8, a9, a10, a12]; done) | omega), a4, a5, a6, a7, a8, a9, a10, a12, (fun _ => by show k + 1 = k + 1; first | rfl | omega), al⟩, (fun i i0 i1 => hB i i0 i1), (fun i i0 i1 => hS i i0 i1), (fun c9 z1 z2 => by rw [tp_pi_ne (by omega), tp_pi_ne (by omega), tp_pi_ne (by omega)]; exact hF c9 z1 z2), (fun j9 z9 => by rw [tp_pi_no (by omega), tp_pi_no (by omega), tp_pi_no (by omega)]; exact hG2 j9 z9)⟩⟩
  · by_cases hbn : B k = -1
    · refine g_aload_n rfl rfl ?_
      refine g_aload_n rfl rfl ?_
      refine x_getF (r := 212) hG rfl rfl (by decide) (Or.inr ⟨_, rfl⟩) rfl ?_
      refine g_iload_n rfl rfl ?_
      refine x_iald (v := (μ.1 212 k)) rfl rfl (by decide) (by omega) (by omega) rfl ?_
      refine g_cV (as := [tI (μ.1 212 k)]) ((by rw [eA]; exact s_kindM hG hMc (by omega) (by omega))) rfl rfl mX12_kindAt_ok rfl rfl rfl (by decide) rfl rfl rfl ?_
      rintro _ w9 ⟨rfl, hw9⟩ _
      have hw9 := hw9.symm
      subst hw9
      refine g_istore_n rfl rfl rfl ?_
      refine g_iload_n rfl rfl ?_
      refine g_iconst rfl ⟨by decide, by decide⟩ ?_
      refine g_icmp_ne (tgt := 31) rfl (by decide) (fun _ => ?_) (fun hx => absurd hx (by omega))
      refine g_aload_n rfl rfl ?_
      refine x_getF (r := 213) hG rfl rfl (by decide) (Or.inr ⟨_, rfl⟩) rfl ?_
      refine g_iload_n rfl rfl ?_
      refine x_iald (v := (μ.1 213 k)) rfl rfl (by decide) (by omega) (by omega) rfl ?_
      refine g_iconst rfl ⟨by decide, by decide⟩ ?_
      refine g_icmp_ne (tgt := 43) rfl (by decide) (fun hx => absurd hx (by omega)) (fun _ => ?_)
      refine g_iconst rfl ⟨by decide, by decide⟩ ?_
      refine x_zreturn rfl rfl (Or.inr rfl) ?_
      have e9 : e_tel f (A k) (B k) (Y k) dp k σ = σ := by
        unfold e_tel
        rw [if_neg (by omega), if_pos (by omega)]
      rw [e9]
      exact ⟨_, rfl, (by omega), ⟨fun _ => hon, fun _ => rfl⟩, hE⟩
    · have hb0 : 0 ≤ B k ∧ B k ≤ 40 := by rcases hbk with q | q; exact absurd q hbn; exact q
      refine g_aload_n rfl rfl ?_
      refine g_aload_n rfl rfl ?_
      refine x_getF (r := 212) hG rfl rfl (by decide) (Or.inr ⟨_, rfl⟩) rfl ?_
      refine g_iload_n rfl rfl ?_
      refine x_iald (v := (μ.1 212 k)) rfl rfl (by decide) (by omega) (by omega) rfl ?_
      refine g_cV (as := [tI (μ.1 212 k)]) ((by rw [eA]; exact s_kindM hG hMc (by omega) (by omega))) rfl rfl mX12_kindAt_ok rfl rfl rfl (by decide) rfl rfl rfl ?_
      rintro _ w9 ⟨rfl, hw9⟩ _
      have hw9 := hw9.symm
      subst hw9
      refine g_istore_n rfl rfl rfl ?_
      refine g_iload_n rfl rfl ?_
      refine g_iconst rfl ⟨by decide, by decide⟩ ?_
      refine g_icmp_ne (tgt := 31) rfl (by decide) (fun _ => ?_) (fun hx => absurd hx (by omega))
      refine g_aload_n rfl rfl ?_
      refine x_getF (r := 213) hG rfl rfl (by decide) (Or.inr ⟨_, rfl⟩) rfl ?_
      refine g_iload_n rfl rfl ?_
      refine x_iald (v := (μ.1 213 k)) rfl rfl (by decide) (by omega) (by omega) rfl ?_
      refine g_iconst rfl ⟨by decide, by decide⟩ ?_
      refine g_icmp_ne (tgt := 43) rfl (by decide) (fun _ => ?_) (fun hx => absurd hx (by omega))
      refine g_iload_n rfl rfl ?_
      refine g_iconst rfl ⟨by decide, by decide⟩ ?_
      refine g_icmp_ne (tgt := 69) rfl (by decide) (fun _ => ?_) (fun hx => absurd hx (by omega))
      refine g_iload_n rfl rfl ?_
      refine g_iconst rfl ⟨by decide, by decide⟩ ?_
      refine g_icmp_ne (tgt := 82) rfl (by decide) (fun _ => ?_) (fun hx => absurd hx (by omega))
      refine g_iload_n rfl rfl ?_
      refine g_iconst rfl ⟨by decide, by decide⟩ ?_
      refine g_icmp_ne (tgt := 95) rfl (by decide) (fun _ => ?_) (fun hx => absurd hx (by omega))
      refine g_iconst rfl ⟨by decide, by decide⟩ ?_
      refine g_goto (tgt := 100) rfl (by decide) ?_
      refine x_zreturn rfl rfl (Or.inr rfl) ?_
      have e9 : e_tel f (A k) (B k) (Y k) dp k σ = σ := by
        unfold e_tel
        rw [if_neg (by omega), if_neg (by omega), if_neg (by omega), if_neg (by omega), if_neg (by omega)]
      rw [e9]
      exact ⟨_, rfl, (by omega), ⟨fun _ => hon, fun _ => rfl⟩, hE⟩
  · by_cases hbn : B k = -1
    · refine g_aload_n rfl rfl ?_
      refine g_aload_n rfl rfl ?_
      refine x_getF (r := 212) hG rfl rfl (by decide) (Or.inr ⟨_, rfl⟩) rfl ?_
      refine g_iload_n rfl rfl ?_
      refine x_iald (v := (μ.1 212 k)) rfl rfl (by decide) (by omega) (by omega) rfl ?_
      refine g_cV (as := [tI (μ.1 212 k)]) ((by rw [eA]; exact s_kindM hG hMc (by omega) (by omega))) rfl rfl mX12_kindAt_ok rfl rfl rfl (by decide) rfl rfl rfl ?_
      rintro _ w9 ⟨rfl, hw9⟩ _
      have hw9 := hw9.symm
      subst hw9
      refine g_istore_n rfl rfl rfl ?_
      refine g_iload_n rfl rfl ?_
      refine g_iconst rfl ⟨by decide, by decide⟩ ?_
      refine g_icmp_ne (tgt := 31) rfl (by decide) (fun hx => absurd hx (by omega)) (fun _ => ?_)
      refine g_aload_n rfl rfl ?_
      refine g_aload_n rfl rfl ?_
      refine x_getF (r := 212) hG rfl rfl (by decide) (Or.inr ⟨_, rfl⟩) rfl ?_
      refine g_iload_n rfl rfl ?_
      refine x_iald (v := (μ.1 212 k)) rfl rfl (by decide) (by omega) (by omega) rfl ?_
      refine g_iconst rfl ⟨by decide, by decide⟩ ?_
      refine x_iadd (z := (μ.1 212 k) + 1) rfl (by omega) ⟨by omega, by omega⟩ ?_
      refine g_iload_n rfl rfl ?_
      refine g_cV (as := [tI ((μ.1 212 k) + 1), tI dp]) ((by rw [eA]; exact s_shadesM hG hE hJ hdp4)) rfl rfl mX12_shades_ok rfl rfl rfl (by decide) rfl rfl rfl ?_
      rintro _ w1 ⟨rfl, hEs⟩ _
      refine g_iconst rfl ⟨by decide, by decide⟩ ?_
      refine x_zreturn rfl rfl (Or.inr rfl) ?_
      have e9 : e_tel f (A k) (B k) (Y k) dp k σ = e_psh (A k + 1) dp σ := by
        unfold e_tel
        rw [if_pos (by omega)]
      rw [e9]
      exact ⟨_, rfl, (by omega), ⟨fun _ => by unfold e_psh; split <;> exact hon, fun _ => rfl⟩, hEs⟩
    · have hb0 : 0 ≤ B k ∧ B k ≤ 40 := by rcases hbk with q | q; exact absurd q hbn; exact q
      refine g_aload_n rfl rfl ?_
      refine g_aload_n rfl rfl ?_
      refine x_getF (r := 212) hG rfl rfl (by decide) (Or.inr ⟨_, rfl⟩) rfl ?_
      refine g_iload_n rfl rfl ?_
      refine x_iald (v := (μ.1 212 k)) rfl rfl (by decide) (by omega) (by omega) rfl ?_
      refine g_cV (as := [tI (μ.1 212 k)]) ((by rw [eA]; exact s_kindM hG hMc (by omega) (by omega))) rfl rfl mX12_kindAt_ok rfl rfl rfl (by decide) rfl rfl rfl ?_
      rintro _ w9 ⟨rfl, hw9⟩ _
      have hw9 := hw9.symm
      subst hw9
      refine g_istore_n rfl rfl rfl ?_
      refine g_iload_n rfl rfl ?_
      refine g_iconst rfl ⟨by decide, by decide⟩ ?_
      refine g_icmp_ne (tgt := 31) rfl (by decide) (fun hx => absurd hx (by omega)) (fun _ => ?_)
      refine g_aload_n rfl rfl ?_
      refine g_aload_n rfl rfl ?_
      refine x_getF (r := 212) hG rfl rfl (by decide) (Or.inr ⟨_, rfl⟩) rfl ?_
      refine g_iload_n rfl rfl ?_
      refine x_iald (v := (μ.1 212 k)) rfl rfl (by decide) (by omega) (by omega) rfl ?_
      refine g_iconst rfl ⟨by decide, by decide⟩ ?_
      refine x_iadd (z := (μ.1 212 k) + 1) rfl (by omega) ⟨by omega, by omega⟩ ?_
      refine g_iload_n rfl rfl ?_
      refine g_cV (as := [tI ((μ.1 212 k) + 1), tI dp]) ((by rw [eA]; exact s_shadesM hG hE hJ hdp4)) rfl rfl mX12_shades_ok rfl rfl rfl (by decide) rfl rfl rfl ?_
      rintro _ w1 ⟨rfl, hEs⟩ _
      refine g_iconst rfl ⟨by decide, by decide⟩ ?_
      refine x_zreturn rfl rfl (Or.inr rfl) ?_
      have e9 : e_tel f (A k) (B k) (Y k) dp k σ = e_psh (A k + 1) dp σ := by
        unfold e_tel
        rw [if_pos (by omega)]
      rw [e9]
      exact ⟨_, rfl, (by omega), ⟨fun _ => by unfold e_psh; split <;> exact hon, fun _ => rfl⟩, hEs⟩
  · by_cases hbn : B k = -1
    · refine g_aload_n rfl rfl ?_
      refine g_aload_n rfl rfl ?_
      refine x_getF (r := 212) hG rfl rfl (by decide) (Or.inr ⟨_, rfl⟩) rfl ?_
      refine g_iload_n rfl rfl ?_
      refine x_iald (v := (μ.1 212 k)) rfl rfl (by decide) (by omega) (by omega) rfl ?_
      refine g_cV (as := [tI (μ.1 212 k)]) ((by rw [eA]; exact s_kindM hG hMc (by omega) (by omega))) rfl rfl mX12_kindAt_ok rfl rfl rfl (by decide) rfl rfl rfl ?_
      rintro _ w9 ⟨rfl, hw9⟩ _
      have hw9 := hw9.symm
      subst hw9
      refine g_istore_n rfl rfl rfl ?_
      refine g_iload_n rfl rfl ?_
      refine g_iconst rfl ⟨by decide, by decide⟩ ?_
      refine g_icmp_ne (tgt := 31) rfl (by decide) (fun _ => ?_) (fun hx => absurd hx (by omega))
      refine g_aload_n rfl rfl ?_
      refine x_getF (r := 213) hG rfl rfl (by decide) (Or.inr ⟨_, rfl⟩) rfl ?_
      refine g_iload_n rfl rfl ?_
      refine x_iald (v := (μ.1 213 k)) rfl rfl (by decide) (by omega) (by omega) rfl ?_
      refine g_iconst rfl ⟨by decide, by decide⟩ ?_
      refine g_icmp_ne (tgt := 43) rfl (by decide) (fun hx => absurd hx (by omega)) (fun _ => ?_)
      refine g_iconst rfl ⟨by decide, by decide⟩ ?_
      refine x_zreturn rfl rfl (Or.inr rfl) ?_
      have e9 : e_tel f (A k) (B k) (Y k) dp k σ = σ := by
        unfold e_tel
        rw [if_neg (by omega), if_pos (by omega)]
      rw [e9]
      exact ⟨_, rfl, (by omega), ⟨fun _ => hon, fun _ => rfl⟩, hE⟩
    · have hb0 : 0 ≤ B k ∧ B k ≤ 40 := by rcases hbk with q | q; exact absurd q hbn; exact q
      by_cases hps : 0 < σ.1 0 10
      · have hpp : e_pop σ = tp_pi σ 0 10 (σ.1 0 10 - 1) := if_pos (by omega)
        have htp : e_top σ = μ.1 222 (σ.1 0 10 - 1) := by rw [hS (σ.1 0 10 - 1) (by omega) (by omega)]; exact if_pos (by omega)
        rw [← a10] at htp
        have hix : μ.1 222 (μ.1 201 46 - 1) = e_top σ := htp.symm
        refine g_aload_n rfl rfl ?_
        refine g_aload_n rfl rfl ?_
        refine x_getF (r := 212) hG rfl rfl (by decide) (Or.inr ⟨_, rfl⟩) rfl ?_
        refine g_iload_n rfl rfl ?_
        refine x_iald (v := (μ.1 212 k)) rfl rfl (by decide) (by omega) (by omega) rfl ?_
        refine g_cV (as := [tI (μ.1 212 k)]) ((by rw [eA]; exact s_kindM hG hMc (by omega) (by omega))) rfl rfl mX12_kindAt_ok rfl rfl rfl (by decide) rfl rfl rfl ?_
        rintro _ w9 ⟨rfl, hw9⟩ _
        have hw9 := hw9.symm
        subst hw9
        refine g_istore_n rfl rfl rfl ?_
        refine g_iload_n rfl rfl ?_
        refine g_iconst rfl ⟨by decide, by decide⟩ ?_
        refine g_icmp_ne (tgt := 31) rfl (by decide) (fun _ => ?_) (fun hx => absurd hx (by omega))
        refine g_aload_n rfl rfl ?_
        refine x_getF (r := 213) hG rfl rfl (by decide) (Or.inr ⟨_, rfl⟩) rfl ?_
        refine g_iload_n rfl rfl ?_
        refine x_iald (v := (μ.1 213 k)) rfl rfl (by decide) (by omega) (by omega) rfl ?_
        refine g_iconst rfl ⟨by decide, by decide⟩ ?_
        refine g_icmp_ne (tgt := 43) rfl (by decide) (fun _ => ?_) (fun hx => absurd hx (by omega))
        refine g_iload_n rfl rfl ?_
        refine g_iconst rfl ⟨by decide, by decide⟩ ?_
        refine g_icmp_ne (tgt := 69) rfl (by decide) (fun _ => ?_) (fun hx => absurd hx (by omega))
        refine g_iload_n rfl rfl ?_
        refine g_iconst rfl ⟨by decide, by decide⟩ ?_
        refine g_icmp_ne (tgt := 82) rfl (by decide) (fun _ => ?_) (fun hx => absurd hx (by omega))
        refine g_iload_n rfl rfl ?_
        refine g_iconst rfl ⟨by decide, by decide⟩ ?_
        refine g_icmp_ne (tgt := 95) rfl (by decide) (fun hx => absurd hx (by omega)) (fun _ => ?_)
        refine g_aload_n rfl rfl ?_
        refine g_iload_n rfl rfl ?_
        refine g_iV (as := [tI k]) mX12_tellsRet_ok rfl rfl rfl rfl rfl rfl (by decide) rfl rfl rfl ?_
        refine g_iconst rfl ⟨by decide, by decide⟩ ?_
        refine g_istore_n rfl rfl rfl ?_
        refine g_aload_n rfl rfl ?_
        refine x_geti (v := (μ.1 201 46)) rfl rfl (by decide) (Or.inl rfl) rfl ?_
        refine g_if_le (tgt := 29) rfl (by decide) (fun hx => absurd hx (by omega)) (fun _ => ?_)
        refine g_aload_n rfl rfl ?_
        refine g_dupr rfl ?_
        refine x_geti (v := (μ.1 201 46)) rfl rfl (by decide) (Or.inl rfl) rfl ?_
        refine g_iconst rfl ⟨by decide, by decide⟩ ?_
        refine x_isub (z := (μ.1 201 46) - 1) rfl (by omega) ⟨by omega, by omega⟩ ?_
        refine g_puti rfl rfl (by decide) rfl rfl ?_
        refine g_aload_n rfl rfl ?_
        refine x_getF (r := 222) hG rfl rfl (by decide) (Or.inr ⟨_, rfl⟩) rfl ?_
        refine g_aload_n rfl rfl ?_
        refine x_geti (v := (μ.1 201 46) - 1) rfl rfl (by decide) (Or.inl rfl) rfl ?_
        refine x_iald (v := (μ.1 222 (μ.1 201 46 - 1))) rfl rfl (by decide) (by omega) (by omega) rfl ?_
        refine g_istore_n rfl rfl rfl ?_
        refine g_iload_n rfl rfl ?_
        refine g_aload_n rfl rfl ?_
        refine x_getF (r := 213) hG rfl rfl (by decide) (Or.inr ⟨_, rfl⟩) rfl ?_
        refine g_iload_n rfl rfl ?_
        refine x_iald (v := (μ.1 213 k)) rfl rfl (by decide) (by omega) (by omega) rfl ?_
        refine g_icmp_eq (tgt := 45) rfl (by decide) (fun h1 => ?_) (fun h1 => ?_)
        · refine g_aload_n rfl rfl ?_
          refine g_iconst rfl ⟨by decide, by decide⟩ ?_
          refine g_iload_n rfl rfl ?_
          refine g_iV (as := [tI 1, tI k]) mX12_adds_ok rfl rfl rfl rfl rfl rfl (by decide) rfl rfl rfl ?_
          refine g_aload_n rfl rfl ?_
          refine g_dupr rfl ?_
          refine x_geti (v := (μ.1 201 52)) rfl rfl (by decide) (Or.inl rfl) rfl ?_
          refine g_iload_n rfl rfl ?_
          refine g_aload_n rfl rfl ?_
          refine x_geti (v := (μ.1 201 53)) rfl rfl (by decide) (Or.inl rfl) rfl ?_
          refine g_ishl rfl ?_
          refine g_ior rfl ?_
          refine g_puti rfl rfl (by decide) rfl rfl ?_
          refine g_aload_n rfl rfl ?_
          refine g_dupr rfl ?_
          refine x_geti (v := (μ.1 201 53)) rfl rfl (by decide) (Or.inl rfl) rfl ?_
          refine g_iconst rfl ⟨by decide, by decide⟩ ?_
          refine x_iadd (z := (μ.1 201 53) + 1) rfl (by omega) ⟨by omega, by omega⟩ ?_
          refine g_puti rfl rfl (by decide) rfl rfl ?_
          refine g_aload_n rfl rfl ?_
          refine g_iload_n rfl rfl ?_
          refine g_iconst rfl ⟨by decide, by decide⟩ ?_
          refine x_iadd (z := k + 1) rfl (by omega) ⟨by omega, by omega⟩ ?_
          refine g_puti rfl rfl (by decide) rfl rfl ?_
          refine x_return rfl rfl ?_
          intro _
          refine g_iconst rfl ⟨by decide, by decide⟩ ?_
          refine x_zreturn rfl rfl (Or.inr rfl) ?_
          intro _
          refine g_if_eq (tgt := 99) rfl (by decide) (fun hx => absurd hx (by omega)) (fun _ => ?_)
          refine g_iconst rfl ⟨by decide, by decide⟩ ?_
          refine g_goto (tgt := 100) rfl (by decide) ?_
          refine x_zreturn rfl rfl (Or.inr rfl) ?_
          have htop : e_top σ = B k := by omega
          have e9 : e_tel f (A k) (B k) (Y k) dp k σ = e_bit 1 k (e_pop σ) := by
            unfold e_tel
            rw [if_neg (by omega), if_neg (by omega), if_neg (by omega), if_pos (by omega), if_pos htop]
          rw [e9]
          have hon2 : (e_pop σ).1 0 5 = 1 := by rw [e_pop_kp.2.1]; exact hon
          refine ⟨_, rfl, (by omega), ⟨fun _ => hon2, fun _ => rfl⟩, ?_⟩
          rw [hpp]
          exact ⟨⟨a0, (by show (tp_or (μ.1 201 52) (tp_ishl 1 (μ.1 201 53))) = (tp_or (σ.1 0 1) (tp_ishl 1 (σ.1 0 2))); first | (rw [a1]; done) | (simp only [a0, a1, a2, a4, a5, a6, a7, a8, a9, a10, a12]; done) | omega), (by show (μ.1 201 53) + 1 = (σ.1 0 2) + 1; first | (rw [a2]; done) | (simp only [a0, a1, a2, a4, a5, a6, a7, a8, a9, a10, a12]; done) | omega), a4, a5, a6, a7, a8, a9, (by show (μ.1 201 46) - 1 = (σ.1 0 10) - 1; first | (rw [a10]; done) | (simp only [a0, a1, a2, a4, a5, a6, a7, a8, a9, a10, a12]; done) | omega), a12, (fun _ => by show k + 1 = k + 1; first | rfl | omega), al⟩, (fun i i0 i1 => hB i i0 i1), (fun i i0 i1 => hS i i0 (by have i1 : i < σ.1 0 10 - 1 := i1; omega)), (fun c9 z1 z2 => by rw [tp_pi_ne (by omega), tp_pi_ne (by omega), tp_pi_ne (by omega), tp_pi_ne (by omega)]; exact hF c9 z1 z2), (fun j9 z9 => by rw [tp_pi_no (by omega), tp_pi_no (by omega), tp_pi_no (by omega), tp_pi_no (by omega)]; exact hG2 j9 z9)⟩
        · refine g_aload_n rfl rfl ?_
          refine g_iload_n rfl rfl ?_
          have hEp : m_E μ0 (e_pop σ) (tp_pi μ 201 46 ((μ.1 201 46) - 1)) := by rw [hpp]; exact ⟨⟨a0, a1, a2, a4, a5, a6, a7, a8, a9, (by show (μ.1 201 46) - 1 = (σ.1 0 10) - 1; first | (rw [a10]; done) | (simp only [a0, a1, a2, a4, a5, a6, a7, a8, a9, a10, a12]; done) | omega), a12, ak, al⟩, (fun i i0 i1 => hB i i0 i1), (fun i i0 i1 => hS i i0 (by have i1 : i < σ.1 0 10 - 1 := i1; omega)), (fun c9 z1 z2 => by rw [tp_pi_ne (by omega)]; exact hF c9 z1 z2), (fun j9 z9 => by rw [tp_pi_no (by omega)]; exact hG2 j9 z9)⟩
          refine g_cV (as := [tI k]) (s_gotoM hG hw hMc0 hm hk hEp (J_pop hJ) hW hT0 hkn (by rw [e_pop_kp.2.1]; exact hon) hb0) rfl rfl mX12_putGoto_ok rfl rfl rfl (by decide) rfl rfl rfl ?_
          rintro _ w1 ⟨rfl, hEg⟩ _
          have hpl := e_ppk_l f k (e_pop σ)
          refine x_zreturn rfl rfl (by omega) ?_
          intro _
          refine g_if_eq (tgt := 99) rfl (by decide) (fun h2 => ?_) (fun h2 => ?_)
          · refine g_iconst rfl ⟨by decide, by decide⟩ ?_
            refine x_zreturn rfl rfl (Or.inl rfl) ?_
            have htop : ¬ e_top σ = B k := by omega
            have e9 : e_tel f (A k) (B k) (Y k) dp k σ = e_gto f (B k) k (e_pop σ) := by
              unfold e_tel
              rw [if_neg (by omega), if_neg (by omega), if_neg (by omega), if_pos (by omega), if_neg htop]
            rw [e9]
            have hon2 : (e_pop σ).1 0 5 = 1 := by rw [e_pop_kp.2.1]; exact hon
            have hgo := e_gto_on (f := f) (b := B k) (k := k) hon2
            exact ⟨_, rfl, (by omega), ⟨fun z => hgo.1 (by omega), fun z => by have := hgo.2 z; omega⟩, hEg⟩
          · refine g_iconst rfl ⟨by decide, by decide⟩ ?_
            refine g_goto (tgt := 100) rfl (by decide) ?_
            refine x_zreturn rfl rfl (Or.inr rfl) ?_
            have htop : ¬ e_top σ = B k := by omega
            have e9 : e_tel f (A k) (B k) (Y k) dp k σ = e_gto f (B k) k (e_pop σ) := by
              unfold e_tel
              rw [if_neg (by omega), if_neg (by omega), if_neg (by omega), if_pos (by omega), if_neg htop]
            rw [e9]
            have hon2 : (e_pop σ).1 0 5 = 1 := by rw [e_pop_kp.2.1]; exact hon
            have hgo := e_gto_on (f := f) (b := B k) (k := k) hon2
            exact ⟨_, rfl, (by omega), ⟨fun z => hgo.1 (by omega), fun z => by have := hgo.2 z; omega⟩, hEg⟩
      · have hpp : e_pop σ = σ := if_neg (by omega)
        have htp : e_top σ = -1 := if_neg (by omega)
        refine g_aload_n rfl rfl ?_
        refine g_aload_n rfl rfl ?_
        refine x_getF (r := 212) hG rfl rfl (by decide) (Or.inr ⟨_, rfl⟩) rfl ?_
        refine g_iload_n rfl rfl ?_
        refine x_iald (v := (μ.1 212 k)) rfl rfl (by decide) (by omega) (by omega) rfl ?_
        refine g_cV (as := [tI (μ.1 212 k)]) ((by rw [eA]; exact s_kindM hG hMc (by omega) (by omega))) rfl rfl mX12_kindAt_ok rfl rfl rfl (by decide) rfl rfl rfl ?_
        rintro _ w9 ⟨rfl, hw9⟩ _
        have hw9 := hw9.symm
        subst hw9
        refine g_istore_n rfl rfl rfl ?_
        refine g_iload_n rfl rfl ?_
        refine g_iconst rfl ⟨by decide, by decide⟩ ?_
        refine g_icmp_ne (tgt := 31) rfl (by decide) (fun _ => ?_) (fun hx => absurd hx (by omega))
        refine g_aload_n rfl rfl ?_
        refine x_getF (r := 213) hG rfl rfl (by decide) (Or.inr ⟨_, rfl⟩) rfl ?_
        refine g_iload_n rfl rfl ?_
        refine x_iald (v := (μ.1 213 k)) rfl rfl (by decide) (by omega) (by omega) rfl ?_
        refine g_iconst rfl ⟨by decide, by decide⟩ ?_
        refine g_icmp_ne (tgt := 43) rfl (by decide) (fun _ => ?_) (fun hx => absurd hx (by omega))
        refine g_iload_n rfl rfl ?_
        refine g_iconst rfl ⟨by decide, by decide⟩ ?_
        refine g_icmp_ne (tgt := 69) rfl (by decide) (fun _ => ?_) (fun hx => absurd hx (by omega))
        refine g_iload_n rfl rfl ?_
        refine g_iconst rfl ⟨by decide, by decide⟩ ?_
        refine g_icmp_ne (tgt := 82) rfl (by decide) (fun _ => ?_) (fun hx => absurd hx (by omega))
        refine g_iload_n rfl rfl ?_
        refine g_iconst rfl ⟨by decide, by decide⟩ ?_
        refine g_icmp_ne (tgt := 95) rfl (by decide) (fun hx => absurd hx (by omega)) (fun _ => ?_)
        refine g_aload_n rfl rfl ?_
        refine g_iload_n rfl rfl ?_
        refine g_iV (as := [tI k]) mX12_tellsRet_ok rfl rfl rfl rfl rfl rfl (by decide) rfl rfl rfl ?_
        refine g_iconst rfl ⟨by decide, by decide⟩ ?_
        refine g_istore_n rfl rfl rfl ?_
        refine g_aload_n rfl rfl ?_
        refine x_geti (v := (μ.1 201 46)) rfl rfl (by decide) (Or.inl rfl) rfl ?_
        refine g_if_le (tgt := 29) rfl (by decide) (fun _ => ?_) (fun hx => absurd hx (by omega))
        refine g_iload_n rfl rfl ?_
        refine g_aload_n rfl rfl ?_
        refine x_getF (r := 213) hG rfl rfl (by decide) (Or.inr ⟨_, rfl⟩) rfl ?_
        refine g_iload_n rfl rfl ?_
        refine x_iald (v := (μ.1 213 k)) rfl rfl (by decide) (by omega) (by omega) rfl ?_
        refine g_icmp_eq (tgt := 45) rfl (by decide) (fun hx => absurd hx (by omega)) (fun _ => ?_)
        refine g_aload_n rfl rfl ?_
        refine g_iload_n rfl rfl ?_
        have hEp : m_E μ0 (e_pop σ) μ := by rw [hpp]; exact ⟨⟨a0, a1, a2, a4, a5, a6, a7, a8, a9, a10, a12, ak, al⟩, (fun i i0 i1 => hB i i0 i1), (fun i i0 i1 => hS i i0 i1), hF, hG2⟩
        refine g_cV (as := [tI k]) (s_gotoM hG hw hMc0 hm hk hEp (J_pop hJ) hW hT0 hkn (by rw [e_pop_kp.2.1]; exact hon) hb0) rfl rfl mX12_putGoto_ok rfl rfl rfl (by decide) rfl rfl rfl ?_
        rintro _ w1 ⟨rfl, hEg⟩ _
        have hpl := e_ppk_l f k (e_pop σ)
        refine x_zreturn rfl rfl (by omega) ?_
        intro _
        refine g_if_eq (tgt := 99) rfl (by decide) (fun h1 => ?_) (fun h1 => ?_)
        · refine g_iconst rfl ⟨by decide, by decide⟩ ?_
          refine x_zreturn rfl rfl (Or.inl rfl) ?_
          have htop : ¬ e_top σ = B k := by omega
          have e9 : e_tel f (A k) (B k) (Y k) dp k σ = e_gto f (B k) k (e_pop σ) := by
            unfold e_tel
            rw [if_neg (by omega), if_neg (by omega), if_neg (by omega), if_pos (by omega), if_neg htop]
          rw [e9]
          have hon2 : (e_pop σ).1 0 5 = 1 := by rw [e_pop_kp.2.1]; exact hon
          have hgo := e_gto_on (f := f) (b := B k) (k := k) hon2
          exact ⟨_, rfl, (by omega), ⟨fun z => hgo.1 (by omega), fun z => by have := hgo.2 z; omega⟩, hEg⟩
        · refine g_iconst rfl ⟨by decide, by decide⟩ ?_
          refine g_goto (tgt := 100) rfl (by decide) ?_
          refine x_zreturn rfl rfl (Or.inr rfl) ?_
          have htop : ¬ e_top σ = B k := by omega
          have e9 : e_tel f (A k) (B k) (Y k) dp k σ = e_gto f (B k) k (e_pop σ) := by
            unfold e_tel
            rw [if_neg (by omega), if_neg (by omega), if_neg (by omega), if_pos (by omega), if_neg htop]
          rw [e9]
          have hon2 : (e_pop σ).1 0 5 = 1 := by rw [e_pop_kp.2.1]; exact hon
          have hgo := e_gto_on (f := f) (b := B k) (k := k) hon2
          exact ⟨_, rfl, (by omega), ⟨fun z => hgo.1 (by omega), fun z => by have := hgo.2 z; omega⟩, hEg⟩
  · by_cases hbn : B k = -1
    · refine g_aload_n rfl rfl ?_
      refine g_aload_n rfl rfl ?_
      refine x_getF (r := 212) hG rfl rfl (by decide) (Or.inr ⟨_, rfl⟩) rfl ?_
      refine g_iload_n rfl rfl ?_
      refine x_iald (v := (μ.1 212 k)) rfl rfl (by decide) (by omega) (by omega) rfl ?_
      refine g_cV (as := [tI (μ.1 212 k)]) ((by rw [eA]; exact s_kindM hG hMc (by omega) (by omega))) rfl rfl mX12_kindAt_ok rfl rfl rfl (by decide) rfl rfl rfl ?_
      rintro _ w9 ⟨rfl, hw9⟩ _
      have hw9 := hw9.symm
      subst hw9
      refine g_istore_n rfl rfl rfl ?_
      refine g_iload_n rfl rfl ?_
      refine g_iconst rfl ⟨by decide, by decide⟩ ?_
      refine g_icmp_ne (tgt := 31) rfl (by decide) (fun _ => ?_) (fun hx => absurd hx (by omega))
      refine g_aload_n rfl rfl ?_
      refine x_getF (r := 213) hG rfl rfl (by decide) (Or.inr ⟨_, rfl⟩) rfl ?_
      refine g_iload_n rfl rfl ?_
      refine x_iald (v := (μ.1 213 k)) rfl rfl (by decide) (by omega) (by omega) rfl ?_
      refine g_iconst rfl ⟨by decide, by decide⟩ ?_
      refine g_icmp_ne (tgt := 43) rfl (by decide) (fun hx => absurd hx (by omega)) (fun _ => ?_)
      refine g_iconst rfl ⟨by decide, by decide⟩ ?_
      refine x_zreturn rfl rfl (Or.inr rfl) ?_
      have e9 : e_tel f (A k) (B k) (Y k) dp k σ = σ := by
        unfold e_tel
        rw [if_neg (by omega), if_pos (by omega)]
      rw [e9]
      exact ⟨_, rfl, (by omega), ⟨fun _ => hon, fun _ => rfl⟩, hE⟩
    · have hb0 : 0 ≤ B k ∧ B k ≤ 40 := by rcases hbk with q | q; exact absurd q hbn; exact q
      refine g_aload_n rfl rfl ?_
      refine g_aload_n rfl rfl ?_
      refine x_getF (r := 212) hG rfl rfl (by decide) (Or.inr ⟨_, rfl⟩) rfl ?_
      refine g_iload_n rfl rfl ?_
      refine x_iald (v := (μ.1 212 k)) rfl rfl (by decide) (by omega) (by omega) rfl ?_
      refine g_cV (as := [tI (μ.1 212 k)]) ((by rw [eA]; exact s_kindM hG hMc (by omega) (by omega))) rfl rfl mX12_kindAt_ok rfl rfl rfl (by decide) rfl rfl rfl ?_
      rintro _ w9 ⟨rfl, hw9⟩ _
      have hw9 := hw9.symm
      subst hw9
      refine g_istore_n rfl rfl rfl ?_
      refine g_iload_n rfl rfl ?_
      refine g_iconst rfl ⟨by decide, by decide⟩ ?_
      refine g_icmp_ne (tgt := 31) rfl (by decide) (fun _ => ?_) (fun hx => absurd hx (by omega))
      refine g_aload_n rfl rfl ?_
      refine x_getF (r := 213) hG rfl rfl (by decide) (Or.inr ⟨_, rfl⟩) rfl ?_
      refine g_iload_n rfl rfl ?_
      refine x_iald (v := (μ.1 213 k)) rfl rfl (by decide) (by omega) (by omega) rfl ?_
      refine g_iconst rfl ⟨by decide, by decide⟩ ?_
      refine g_icmp_ne (tgt := 43) rfl (by decide) (fun _ => ?_) (fun hx => absurd hx (by omega))
      refine g_iload_n rfl rfl ?_
      refine g_iconst rfl ⟨by decide, by decide⟩ ?_
      refine g_icmp_ne (tgt := 69) rfl (by decide) (fun _ => ?_) (fun hx => absurd hx (by omega))
      refine g_iload_n rfl rfl ?_
      refine g_iconst rfl ⟨by decide, by decide⟩ ?_
      refine g_icmp_ne (tgt := 82) rfl (by decide) (fun hx => absurd hx (by omega)) (fun _ => ?_)
      refine g_aload_n rfl rfl ?_
      refine g_iload_n rfl rfl ?_
      refine g_cV (as := [tI k]) (s_gotoM hG hw hMc0 hm hk hE hJ hW hT0 hkn hon hb0) rfl rfl mX12_putGoto_ok rfl rfl rfl (by decide) rfl rfl rfl ?_
      rintro _ w1 ⟨rfl, hEg⟩ _
      have hpl := e_ppk_l f k σ
      refine g_goto (tgt := 100) rfl (by decide) ?_
      refine x_zreturn rfl rfl (by omega) ?_
      have e9 : e_tel f (A k) (B k) (Y k) dp k σ = e_gto f (B k) k σ := by
        unfold e_tel
        rw [if_neg (by omega), if_neg (by omega), if_neg (by omega), if_neg (by omega), if_pos (by omega)]
      rw [e9]
      have hgo := e_gto_on (f := f) (b := B k) (k := k) hon
      exact ⟨_, rfl, (by omega), ⟨fun z => hgo.1 (by omega), fun z => by have := hgo.2 z; omega⟩, hEg⟩
  · by_cases hbn : B k = -1
    · refine g_aload_n rfl rfl ?_
      refine g_aload_n rfl rfl ?_
      refine x_getF (r := 212) hG rfl rfl (by decide) (Or.inr ⟨_, rfl⟩) rfl ?_
      refine g_iload_n rfl rfl ?_
      refine x_iald (v := (μ.1 212 k)) rfl rfl (by decide) (by omega) (by omega) rfl ?_
      refine g_cV (as := [tI (μ.1 212 k)]) ((by rw [eA]; exact s_kindM hG hMc (by omega) (by omega))) rfl rfl mX12_kindAt_ok rfl rfl rfl (by decide) rfl rfl rfl ?_
      rintro _ w9 ⟨rfl, hw9⟩ _
      have hw9 := hw9.symm
      subst hw9
      refine g_istore_n rfl rfl rfl ?_
      refine g_iload_n rfl rfl ?_
      refine g_iconst rfl ⟨by decide, by decide⟩ ?_
      refine g_icmp_ne (tgt := 31) rfl (by decide) (fun _ => ?_) (fun hx => absurd hx (by omega))
      refine g_aload_n rfl rfl ?_
      refine x_getF (r := 213) hG rfl rfl (by decide) (Or.inr ⟨_, rfl⟩) rfl ?_
      refine g_iload_n rfl rfl ?_
      refine x_iald (v := (μ.1 213 k)) rfl rfl (by decide) (by omega) (by omega) rfl ?_
      refine g_iconst rfl ⟨by decide, by decide⟩ ?_
      refine g_icmp_ne (tgt := 43) rfl (by decide) (fun hx => absurd hx (by omega)) (fun _ => ?_)
      refine g_iconst rfl ⟨by decide, by decide⟩ ?_
      refine x_zreturn rfl rfl (Or.inr rfl) ?_
      have e9 : e_tel f (A k) (B k) (Y k) dp k σ = σ := by
        unfold e_tel
        rw [if_neg (by omega), if_pos (by omega)]
      rw [e9]
      exact ⟨_, rfl, (by omega), ⟨fun _ => hon, fun _ => rfl⟩, hE⟩
    · have hb0 : 0 ≤ B k ∧ B k ≤ 40 := by rcases hbk with q | q; exact absurd q hbn; exact q
      refine g_aload_n rfl rfl ?_
      refine g_aload_n rfl rfl ?_
      refine x_getF (r := 212) hG rfl rfl (by decide) (Or.inr ⟨_, rfl⟩) rfl ?_
      refine g_iload_n rfl rfl ?_
      refine x_iald (v := (μ.1 212 k)) rfl rfl (by decide) (by omega) (by omega) rfl ?_
      refine g_cV (as := [tI (μ.1 212 k)]) ((by rw [eA]; exact s_kindM hG hMc (by omega) (by omega))) rfl rfl mX12_kindAt_ok rfl rfl rfl (by decide) rfl rfl rfl ?_
      rintro _ w9 ⟨rfl, hw9⟩ _
      have hw9 := hw9.symm
      subst hw9
      refine g_istore_n rfl rfl rfl ?_
      refine g_iload_n rfl rfl ?_
      refine g_iconst rfl ⟨by decide, by decide⟩ ?_
      refine g_icmp_ne (tgt := 31) rfl (by decide) (fun _ => ?_) (fun hx => absurd hx (by omega))
      refine g_aload_n rfl rfl ?_
      refine x_getF (r := 213) hG rfl rfl (by decide) (Or.inr ⟨_, rfl⟩) rfl ?_
      refine g_iload_n rfl rfl ?_
      refine x_iald (v := (μ.1 213 k)) rfl rfl (by decide) (by omega) (by omega) rfl ?_
      refine g_iconst rfl ⟨by decide, by decide⟩ ?_
      refine g_icmp_ne (tgt := 43) rfl (by decide) (fun _ => ?_) (fun hx => absurd hx (by omega))
      refine g_iload_n rfl rfl ?_
      refine g_iconst rfl ⟨by decide, by decide⟩ ?_
      refine g_icmp_ne (tgt := 69) rfl (by decide) (fun _ => ?_) (fun hx => absurd hx (by omega))
      refine g_iload_n rfl rfl ?_
      refine g_iconst rfl ⟨by decide, by decide⟩ ?_
      refine g_icmp_ne (tgt := 82) rfl (by decide) (fun _ => ?_) (fun hx => absurd hx (by omega))
      refine g_iload_n rfl rfl ?_
      refine g_iconst rfl ⟨by decide, by decide⟩ ?_
      refine g_icmp_ne (tgt := 95) rfl (by decide) (fun _ => ?_) (fun hx => absurd hx (by omega))
      refine g_iconst rfl ⟨by decide, by decide⟩ ?_
      refine g_goto (tgt := 100) rfl (by decide) ?_
      refine x_zreturn rfl rfl (Or.inr rfl) ?_
      have e9 : e_tel f (A k) (B k) (Y k) dp k σ = σ := by
        unfold e_tel
        rw [if_neg (by omega), if_neg (by omega), if_neg (by omega), if_neg (by omega), if_neg (by omega)]
      rw [e9]
      exact ⟨_, rfl, (by omega), ⟨fun _ => hon, fun _ => rfl⟩, hE⟩
