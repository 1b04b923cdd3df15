set_option maxHeartbeats 4000000 in
set_option maxRecDepth 100000 in
theorem p_sent {G : tp_G} (hG : tp_Gf G = true) {a d w : Int} : tp_pair G mX11_sent mX12_sent [tI a, tI d, tI w] := by
  intro μ hR
  have hm0 := tp_R_many hR 0 (by decide) (by decide)
  have hm1 := tp_R_many hR 1 (by decide) (by decide)
  by_cases hab : ((a < 0 ∨ μ.1 5 0 ≤ a) ∨ (d < 0 ∨ μ.1 5 1 ≤ d))
  · obtain ⟨hX, hM⟩ := tp_layo hG hR hab
    refine tp_ok_of mX11_sent_ok rfl (Nat.le_refl _) ?_
    refine g_aload_n rfl rfl ?_
    refine g_iload_n rfl rfl ?_
    refine g_iload_n rfl rfl ?_
    refine g_cV (as := [tI a, tI d]) (hX) rfl rfl mX11_follow_ok rfl rfl rfl (by decide) rfl rfl rfl ?_
    rintro _ w9 ⟨rfl, hw9⟩ _
    have hw9 := hw9.symm
    subst hw9
    refine g_if_ne (tgt := 12) rfl (by decide) (fun hx => absurd hx (by omega)) (fun _ => ?_)
    refine g_bipush rfl ⟨by decide, by decide⟩ (by decide) ?_
    refine x_ireturn rfl rfl ?_
    refine ⟨_, rfl, ?_⟩
    refine tp_ok_of mX12_sent_ok rfl (Nat.le_refl _) ?_
    refine g_aload_n rfl rfl ?_
    refine g_iconst rfl ⟨by decide, by decide⟩ ?_
    refine g_puti rfl rfl (by decide) rfl rfl ?_
    refine g_aload_n rfl rfl ?_
    refine g_iload_n rfl rfl ?_
    refine g_iload_n rfl rfl ?_
    refine g_iV (as := [tI a, tI d]) mX12_layPackets_ok rfl rfl rfl rfl rfl rfl (by decide) rfl rfl rfl ?_
    refine g_aload_n rfl rfl ?_
    refine g_iload_n rfl rfl ?_
    refine g_iload_n rfl rfl ?_
    refine g_cV (as := [tI a, tI d]) (hM _ (tp_kp_pi (by decide) tp_kp_rf)) rfl rfl mX12_lay_ok rfl rfl rfl (by decide) rfl rfl rfl ?_
    rintro _ w2 ⟨rfl, hGm⟩ _
    have hkp2 : tp_kp μ w2 := m_G_kp (tp_kp_pi (by decide) tp_kp_rf) hGm
    refine g_if_ne (tgt := 11) rfl (by decide) (fun hx => absurd hx (by omega)) (fun _ => ?_)
    refine g_iconst rfl ⟨by decide, by decide⟩ ?_
    refine x_zreturn rfl rfl (Or.inl rfl) ?_
    intro _
    refine g_if_ne (tgt := 17) rfl (by decide) (fun hx => absurd hx (by omega)) (fun _ => ?_)
    refine g_bipush rfl ⟨by decide, by decide⟩ (by decide) ?_
    refine x_ireturn rfl rfl ?_
    exact ⟨rfl, tp_R_kp hR hkp2⟩
  · obtain ⟨a, rfl⟩ : ∃ a9 : Nat, a = (a9 : Int) := ⟨a.toNat, by omega⟩
    obtain ⟨d, rfl⟩ : ∃ d9 : Nat, d = (d9 : Int) := ⟨d.toNat, by omega⟩
    obtain ⟨n, A, B, Y, H, E, D, U, T, hW, hw, hCd0, hX, hM⟩ := tp_lay hG hR (k := a) (d := d) (by omega) (by omega) (by omega) (by omega)
    generalize tp_cf μ (a : Int) = f at hW hw hCd0 hX hM
    obtain ⟨c, hcE⟩ : ∃ c, c = 6 + 5 * a := ⟨_, rfl⟩
    rw [← hcE] at hCd0 hX
    have hc : tp_SH c = .inl 0 := by rcases (show a = 0 ∨ a = 1 by omega) with q | q <;> (subst q; subst hcE; rfl)
    have hcl : c < 37 := by omega
    have hcn : c < 234 := by omega
    have hw0 := hw.1
    have hn0 := hW.1
    have hrl := hw.2.2
    refine tp_ok_of mX11_sent_ok rfl (Nat.le_refl _) ?_
    refine g_aload_n rfl rfl ?_
    refine g_iload_n rfl rfl ?_
    refine g_iload_n rfl rfl ?_
    refine g_cV (as := [tI (a : Int), tI (d : Int)]) (hX) rfl rfl mX11_follow_ok rfl rfl rfl (by decide) rfl rfl rfl ?_
    rintro _ w1 ⟨rfl, hT, hco, hfr⟩ _
    have hCd : tp_Cd c f w1 := tp_Cd_fr hcl (fun k9 z9 => hfr k9 (by omega)) hCd0
    have hkp1 : tp_kp μ w1 := fun k9 z9 => hfr k9 (by unfold tp_tl at z9; omega)
    have hn6 := hT.1
    refine g_if_ne (tgt := 12) rfl (by decide) (fun _ => ?_) (fun hx => absurd hx (by omega))
    refine g_aload_n rfl rfl ?_
    refine g_iV (as := []) mX11_encode_ok rfl rfl rfl rfl rfl rfl (by decide) rfl rfl rfl ?_
    refine g_aload_n rfl rfl ?_
    refine x_getF (r := 50) hG rfl rfl (by decide) (Or.inl ⟨_, rfl⟩) rfl ?_
    refine x_getM (v := (some c)) hG rfl rfl (by decide) (Or.inl ⟨_, rfl⟩) rfl (by first | exact hco | exact hco3) ?_
    refine g_astore_n rfl rfl rfl ?_
    refine g_aload_n rfl rfl ?_
    refine g_ifnull (tgt := 34) rfl (by decide) (fun hx => by cases hx) (fun _ _ => ?_)
    refine g_aload_n rfl rfl ?_
    refine x_getF (r := 62) hG rfl rfl (by decide) (Or.inl ⟨_, rfl⟩) rfl ?_
    refine g_aload_n rfl rfl ?_
    refine g_aload_n rfl rfl ?_
    refine x_getF (r := 50) hG rfl rfl (by decide) (Or.inl ⟨_, rfl⟩) rfl ?_
    refine g_aload_n rfl rfl ?_
    refine g_iconst rfl ⟨by decide, by decide⟩ ?_
    refine g_cV (as := [tI 0]) (s_ruleN (n := 1) hG hc hcl hCd (by decide) (by decide) (by decide)) rfl rfl mX0_rule_ok rfl hc rfl hcn rfl rfl rfl ?_
    rintro _ w9 ⟨rfl, hw9⟩ _
    have hw9 := hw9.symm
    subst hw9
    refine g_aload_n rfl rfl ?_
    refine g_iconst rfl ⟨by decide, by decide⟩ ?_
    refine g_cV (as := [tI 1]) (s_ruleN (n := 2) hG hc hcl hCd (by decide) (by decide) (by decide)) rfl rfl mX0_rule_ok rfl hc rfl hcn rfl rfl rfl ?_
    rintro _ w9 ⟨rfl, hw9⟩ _
    have hw9 := hw9.symm
    subst hw9
    refine g_cV (as := [tR (some c), tR (some 50), tI (f 1), tI (f 2)]) (s_encode hG hc hcl hw hCd hW hT (by omega) (by omega)) rfl rfl mX1_encode_ok rfl rfl rfl (by decide) rfl rfl rfl ?_
    rintro _ w3 ⟨rfl, hE3⟩ _
    have hkp3 : tp_kp μ w3 := fun k9 z9 => (hE3.2.2.2.2.1 k9 (by unfold tp_tl at z9; omega)).trans (hkp1 k9 z9)
    have hBJ := e_all_B (bt := f 1) (dp := f 2) hw hW (by omega) (by omega)
    obtain ⟨σ, hσ⟩ : ∃ σ9, σ9 = (e_all f (f 1) (f 2) A B Y n) := ⟨_, rfl⟩
    rw [← hσ] at hE3 hBJ
    have hbB := hBJ.1
    have hJ1 := hBJ.2.1
    have hJ2 := hBJ.2.2.1
    have hsz3 : w3.1 63 4 = σ.1 0 9 := hE3.1.2.2.2.2.2.2.2.2.1
    have hp9 : 0 ≤ σ.1 0 9 ∧ σ.1 0 9 ≤ 209 := by omega
    have HH : ∀ p, 0 ≤ p → p < σ.1 0 9 → s_H f A B Y (f 2) n σ p := by rw [hσ]; exact H_all hw hW (by omega) (by omega)
    have hCd3 : tp_Cd c f w3 := tp_Cd_fr hcl (fun k9 z9 => hE3.2.2.2.2.1 k9 (by omega)) hCd
    have hco3 : w3.2 50 5 = some c := by rw [hE3.2.2.2.2.2]; exact hco
    have hT3 : c_T 50 n A B Y E D U T w3 := c_T_fr (fun c9 z1 z2 => hE3.2.2.2.2.1 c9 (by omega)) hT
    have hdr3 : w3.1 62 14 = σ.1 0 7 := hE3.1.2.2.2.2.2.2.1
    have hfu3 : w3.1 62 15 = σ.1 0 8 := hE3.1.2.2.2.2.2.2.2.1
    have hsm3 := e_B_sum hbB hp9
    refine x_return rfl rfl ?_
    intro _
    refine g_aload_n rfl rfl ?_
    refine x_getF (r := 62) hG rfl rfl (by decide) (Or.inl ⟨_, rfl⟩) rfl ?_
    refine x_getF (r := 63) hG rfl rfl (by decide) (Or.inl ⟨_, rfl⟩) rfl ?_
    refine g_astore rfl rfl rfl ?_
    refine g_iload_n rfl rfl ?_
    rcases (show w < 0 ∨ w = 0 ∨ w = 1 ∨ w = 2 ∨ w = 3 ∨ w = 4 ∨ w = 5 ∨ w = 6 ∨ w = 7 ∨ w = 8 ∨ w = 9 ∨ 9 < w by omega) with h1 | h1 | h1 | h1 | h1 | h1 | h1 | h1 | h1 | h1 | h1 | h1
    · refine g_swOut (tgt := 140) rfl (by omega) (by decide) ?_
      refine g_iload_n rfl rfl ?_
      refine g_bipush rfl ⟨by decide, by decide⟩ (by decide) ?_
      refine g_icmp_lt (tgt := 164) rfl (by decide) (fun _ => ?_) (fun hx => absurd hx (by omega))
      refine g_bipush rfl ⟨by decide, by decide⟩ (by decide) ?_
      refine x_ireturn rfl rfl ?_
      refine ⟨_, rfl, ?_⟩
      refine tp_ok_of mX12_sent_ok rfl (Nat.le_refl _) ?_
      refine g_aload_n rfl rfl ?_
      refine g_iconst rfl ⟨by decide, by decide⟩ ?_
      refine g_puti rfl rfl (by decide) rfl rfl ?_
      refine g_aload_n rfl rfl ?_
      refine g_iload_n rfl rfl ?_
      refine g_iload_n rfl rfl ?_
      refine g_iV (as := [tI (a : Int), tI (d : Int)]) mX12_layPackets_ok rfl rfl rfl rfl rfl rfl (by decide) rfl rfl rfl ?_
      refine g_aload_n rfl rfl ?_
      refine g_iload_n rfl rfl ?_
      refine g_iload_n rfl rfl ?_
      refine g_cV (as := [tI (a : Int), tI (d : Int)]) (hM _ (tp_kp_pi (by decide) hkp3)) rfl rfl mX12_lay_ok rfl rfl rfl (by decide) rfl rfl rfl ?_
      rintro _ w2 ⟨rfl, hTm, hMc, hGm, hdr, hdm⟩ _
      have hkp2 : tp_kp μ w2 := m_G_kp (tp_kp_pi (by decide) hkp3) hGm
      have hm6 := hTm.1
      have hall := hMc.2.2.1
      refine g_if_ne (tgt := 11) rfl (by decide) (fun _ => ?_) (fun hx => absurd hx (by omega))
      refine g_aload_n rfl rfl ?_
      refine g_aload_n rfl rfl ?_
      refine g_iconst rfl ⟨by decide, by decide⟩ ?_
      refine g_cV (as := [tI 1]) (s_of hG hMc (by omega) (by omega)) rfl rfl mX12_of_ok rfl rfl rfl (by decide) rfl rfl rfl ?_
      rintro _ w9 ⟨rfl, hw9⟩ _
      have hw9 := hw9.symm
      subst hw9
      refine g_aload_n rfl rfl ?_
      refine g_iconst rfl ⟨by decide, by decide⟩ ?_
      refine g_cV (as := [tI 2]) (s_of hG hMc (by omega) (by omega)) rfl rfl mX12_of_ok rfl rfl rfl (by decide) rfl rfl rfl ?_
      rintro _ w9 ⟨rfl, hw9⟩ _
      have hw9 := hw9.symm
      subst hw9
      refine g_cV (as := [tI (f 1), tI (f 2)]) (s_encodesM hG hw hMc hW hTm (by omega) (by omega)) rfl rfl mX12_encodes_ok rfl rfl rfl (by decide) rfl rfl rfl ?_
      rintro _ w4 ⟨rfl, hE4⟩ _
      have hkp4 : tp_kp μ w4 := fun k9 z9 => (hE4.2.2.2.1 k9 (by unfold tp_tl at z9; omega) (by unfold tp_tl at z9; omega)).trans (hkp2 k9 z9)
      rw [← hσ] at hE4
      have hMB := hE4.2.1
      have hsz4 : w4.1 201 47 = σ.1 0 9 := hE4.1.2.2.2.2.2.2.2.2.1
      have hQ4 : v_Q σ w4 := ⟨hsz4, fun i i0 i1 => ⟨(hMB i i0 i1).1, (hMB i i0 i1).2.2.2.1, (hMB i i0 i1).2.2.2.2.1⟩⟩
      have hn4 : w4.1 201 27 = n := by rw [hE4.2.2.2.2 27 (by omega)]; exact hm6
      have hA4 : ∀ j, 0 ≤ j → j < n → w4.1 212 j = A j := fun j j0 j1 => by rw [hE4.2.2.2.1 212 (by omega) (by omega)]; exact hTm.2.1 j j0 j1
      have hG4 : e_G w2 w4 := ⟨hE4.2.2.2.1, hE4.2.2.2.2⟩
      have hMc4 := tp_Mc_e hG4 hMc
      have hT4 := m_T_e hG4 hTm
      have h48 : w4.1 201 48 = σ.1 0 12 := hE4.1.2.2.2.2.2.2.2.2.2.2.1
      have hdr4 : w4.1 201 49 = σ.1 0 7 := hE4.1.2.2.2.2.2.2.1
      have hfu4 : w4.1 201 50 = σ.1 0 8 := hE4.1.2.2.2.2.2.2.2.1
      refine g_iconst rfl ⟨by decide, by decide⟩ ?_
      refine x_zreturn rfl rfl (Or.inr rfl) ?_
      intro _
      refine g_if_ne (tgt := 17) rfl (by decide) (fun _ => ?_) (fun hx => absurd hx (by omega))
      refine g_iload_n rfl rfl ?_
      rcases (show w < 0 ∨ w = 0 ∨ w = 1 ∨ w = 2 ∨ w = 3 ∨ w = 4 ∨ w = 5 ∨ w = 6 ∨ w = 7 ∨ w = 8 ∨ w = 9 ∨ 9 < w by omega) with h2 | h2 | h2 | h2 | h2 | h2 | h2 | h2 | h2 | h2 | h2 | h2
      · refine g_swOut (tgt := 127) rfl (by omega) (by decide) ?_
        refine g_iload_n rfl rfl ?_
        refine g_bipush rfl ⟨by decide, by decide⟩ (by decide) ?_
        refine g_bipush rfl ⟨by decide, by decide⟩ (by decide) ?_
        refine g_iS (as := [tI w, tI 10, tI 15]) mX12_in_ok rfl rfl rfl rfl rfl rfl rfl ?_
        refine g_iload_n rfl rfl ?_
        refine g_iload_n rfl rfl ?_
        refine g_icmp_lt (tgt := 14) rfl (by decide) (fun _ => ?_) (fun hx => absurd hx (by omega))
        refine g_iconst rfl ⟨by decide, by decide⟩ ?_
        refine x_zreturn rfl rfl (Or.inl rfl) ?_
        intro _
        refine g_if_eq (tgt := 149) rfl (by decide) (fun _ => ?_) (fun hx => absurd hx (by omega))
        refine g_bipush rfl ⟨by decide, by decide⟩ (by decide) ?_
        refine x_ireturn rfl rfl ?_
        exact ⟨(by first | rfl | (exfalso; omega) | exact congrArg (fun z => some (tI z)) (by rw [hsz4, hsz3]) | exact congrArg (fun z => some (tI z)) (by rw [hdr4, hdr3]) | exact congrArg (fun z => some (tI z)) (by rw [hfu4, hfu3]) | exact congrArg (fun z => some (tI z)) (h48)), tp_R_kp hR hkp4⟩
      · omega
      · omega
      · omega
      · omega
      · omega
      · omega
      · omega
      · omega
      · omega
      · omega
      · omega
    · refine g_swIn (off := 54) (tgt := 80) rfl (by omega) (by omega) (by rw [show (w - 0).toNat = 0 by omega]; rfl) (by decide) ?_
      refine g_aload rfl rfl ?_
      refine x_geti (v := (w3.1 63 4)) rfl rfl (by decide) (Or.inl rfl) rfl ?_
      refine x_ireturn rfl rfl ?_
      refine ⟨_, rfl, ?_⟩
      refine tp_ok_of mX12_sent_ok rfl (Nat.le_refl _) ?_
      refine g_aload_n rfl rfl ?_
      refine g_iconst rfl ⟨by decide, by decide⟩ ?_
      refine g_puti rfl rfl (by decide) rfl rfl ?_
      refine g_aload_n rfl rfl ?_
      refine g_iload_n rfl rfl ?_
      refine g_iload_n rfl rfl ?_
      refine g_iV (as := [tI (a : Int), tI (d : Int)]) mX12_layPackets_ok rfl rfl rfl rfl rfl rfl (by decide) rfl rfl rfl ?_
      refine g_aload_n rfl rfl ?_
      refine g_iload_n rfl rfl ?_
      refine g_iload_n rfl rfl ?_
      refine g_cV (as := [tI (a : Int), tI (d : Int)]) (hM _ (tp_kp_pi (by decide) hkp3)) rfl rfl mX12_lay_ok rfl rfl rfl (by decide) rfl rfl rfl ?_
      rintro _ w2 ⟨rfl, hTm, hMc, hGm, hdr, hdm⟩ _
      have hkp2 : tp_kp μ w2 := m_G_kp (tp_kp_pi (by decide) hkp3) hGm
      have hm6 := hTm.1
      have hall := hMc.2.2.1
      refine g_if_ne (tgt := 11) rfl (by decide) (fun _ => ?_) (fun hx => absurd hx (by omega))
      refine g_aload_n rfl rfl ?_
      refine g_aload_n rfl rfl ?_
      refine g_iconst rfl ⟨by decide, by decide⟩ ?_
      refine g_cV (as := [tI 1]) (s_of hG hMc (by omega) (by omega)) rfl rfl mX12_of_ok rfl rfl rfl (by decide) rfl rfl rfl ?_
      rintro _ w9 ⟨rfl, hw9⟩ _
      have hw9 := hw9.symm
      subst hw9
      refine g_aload_n rfl rfl ?_
      refine g_iconst rfl ⟨by decide, by decide⟩ ?_
      refine g_cV (as := [tI 2]) (s_of hG hMc (by omega) (by omega)) rfl rfl mX12_of_ok rfl rfl rfl (by decide) rfl rfl rfl ?_
      rintro _ w9 ⟨rfl, hw9⟩ _
      have hw9 := hw9.symm
      subst hw9
      refine g_cV (as := [tI (f 1), tI (f 2)]) (s_encodesM hG hw hMc hW hTm (by omega) (by omega)) rfl rfl mX12_encodes_ok rfl rfl rfl (by decide) rfl rfl rfl ?_
      rintro _ w4 ⟨rfl, hE4⟩ _
      have hkp4 : tp_kp μ w4 := fun k9 z9 => (hE4.2.2.2.1 k9 (by unfold tp_tl at z9; omega) (by unfold tp_tl at z9; omega)).trans (hkp2 k9 z9)
      rw [← hσ] at hE4
      have hMB := hE4.2.1
      have hsz4 : w4.1 201 47 = σ.1 0 9 := hE4.1.2.2.2.2.2.2.2.2.1
      have hQ4 : v_Q σ w4 := ⟨hsz4, fun i i0 i1 => ⟨(hMB i i0 i1).1, (hMB i i0 i1).2.2.2.1, (hMB i i0 i1).2.2.2.2.1⟩⟩
      have hn4 : w4.1 201 27 = n := by rw [hE4.2.2.2.2 27 (by omega)]; exact hm6
      have hA4 : ∀ j, 0 ≤ j → j < n → w4.1 212 j = A j := fun j j0 j1 => by rw [hE4.2.2.2.1 212 (by omega) (by omega)]; exact hTm.2.1 j j0 j1
      have hG4 : e_G w2 w4 := ⟨hE4.2.2.2.1, hE4.2.2.2.2⟩
      have hMc4 := tp_Mc_e hG4 hMc
      have hT4 := m_T_e hG4 hTm
      have h48 : w4.1 201 48 = σ.1 0 12 := hE4.1.2.2.2.2.2.2.2.2.2.2.1
      have hdr4 : w4.1 201 49 = σ.1 0 7 := hE4.1.2.2.2.2.2.2.1
      have hfu4 : w4.1 201 50 = σ.1 0 8 := hE4.1.2.2.2.2.2.2.2.1
      refine g_iconst rfl ⟨by decide, by decide⟩ ?_
      refine x_zreturn rfl rfl (Or.inr rfl) ?_
      intro _
      refine g_if_ne (tgt := 17) rfl (by decide) (fun _ => ?_) (fun hx => absurd hx (by omega))
      refine g_iload_n rfl rfl ?_
      rcases (show w < 0 ∨ w = 0 ∨ w = 1 ∨ w = 2 ∨ w = 3 ∨ w = 4 ∨ w = 5 ∨ w = 6 ∨ w = 7 ∨ w = 8 ∨ w = 9 ∨ 9 < w by omega) with h3 | h3 | h3 | h3 | h3 | h3 | h3 | h3 | h3 | h3 | h3 | h3
      · omega
      · refine g_swIn (off := 54) (tgt := 72) rfl (by omega) (by omega) (by rw [show (w - 0).toNat = 0 by omega]; rfl) (by decide) ?_
        refine g_aload_n rfl rfl ?_
        refine x_geti (v := (w4.1 201 47)) rfl rfl (by decide) (Or.inl rfl) rfl ?_
        refine x_ireturn rfl rfl ?_
        exact ⟨(by first | rfl | (exfalso; omega) | exact congrArg (fun z => some (tI z)) (by rw [hsz4, hsz3]) | exact congrArg (fun z => some (tI z)) (by rw [hdr4, hdr3]) | exact congrArg (fun z => some (tI z)) (by rw [hfu4, hfu3]) | exact congrArg (fun z => some (tI z)) (h48)), tp_R_kp hR hkp4⟩
      · omega
      · omega
      · omega
      · omega
      · omega
      · omega
      · omega
      · omega
      · omega
      · omega
    · refine g_swIn (off := 60) (tgt := 86) rfl (by omega) (by omega) (by rw [show (w - 0).toNat = 1 by omega]; rfl) (by decide) ?_
      refine g_aload rfl rfl ?_
      refine g_cV (as := []) (s_sum hG hsz3 hE3.2.1 hbB hp9) rfl rfl mX3_sum_ok rfl rfl rfl (by decide) rfl rfl rfl ?_
      rintro _ w9 ⟨rfl, hw9⟩ _
      have hw9 := hw9.symm
      subst hw9
      refine x_ireturn rfl rfl ?_
      refine ⟨_, rfl, ?_⟩
      refine tp_ok_of mX12_sent_ok rfl (Nat.le_refl _) ?_
      refine g_aload_n rfl rfl ?_
      refine g_iconst rfl ⟨by decide, by decide⟩ ?_
      refine g_puti rfl rfl (by decide) rfl rfl ?_
      refine g_aload_n rfl rfl ?_
      refine g_iload_n rfl rfl ?_
      refine g_iload_n rfl rfl ?_
      refine g_iV (as := [tI (a : Int), tI (d : Int)]) mX12_layPackets_ok rfl rfl rfl rfl rfl rfl (by decide) rfl rfl rfl ?_
      refine g_aload_n rfl rfl ?_
      refine g_iload_n rfl rfl ?_
      refine g_iload_n rfl rfl ?_
      refine g_cV (as := [tI (a : Int), tI (d : Int)]) (hM _ (tp_kp_pi (by decide) hkp3)) rfl rfl mX12_lay_ok rfl rfl rfl (by decide) rfl rfl rfl ?_
      rintro _ w2 ⟨rfl, hTm, hMc, hGm, hdr, hdm⟩ _
      have hkp2 : tp_kp μ w2 := m_G_kp (tp_kp_pi (by decide) hkp3) hGm
      have hm6 := hTm.1
      have hall := hMc.2.2.1
      refine g_if_ne (tgt := 11) rfl (by decide) (fun _ => ?_) (fun hx => absurd hx (by omega))
      refine g_aload_n rfl rfl ?_
      refine g_aload_n rfl rfl ?_
      refine g_iconst rfl ⟨by decide, by decide⟩ ?_
      refine g_cV (as := [tI 1]) (s_of hG hMc (by omega) (by omega)) rfl rfl mX12_of_ok rfl rfl rfl (by decide) rfl rfl rfl ?_
      rintro _ w9 ⟨rfl, hw9⟩ _
      have hw9 := hw9.symm
      subst hw9
      refine g_aload_n rfl rfl ?_
      refine g_iconst rfl ⟨by decide, by decide⟩ ?_
      refine g_cV (as := [tI 2]) (s_of hG hMc (by omega) (by omega)) rfl rfl mX12_of_ok rfl rfl rfl (by decide) rfl rfl rfl ?_
      rintro _ w9 ⟨rfl, hw9⟩ _
      have hw9 := hw9.symm
      subst hw9
      refine g_cV (as := [tI (f 1), tI (f 2)]) (s_encodesM hG hw hMc hW hTm (by omega) (by omega)) rfl rfl mX12_encodes_ok rfl rfl rfl (by decide) rfl rfl rfl ?_
      rintro _ w4 ⟨rfl, hE4⟩ _
      have hkp4 : tp_kp μ w4 := fun k9 z9 => (hE4.2.2.2.1 k9 (by unfold tp_tl at z9; omega) (by unfold tp_tl at z9; omega)).trans (hkp2 k9 z9)
      rw [← hσ] at hE4
      have hMB := hE4.2.1
      have hsz4 : w4.1 201 47 = σ.1 0 9 := hE4.1.2.2.2.2.2.2.2.2.1
      have hQ4 : v_Q σ w4 := ⟨hsz4, fun i i0 i1 => ⟨(hMB i i0 i1).1, (hMB i i0 i1).2.2.2.1, (hMB i i0 i1).2.2.2.2.1⟩⟩
      have hn4 : w4.1 201 27 = n := by rw [hE4.2.2.2.2 27 (by omega)]; exact hm6
      have hA4 : ∀ j, 0 ≤ j → j < n → w4.1 212 j = A j := fun j j0 j1 => by rw [hE4.2.2.2.1 212 (by omega) (by omega)]; exact hTm.2.1 j j0 j1
      have hG4 : e_G w2 w4 := ⟨hE4.2.2.2.1, hE4.2.2.2.2⟩
      have hMc4 := tp_Mc_e hG4 hMc
      have hT4 := m_T_e hG4 hTm
      have h48 : w4.1 201 48 = σ.1 0 12 := hE4.1.2.2.2.2.2.2.2.2.2.2.1
      have hdr4 : w4.1 201 49 = σ.1 0 7 := hE4.1.2.2.2.2.2.2.1
      have hfu4 : w4.1 201 50 = σ.1 0 8 := hE4.1.2.2.2.2.2.2.2.1
      refine g_iconst rfl ⟨by decide, by decide⟩ ?_
      refine x_zreturn rfl rfl (Or.inr rfl) ?_
      intro _
      refine g_if_ne (tgt := 17) rfl (by decide) (fun _ => ?_) (fun hx => absurd hx (by omega))
      refine g_iload_n rfl rfl ?_
      rcases (show w < 0 ∨ w = 0 ∨ w = 1 ∨ w = 2 ∨ w = 3 ∨ w = 4 ∨ w = 5 ∨ w = 6 ∨ w = 7 ∨ w = 8 ∨ w = 9 ∨ 9 < w by omega) with h4 | h4 | h4 | h4 | h4 | h4 | h4 | h4 | h4 | h4 | h4 | h4
      · omega
      · omega
      · refine g_swIn (off := 59) (tgt := 77) rfl (by omega) (by omega) (by rw [show (w - 0).toNat = 1 by omega]; rfl) (by decide) ?_
        refine g_aload_n rfl rfl ?_
        refine x_geti (v := (w4.1 201 48)) rfl rfl (by decide) (Or.inl rfl) rfl ?_
        refine x_ireturn rfl rfl ?_
        exact ⟨(by first | rfl | (exfalso; omega) | exact congrArg (fun z => some (tI z)) (by rw [hsz4, hsz3]) | exact congrArg (fun z => some (tI z)) (by rw [hdr4, hdr3]) | exact congrArg (fun z => some (tI z)) (by rw [hfu4, hfu3]) | exact congrArg (fun z => some (tI z)) (h48)), tp_R_kp hR hkp4⟩
      · omega
      · omega
      · omega
      · omega
      · omega
      · omega
      · omega
      · omega
      · omega
    · refine g_swIn (off := 66) (tgt := 92) rfl (by omega) (by omega) (by rw [show (w - 0).toNat = 2 by omega]; rfl) (by decide) ?_
      refine g_aload_n rfl rfl ?_
      refine g_iconst rfl ⟨by decide, by decide⟩ ?_
      refine g_cV (as := [tI 1]) (s_ratio1 hG hc hcl hw hW hT3 hCd3 hco3 hsz3 hE3.2.1 hbB hp9) rfl rfl mX11_ratio_ok rfl rfl rfl (by decide) rfl rfl rfl ?_
      rintro _ w9 ⟨rfl, hw9⟩ _
      have hw9 := hw9.symm
      subst hw9
      refine x_ireturn rfl rfl ?_
      refine ⟨_, rfl, ?_⟩
      refine tp_ok_of mX12_sent_ok rfl (Nat.le_refl _) ?_
      refine g_aload_n rfl rfl ?_
      refine g_iconst rfl ⟨by decide, by decide⟩ ?_
      refine g_puti rfl rfl (by decide) rfl rfl ?_
      refine g_aload_n rfl rfl ?_
      refine g_iload_n rfl rfl ?_
      refine g_iload_n rfl rfl ?_
      refine g_iV (as := [tI (a : Int), tI (d : Int)]) mX12_layPackets_ok rfl rfl rfl rfl rfl rfl (by decide) rfl rfl rfl ?_
      refine g_aload_n rfl rfl ?_
      refine g_iload_n rfl rfl ?_
      refine g_iload_n rfl rfl ?_
      refine g_cV (as := [tI (a : Int), tI (d : Int)]) (hM _ (tp_kp_pi (by decide) hkp3)) rfl rfl mX12_lay_ok rfl rfl rfl (by decide) rfl rfl rfl ?_
      rintro _ w2 ⟨rfl, hTm, hMc, hGm, hdr, hdm⟩ _
      have hkp2 : tp_kp μ w2 := m_G_kp (tp_kp_pi (by decide) hkp3) hGm
      have hm6 := hTm.1
      have hall := hMc.2.2.1
      refine g_if_ne (tgt := 11) rfl (by decide) (fun _ => ?_) (fun hx => absurd hx (by omega))
      refine g_aload_n rfl rfl ?_
      refine g_aload_n rfl rfl ?_
      refine g_iconst rfl ⟨by decide, by decide⟩ ?_
      refine g_cV (as := [tI 1]) (s_of hG hMc (by omega) (by omega)) rfl rfl mX12_of_ok rfl rfl rfl (by decide) rfl rfl rfl ?_
      rintro _ w9 ⟨rfl, hw9⟩ _
      have hw9 := hw9.symm
      subst hw9
      refine g_aload_n rfl rfl ?_
      refine g_iconst rfl ⟨by decide, by decide⟩ ?_
      refine g_cV (as := [tI 2]) (s_of hG hMc (by omega) (by omega)) rfl rfl mX12_of_ok rfl rfl rfl (by decide) rfl rfl rfl ?_
      rintro _ w9 ⟨rfl, hw9⟩ _
      have hw9 := hw9.symm
      subst hw9
      refine g_cV (as := [tI (f 1), tI (f 2)]) (s_encodesM hG hw hMc hW hTm (by omega) (by omega)) rfl rfl mX12_encodes_ok rfl rfl rfl (by decide) rfl rfl rfl ?_
      rintro _ w4 ⟨rfl, hE4⟩ _
      have hkp4 : tp_kp μ w4 := fun k9 z9 => (hE4.2.2.2.1 k9 (by unfold tp_tl at z9; omega) (by unfold tp_tl at z9; omega)).trans (hkp2 k9 z9)
      rw [← hσ] at hE4
      have hMB := hE4.2.1
      have hsz4 : w4.1 201 47 = σ.1 0 9 := hE4.1.2.2.2.2.2.2.2.2.1
      have hQ4 : v_Q σ w4 := ⟨hsz4, fun i i0 i1 => ⟨(hMB i i0 i1).1, (hMB i i0 i1).2.2.2.1, (hMB i i0 i1).2.2.2.2.1⟩⟩
      have hn4 : w4.1 201 27 = n := by rw [hE4.2.2.2.2 27 (by omega)]; exact hm6
      have hA4 : ∀ j, 0 ≤ j → j < n → w4.1 212 j = A j := fun j j0 j1 => by rw [hE4.2.2.2.1 212 (by omega) (by omega)]; exact hTm.2.1 j j0 j1
      have hG4 : e_G w2 w4 := ⟨hE4.2.2.2.1, hE4.2.2.2.2⟩
      have hMc4 := tp_Mc_e hG4 hMc
      have hT4 := m_T_e hG4 hTm
      have h48 : w4.1 201 48 = σ.1 0 12 := hE4.1.2.2.2.2.2.2.2.2.2.2.1
      have hdr4 : w4.1 201 49 = σ.1 0 7 := hE4.1.2.2.2.2.2.2.1
      have hfu4 : w4.1 201 50 = σ.1 0 8 := hE4.1.2.2.2.2.2.2.2.1
      refine g_iconst rfl ⟨by decide, by decide⟩ ?_
      refine x_zreturn rfl rfl (Or.inr rfl) ?_
      intro _
      refine g_if_ne (tgt := 17) rfl (by decide) (fun _ => ?_) (fun hx => absurd hx (by omega))
      refine g_iload_n rfl rfl ?_
      rcases (show w < 0 ∨ w = 0 ∨ w = 1 ∨ w = 2 ∨ w = 3 ∨ w = 4 ∨ w = 5 ∨ w = 6 ∨ w = 7 ∨ w = 8 ∨ w = 9 ∨ 9 < w by omega) with h5 | h5 | h5 | h5 | h5 | h5 | h5 | h5 | h5 | h5 | h5 | h5
      · omega
      · omega
      · omega
      · refine g_swIn (off := 64) (tgt := 82) rfl (by omega) (by omega) (by rw [show (w - 0).toNat = 2 by omega]; rfl) (by decide) ?_
        refine g_aload_n rfl rfl ?_
        refine g_iload_n rfl rfl ?_
        refine g_iconst rfl ⟨by decide, by decide⟩ ?_
        refine g_icmp_ne (tgt := 92) rfl (by decide) (fun _ => ?_) (fun hx => absurd hx (by omega))
        refine g_iconst rfl ⟨by decide, by decide⟩ ?_
        refine g_cV (as := [tI 0]) (s_ratioM1 hG hw hW hT4 hMc4 hbB hp9 h48) rfl rfl mX12_ratio_ok rfl rfl rfl (by decide) rfl rfl rfl ?_
        rintro _ w9 ⟨rfl, hw9⟩ _
        have hw9 := hw9.symm
        subst hw9
        refine x_ireturn rfl rfl ?_
        exact ⟨(by first | rfl | (exfalso; omega) | exact congrArg (fun z => some (tI z)) (by rw [hsz4, hsz3]) | exact congrArg (fun z => some (tI z)) (by rw [hdr4, hdr3]) | exact congrArg (fun z => some (tI z)) (by rw [hfu4, hfu3]) | exact congrArg (fun z => some (tI z)) (h48)), tp_R_kp hR hkp4⟩
      · omega
      · omega
      · omega
      · omega
      · omega
      · omega
      · omega
      · omega
    · refine g_swIn (off := 72) (tgt := 98) rfl (by omega) (by omega) (by rw [show (w - 0).toNat = 3 by omega]; rfl) (by decide) ?_
      refine g_aload_n rfl rfl ?_
      refine g_iconst rfl ⟨by decide, by decide⟩ ?_
      refine g_cV (as := [tI 0]) (s_ratio0 hG hc hcl hw hW hT3 hCd3 hco3 hsz3 hE3.2.1 hbB hp9) rfl rfl mX11_ratio_ok rfl rfl rfl (by decide) rfl rfl rfl ?_
      rintro _ w9 ⟨rfl, hw9⟩ _
      have hw9 := hw9.symm
      subst hw9
      refine x_ireturn rfl rfl ?_
      refine ⟨_, rfl, ?_⟩
      refine tp_ok_of mX12_sent_ok rfl (Nat.le_refl _) ?_
      refine g_aload_n rfl rfl ?_
      refine g_iconst rfl ⟨by decide, by decide⟩ ?_
      refine g_puti rfl rfl (by decide) rfl rfl ?_
      refine g_aload_n rfl rfl ?_
      refine g_iload_n rfl rfl ?_
      refine g_iload_n rfl rfl ?_
      refine g_iV (as := [tI (a : Int), tI (d : Int)]) mX12_layPackets_ok rfl rfl rfl rfl rfl rfl (by decide) rfl rfl rfl ?_
      refine g_aload_n rfl rfl ?_
      refine g_iload_n rfl rfl ?_
      refine g_iload_n rfl rfl ?_
      refine g_cV (as := [tI (a : Int), tI (d : Int)]) (hM _ (tp_kp_pi (by decide) hkp3)) rfl rfl mX12_lay_ok rfl rfl rfl (by decide) rfl rfl rfl ?_
      rintro _ w2 ⟨rfl, hTm, hMc, hGm, hdr, hdm⟩ _
      have hkp2 : tp_kp μ w2 := m_G_kp (tp_kp_pi (by decide) hkp3) hGm
      have hm6 := hTm.1
      have hall := hMc.2.2.1
      refine g_if_ne (tgt := 11) rfl (by decide) (fun _ => ?_) (fun hx => absurd hx (by omega))
      refine g_aload_n rfl rfl ?_
      refine g_aload_n rfl rfl ?_
      refine g_iconst rfl ⟨by decide, by decide⟩ ?_
      refine g_cV (as := [tI 1]) (s_of hG hMc (by omega) (by omega)) rfl rfl mX12_of_ok rfl rfl rfl (by decide) rfl rfl rfl ?_
      rintro _ w9 ⟨rfl, hw9⟩ _
      have hw9 := hw9.symm
      subst hw9
      refine g_aload_n rfl rfl ?_
      refine g_iconst rfl ⟨by decide, by decide⟩ ?_
      refine g_cV (as := [tI 2]) (s_of hG hMc (by omega) (by omega)) rfl rfl mX12_of_ok rfl rfl rfl (by decide) rfl rfl rfl ?_
      rintro _ w9 ⟨rfl, hw9⟩ _
      have hw9 := hw9.symm
      subst hw9
      refine g_cV (as := [tI (f 1), tI (f 2)]) (s_encodesM hG hw hMc hW hTm (by omega) (by omega)) rfl rfl mX12_encodes_ok rfl rfl rfl (by decide) rfl rfl rfl ?_
      rintro _ w4 ⟨rfl, hE4⟩ _
      have hkp4 : tp_kp μ w4 := fun k9 z9 => (hE4.2.2.2.1 k9 (by unfold tp_tl at z9; omega) (by unfold tp_tl at z9; omega)).trans (hkp2 k9 z9)
      rw [← hσ] at hE4
      have hMB := hE4.2.1
      have hsz4 : w4.1 201 47 = σ.1 0 9 := hE4.1.2.2.2.2.2.2.2.2.1
      have hQ4 : v_Q σ w4 := ⟨hsz4, fun i i0 i1 => ⟨(hMB i i0 i1).1, (hMB i i0 i1).2.2.2.1, (hMB i i0 i1).2.2.2.2.1⟩⟩
      have hn4 : w4.1 201 27 = n := by rw [hE4.2.2.2.2 27 (by omega)]; exact hm6
      have hA4 : ∀ j, 0 ≤ j → j < n → w4.1 212 j = A j := fun j j0 j1 => by rw [hE4.2.2.2.1 212 (by omega) (by omega)]; exact hTm.2.1 j j0 j1
      have hG4 : e_G w2 w4 := ⟨hE4.2.2.2.1, hE4.2.2.2.2⟩
      have hMc4 := tp_Mc_e hG4 hMc
      have hT4 := m_T_e hG4 hTm
      have h48 : w4.1 201 48 = σ.1 0 12 := hE4.1.2.2.2.2.2.2.2.2.2.2.1
      have hdr4 : w4.1 201 49 = σ.1 0 7 := hE4.1.2.2.2.2.2.2.1
      have hfu4 : w4.1 201 50 = σ.1 0 8 := hE4.1.2.2.2.2.2.2.2.1
      refine g_iconst rfl ⟨by decide, by decide⟩ ?_
      refine x_zreturn rfl rfl (Or.inr rfl) ?_
      intro _
      refine g_if_ne (tgt := 17) rfl (by decide) (fun _ => ?_) (fun hx => absurd hx (by omega))
      refine g_iload_n rfl rfl ?_
      rcases (show w < 0 ∨ w = 0 ∨ w = 1 ∨ w = 2 ∨ w = 3 ∨ w = 4 ∨ w = 5 ∨ w = 6 ∨ w = 7 ∨ w = 8 ∨ w = 9 ∨ 9 < w by omega) with h6 | h6 | h6 | h6 | h6 | h6 | h6 | h6 | h6 | h6 | h6 | h6
      · omega
      · omega
      · omega
      · omega
      · refine g_swIn (off := 64) (tgt := 82) rfl (by omega) (by omega) (by rw [show (w - 0).toNat = 3 by omega]; rfl) (by decide) ?_
        refine g_aload_n rfl rfl ?_
        refine g_iload_n rfl rfl ?_
        refine g_iconst rfl ⟨by decide, by decide⟩ ?_
        refine g_icmp_ne (tgt := 92) rfl (by decide) (fun hx => absurd hx (by omega)) (fun _ => ?_)
        refine g_iconst rfl ⟨by decide, by decide⟩ ?_
        refine g_goto (tgt := 93) rfl (by decide) ?_
        refine g_cV (as := [tI 1]) (s_ratioM0 hG hw hW hT4 hMc4 hbB hp9 h48) rfl rfl mX12_ratio_ok rfl rfl rfl (by decide) rfl rfl rfl ?_
        rintro _ w9 ⟨rfl, hw9⟩ _
        have hw9 := hw9.symm
        subst hw9
        refine x_ireturn rfl rfl ?_
        exact ⟨(by first | rfl | (exfalso; omega) | exact congrArg (fun z => some (tI z)) (by rw [hsz4, hsz3]) | exact congrArg (fun z => some (tI z)) (by rw [hdr4, hdr3]) | exact congrArg (fun z => some (tI z)) (by rw [hfu4, hfu3]) | exact congrArg (fun z => some (tI z)) (h48)), tp_R_kp hR hkp4⟩
      · omega
      · omega
      · omega
      · omega
      · omega
      · omega
      · omega
    · refine g_swIn (off := 78) (tgt := 104) rfl (by omega) (by omega) (by rw [show (w - 0).toNat = 4 by omega]; rfl) (by decide) ?_
      refine g_aload_n rfl rfl ?_
      refine x_getF (r := 62) hG rfl rfl (by decide) (Or.inl ⟨_, rfl⟩) rfl ?_
      refine x_geti (v := (w3.1 62 14)) rfl rfl (by decide) (Or.inl rfl) rfl ?_
      refine x_ireturn rfl rfl ?_
      refine ⟨_, rfl, ?_⟩
      refine tp_ok_of mX12_sent_ok rfl (Nat.le_refl _) ?_
      refine g_aload_n rfl rfl ?_
      refine g_iconst rfl ⟨by decide, by decide⟩ ?_
      refine g_puti rfl rfl (by decide) rfl rfl ?_
      refine g_aload_n rfl rfl ?_
      refine g_iload_n rfl rfl ?_
      refine g_iload_n rfl rfl ?_
      refine g_iV (as := [tI (a : Int), tI (d : Int)]) mX12_layPackets_ok rfl rfl rfl rfl rfl rfl (by decide) rfl rfl rfl ?_
      refine g_aload_n rfl rfl ?_
      refine g_iload_n rfl rfl ?_
      refine g_iload_n rfl rfl ?_
      refine g_cV (as := [tI (a : Int), tI (d : Int)]) (hM _ (tp_kp_pi (by decide) hkp3)) rfl rfl mX12_lay_ok rfl rfl rfl (by decide) rfl rfl rfl ?_
      rintro _ w2 ⟨rfl, hTm, hMc, hGm, hdr, hdm⟩ _
      have hkp2 : tp_kp μ w2 := m_G_kp (tp_kp_pi (by decide) hkp3) hGm
      have hm6 := hTm.1
      have hall := hMc.2.2.1
      refine g_if_ne (tgt := 11) rfl (by decide) (fun _ => ?_) (fun hx => absurd hx (by omega))
      refine g_aload_n rfl rfl ?_
      refine g_aload_n rfl rfl ?_
      refine g_iconst rfl ⟨by decide, by decide⟩ ?_
      refine g_cV (as := [tI 1]) (s_of hG hMc (by omega) (by omega)) rfl rfl mX12_of_ok rfl rfl rfl (by decide) rfl rfl rfl ?_
      rintro _ w9 ⟨rfl, hw9⟩ _
      have hw9 := hw9.symm
      subst hw9
      refine g_aload_n rfl rfl ?_
      refine g_iconst rfl ⟨by decide, by decide⟩ ?_
      refine g_cV (as := [tI 2]) (s_of hG hMc (by omega) (by omega)) rfl rfl mX12_of_ok rfl rfl rfl (by decide) rfl rfl rfl ?_
      rintro _ w9 ⟨rfl, hw9⟩ _
      have hw9 := hw9.symm
      subst hw9
      refine g_cV (as := [tI (f 1), tI (f 2)]) (s_encodesM hG hw hMc hW hTm (by omega) (by omega)) rfl rfl mX12_encodes_ok rfl rfl rfl (by decide) rfl rfl rfl ?_
      rintro _ w4 ⟨rfl, hE4⟩ _
      have hkp4 : tp_kp μ w4 := fun k9 z9 => (hE4.2.2.2.1 k9 (by unfold tp_tl at z9; omega) (by unfold tp_tl at z9; omega)).trans (hkp2 k9 z9)
      rw [← hσ] at hE4
      have hMB := hE4.2.1
      have hsz4 : w4.1 201 47 = σ.1 0 9 := hE4.1.2.2.2.2.2.2.2.2.1
      have hQ4 : v_Q σ w4 := ⟨hsz4, fun i i0 i1 => ⟨(hMB i i0 i1).1, (hMB i i0 i1).2.2.2.1, (hMB i i0 i1).2.2.2.2.1⟩⟩
      have hn4 : w4.1 201 27 = n := by rw [hE4.2.2.2.2 27 (by omega)]; exact hm6
      have hA4 : ∀ j, 0 ≤ j → j < n → w4.1 212 j = A j := fun j j0 j1 => by rw [hE4.2.2.2.1 212 (by omega) (by omega)]; exact hTm.2.1 j j0 j1
      have hG4 : e_G w2 w4 := ⟨hE4.2.2.2.1, hE4.2.2.2.2⟩
      have hMc4 := tp_Mc_e hG4 hMc
      have hT4 := m_T_e hG4 hTm
      have h48 : w4.1 201 48 = σ.1 0 12 := hE4.1.2.2.2.2.2.2.2.2.2.2.1
      have hdr4 : w4.1 201 49 = σ.1 0 7 := hE4.1.2.2.2.2.2.2.1
      have hfu4 : w4.1 201 50 = σ.1 0 8 := hE4.1.2.2.2.2.2.2.2.1
      refine g_iconst rfl ⟨by decide, by decide⟩ ?_
      refine x_zreturn rfl rfl (Or.inr rfl) ?_
      intro _
      refine g_if_ne (tgt := 17) rfl (by decide) (fun _ => ?_) (fun hx => absurd hx (by omega))
      refine g_iload_n rfl rfl ?_
      rcases (show w < 0 ∨ w = 0 ∨ w = 1 ∨ w = 2 ∨ w = 3 ∨ w = 4 ∨ w = 5 ∨ w = 6 ∨ w = 7 ∨ w = 8 ∨ w = 9 ∨ 9 < w by omega) with h7 | h7 | h7 | h7 | h7 | h7 | h7 | h7 | h7 | h7 | h7 | h7
      · omega
      · omega
      · omega
      · omega
      · omega
      · refine g_swIn (off := 79) (tgt := 97) rfl (by omega) (by omega) (by rw [show (w - 0).toNat = 4 by omega]; rfl) (by decide) ?_
        refine g_aload_n rfl rfl ?_
        refine x_geti (v := (w4.1 201 49)) rfl rfl (by decide) (Or.inl rfl) rfl ?_
        refine x_ireturn rfl rfl ?_
        exact ⟨(by first | rfl | (exfalso; omega) | exact congrArg (fun z => some (tI z)) (by rw [hsz4, hsz3]) | exact congrArg (fun z => some (tI z)) (by rw [hdr4, hdr3]) | exact congrArg (fun z => some (tI z)) (by rw [hfu4, hfu3]) | exact congrArg (fun z => some (tI z)) (h48)), tp_R_kp hR hkp4⟩
      · omega
      · omega
      · omega
      · omega
      · omega
      · omega
    · refine g_swIn (off := 86) (tgt := 112) rfl (by omega) (by omega) (by rw [show (w - 0).toNat = 5 by omega]; rfl) (by decide) ?_
      refine g_aload_n rfl rfl ?_
      refine x_getF (r := 62) hG rfl rfl (by decide) (Or.inl ⟨_, rfl⟩) rfl ?_
      refine x_geti (v := (w3.1 62 15)) rfl rfl (by decide) (Or.inl rfl) rfl ?_
      refine x_ireturn rfl rfl ?_
      refine ⟨_, rfl, ?_⟩
      refine tp_ok_of mX12_sent_ok rfl (Nat.le_refl _) ?_
      refine g_aload_n rfl rfl ?_
      refine g_iconst rfl ⟨by decide, by decide⟩ ?_
      refine g_puti rfl rfl (by decide) rfl rfl ?_
      refine g_aload_n rfl rfl ?_
      refine g_iload_n rfl rfl ?_
      refine g_iload_n rfl rfl ?_
      refine g_iV (as := [tI (a : Int), tI (d : Int)]) mX12_layPackets_ok rfl rfl rfl rfl rfl rfl (by decide) rfl rfl rfl ?_
      refine g_aload_n rfl rfl ?_
      refine g_iload_n rfl rfl ?_
      refine g_iload_n rfl rfl ?_
      refine g_cV (as := [tI (a : Int), tI (d : Int)]) (hM _ (tp_kp_pi (by decide) hkp3)) rfl rfl mX12_lay_ok rfl rfl rfl (by decide) rfl rfl rfl ?_
      rintro _ w2 ⟨rfl, hTm, hMc, hGm, hdr, hdm⟩ _
      have hkp2 : tp_kp μ w2 := m_G_kp (tp_kp_pi (by decide) hkp3) hGm
      have hm6 := hTm.1
      have hall := hMc.2.2.1
      refine g_if_ne (tgt := 11) rfl (by decide) (fun _ => ?_) (fun hx => absurd hx (by omega))
      refine g_aload_n rfl rfl ?_
      refine g_aload_n rfl rfl ?_
      refine g_iconst rfl ⟨by decide, by decide⟩ ?_
      refine g_cV (as := [tI 1]) (s_of hG hMc (by omega) (by omega)) rfl rfl mX12_of_ok rfl rfl rfl (by decide) rfl rfl rfl ?_
      rintro _ w9 ⟨rfl, hw9⟩ _
      have hw9 := hw9.symm
      subst hw9
      refine g_aload_n rfl rfl ?_
      refine g_iconst rfl ⟨by decide, by decide⟩ ?_
      refine g_cV (as := [tI 2]) (s_of hG hMc (by omega) (by omega)) rfl rfl mX12_of_ok rfl rfl rfl (by decide) rfl rfl rfl ?_
      rintro _ w9 ⟨rfl, hw9⟩ _
      have hw9 := hw9.symm
      subst hw9
      refine g_cV (as := [tI (f 1), tI (f 2)]) (s_encodesM hG hw hMc hW hTm (by omega) (by omega)) rfl rfl mX12_encodes_ok rfl rfl rfl (by decide) rfl rfl rfl ?_
      rintro _ w4 ⟨rfl, hE4⟩ _
      have hkp4 : tp_kp μ w4 := fun k9 z9 => (hE4.2.2.2.1 k9 (by unfold tp_tl at z9; omega) (by unfold tp_tl at z9; omega)).trans (hkp2 k9 z9)
      rw [← hσ] at hE4
      have hMB := hE4.2.1
      have hsz4 : w4.1 201 47 = σ.1 0 9 := hE4.1.2.2.2.2.2.2.2.2.1
      have hQ4 : v_Q σ w4 := ⟨hsz4, fun i i0 i1 => ⟨(hMB i i0 i1).1, (hMB i i0 i1).2.2.2.1, (hMB i i0 i1).2.2.2.2.1⟩⟩
      have hn4 : w4.1 201 27 = n := by rw [hE4.2.2.2.2 27 (by omega)]; exact hm6
      have hA4 : ∀ j, 0 ≤ j → j < n → w4.1 212 j = A j := fun j j0 j1 => by rw [hE4.2.2.2.1 212 (by omega) (by omega)]; exact hTm.2.1 j j0 j1
      have hG4 : e_G w2 w4 := ⟨hE4.2.2.2.1, hE4.2.2.2.2⟩
      have hMc4 := tp_Mc_e hG4 hMc
      have hT4 := m_T_e hG4 hTm
      have h48 : w4.1 201 48 = σ.1 0 12 := hE4.1.2.2.2.2.2.2.2.2.2.2.1
      have hdr4 : w4.1 201 49 = σ.1 0 7 := hE4.1.2.2.2.2.2.2.1
      have hfu4 : w4.1 201 50 = σ.1 0 8 := hE4.1.2.2.2.2.2.2.2.1
      refine g_iconst rfl ⟨by decide, by decide⟩ ?_
      refine x_zreturn rfl rfl (Or.inr rfl) ?_
      intro _
      refine g_if_ne (tgt := 17) rfl (by decide) (fun _ => ?_) (fun hx => absurd hx (by omega))
      refine g_iload_n rfl rfl ?_
      rcases (show w < 0 ∨ w = 0 ∨ w = 1 ∨ w = 2 ∨ w = 3 ∨ w = 4 ∨ w = 5 ∨ w = 6 ∨ w = 7 ∨ w = 8 ∨ w = 9 ∨ 9 < w by omega) with h8 | h8 | h8 | h8 | h8 | h8 | h8 | h8 | h8 | h8 | h8 | h8
      · omega
      · omega
      · omega
      · omega
      · omega
      · omega
      · refine g_swIn (off := 84) (tgt := 102) rfl (by omega) (by omega) (by rw [show (w - 0).toNat = 5 by omega]; rfl) (by decide) ?_
        refine g_aload_n rfl rfl ?_
        refine x_geti (v := (w4.1 201 50)) rfl rfl (by decide) (Or.inl rfl) rfl ?_
        refine x_ireturn rfl rfl ?_
        exact ⟨(by first | rfl | (exfalso; omega) | exact congrArg (fun z => some (tI z)) (by rw [hsz4, hsz3]) | exact congrArg (fun z => some (tI z)) (by rw [hdr4, hdr3]) | exact congrArg (fun z => some (tI z)) (by rw [hfu4, hfu3]) | exact congrArg (fun z => some (tI z)) (h48)), tp_R_kp hR hkp4⟩
      · omega
      · omega
      · omega
      · omega
      · omega
    · refine g_swIn (off := 94) (tgt := 120) rfl (by omega) (by omega) (by rw [show (w - 0).toNat = 6 by omega]; rfl) (by decide) ?_
      refine g_aload_n rfl rfl ?_
      obtain ⟨J, hJ⟩ := v_J_ex (n := n) (v_I_all (l := v_1 (-1)) HH hp9.1 (Int.le_refl _)) (v_K_n hn0.1 HH)
      refine g_cV (as := []) (s_gap hG hc hcl hw hW hT3 hCd3 hco3 hsz3 hE3.2.1 hp9 HH hJ) rfl rfl mX11_gap_ok rfl rfl rfl (by decide) rfl rfl rfl ?_
      rintro _ w5 ⟨rfl, hF5⟩ _
      have hkp5 : tp_kp μ w5 := fun k9 z9 => (hF5 k9 (by unfold tp_tl at z9; omega)).trans (hkp3 k9 z9)
      refine x_ireturn rfl rfl ?_
      refine ⟨_, rfl, ?_⟩
      refine tp_ok_of mX12_sent_ok rfl (Nat.le_refl _) ?_
      refine g_aload_n rfl rfl ?_
      refine g_iconst rfl ⟨by decide, by decide⟩ ?_
      refine g_puti rfl rfl (by decide) rfl rfl ?_
      refine g_aload_n rfl rfl ?_
      refine g_iload_n rfl rfl ?_
      refine g_iload_n rfl rfl ?_
      refine g_iV (as := [tI (a : Int), tI (d : Int)]) mX12_layPackets_ok rfl rfl rfl rfl rfl rfl (by decide) rfl rfl rfl ?_
      refine g_aload_n rfl rfl ?_
      refine g_iload_n rfl rfl ?_
      refine g_iload_n rfl rfl ?_
      refine g_cV (as := [tI (a : Int), tI (d : Int)]) (hM _ (tp_kp_pi (by decide) hkp5)) rfl rfl mX12_lay_ok rfl rfl rfl (by decide) rfl rfl rfl ?_
      rintro _ w2 ⟨rfl, hTm, hMc, hGm, hdr, hdm⟩ _
      have hkp2 : tp_kp μ w2 := m_G_kp (tp_kp_pi (by decide) hkp5) hGm
      have hm6 := hTm.1
      have hall := hMc.2.2.1
      refine g_if_ne (tgt := 11) rfl (by decide) (fun _ => ?_) (fun hx => absurd hx (by omega))
      refine g_aload_n rfl rfl ?_
      refine g_aload_n rfl rfl ?_
      refine g_iconst rfl ⟨by decide, by decide⟩ ?_
      refine g_cV (as := [tI 1]) (s_of hG hMc (by omega) (by omega)) rfl rfl mX12_of_ok rfl rfl rfl (by decide) rfl rfl rfl ?_
      rintro _ w9 ⟨rfl, hw9⟩ _
      have hw9 := hw9.symm
      subst hw9
      refine g_aload_n rfl rfl ?_
      refine g_iconst rfl ⟨by decide, by decide⟩ ?_
      refine g_cV (as := [tI 2]) (s_of hG hMc (by omega) (by omega)) rfl rfl mX12_of_ok rfl rfl rfl (by decide) rfl rfl rfl ?_
      rintro _ w9 ⟨rfl, hw9⟩ _
      have hw9 := hw9.symm
      subst hw9
      refine g_cV (as := [tI (f 1), tI (f 2)]) (s_encodesM hG hw hMc hW hTm (by omega) (by omega)) rfl rfl mX12_encodes_ok rfl rfl rfl (by decide) rfl rfl rfl ?_
      rintro _ w4 ⟨rfl, hE4⟩ _
      have hkp4 : tp_kp μ w4 := fun k9 z9 => (hE4.2.2.2.1 k9 (by unfold tp_tl at z9; omega) (by unfold tp_tl at z9; omega)).trans (hkp2 k9 z9)
      rw [← hσ] at hE4
      have hMB := hE4.2.1
      have hsz4 : w4.1 201 47 = σ.1 0 9 := hE4.1.2.2.2.2.2.2.2.2.1
      have hQ4 : v_Q σ w4 := ⟨hsz4, fun i i0 i1 => ⟨(hMB i i0 i1).1, (hMB i i0 i1).2.2.2.1, (hMB i i0 i1).2.2.2.2.1⟩⟩
      have hn4 : w4.1 201 27 = n := by rw [hE4.2.2.2.2 27 (by omega)]; exact hm6
      have hA4 : ∀ j, 0 ≤ j → j < n → w4.1 212 j = A j := fun j j0 j1 => by rw [hE4.2.2.2.1 212 (by omega) (by omega)]; exact hTm.2.1 j j0 j1
      have hG4 : e_G w2 w4 := ⟨hE4.2.2.2.1, hE4.2.2.2.2⟩
      have hMc4 := tp_Mc_e hG4 hMc
      have hT4 := m_T_e hG4 hTm
      have h48 : w4.1 201 48 = σ.1 0 12 := hE4.1.2.2.2.2.2.2.2.2.2.2.1
      have hdr4 : w4.1 201 49 = σ.1 0 7 := hE4.1.2.2.2.2.2.2.1
      have hfu4 : w4.1 201 50 = σ.1 0 8 := hE4.1.2.2.2.2.2.2.2.1
      refine g_iconst rfl ⟨by decide, by decide⟩ ?_
      refine x_zreturn rfl rfl (Or.inr rfl) ?_
      intro _
      refine g_if_ne (tgt := 17) rfl (by decide) (fun _ => ?_) (fun hx => absurd hx (by omega))
      refine g_iload_n rfl rfl ?_
      rcases (show w < 0 ∨ w = 0 ∨ w = 1 ∨ w = 2 ∨ w = 3 ∨ w = 4 ∨ w = 5 ∨ w = 6 ∨ w = 7 ∨ w = 8 ∨ w = 9 ∨ 9 < w by omega) with h9 | h9 | h9 | h9 | h9 | h9 | h9 | h9 | h9 | h9 | h9 | h9
      · omega
      · omega
      · omega
      · omega
      · omega
      · omega
      · omega
      · refine g_swIn (off := 89) (tgt := 107) rfl (by omega) (by omega) (by rw [show (w - 0).toNat = 6 by omega]; rfl) (by decide) ?_
        refine g_aload_n rfl rfl ?_
        refine g_cV (as := []) (s_gapM hG hw hW hT4 hMc4 hQ4 hp9 HH hJ) rfl rfl mX12_gap_ok rfl rfl rfl (by decide) rfl rfl rfl ?_
        rintro _ w7 ⟨rfl, hG7⟩ _
        have hkp7 : tp_kp μ w7 := v_G2_kp hkp4 hG7
        refine x_ireturn rfl rfl ?_
        exact ⟨(by first | rfl | (exfalso; omega) | exact congrArg (fun z => some (tI z)) (by rw [hsz4, hsz3]) | exact congrArg (fun z => some (tI z)) (by rw [hdr4, hdr3]) | exact congrArg (fun z => some (tI z)) (by rw [hfu4, hfu3]) | exact congrArg (fun z => some (tI z)) (h48)), tp_R_kp hR hkp7⟩
      · omega
      · omega
      · omega
      · omega
    · refine g_swIn (off := 99) (tgt := 125) rfl (by omega) (by omega) (by rw [show (w - 0).toNat = 7 by omega]; rfl) (by decide) ?_
      refine g_aload_n rfl rfl ?_
      refine g_cV (as := []) (s_lb hG hc hcl hw hW hT3 hCd3 hco3) rfl rfl mX11_leastBits_ok rfl rfl rfl (by decide) rfl rfl rfl ?_
      rintro _ w5 ⟨rfl, hF5⟩ _
      have hkp5 : tp_kp μ w5 := e_F_kp hkp3 hF5
      refine x_ireturn rfl rfl ?_
      refine ⟨_, rfl, ?_⟩
      refine tp_ok_of mX12_sent_ok rfl (Nat.le_refl _) ?_
      refine g_aload_n rfl rfl ?_
      refine g_iconst rfl ⟨by decide, by decide⟩ ?_
      refine g_puti rfl rfl (by decide) rfl rfl ?_
      refine g_aload_n rfl rfl ?_
      refine g_iload_n rfl rfl ?_
      refine g_iload_n rfl rfl ?_
      refine g_iV (as := [tI (a : Int), tI (d : Int)]) mX12_layPackets_ok rfl rfl rfl rfl rfl rfl (by decide) rfl rfl rfl ?_
      refine g_aload_n rfl rfl ?_
      refine g_iload_n rfl rfl ?_
      refine g_iload_n rfl rfl ?_
      refine g_cV (as := [tI (a : Int), tI (d : Int)]) (hM _ (tp_kp_pi (by decide) hkp5)) rfl rfl mX12_lay_ok rfl rfl rfl (by decide) rfl rfl rfl ?_
      rintro _ w2 ⟨rfl, hTm, hMc, hGm, hdr, hdm⟩ _
      have hkp2 : tp_kp μ w2 := m_G_kp (tp_kp_pi (by decide) hkp5) hGm
      have hm6 := hTm.1
      have hall := hMc.2.2.1
      refine g_if_ne (tgt := 11) rfl (by decide) (fun _ => ?_) (fun hx => absurd hx (by omega))
      refine g_aload_n rfl rfl ?_
      refine g_aload_n rfl rfl ?_
      refine g_iconst rfl ⟨by decide, by decide⟩ ?_
      refine g_cV (as := [tI 1]) (s_of hG hMc (by omega) (by omega)) rfl rfl mX12_of_ok rfl rfl rfl (by decide) rfl rfl rfl ?_
      rintro _ w9 ⟨rfl, hw9⟩ _
      have hw9 := hw9.symm
      subst hw9
      refine g_aload_n rfl rfl ?_
      refine g_iconst rfl ⟨by decide, by decide⟩ ?_
      refine g_cV (as := [tI 2]) (s_of hG hMc (by omega) (by omega)) rfl rfl mX12_of_ok rfl rfl rfl (by decide) rfl rfl rfl ?_
      rintro _ w9 ⟨rfl, hw9⟩ _
      have hw9 := hw9.symm
      subst hw9
      refine g_cV (as := [tI (f 1), tI (f 2)]) (s_encodesM hG hw hMc hW hTm (by omega) (by omega)) rfl rfl mX12_encodes_ok rfl rfl rfl (by decide) rfl rfl rfl ?_
      rintro _ w4 ⟨rfl, hE4⟩ _
      have hkp4 : tp_kp μ w4 := fun k9 z9 => (hE4.2.2.2.1 k9 (by unfold tp_tl at z9; omega) (by unfold tp_tl at z9; omega)).trans (hkp2 k9 z9)
      rw [← hσ] at hE4
      have hMB := hE4.2.1
      have hsz4 : w4.1 201 47 = σ.1 0 9 := hE4.1.2.2.2.2.2.2.2.2.1
      have hQ4 : v_Q σ w4 := ⟨hsz4, fun i i0 i1 => ⟨(hMB i i0 i1).1, (hMB i i0 i1).2.2.2.1, (hMB i i0 i1).2.2.2.2.1⟩⟩
      have hn4 : w4.1 201 27 = n := by rw [hE4.2.2.2.2 27 (by omega)]; exact hm6
      have hA4 : ∀ j, 0 ≤ j → j < n → w4.1 212 j = A j := fun j j0 j1 => by rw [hE4.2.2.2.1 212 (by omega) (by omega)]; exact hTm.2.1 j j0 j1
      have hG4 : e_G w2 w4 := ⟨hE4.2.2.2.1, hE4.2.2.2.2⟩
      have hMc4 := tp_Mc_e hG4 hMc
      have hT4 := m_T_e hG4 hTm
      have h48 : w4.1 201 48 = σ.1 0 12 := hE4.1.2.2.2.2.2.2.2.2.2.2.1
      have hdr4 : w4.1 201 49 = σ.1 0 7 := hE4.1.2.2.2.2.2.2.1
      have hfu4 : w4.1 201 50 = σ.1 0 8 := hE4.1.2.2.2.2.2.2.2.1
      refine g_iconst rfl ⟨by decide, by decide⟩ ?_
      refine x_zreturn rfl rfl (Or.inr rfl) ?_
      intro _
      refine g_if_ne (tgt := 17) rfl (by decide) (fun _ => ?_) (fun hx => absurd hx (by omega))
      refine g_iload_n rfl rfl ?_
      rcases (show w < 0 ∨ w = 0 ∨ w = 1 ∨ w = 2 ∨ w = 3 ∨ w = 4 ∨ w = 5 ∨ w = 6 ∨ w = 7 ∨ w = 8 ∨ w = 9 ∨ 9 < w by omega) with h10 | h10 | h10 | h10 | h10 | h10 | h10 | h10 | h10 | h10 | h10 | h10
      · omega
      · omega
      · omega
      · omega
      · omega
      · omega
      · omega
      · omega
      · refine g_swIn (off := 94) (tgt := 112) rfl (by omega) (by omega) (by rw [show (w - 0).toNat = 7 by omega]; rfl) (by decide) ?_
        refine g_aload_n rfl rfl ?_
        refine g_cV (as := []) (s_lbM hG hw hW hT4 hMc4) rfl rfl mX12_leastBits_ok rfl rfl rfl (by decide) rfl rfl rfl ?_
        rintro _ w7 ⟨rfl, hG7⟩ _
        have hkp7 : tp_kp μ w7 := e_G_kp hkp4 hG7
        refine x_ireturn rfl rfl ?_
        exact ⟨(by first | rfl | (exfalso; omega) | exact congrArg (fun z => some (tI z)) (by rw [hsz4, hsz3]) | exact congrArg (fun z => some (tI z)) (by rw [hdr4, hdr3]) | exact congrArg (fun z => some (tI z)) (by rw [hfu4, hfu3]) | exact congrArg (fun z => some (tI z)) (h48)), tp_R_kp hR hkp7⟩
      · omega
      · omega
      · omega
    · refine g_swIn (off := 104) (tgt := 130) rfl (by omega) (by omega) (by rw [show (w - 0).toNat = 8 by omega]; rfl) (by decide) ?_
      refine g_aload_n rfl rfl ?_
      refine g_cV (as := []) (s_worst hG hc hcl hw hW hT3 hCd3 hco3 hsz3 hE3.2.1 hp9 HH) rfl rfl mX11_worst_ok rfl rfl rfl (by decide) rfl rfl rfl ?_
      rintro _ w5 ⟨rfl, hF5⟩ _
      have hkp5 : tp_kp μ w5 := fun k9 z9 => (hF5 k9 (by unfold tp_tl at z9; omega)).trans (hkp3 k9 z9)
      refine x_ireturn rfl rfl ?_
      refine ⟨_, rfl, ?_⟩
      refine tp_ok_of mX12_sent_ok rfl (Nat.le_refl _) ?_
      refine g_aload_n rfl rfl ?_
      refine g_iconst rfl ⟨by decide, by decide⟩ ?_
      refine g_puti rfl rfl (by decide) rfl rfl ?_
      refine g_aload_n rfl rfl ?_
      refine g_iload_n rfl rfl ?_
      refine g_iload_n rfl rfl ?_
      refine g_iV (as := [tI (a : Int), tI (d : Int)]) mX12_layPackets_ok rfl rfl rfl rfl rfl rfl (by decide) rfl rfl rfl ?_
      refine g_aload_n rfl rfl ?_
      refine g_iload_n rfl rfl ?_
      refine g_iload_n rfl rfl ?_
      refine g_cV (as := [tI (a : Int), tI (d : Int)]) (hM _ (tp_kp_pi (by decide) hkp5)) rfl rfl mX12_lay_ok rfl rfl rfl (by decide) rfl rfl rfl ?_
      rintro _ w2 ⟨rfl, hTm, hMc, hGm, hdr, hdm⟩ _
      have hkp2 : tp_kp μ w2 := m_G_kp (tp_kp_pi (by decide) hkp5) hGm
      have hm6 := hTm.1
      have hall := hMc.2.2.1
      refine g_if_ne (tgt := 11) rfl (by decide) (fun _ => ?_) (fun hx => absurd hx (by omega))
      refine g_aload_n rfl rfl ?_
      refine g_aload_n rfl rfl ?_
      refine g_iconst rfl ⟨by decide, by decide⟩ ?_
      refine g_cV (as := [tI 1]) (s_of hG hMc (by omega) (by omega)) rfl rfl mX12_of_ok rfl rfl rfl (by decide) rfl rfl rfl ?_
      rintro _ w9 ⟨rfl, hw9⟩ _
      have hw9 := hw9.symm
      subst hw9
      refine g_aload_n rfl rfl ?_
      refine g_iconst rfl ⟨by decide, by decide⟩ ?_
      refine g_cV (as := [tI 2]) (s_of hG hMc (by omega) (by omega)) rfl rfl mX12_of_ok rfl rfl rfl (by decide) rfl rfl rfl ?_
      rintro _ w9 ⟨rfl, hw9⟩ _
      have hw9 := hw9.symm
      subst hw9
      refine g_cV (as := [tI (f 1), tI (f 2)]) (s_encodesM hG hw hMc hW hTm (by omega) (by omega)) rfl rfl mX12_encodes_ok rfl rfl rfl (by decide) rfl rfl rfl ?_
      rintro _ w4 ⟨rfl, hE4⟩ _
      have hkp4 : tp_kp μ w4 := fun k9 z9 => (hE4.2.2.2.1 k9 (by unfold tp_tl at z9; omega) (by unfold tp_tl at z9; omega)).trans (hkp2 k9 z9)
      rw [← hσ] at hE4
      have hMB := hE4.2.1
      have hsz4 : w4.1 201 47 = σ.1 0 9 := hE4.1.2.2.2.2.2.2.2.2.1
      have hQ4 : v_Q σ w4 := ⟨hsz4, fun i i0 i1 => ⟨(hMB i i0 i1).1, (hMB i i0 i1).2.2.2.1, (hMB i i0 i1).2.2.2.2.1⟩⟩
      have hn4 : w4.1 201 27 = n := by rw [hE4.2.2.2.2 27 (by omega)]; exact hm6
      have hA4 : ∀ j, 0 ≤ j → j < n → w4.1 212 j = A j := fun j j0 j1 => by rw [hE4.2.2.2.1 212 (by omega) (by omega)]; exact hTm.2.1 j j0 j1
      have hG4 : e_G w2 w4 := ⟨hE4.2.2.2.1, hE4.2.2.2.2⟩
      have hMc4 := tp_Mc_e hG4 hMc
      have hT4 := m_T_e hG4 hTm
      have h48 : w4.1 201 48 = σ.1 0 12 := hE4.1.2.2.2.2.2.2.2.2.2.2.1
      have hdr4 : w4.1 201 49 = σ.1 0 7 := hE4.1.2.2.2.2.2.2.1
      have hfu4 : w4.1 201 50 = σ.1 0 8 := hE4.1.2.2.2.2.2.2.2.1
      refine g_iconst rfl ⟨by decide, by decide⟩ ?_
      refine x_zreturn rfl rfl (Or.inr rfl) ?_
      intro _
      refine g_if_ne (tgt := 17) rfl (by decide) (fun _ => ?_) (fun hx => absurd hx (by omega))
      refine g_iload_n rfl rfl ?_
      rcases (show w < 0 ∨ w = 0 ∨ w = 1 ∨ w = 2 ∨ w = 3 ∨ w = 4 ∨ w = 5 ∨ w = 6 ∨ w = 7 ∨ w = 8 ∨ w = 9 ∨ 9 < w by omega) with h11 | h11 | h11 | h11 | h11 | h11 | h11 | h11 | h11 | h11 | h11 | h11
      · omega
      · omega
      · omega
      · omega
      · omega
      · omega
      · omega
      · omega
      · omega
      · refine g_swIn (off := 99) (tgt := 117) rfl (by omega) (by omega) (by rw [show (w - 0).toNat = 8 by omega]; rfl) (by decide) ?_
        refine g_aload_n rfl rfl ?_
        refine g_cV (as := []) (s_worstM hG hn0 hp9 HH hQ4) rfl rfl mX12_worst_ok rfl rfl rfl (by decide) rfl rfl rfl ?_
        rintro _ w7 ⟨rfl, hG7⟩ _
        have hkp7 : tp_kp μ w7 := v_G2_kp hkp4 (v_G2_G hG7)
        refine x_ireturn rfl rfl ?_
        exact ⟨(by first | rfl | (exfalso; omega) | exact congrArg (fun z => some (tI z)) (by rw [hsz4, hsz3]) | exact congrArg (fun z => some (tI z)) (by rw [hdr4, hdr3]) | exact congrArg (fun z => some (tI z)) (by rw [hfu4, hfu3]) | exact congrArg (fun z => some (tI z)) (h48)), tp_R_kp hR hkp7⟩
      · omega
      · omega
    · refine g_swIn (off := 109) (tgt := 135) rfl (by omega) (by omega) (by rw [show (w - 0).toNat = 9 by omega]; rfl) (by decide) ?_
      refine g_aload_n rfl rfl ?_
      refine g_cV (as := []) (s_saved hG hc hcl hw hW hT3 hCd3 hco3 hsz3 hE3.2.1 hbB hp9) rfl rfl mX11_saved_ok rfl rfl rfl (by decide) rfl rfl rfl ?_
      rintro _ w5 ⟨rfl, hF5⟩ _
      have hkp5 : tp_kp μ w5 := e_F_kp hkp3 hF5
      refine x_ireturn rfl rfl ?_
      refine ⟨_, rfl, ?_⟩
      refine tp_ok_of mX12_sent_ok rfl (Nat.le_refl _) ?_
      refine g_aload_n rfl rfl ?_
      refine g_iconst rfl ⟨by decide, by decide⟩ ?_
      refine g_puti rfl rfl (by decide) rfl rfl ?_
      refine g_aload_n rfl rfl ?_
      refine g_iload_n rfl rfl ?_
      refine g_iload_n rfl rfl ?_
      refine g_iV (as := [tI (a : Int), tI (d : Int)]) mX12_layPackets_ok rfl rfl rfl rfl rfl rfl (by decide) rfl rfl rfl ?_
      refine g_aload_n rfl rfl ?_
      refine g_iload_n rfl rfl ?_
      refine g_iload_n rfl rfl ?_
      refine g_cV (as := [tI (a : Int), tI (d : Int)]) (hM _ (tp_kp_pi (by decide) hkp5)) rfl rfl mX12_lay_ok rfl rfl rfl (by decide) rfl rfl rfl ?_
      rintro _ w2 ⟨rfl, hTm, hMc, hGm, hdr, hdm⟩ _
      have hkp2 : tp_kp μ w2 := m_G_kp (tp_kp_pi (by decide) hkp5) hGm
      have hm6 := hTm.1
      have hall := hMc.2.2.1
      refine g_if_ne (tgt := 11) rfl (by decide) (fun _ => ?_) (fun hx => absurd hx (by omega))
      refine g_aload_n rfl rfl ?_
      refine g_aload_n rfl rfl ?_
      refine g_iconst rfl ⟨by decide, by decide⟩ ?_
      refine g_cV (as := [tI 1]) (s_of hG hMc (by omega) (by omega)) rfl rfl mX12_of_ok rfl rfl rfl (by decide) rfl rfl rfl ?_
      rintro _ w9 ⟨rfl, hw9⟩ _
      have hw9 := hw9.symm
      subst hw9
      refine g_aload_n rfl rfl ?_
      refine g_iconst rfl ⟨by decide, by decide⟩ ?_
      refine g_cV (as := [tI 2]) (s_of hG hMc (by omega) (by omega)) rfl rfl mX12_of_ok rfl rfl rfl (by decide) rfl rfl rfl ?_
      rintro _ w9 ⟨rfl, hw9⟩ _
      have hw9 := hw9.symm
      subst hw9
      refine g_cV (as := [tI (f 1), tI (f 2)]) (s_encodesM hG hw hMc hW hTm (by omega) (by omega)) rfl rfl mX12_encodes_ok rfl rfl rfl (by decide) rfl rfl rfl ?_
      rintro _ w4 ⟨rfl, hE4⟩ _
      have hkp4 : tp_kp μ w4 := fun k9 z9 => (hE4.2.2.2.1 k9 (by unfold tp_tl at z9; omega) (by unfold tp_tl at z9; omega)).trans (hkp2 k9 z9)
      rw [← hσ] at hE4
      have hMB := hE4.2.1
      have hsz4 : w4.1 201 47 = σ.1 0 9 := hE4.1.2.2.2.2.2.2.2.2.1
      have hQ4 : v_Q σ w4 := ⟨hsz4, fun i i0 i1 => ⟨(hMB i i0 i1).1, (hMB i i0 i1).2.2.2.1, (hMB i i0 i1).2.2.2.2.1⟩⟩
      have hn4 : w4.1 201 27 = n := by rw [hE4.2.2.2.2 27 (by omega)]; exact hm6
      have hA4 : ∀ j, 0 ≤ j → j < n → w4.1 212 j = A j := fun j j0 j1 => by rw [hE4.2.2.2.1 212 (by omega) (by omega)]; exact hTm.2.1 j j0 j1
      have hG4 : e_G w2 w4 := ⟨hE4.2.2.2.1, hE4.2.2.2.2⟩
      have hMc4 := tp_Mc_e hG4 hMc
      have hT4 := m_T_e hG4 hTm
      have h48 : w4.1 201 48 = σ.1 0 12 := hE4.1.2.2.2.2.2.2.2.2.2.2.1
      have hdr4 : w4.1 201 49 = σ.1 0 7 := hE4.1.2.2.2.2.2.2.1
      have hfu4 : w4.1 201 50 = σ.1 0 8 := hE4.1.2.2.2.2.2.2.2.1
      refine g_iconst rfl ⟨by decide, by decide⟩ ?_
      refine x_zreturn rfl rfl (Or.inr rfl) ?_
      intro _
      refine g_if_ne (tgt := 17) rfl (by decide) (fun _ => ?_) (fun hx => absurd hx (by omega))
      refine g_iload_n rfl rfl ?_
      rcases (show w < 0 ∨ w = 0 ∨ w = 1 ∨ w = 2 ∨ w = 3 ∨ w = 4 ∨ w = 5 ∨ w = 6 ∨ w = 7 ∨ w = 8 ∨ w = 9 ∨ 9 < w by omega) with h12 | h12 | h12 | h12 | h12 | h12 | h12 | h12 | h12 | h12 | h12 | h12
      · omega
      · omega
      · omega
      · omega
      · omega
      · omega
      · omega
      · omega
      · omega
      · omega
      · refine g_swIn (off := 104) (tgt := 122) rfl (by omega) (by omega) (by rw [show (w - 0).toNat = 9 by omega]; rfl) (by decide) ?_
        refine g_aload_n rfl rfl ?_
        refine g_cV (as := []) (s_savedM hG hw hW hT4 hMc4 h48 hsm3) rfl rfl mX12_saved_ok rfl rfl rfl (by decide) rfl rfl rfl ?_
        rintro _ w7 ⟨rfl, hG7⟩ _
        have hkp7 : tp_kp μ w7 := e_G_kp hkp4 hG7
        refine x_ireturn rfl rfl ?_
        exact ⟨(by first | rfl | (exfalso; omega) | exact congrArg (fun z => some (tI z)) (by rw [hsz4, hsz3]) | exact congrArg (fun z => some (tI z)) (by rw [hdr4, hdr3]) | exact congrArg (fun z => some (tI z)) (by rw [hfu4, hfu3]) | exact congrArg (fun z => some (tI z)) (h48)), tp_R_kp hR hkp7⟩
      · omega
    · refine g_swOut (tgt := 140) rfl (by omega) (by decide) ?_
      refine g_iload_n rfl rfl ?_
      refine g_bipush rfl ⟨by decide, by decide⟩ (by decide) ?_
      refine g_icmp_lt (tgt := 164) rfl (by decide) (fun hx => absurd hx (by omega)) (fun _ => ?_)
      refine g_iload_n rfl rfl ?_
      refine g_bipush rfl ⟨by decide, by decide⟩ (by decide) ?_
      refine g_icmp_ge (tgt := 164) rfl (by decide) (fun h13 => ?_) (fun h13 => ?_)
      · refine g_bipush rfl ⟨by decide, by decide⟩ (by decide) ?_
        refine x_ireturn rfl rfl ?_
        refine ⟨_, rfl, ?_⟩
        refine tp_ok_of mX12_sent_ok rfl (Nat.le_refl _) ?_
        refine g_aload_n rfl rfl ?_
        refine g_iconst rfl ⟨by decide, by decide⟩ ?_
        refine g_puti rfl rfl (by decide) rfl rfl ?_
        refine g_aload_n rfl rfl ?_
        refine g_iload_n rfl rfl ?_
        refine g_iload_n rfl rfl ?_
        refine g_iV (as := [tI (a : Int), tI (d : Int)]) mX12_layPackets_ok rfl rfl rfl rfl rfl rfl (by decide) rfl rfl rfl ?_
        refine g_aload_n rfl rfl ?_
        refine g_iload_n rfl rfl ?_
        refine g_iload_n rfl rfl ?_
        refine g_cV (as := [tI (a : Int), tI (d : Int)]) (hM _ (tp_kp_pi (by decide) hkp3)) rfl rfl mX12_lay_ok rfl rfl rfl (by decide) rfl rfl rfl ?_
        rintro _ w2 ⟨rfl, hTm, hMc, hGm, hdr, hdm⟩ _
        have hkp2 : tp_kp μ w2 := m_G_kp (tp_kp_pi (by decide) hkp3) hGm
        have hm6 := hTm.1
        have hall := hMc.2.2.1
        refine g_if_ne (tgt := 11) rfl (by decide) (fun _ => ?_) (fun hx => absurd hx (by omega))
        refine g_aload_n rfl rfl ?_
        refine g_aload_n rfl rfl ?_
        refine g_iconst rfl ⟨by decide, by decide⟩ ?_
        refine g_cV (as := [tI 1]) (s_of hG hMc (by omega) (by omega)) rfl rfl mX12_of_ok rfl rfl rfl (by decide) rfl rfl rfl ?_
        rintro _ w9 ⟨rfl, hw9⟩ _
        have hw9 := hw9.symm
        subst hw9
        refine g_aload_n rfl rfl ?_
        refine g_iconst rfl ⟨by decide, by decide⟩ ?_
        refine g_cV (as := [tI 2]) (s_of hG hMc (by omega) (by omega)) rfl rfl mX12_of_ok rfl rfl rfl (by decide) rfl rfl rfl ?_
        rintro _ w9 ⟨rfl, hw9⟩ _
        have hw9 := hw9.symm
        subst hw9
        refine g_cV (as := [tI (f 1), tI (f 2)]) (s_encodesM hG hw hMc hW hTm (by omega) (by omega)) rfl rfl mX12_encodes_ok rfl rfl rfl (by decide) rfl rfl rfl ?_
        rintro _ w4 ⟨rfl, hE4⟩ _
        have hkp4 : tp_kp μ w4 := fun k9 z9 => (hE4.2.2.2.1 k9 (by unfold tp_tl at z9; omega) (by unfold tp_tl at z9; omega)).trans (hkp2 k9 z9)
        rw [← hσ] at hE4
        have hMB := hE4.2.1
        have hsz4 : w4.1 201 47 = σ.1 0 9 := hE4.1.2.2.2.2.2.2.2.2.1
        have hQ4 : v_Q σ w4 := ⟨hsz4, fun i i0 i1 => ⟨(hMB i i0 i1).1, (hMB i i0 i1).2.2.2.1, (hMB i i0 i1).2.2.2.2.1⟩⟩
        have hn4 : w4.1 201 27 = n := by rw [hE4.2.2.2.2 27 (by omega)]; exact hm6
        have hA4 : ∀ j, 0 ≤ j → j < n → w4.1 212 j = A j := fun j j0 j1 => by rw [hE4.2.2.2.1 212 (by omega) (by omega)]; exact hTm.2.1 j j0 j1
        have hG4 : e_G w2 w4 := ⟨hE4.2.2.2.1, hE4.2.2.2.2⟩
        have hMc4 := tp_Mc_e hG4 hMc
        have hT4 := m_T_e hG4 hTm
        have h48 : w4.1 201 48 = σ.1 0 12 := hE4.1.2.2.2.2.2.2.2.2.2.2.1
        have hdr4 : w4.1 201 49 = σ.1 0 7 := hE4.1.2.2.2.2.2.2.1
        have hfu4 : w4.1 201 50 = σ.1 0 8 := hE4.1.2.2.2.2.2.2.2.1
        refine g_iconst rfl ⟨by decide, by decide⟩ ?_
        refine x_zreturn rfl rfl (Or.inr rfl) ?_
        intro _
        refine g_if_ne (tgt := 17) rfl (by decide) (fun _ => ?_) (fun hx => absurd hx (by omega))
        refine g_iload_n rfl rfl ?_
        rcases (show w < 0 ∨ w = 0 ∨ w = 1 ∨ w = 2 ∨ w = 3 ∨ w = 4 ∨ w = 5 ∨ w = 6 ∨ w = 7 ∨ w = 8 ∨ w = 9 ∨ 9 < w by omega) with h14 | h14 | h14 | h14 | h14 | h14 | h14 | h14 | h14 | h14 | h14 | h14
        · omega
        · omega
        · omega
        · omega
        · omega
        · omega
        · omega
        · omega
        · omega
        · omega
        · omega
        · refine g_swOut (tgt := 127) rfl (by omega) (by decide) ?_
          refine g_iload_n rfl rfl ?_
          refine g_bipush rfl ⟨by decide, by decide⟩ (by decide) ?_
          refine g_bipush rfl ⟨by decide, by decide⟩ (by decide) ?_
          refine g_iS (as := [tI w, tI 10, tI 15]) mX12_in_ok rfl rfl rfl rfl rfl rfl rfl ?_
          refine g_iload_n rfl rfl ?_
          refine g_iload_n rfl rfl ?_
          refine g_icmp_lt (tgt := 14) rfl (by decide) (fun hx => absurd hx (by omega)) (fun _ => ?_)
          refine g_iload_n rfl rfl ?_
          refine g_iload_n rfl rfl ?_
          refine g_icmp_gt (tgt := 14) rfl (by decide) (fun _ => ?_) (fun hx => absurd hx (by omega))
          refine g_iconst rfl ⟨by decide, by decide⟩ ?_
          refine x_zreturn rfl rfl (Or.inl rfl) ?_
          intro _
          refine g_if_eq (tgt := 149) rfl (by decide) (fun _ => ?_) (fun hx => absurd hx (by omega))
          refine g_bipush rfl ⟨by decide, by decide⟩ (by decide) ?_
          refine x_ireturn rfl rfl ?_
          exact ⟨(by first | rfl | (exfalso; omega) | exact congrArg (fun z => some (tI z)) (by rw [hsz4, hsz3]) | exact congrArg (fun z => some (tI z)) (by rw [hdr4, hdr3]) | exact congrArg (fun z => some (tI z)) (by rw [hfu4, hfu3]) | exact congrArg (fun z => some (tI z)) (h48)), tp_R_kp hR hkp4⟩
      · refine g_aload rfl rfl ?_
        refine g_iload_n rfl rfl ?_
        refine g_bipush rfl ⟨by decide, by decide⟩ (by decide) ?_
        refine x_isub (z := w - 10) rfl (by omega) ⟨by omega, by omega⟩ ?_
        refine g_cV (as := [tI (w - 10)]) (s_ofK hG hsz3 hE3.2.1 hp9) rfl rfl mX3_ofKind_ok rfl rfl rfl (by decide) rfl rfl rfl ?_
        rintro _ w9 ⟨rfl, hw9⟩ _
        have hw9 := hw9.symm
        subst hw9
        refine g_goto (tgt := 166) rfl (by decide) ?_
        refine x_ireturn rfl rfl ?_
        refine ⟨_, rfl, ?_⟩
        refine tp_ok_of mX12_sent_ok rfl (Nat.le_refl _) ?_
        refine g_aload_n rfl rfl ?_
        refine g_iconst rfl ⟨by decide, by decide⟩ ?_
        refine g_puti rfl rfl (by decide) rfl rfl ?_
        refine g_aload_n rfl rfl ?_
        refine g_iload_n rfl rfl ?_
        refine g_iload_n rfl rfl ?_
        refine g_iV (as := [tI (a : Int), tI (d : Int)]) mX12_layPackets_ok rfl rfl rfl rfl rfl rfl (by decide) rfl rfl rfl ?_
        refine g_aload_n rfl rfl ?_
        refine g_iload_n rfl rfl ?_
        refine g_iload_n rfl rfl ?_
        refine g_cV (as := [tI (a : Int), tI (d : Int)]) (hM _ (tp_kp_pi (by decide) hkp3)) rfl rfl mX12_lay_ok rfl rfl rfl (by decide) rfl rfl rfl ?_
        rintro _ w2 ⟨rfl, hTm, hMc, hGm, hdr, hdm⟩ _
        have hkp2 : tp_kp μ w2 := m_G_kp (tp_kp_pi (by decide) hkp3) hGm
        have hm6 := hTm.1
        have hall := hMc.2.2.1
        refine g_if_ne (tgt := 11) rfl (by decide) (fun _ => ?_) (fun hx => absurd hx (by omega))
        refine g_aload_n rfl rfl ?_
        refine g_aload_n rfl rfl ?_
        refine g_iconst rfl ⟨by decide, by decide⟩ ?_
        refine g_cV (as := [tI 1]) (s_of hG hMc (by omega) (by omega)) rfl rfl mX12_of_ok rfl rfl rfl (by decide) rfl rfl rfl ?_
        rintro _ w9 ⟨rfl, hw9⟩ _
        have hw9 := hw9.symm
        subst hw9
        refine g_aload_n rfl rfl ?_
        refine g_iconst rfl ⟨by decide, by decide⟩ ?_
        refine g_cV (as := [tI 2]) (s_of hG hMc (by omega) (by omega)) rfl rfl mX12_of_ok rfl rfl rfl (by decide) rfl rfl rfl ?_
        rintro _ w9 ⟨rfl, hw9⟩ _
        have hw9 := hw9.symm
        subst hw9
        refine g_cV (as := [tI (f 1), tI (f 2)]) (s_encodesM hG hw hMc hW hTm (by omega) (by omega)) rfl rfl mX12_encodes_ok rfl rfl rfl (by decide) rfl rfl rfl ?_
        rintro _ w4 ⟨rfl, hE4⟩ _
        have hkp4 : tp_kp μ w4 := fun k9 z9 => (hE4.2.2.2.1 k9 (by unfold tp_tl at z9; omega) (by unfold tp_tl at z9; omega)).trans (hkp2 k9 z9)
        rw [← hσ] at hE4
        have hMB := hE4.2.1
        have hsz4 : w4.1 201 47 = σ.1 0 9 := hE4.1.2.2.2.2.2.2.2.2.1
        have hQ4 : v_Q σ w4 := ⟨hsz4, fun i i0 i1 => ⟨(hMB i i0 i1).1, (hMB i i0 i1).2.2.2.1, (hMB i i0 i1).2.2.2.2.1⟩⟩
        have hn4 : w4.1 201 27 = n := by rw [hE4.2.2.2.2 27 (by omega)]; exact hm6
        have hA4 : ∀ j, 0 ≤ j → j < n → w4.1 212 j = A j := fun j j0 j1 => by rw [hE4.2.2.2.1 212 (by omega) (by omega)]; exact hTm.2.1 j j0 j1
        have hG4 : e_G w2 w4 := ⟨hE4.2.2.2.1, hE4.2.2.2.2⟩
        have hMc4 := tp_Mc_e hG4 hMc
        have hT4 := m_T_e hG4 hTm
        have h48 : w4.1 201 48 = σ.1 0 12 := hE4.1.2.2.2.2.2.2.2.2.2.2.1
        have hdr4 : w4.1 201 49 = σ.1 0 7 := hE4.1.2.2.2.2.2.2.1
        have hfu4 : w4.1 201 50 = σ.1 0 8 := hE4.1.2.2.2.2.2.2.2.1
        refine g_iconst rfl ⟨by decide, by decide⟩ ?_
        refine x_zreturn rfl rfl (Or.inr rfl) ?_
        intro _
        refine g_if_ne (tgt := 17) rfl (by decide) (fun _ => ?_) (fun hx => absurd hx (by omega))
        refine g_iload_n rfl rfl ?_
        rcases (show w < 0 ∨ w = 0 ∨ w = 1 ∨ w = 2 ∨ w = 3 ∨ w = 4 ∨ w = 5 ∨ w = 6 ∨ w = 7 ∨ w = 8 ∨ w = 9 ∨ 9 < w by omega) with h15 | h15 | h15 | h15 | h15 | h15 | h15 | h15 | h15 | h15 | h15 | h15
        · omega
        · omega
        · omega
        · omega
        · omega
        · omega
        · omega
        · omega
        · omega
        · omega
        · omega
        · refine g_swOut (tgt := 127) rfl (by omega) (by decide) ?_
          refine g_iload_n rfl rfl ?_
          refine g_bipush rfl ⟨by decide, by decide⟩ (by decide) ?_
          refine g_bipush rfl ⟨by decide, by decide⟩ (by decide) ?_
          refine g_iS (as := [tI w, tI 10, tI 15]) mX12_in_ok rfl rfl rfl rfl rfl rfl rfl ?_
          refine g_iload_n rfl rfl ?_
          refine g_iload_n rfl rfl ?_
          refine g_icmp_lt (tgt := 14) rfl (by decide) (fun hx => absurd hx (by omega)) (fun _ => ?_)
          refine g_iload_n rfl rfl ?_
          refine g_iload_n rfl rfl ?_
          refine g_icmp_gt (tgt := 14) rfl (by decide) (fun hx => absurd hx (by omega)) (fun _ => ?_)
          refine g_iconst rfl ⟨by decide, by decide⟩ ?_
          refine g_goto (tgt := 15) rfl (by decide) ?_
          refine x_zreturn rfl rfl (Or.inr rfl) ?_
          intro _
          refine g_if_eq (tgt := 149) rfl (by decide) (fun hx => absurd hx (by omega)) (fun _ => ?_)
          refine g_aload_n rfl rfl ?_
          refine g_iload_n rfl rfl ?_
          refine g_bipush rfl ⟨by decide, by decide⟩ (by decide) ?_
          refine x_isub (z := w - 10) rfl (by omega) ⟨by omega, by omega⟩ ?_
          refine g_cV (as := [tI (w - 10)]) (s_ofKM hG hQ4 hp9) rfl rfl mX12_ofKind_ok rfl rfl rfl (by decide) rfl rfl rfl ?_
          rintro _ w9 ⟨rfl, hw9⟩ _
          have hw9 := hw9.symm
          subst hw9
          refine g_goto (tgt := 151) rfl (by decide) ?_
          refine x_ireturn rfl rfl ?_
          exact ⟨(by first | rfl | (exfalso; omega) | exact congrArg (fun z => some (tI z)) (by rw [hsz4, hsz3]) | exact congrArg (fun z => some (tI z)) (by rw [hdr4, hdr3]) | exact congrArg (fun z => some (tI z)) (by rw [hfu4, hfu3]) | exact congrArg (fun z => some (tI z)) (h48)), tp_R_kp hR hkp4⟩
