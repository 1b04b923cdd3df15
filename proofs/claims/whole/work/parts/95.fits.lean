set_option maxHeartbeats 4000000 in
set_option maxRecDepth 100000 in
theorem p_fits0 {G : tp_G} (hG : tp_Gf G = true) {a d w : Int} {μ : tp_M} (hR : tp_R μ) (hld : 0 < μ.1 5 3) (hwr : tp_r32 w) : tp_q G mX11_fits mX12_fits [tI a, tI d, tI 0, tI w] μ := by
  have hm2l := tp_R_many hR 3 (by decide) (by decide)
  have hm0 := tp_R_many hR 0 (by decide) (by decide)
  have hm1 := tp_R_many hR 1 (by decide) (by decide)
  by_cases hab : ((a < 0 ∨ μ.1 5 0 ≤ a) ∨ (d < 0 ∨ μ.1 5 1 ≤ d))
  · obtain ⟨hX, hM⟩ := tp_layo hG hR hab
    refine tp_ok_of mX11_fits_ok rfl (Nat.le_refl _) ?_
    refine g_aload_n rfl rfl ?_
    refine x_getF (r := 1) hG rfl rfl (by decide) (Or.inl ⟨_, rfl⟩) rfl ?_
    refine g_iconst rfl ⟨by decide, by decide⟩ ?_
    refine g_iload_n rfl rfl ?_
    refine g_cV (as := [tI 3, tI 0]) (s_rowOf30 hG hld) rfl rfl mX9_rowOf_ok rfl rfl rfl (by decide) rfl rfl rfl ?_
    rintro _ w9 ⟨rfl, hw9⟩ _
    have hw9 := hw9.symm
    subst hw9
    refine g_astore rfl rfl rfl ?_
    refine g_aload rfl rfl ?_
    refine g_ifnull (tgt := 25) rfl (by decide) (fun hx => by cases hx) (fun _ _ => ?_)
    refine g_aload_n rfl rfl ?_
    refine g_iload_n rfl rfl ?_
    refine g_iload_n rfl rfl ?_
    refine g_cV (as := [tI a, tI d]) (hX) rfl rfl mX11_follow_ok rfl rfl rfl (by decide) rfl rfl rfl ?_
    rintro _ w9 ⟨rfl, hw9⟩ _
    have hw9 := hw9.symm
    subst hw9
    refine g_if_ne (tgt := 28) rfl (by decide) (fun hx => absurd hx (by omega)) (fun _ => ?_)
    refine g_bipush rfl ⟨by decide, by decide⟩ (by decide) ?_
    refine x_ireturn rfl rfl ?_
    refine ⟨_, rfl, ?_⟩
    refine tp_ok_of mX12_fits_ok rfl (Nat.le_refl _) ?_
    refine g_aload_n rfl rfl ?_
    refine g_iconst rfl ⟨by decide, by decide⟩ ?_
    refine g_puti rfl rfl (by decide) rfl rfl ?_
    refine g_aload_n rfl rfl ?_
    refine g_iload_n rfl rfl ?_
    refine g_puti rfl rfl (by decide) rfl rfl ?_
    refine g_aload_n rfl rfl ?_
    refine g_iconst rfl ⟨by decide, by decide⟩ ?_
    refine g_iload_n rfl rfl ?_
    refine g_iV (as := [tI 3, tI 0]) mX12_is_ok rfl rfl rfl rfl rfl rfl (by decide) rfl rfl rfl ?_
    refine g_iload_n rfl rfl ?_
    refine g_iconst rfl ⟨by decide, by decide⟩ ?_
    refine g_aload_n rfl rfl ?_
    refine x_getF (r := 206) hG rfl rfl (by decide) (Or.inr ⟨_, rfl⟩) rfl ?_
    refine g_iload_n rfl rfl ?_
    refine x_iald (v := (μ.1 206 3)) rfl rfl (by decide) (by decide) (by decide) rfl ?_
    refine g_iconst rfl ⟨by decide, by decide⟩ ?_
    refine x_isub (z := (μ.1 206 3) - 1) rfl (by omega) ⟨by omega, by omega⟩ ?_
    refine g_iS (as := [tI 0, tI 0, tI ((μ.1 206 3) - 1)]) mX12_in_ok rfl rfl rfl rfl rfl rfl rfl ?_
    refine g_iload_n rfl rfl ?_
    refine g_iload_n rfl rfl ?_
    refine g_icmp_lt (tgt := 14) rfl (by decide) (fun hx => absurd hx (by omega)) (fun _ => ?_)
    refine g_iload_n rfl rfl ?_
    refine g_iload_n rfl rfl ?_
    refine g_icmp_gt (tgt := 14) rfl (by decide) (fun hx => absurd hx (by omega)) (fun _ => ?_)
    refine g_iconst rfl ⟨by decide, by decide⟩ ?_
    refine g_goto (tgt := 15) rfl (by decide) ?_
    refine x_zreturn rfl rfl (Or.inr rfl) ?_
    intro _
    refine x_zreturn rfl rfl (Or.inr rfl) ?_
    intro _
    refine g_if_eq (tgt := 28) rfl (by decide) (fun hx => absurd hx (by omega)) (fun _ => ?_)
    refine g_aload_n rfl rfl ?_
    refine g_iload_n rfl rfl ?_
    refine g_iload_n rfl rfl ?_
    refine g_iV (as := [tI a, tI d]) mX12_layPackets_ok rfl rfl rfl rfl rfl rfl (by decide) rfl rfl rfl ?_
    refine g_aload_n rfl rfl ?_
    refine g_iload_n rfl rfl ?_
    refine g_iload_n rfl rfl ?_
    refine g_cV (as := [tI a, tI d]) (hM _ (tp_kp_pi (by decide) (tp_kp_pi (by decide) tp_kp_rf))) rfl rfl mX12_lay_ok rfl rfl rfl (by decide) rfl rfl rfl ?_
    rintro _ w2 ⟨rfl, hGm⟩ _
    have hkp2 : tp_kp μ w2 := m_G_kp (tp_kp_pi (by decide) (tp_kp_pi (by decide) tp_kp_rf)) hGm
    refine g_if_ne (tgt := 11) rfl (by decide) (fun hx => absurd hx (by omega)) (fun _ => ?_)
    refine g_iconst rfl ⟨by decide, by decide⟩ ?_
    refine x_zreturn rfl rfl (Or.inl rfl) ?_
    intro _
    refine g_if_ne (tgt := 31) rfl (by decide) (fun hx => absurd hx (by omega)) (fun _ => ?_)
    refine g_bipush rfl ⟨by decide, by decide⟩ (by decide) ?_
    refine x_ireturn rfl rfl ?_
    exact ⟨rfl, tp_R_kp hR hkp2⟩
  · obtain ⟨a, rfl⟩ : ∃ a9 : Nat, a = (a9 : Int) := ⟨a.toNat, by omega⟩
    obtain ⟨d, rfl⟩ : ∃ d9 : Nat, d = (d9 : Int) := ⟨d.toNat, by omega⟩
    obtain ⟨n, A, B, Y, H, E, D, U, T, hW, hw, hCd0, hX, hM⟩ := tp_lay hG hR (k := a) (d := d) (by omega) (by omega) (by omega) (by omega)
    generalize tp_cf μ (a : Int) = f at hW hw hCd0 hX hM
    obtain ⟨c, hcE⟩ : ∃ c, c = 6 + 5 * a := ⟨_, rfl⟩
    rw [← hcE] at hCd0 hX
    have hc : tp_SH c = .inl 0 := by rcases (show a = 0 ∨ a = 1 by omega) with q | q <;> (subst q; subst hcE; rfl)
    have hcl : c < 37 := by omega
    have hcn : c < 234 := by omega
    have hw0 := hw.1
    have hn0 := hW.1
    have hrl := hw.2.2
    have hwl := hwr.1
    have hwu := hwr.2
    refine tp_ok_of mX11_fits_ok rfl (Nat.le_refl _) ?_
    refine g_aload_n rfl rfl ?_
    refine x_getF (r := 1) hG rfl rfl (by decide) (Or.inl ⟨_, rfl⟩) rfl ?_
    refine g_iconst rfl ⟨by decide, by decide⟩ ?_
    refine g_iload_n rfl rfl ?_
    refine g_cV (as := [tI 3, tI 0]) (s_rowOf30 hG hld) rfl rfl mX9_rowOf_ok rfl rfl rfl (by decide) rfl rfl rfl ?_
    rintro _ w9 ⟨rfl, hw9⟩ _
    have hw9 := hw9.symm
    subst hw9
    refine g_astore rfl rfl rfl ?_
    refine g_aload rfl rfl ?_
    refine g_ifnull (tgt := 25) rfl (by decide) (fun hx => by cases hx) (fun _ _ => ?_)
    refine g_aload_n rfl rfl ?_
    refine g_iload_n rfl rfl ?_
    refine g_iload_n rfl rfl ?_
    refine g_cV (as := [tI (a : Int), tI (d : Int)]) (hX) rfl rfl mX11_follow_ok rfl rfl rfl (by decide) rfl rfl rfl ?_
    rintro _ w1 ⟨rfl, hT, hco, hfr⟩ _
    have hCd : tp_Cd c f w1 := tp_Cd_fr hcl (fun k9 z9 => hfr k9 (by omega)) hCd0
    have hkp1 : tp_kp μ w1 := fun k9 z9 => hfr k9 (by unfold tp_tl at z9; omega)
    have hn6 := hT.1
    refine g_if_ne (tgt := 28) rfl (by decide) (fun _ => ?_) (fun hx => absurd hx (by omega))
    refine g_aload_n rfl rfl ?_
    refine g_iV (as := []) mX11_encode_ok rfl rfl rfl rfl rfl rfl (by decide) rfl rfl rfl ?_
    refine g_aload_n rfl rfl ?_
    refine x_getF (r := 50) hG rfl rfl (by decide) (Or.inl ⟨_, rfl⟩) rfl ?_
    refine x_getM (v := (some c)) hG rfl rfl (by decide) (Or.inl ⟨_, rfl⟩) rfl (by first | exact hco | exact hco3 | exact hco5 | exact hco6) ?_
    refine g_astore_n rfl rfl rfl ?_
    refine g_aload_n rfl rfl ?_
    refine g_ifnull (tgt := 34) rfl (by decide) (fun hx => by cases hx) (fun _ _ => ?_)
    refine g_aload_n rfl rfl ?_
    refine x_getF (r := 62) hG rfl rfl (by decide) (Or.inl ⟨_, rfl⟩) rfl ?_
    refine g_aload_n rfl rfl ?_
    refine g_aload_n rfl rfl ?_
    refine x_getF (r := 50) hG rfl rfl (by decide) (Or.inl ⟨_, rfl⟩) rfl ?_
    refine g_aload_n rfl rfl ?_
    refine g_iconst rfl ⟨by decide, by decide⟩ ?_
    refine g_cV (as := [tI 0]) (s_ruleN (n := 1) hG hc hcl hCd (by decide) (by decide) (by decide)) rfl rfl mX0_rule_ok rfl hc rfl hcn rfl rfl rfl ?_
    rintro _ w9 ⟨rfl, hw9⟩ _
    have hw9 := hw9.symm
    subst hw9
    refine g_aload_n rfl rfl ?_
    refine g_iconst rfl ⟨by decide, by decide⟩ ?_
    refine g_cV (as := [tI 1]) (s_ruleN (n := 2) hG hc hcl hCd (by decide) (by decide) (by decide)) rfl rfl mX0_rule_ok rfl hc rfl hcn rfl rfl rfl ?_
    rintro _ w9 ⟨rfl, hw9⟩ _
    have hw9 := hw9.symm
    subst hw9
    refine g_cV (as := [tR (some c), tR (some 50), tI (f 1), tI (f 2)]) (s_encode hG hc hcl hw hCd hW hT (by omega) (by omega)) rfl rfl mX1_encode_ok rfl rfl rfl (by decide) rfl rfl rfl ?_
    rintro _ w3 ⟨rfl, hE3⟩ _
    have hkp3 : tp_kp μ w3 := fun k9 z9 => (hE3.2.2.2.2.1 k9 (by unfold tp_tl at z9; omega)).trans (hkp1 k9 z9)
    have hBJ := e_all_B (bt := f 1) (dp := f 2) hw hW (by omega) (by omega)
    obtain ⟨σ, hσ⟩ : ∃ σ9, σ9 = (e_all f (f 1) (f 2) A B Y n) := ⟨_, rfl⟩
    rw [← hσ] at hE3 hBJ
    have hbB := hBJ.1
    have hJ1 := hBJ.2.1
    have hJ2 := hBJ.2.2.1
    have hsz3 : w3.1 63 4 = σ.1 0 9 := hE3.1.2.2.2.2.2.2.2.2.1
    have hp9 : 0 ≤ σ.1 0 9 ∧ σ.1 0 9 ≤ 209 := by omega
    have HH : ∀ p, 0 ≤ p → p < σ.1 0 9 → s_H f A B Y (f 2) n σ p := by rw [hσ]; exact H_all hw hW (by omega) (by omega)
    have hCd3 : tp_Cd c f w3 := tp_Cd_fr hcl (fun k9 z9 => hE3.2.2.2.2.1 k9 (by omega)) hCd
    have hco3 : w3.2 50 5 = some c := by rw [hE3.2.2.2.2.2]; exact hco
    have hT3 : c_T 50 n A B Y E D U T w3 := c_T_fr (fun c9 z1 z2 => hE3.2.2.2.2.1 c9 (by omega)) hT
    refine x_return rfl rfl ?_
    intro _
    refine g_aload_n rfl rfl ?_
    refine x_getF (r := 70) hG rfl rfl (by decide) (Or.inl ⟨_, rfl⟩) rfl ?_
    refine g_aload_n rfl rfl ?_
    refine x_getF (r := 50) hG rfl rfl (by decide) (Or.inl ⟨_, rfl⟩) rfl ?_
    refine x_getM (v := (some c)) hG rfl rfl (by decide) (Or.inl ⟨_, rfl⟩) rfl (by first | exact hco | exact hco3 | exact hco5 | exact hco6) ?_
    refine g_aload_n rfl rfl ?_
    refine x_getF (r := 62) hG rfl rfl (by decide) (Or.inl ⟨_, rfl⟩) rfl ?_
    refine x_getF (r := 63) hG rfl rfl (by decide) (Or.inl ⟨_, rfl⟩) rfl ?_
    refine g_cV (as := [tR (some c), tR (some 63)]) (s_walk hG hc hcl hw hW hCd3 hsz3 hE3.2.1 hp9 HH) rfl rfl mX10_go_ok rfl rfl rfl (by decide) rfl rfl rfl ?_
    rintro _ w5 ⟨rfl, hQ5, hF5, hP5⟩ _
    have hkp5 : tp_kp μ w5 := fun k9 z9 => (hF5 k9 (by unfold tp_tl at z9; omega)).trans (hkp3 k9 z9)
    have hpk5 : w5.2 70 5 = some 63 := by rw [hP5]; rfl
    have hco5 : w5.2 50 5 = some c := by rw [hP5]; exact hco3
    have hsz5 : w5.1 63 4 = σ.1 0 9 := by rw [hF5 63 (by omega)]; exact hsz3
    have hB5 : c_B σ w5 := fun i z0 z1 => by rw [hF5 64 (by omega), hF5 65 (by omega), hF5 66 (by omega), hF5 67 (by omega)]; exact hE3.2.1 i z0 z1
    have hT5 : c_T 50 n A B Y E D U T w5 := c_T_fr (fun c9 z1 z2 => hF5 c9 (by omega)) hT3
    have hCd5 : tp_Cd c f w5 := tp_Cd_fr hcl (fun k9 z9 => hF5 k9 (by omega)) hCd3
    have hU9 : 0 ≤ w_U σ (σ.1 0 9) ∧ w_U σ (σ.1 0 9) ≤ 200 := by
      have q := w_U_b HH (σ.1 0 9).toNat (by omega)
      rw [show (((σ.1 0 9).toNat : Nat) : Int) = σ.1 0 9 by omega] at q
      refine ⟨q.1, ?_⟩
      rcases (show σ.1 0 9 = 0 ∨ 1 ≤ σ.1 0 9 by omega) with z | z
      · rw [z]; show (0 : Int) ≤ 200; omega
      · have q2 := q.2 (by omega); have q3 := (HH (σ.1 0 9 - 1) (by omega) (by omega)).2.1; omega
    have hL5 : tp_Lg w5.1 34 (tp_gf μ 0) := by
      have hL := tp_R_log hR 0 (by decide) hld
      unfold tp_Lg at hL ⊢
      rw [hkp5 34 (by unfold tp_tl; omega), hkp5 (34 + 1) (by unfold tp_tl; omega), hkp5 (34 + 2) (by unfold tp_tl; omega)]
      exact hL
    refine g_aload_n rfl rfl ?_
    refine x_getF (r := 79) hG rfl rfl (by decide) (Or.inl ⟨_, rfl⟩) rfl ?_
    refine g_aload_n rfl rfl ?_
    refine x_getF (r := 70) hG rfl rfl (by decide) (Or.inl ⟨_, rfl⟩) rfl ?_
    refine g_aload_n rfl rfl ?_
    refine x_getF (r := 76) hG rfl rfl (by decide) (Or.inl ⟨_, rfl⟩) rfl ?_
    refine g_aload rfl rfl ?_
    refine g_cV (as := [tR (some 70), tR (some 76), tR (some 34)]) (s_find0 hG hn0 hp9 HH hw hW hsz5 hB5 hpk5 hQ5 hL5) rfl rfl mX2_find_ok rfl rfl rfl (by decide) rfl rfl rfl ?_
    rintro _ w6 ⟨rfl, hf6, hF6⟩ _
    have hkp6 : tp_kp μ w6 := fun k9 z9 => (hF6.1 k9 (by unfold tp_tl at z9; omega)).trans (hkp5 k9 z9)
    have hN6 : 0 ≤ (q_FL A n σ (tp_gf μ 0) (σ.1 0 9)).1 ∧ (q_FL A n σ (tp_gf μ 0) (σ.1 0 9)).1 ≤ 210 := by have := q_FL_b (A := A) (n := n) (σ := σ) (g := tp_gf μ 0) (k := σ.1 0 9) (by omega); omega
    have hCd6 : tp_Cd c f w6 := tp_Cd_fr hcl (fun k9 z9 => hF6.1 k9 (by omega)) hCd5
    have hco6 : w6.2 50 5 = some c := by rw [hF6.2]; exact hco5
    have h796 : w6.1 79 3 = (q_FL A n σ (tp_gf μ 0) (σ.1 0 9)).1 := hf6.1
    have h206 : w6.1 206 3 = μ.1 206 3 := by rw [hkp6 206 (by unfold tp_tl; omega)]
    refine g_iload rfl rfl ?_
    refine g_if_ne (tgt := 83) rfl (by decide) (fun h1 => ?_) (fun h1 => ?_)
    · refine g_iload rfl rfl ?_
      refine g_iconst rfl ⟨by decide, by decide⟩ ?_
      refine g_icmp_ne (tgt := 104) rfl (by decide) (fun h2 => ?_) (fun h2 => ?_)
      · refine g_iload rfl rfl ?_
        refine g_bipush rfl ⟨by decide, by decide⟩ (by decide) ?_
        refine g_icmp_lt (tgt := 126) rfl (by decide) (fun h3 => ?_) (fun h3 => ?_)
        · refine g_bipush rfl ⟨by decide, by decide⟩ (by decide) ?_
          refine x_ireturn rfl rfl ?_
          refine ⟨_, rfl, ?_⟩
          refine tp_ok_of mX12_fits_ok rfl (Nat.le_refl _) ?_
          refine g_aload_n rfl rfl ?_
          refine g_iconst rfl ⟨by decide, by decide⟩ ?_
          refine g_puti rfl rfl (by decide) rfl rfl ?_
          refine g_aload_n rfl rfl ?_
          refine g_iload_n rfl rfl ?_
          refine g_puti rfl rfl (by decide) rfl rfl ?_
          refine g_aload_n rfl rfl ?_
          refine g_iconst rfl ⟨by decide, by decide⟩ ?_
          refine g_iload_n rfl rfl ?_
          refine g_iV (as := [tI 3, tI 0]) mX12_is_ok rfl rfl rfl rfl rfl rfl (by decide) rfl rfl rfl ?_
          refine g_iload_n rfl rfl ?_
          refine g_iconst rfl ⟨by decide, by decide⟩ ?_
          refine g_aload_n rfl rfl ?_
          refine x_getF (r := 206) hG rfl rfl (by decide) (Or.inr ⟨_, rfl⟩) rfl ?_
          refine g_iload_n rfl rfl ?_
          refine x_iald (v := (w6.1 206 3)) rfl rfl (by decide) (by decide) (by decide) rfl ?_
          refine g_iconst rfl ⟨by decide, by decide⟩ ?_
          refine x_isub (z := (w6.1 206 3) - 1) rfl (by omega) ⟨by omega, by omega⟩ ?_
          refine g_iS (as := [tI 0, tI 0, tI ((w6.1 206 3) - 1)]) mX12_in_ok rfl rfl rfl rfl rfl rfl rfl ?_
          refine g_iload_n rfl rfl ?_
          refine g_iload_n rfl rfl ?_
          refine g_icmp_lt (tgt := 14) rfl (by decide) (fun hx => absurd hx (by omega)) (fun _ => ?_)
          refine g_iload_n rfl rfl ?_
          refine g_iload_n rfl rfl ?_
          refine g_icmp_gt (tgt := 14) rfl (by decide) (fun hx => absurd hx (by omega)) (fun _ => ?_)
          refine g_iconst rfl ⟨by decide, by decide⟩ ?_
          refine g_goto (tgt := 15) rfl (by decide) ?_
          refine x_zreturn rfl rfl (Or.inr rfl) ?_
          intro _
          refine x_zreturn rfl rfl (Or.inr rfl) ?_
          intro _
          refine g_if_eq (tgt := 28) rfl (by decide) (fun hx => absurd hx (by omega)) (fun _ => ?_)
          refine g_aload_n rfl rfl ?_
          refine g_iload_n rfl rfl ?_
          refine g_iload_n rfl rfl ?_
          refine g_iV (as := [tI (a : Int), tI (d : Int)]) mX12_layPackets_ok rfl rfl rfl rfl rfl rfl (by decide) rfl rfl rfl ?_
          refine g_aload_n rfl rfl ?_
          refine g_iload_n rfl rfl ?_
          refine g_iload_n rfl rfl ?_
          refine g_cV (as := [tI (a : Int), tI (d : Int)]) (hM _ (tp_kp_pi (by decide) (tp_kp_pi (by decide) hkp6))) rfl rfl mX12_lay_ok rfl rfl rfl (by decide) rfl rfl rfl ?_
          rintro _ w2 ⟨rfl, hTm, hMc, hGm, hdr, hdm⟩ _
          have hkp2 : tp_kp μ w2 := m_G_kp (tp_kp_pi (by decide) (tp_kp_pi (by decide) hkp6)) hGm
          have hm6 := hTm.1
          have hall := hMc.2.2.1
          refine g_if_ne (tgt := 11) rfl (by decide) (fun _ => ?_) (fun hx => absurd hx (by omega))
          refine g_aload_n rfl rfl ?_
          refine g_aload_n rfl rfl ?_
          refine g_iconst rfl ⟨by decide, by decide⟩ ?_
          refine g_cV (as := [tI 1]) (s_of hG hMc (by omega) (by omega)) rfl rfl mX12_of_ok rfl rfl rfl (by decide) rfl rfl rfl ?_
          rintro _ w9 ⟨rfl, hw9⟩ _
          have hw9 := hw9.symm
          subst hw9
          refine g_aload_n rfl rfl ?_
          refine g_iconst rfl ⟨by decide, by decide⟩ ?_
          refine g_cV (as := [tI 2]) (s_of hG hMc (by omega) (by omega)) rfl rfl mX12_of_ok rfl rfl rfl (by decide) rfl rfl rfl ?_
          rintro _ w9 ⟨rfl, hw9⟩ _
          have hw9 := hw9.symm
          subst hw9
          refine g_cV (as := [tI (f 1), tI (f 2)]) (s_encodesM hG hw hMc hW hTm (by omega) (by omega)) rfl rfl mX12_encodes_ok rfl rfl rfl (by decide) rfl rfl rfl ?_
          rintro _ w4 ⟨rfl, hE4⟩ _
          have hkp4 : tp_kp μ w4 := fun k9 z9 => (hE4.2.2.2.1 k9 (by unfold tp_tl at z9; omega) (by unfold tp_tl at z9; omega)).trans (hkp2 k9 z9)
          rw [← hσ] at hE4
          have hMB := hE4.2.1
          have hsz4 : w4.1 201 47 = σ.1 0 9 := hE4.1.2.2.2.2.2.2.2.2.1
          have hQ4 : v_Q σ w4 := ⟨hsz4, fun i i0 i1 => ⟨(hMB i i0 i1).1, (hMB i i0 i1).2.2.2.1, (hMB i i0 i1).2.2.2.2.1⟩⟩
          have hn4 : w4.1 201 27 = n := by rw [hE4.2.2.2.2 27 (by omega)]; exact hm6
          have hA4 : ∀ j, 0 ≤ j → j < n → w4.1 212 j = A j := fun j j0 j1 => by rw [hE4.2.2.2.1 212 (by omega) (by omega)]; exact hTm.2.1 j j0 j1
          have h264 : w4.1 201 26 = f 0 := by rw [hE4.2.2.2.2 26 (by omega)]; exact hall
          have h704 : w4.1 201 70 = 0 := by rw [hE4.2.2.2.2 70 (by omega), hGm.2 70 (by omega)]; rfl
          have hLr := tp_R_log hR 0 (by decide) hld
          have hL4 : f_L 0 (tp_gf μ 0) w4 := ⟨by omega, h704, fun i i0 i1 => by rw [hkp4 210 (by unfold tp_tl; omega)]; rfl, hLr.2.1, fun i i0 i1 => (hLr.2.2 i i0 i1).2.2⟩
          refine g_iconst rfl ⟨by decide, by decide⟩ ?_
          refine x_zreturn rfl rfl (Or.inr rfl) ?_
          intro _
          refine g_if_ne (tgt := 31) rfl (by decide) (fun _ => ?_) (fun hx => absurd hx (by omega))
          refine g_aload_n rfl rfl ?_
          refine g_cV (as := []) (s_fiA hG hw hW hp9 HH hQ4 hL4 h264 hn4 hA4) rfl rfl mX12_findsAll_ok rfl rfl rfl (by decide) rfl rfl rfl ?_
          rintro _ w7 ⟨rfl, hf7, hG7⟩ _
          have hkp7 : tp_kp μ w7 := v_G3_kp hkp4 hG7
          have h737 : w7.1 201 73 = (q_FL A n σ (tp_gf μ 0) (σ.1 0 9)).1 := hf7.1
          have h267 : w7.1 201 26 = f 0 := by rw [hG7.2 26 (by omega) (by omega) (by omega)]; exact h264
          refine g_iload rfl rfl ?_
          refine g_bipush rfl ⟨by decide, by decide⟩ (by decide) ?_
          refine g_icmp_lt (tgt := 70) rfl (by decide) (fun _ => ?_) (fun hx => absurd hx (by omega))
          refine g_iload rfl rfl ?_
          refine g_if_ne (tgt := 82) rfl (by decide) (fun h4 => ?_) (fun h4 => ?_)
          · refine g_iload rfl rfl ?_
            refine g_iconst rfl ⟨by decide, by decide⟩ ?_
            refine g_icmp_ne (tgt := 95) rfl (by decide) (fun h5 => ?_) (fun h5 => ?_)
            · refine g_bipush rfl ⟨by decide, by decide⟩ (by decide) ?_
              refine x_ireturn rfl rfl ?_
              exact ⟨(by first | rfl | (exfalso; omega) | exact congrArg (fun z => some (tI z)) (by rw [h737, h796]) | exact congrArg (fun z => some (tI z)) ((hf7.2.1 (w - 10) (by omega) (by omega)).trans (hf6.2.1 (w - 10) (by omega) (by omega)).symm)), tp_R_kp hR hkp7⟩
            · refine g_aload_n rfl rfl ?_
              refine g_cV (as := []) (s_askM hG hf7 hN6 hw0 h267) rfl rfl mX12_ask_ok rfl rfl rfl (by decide) rfl rfl rfl ?_
              rintro _ w9 ⟨rfl, hw9⟩ _
              have hw9 := hw9.symm
              subst hw9
              refine g_goto (tgt := 97) rfl (by decide) ?_
              refine x_ireturn rfl rfl ?_
              exact ⟨(by first | rfl | (exfalso; omega) | exact congrArg (fun z => some (tI z)) (by rw [h737, h796]) | exact congrArg (fun z => some (tI z)) ((hf7.2.1 (w - 10) (by omega) (by omega)).trans (hf6.2.1 (w - 10) (by omega) (by omega)).symm)), tp_R_kp hR hkp7⟩
          · refine g_aload_n rfl rfl ?_
            refine x_geti (v := (w7.1 201 73)) rfl rfl (by decide) (Or.inl rfl) rfl ?_
            refine g_goto (tgt := 97) rfl (by decide) ?_
            refine x_ireturn rfl rfl ?_
            exact ⟨(by first | rfl | (exfalso; omega) | exact congrArg (fun z => some (tI z)) (by rw [h737, h796]) | exact congrArg (fun z => some (tI z)) ((hf7.2.1 (w - 10) (by omega) (by omega)).trans (hf6.2.1 (w - 10) (by omega) (by omega)).symm)), tp_R_kp hR hkp7⟩
        · refine g_aload_n rfl rfl ?_
          refine x_getF (r := 79) hG rfl rfl (by decide) (Or.inl ⟨_, rfl⟩) rfl ?_
          refine g_iload rfl rfl ?_
          refine g_bipush rfl ⟨by decide, by decide⟩ (by decide) ?_
          refine x_isub (z := w - 10) rfl (by omega) ⟨by omega, by omega⟩ ?_
          refine g_iV (as := [tI (w - 10)]) mX2_lossAt_ok rfl rfl rfl rfl rfl rfl (by decide) rfl rfl rfl ?_
          refine g_iload_n rfl rfl ?_
          refine g_if_lt (tgt := 19) rfl (by decide) (fun hx => absurd hx (by omega)) (fun _ => ?_)
          refine g_iload_n rfl rfl ?_
          refine g_aload_n rfl rfl ?_
          refine x_geti (v := (w6.1 79 3)) rfl rfl (by decide) (Or.inl rfl) rfl ?_
          refine g_icmp_ge (tgt := 19) rfl (by decide) (fun h6 => ?_) (fun h6 => ?_)
          · refine g_bipush rfl ⟨by decide, by decide⟩ (by decide) ?_
            refine g_goto (tgt := 30) rfl (by decide) ?_
            refine x_ireturn rfl rfl ?_
            intro _
            refine g_goto (tgt := 128) rfl (by decide) ?_
            refine x_ireturn rfl rfl ?_
            refine ⟨_, rfl, ?_⟩
            refine tp_ok_of mX12_fits_ok rfl (Nat.le_refl _) ?_
            refine g_aload_n rfl rfl ?_
            refine g_iconst rfl ⟨by decide, by decide⟩ ?_
            refine g_puti rfl rfl (by decide) rfl rfl ?_
            refine g_aload_n rfl rfl ?_
            refine g_iload_n rfl rfl ?_
            refine g_puti rfl rfl (by decide) rfl rfl ?_
            refine g_aload_n rfl rfl ?_
            refine g_iconst rfl ⟨by decide, by decide⟩ ?_
            refine g_iload_n rfl rfl ?_
            refine g_iV (as := [tI 3, tI 0]) mX12_is_ok rfl rfl rfl rfl rfl rfl (by decide) rfl rfl rfl ?_
            refine g_iload_n rfl rfl ?_
            refine g_iconst rfl ⟨by decide, by decide⟩ ?_
            refine g_aload_n rfl rfl ?_
            refine x_getF (r := 206) hG rfl rfl (by decide) (Or.inr ⟨_, rfl⟩) rfl ?_
            refine g_iload_n rfl rfl ?_
            refine x_iald (v := (w6.1 206 3)) rfl rfl (by decide) (by decide) (by decide) rfl ?_
            refine g_iconst rfl ⟨by decide, by decide⟩ ?_
            refine x_isub (z := (w6.1 206 3) - 1) rfl (by omega) ⟨by omega, by omega⟩ ?_
            refine g_iS (as := [tI 0, tI 0, tI ((w6.1 206 3) - 1)]) mX12_in_ok rfl rfl rfl rfl rfl rfl rfl ?_
            refine g_iload_n rfl rfl ?_
            refine g_iload_n rfl rfl ?_
            refine g_icmp_lt (tgt := 14) rfl (by decide) (fun hx => absurd hx (by omega)) (fun _ => ?_)
            refine g_iload_n rfl rfl ?_
            refine g_iload_n rfl rfl ?_
            refine g_icmp_gt (tgt := 14) rfl (by decide) (fun hx => absurd hx (by omega)) (fun _ => ?_)
            refine g_iconst rfl ⟨by decide, by decide⟩ ?_
            refine g_goto (tgt := 15) rfl (by decide) ?_
            refine x_zreturn rfl rfl (Or.inr rfl) ?_
            intro _
            refine x_zreturn rfl rfl (Or.inr rfl) ?_
            intro _
            refine g_if_eq (tgt := 28) rfl (by decide) (fun hx => absurd hx (by omega)) (fun _ => ?_)
            refine g_aload_n rfl rfl ?_
            refine g_iload_n rfl rfl ?_
            refine g_iload_n rfl rfl ?_
            refine g_iV (as := [tI (a : Int), tI (d : Int)]) mX12_layPackets_ok rfl rfl rfl rfl rfl rfl (by decide) rfl rfl rfl ?_
            refine g_aload_n rfl rfl ?_
            refine g_iload_n rfl rfl ?_
            refine g_iload_n rfl rfl ?_
            refine g_cV (as := [tI (a : Int), tI (d : Int)]) (hM _ (tp_kp_pi (by decide) (tp_kp_pi (by decide) hkp6))) rfl rfl mX12_lay_ok rfl rfl rfl (by decide) rfl rfl rfl ?_
            rintro _ w2 ⟨rfl, hTm, hMc, hGm, hdr, hdm⟩ _
            have hkp2 : tp_kp μ w2 := m_G_kp (tp_kp_pi (by decide) (tp_kp_pi (by decide) hkp6)) hGm
            have hm6 := hTm.1
            have hall := hMc.2.2.1
            refine g_if_ne (tgt := 11) rfl (by decide) (fun _ => ?_) (fun hx => absurd hx (by omega))
            refine g_aload_n rfl rfl ?_
            refine g_aload_n rfl rfl ?_
            refine g_iconst rfl ⟨by decide, by decide⟩ ?_
            refine g_cV (as := [tI 1]) (s_of hG hMc (by omega) (by omega)) rfl rfl mX12_of_ok rfl rfl rfl (by decide) rfl rfl rfl ?_
            rintro _ w9 ⟨rfl, hw9⟩ _
            have hw9 := hw9.symm
            subst hw9
            refine g_aload_n rfl rfl ?_
            refine g_iconst rfl ⟨by decide, by decide⟩ ?_
            refine g_cV (as := [tI 2]) (s_of hG hMc (by omega) (by omega)) rfl rfl mX12_of_ok rfl rfl rfl (by decide) rfl rfl rfl ?_
            rintro _ w9 ⟨rfl, hw9⟩ _
            have hw9 := hw9.symm
            subst hw9
            refine g_cV (as := [tI (f 1), tI (f 2)]) (s_encodesM hG hw hMc hW hTm (by omega) (by omega)) rfl rfl mX12_encodes_ok rfl rfl rfl (by decide) rfl rfl rfl ?_
            rintro _ w4 ⟨rfl, hE4⟩ _
            have hkp4 : tp_kp μ w4 := fun k9 z9 => (hE4.2.2.2.1 k9 (by unfold tp_tl at z9; omega) (by unfold tp_tl at z9; omega)).trans (hkp2 k9 z9)
            rw [← hσ] at hE4
            have hMB := hE4.2.1
            have hsz4 : w4.1 201 47 = σ.1 0 9 := hE4.1.2.2.2.2.2.2.2.2.1
            have hQ4 : v_Q σ w4 := ⟨hsz4, fun i i0 i1 => ⟨(hMB i i0 i1).1, (hMB i i0 i1).2.2.2.1, (hMB i i0 i1).2.2.2.2.1⟩⟩
            have hn4 : w4.1 201 27 = n := by rw [hE4.2.2.2.2 27 (by omega)]; exact hm6
            have hA4 : ∀ j, 0 ≤ j → j < n → w4.1 212 j = A j := fun j j0 j1 => by rw [hE4.2.2.2.1 212 (by omega) (by omega)]; exact hTm.2.1 j j0 j1
            have h264 : w4.1 201 26 = f 0 := by rw [hE4.2.2.2.2 26 (by omega)]; exact hall
            have h704 : w4.1 201 70 = 0 := by rw [hE4.2.2.2.2 70 (by omega), hGm.2 70 (by omega)]; rfl
            have hLr := tp_R_log hR 0 (by decide) hld
            have hL4 : f_L 0 (tp_gf μ 0) w4 := ⟨by omega, h704, fun i i0 i1 => by rw [hkp4 210 (by unfold tp_tl; omega)]; rfl, hLr.2.1, fun i i0 i1 => (hLr.2.2 i i0 i1).2.2⟩
            refine g_iconst rfl ⟨by decide, by decide⟩ ?_
            refine x_zreturn rfl rfl (Or.inr rfl) ?_
            intro _
            refine g_if_ne (tgt := 31) rfl (by decide) (fun _ => ?_) (fun hx => absurd hx (by omega))
            refine g_aload_n rfl rfl ?_
            refine g_cV (as := []) (s_fiA hG hw hW hp9 HH hQ4 hL4 h264 hn4 hA4) rfl rfl mX12_findsAll_ok rfl rfl rfl (by decide) rfl rfl rfl ?_
            rintro _ w7 ⟨rfl, hf7, hG7⟩ _
            have hkp7 : tp_kp μ w7 := v_G3_kp hkp4 hG7
            have h737 : w7.1 201 73 = (q_FL A n σ (tp_gf μ 0) (σ.1 0 9)).1 := hf7.1
            have h267 : w7.1 201 26 = f 0 := by rw [hG7.2 26 (by omega) (by omega) (by omega)]; exact h264
            refine g_iload rfl rfl ?_
            refine g_bipush rfl ⟨by decide, by decide⟩ (by decide) ?_
            refine g_icmp_lt (tgt := 70) rfl (by decide) (fun hx => absurd hx (by omega)) (fun _ => ?_)
            refine g_iload rfl rfl ?_
            refine g_bipush rfl ⟨by decide, by decide⟩ (by decide) ?_
            refine x_isub (z := w - 10) rfl (by omega) ⟨by omega, by omega⟩ ?_
            refine g_aload_n rfl rfl ?_
            refine x_geti (v := (w7.1 201 73)) rfl rfl (by decide) (Or.inl rfl) rfl ?_
            refine g_icmp_ge (tgt := 67) rfl (by decide) (fun _ => ?_) (fun hx => absurd hx (by omega))
            refine g_bipush rfl ⟨by decide, by decide⟩ (by decide) ?_
            refine x_ireturn rfl rfl ?_
            exact ⟨(by first | rfl | (exfalso; omega) | exact congrArg (fun z => some (tI z)) (by rw [h737, h796]) | exact congrArg (fun z => some (tI z)) ((hf7.2.1 (w - 10) (by omega) (by omega)).trans (hf6.2.1 (w - 10) (by omega) (by omega)).symm)), tp_R_kp hR hkp7⟩
          · refine g_iload_n rfl rfl ?_
            refine g_sipush rfl ⟨by decide, by decide⟩ (by decide) ?_
            refine g_icmp_lt (tgt := 24) rfl (by decide) (fun _ => ?_) (fun hx => absurd hx (by omega))
            refine g_aload_n rfl rfl ?_
            refine x_getF (r := 80) hG rfl rfl (by decide) (Or.inr ⟨_, rfl⟩) rfl ?_
            refine g_iload_n rfl rfl ?_
            refine x_iald (v := (w6.1 80 (w - 10))) rfl rfl (by decide) (by omega) (by omega) rfl ?_
            refine x_ireturn rfl rfl ?_
            intro _
            refine g_goto (tgt := 128) rfl (by decide) ?_
            refine x_ireturn rfl rfl ?_
            refine ⟨_, rfl, ?_⟩
            refine tp_ok_of mX12_fits_ok rfl (Nat.le_refl _) ?_
            refine g_aload_n rfl rfl ?_
            refine g_iconst rfl ⟨by decide, by decide⟩ ?_
            refine g_puti rfl rfl (by decide) rfl rfl ?_
            refine g_aload_n rfl rfl ?_
            refine g_iload_n rfl rfl ?_
            refine g_puti rfl rfl (by decide) rfl rfl ?_
            refine g_aload_n rfl rfl ?_
            refine g_iconst rfl ⟨by decide, by decide⟩ ?_
            refine g_iload_n rfl rfl ?_
            refine g_iV (as := [tI 3, tI 0]) mX12_is_ok rfl rfl rfl rfl rfl rfl (by decide) rfl rfl rfl ?_
            refine g_iload_n rfl rfl ?_
            refine g_iconst rfl ⟨by decide, by decide⟩ ?_
            refine g_aload_n rfl rfl ?_
            refine x_getF (r := 206) hG rfl rfl (by decide) (Or.inr ⟨_, rfl⟩) rfl ?_
            refine g_iload_n rfl rfl ?_
            refine x_iald (v := (w6.1 206 3)) rfl rfl (by decide) (by decide) (by decide) rfl ?_
            refine g_iconst rfl ⟨by decide, by decide⟩ ?_
            refine x_isub (z := (w6.1 206 3) - 1) rfl (by omega) ⟨by omega, by omega⟩ ?_
            refine g_iS (as := [tI 0, tI 0, tI ((w6.1 206 3) - 1)]) mX12_in_ok rfl rfl rfl rfl rfl rfl rfl ?_
            refine g_iload_n rfl rfl ?_
            refine g_iload_n rfl rfl ?_
            refine g_icmp_lt (tgt := 14) rfl (by decide) (fun hx => absurd hx (by omega)) (fun _ => ?_)
            refine g_iload_n rfl rfl ?_
            refine g_iload_n rfl rfl ?_
            refine g_icmp_gt (tgt := 14) rfl (by decide) (fun hx => absurd hx (by omega)) (fun _ => ?_)
            refine g_iconst rfl ⟨by decide, by decide⟩ ?_
            refine g_goto (tgt := 15) rfl (by decide) ?_
            refine x_zreturn rfl rfl (Or.inr rfl) ?_
            intro _
            refine x_zreturn rfl rfl (Or.inr rfl) ?_
            intro _
            refine g_if_eq (tgt := 28) rfl (by decide) (fun hx => absurd hx (by omega)) (fun _ => ?_)
            refine g_aload_n rfl rfl ?_
            refine g_iload_n rfl rfl ?_
            refine g_iload_n rfl rfl ?_
            refine g_iV (as := [tI (a : Int), tI (d : Int)]) mX12_layPackets_ok rfl rfl rfl rfl rfl rfl (by decide) rfl rfl rfl ?_
            refine g_aload_n rfl rfl ?_
            refine g_iload_n rfl rfl ?_
            refine g_iload_n rfl rfl ?_
            refine g_cV (as := [tI (a : Int), tI (d : Int)]) (hM _ (tp_kp_pi (by decide) (tp_kp_pi (by decide) hkp6))) rfl rfl mX12_lay_ok rfl rfl rfl (by decide) rfl rfl rfl ?_
            rintro _ w2 ⟨rfl, hTm, hMc, hGm, hdr, hdm⟩ _
            have hkp2 : tp_kp μ w2 := m_G_kp (tp_kp_pi (by decide) (tp_kp_pi (by decide) hkp6)) hGm
            have hm6 := hTm.1
            have hall := hMc.2.2.1
            refine g_if_ne (tgt := 11) rfl (by decide) (fun _ => ?_) (fun hx => absurd hx (by omega))
            refine g_aload_n rfl rfl ?_
            refine g_aload_n rfl rfl ?_
            refine g_iconst rfl ⟨by decide, by decide⟩ ?_
            refine g_cV (as := [tI 1]) (s_of hG hMc (by omega) (by omega)) rfl rfl mX12_of_ok rfl rfl rfl (by decide) rfl rfl rfl ?_
            rintro _ w9 ⟨rfl, hw9⟩ _
            have hw9 := hw9.symm
            subst hw9
            refine g_aload_n rfl rfl ?_
            refine g_iconst rfl ⟨by decide, by decide⟩ ?_
            refine g_cV (as := [tI 2]) (s_of hG hMc (by omega) (by omega)) rfl rfl mX12_of_ok rfl rfl rfl (by decide) rfl rfl rfl ?_
            rintro _ w9 ⟨rfl, hw9⟩ _
            have hw9 := hw9.symm
            subst hw9
            refine g_cV (as := [tI (f 1), tI (f 2)]) (s_encodesM hG hw hMc hW hTm (by omega) (by omega)) rfl rfl mX12_encodes_ok rfl rfl rfl (by decide) rfl rfl rfl ?_
            rintro _ w4 ⟨rfl, hE4⟩ _
            have hkp4 : tp_kp μ w4 := fun k9 z9 => (hE4.2.2.2.1 k9 (by unfold tp_tl at z9; omega) (by unfold tp_tl at z9; omega)).trans (hkp2 k9 z9)
            rw [← hσ] at hE4
            have hMB := hE4.2.1
            have hsz4 : w4.1 201 47 = σ.1 0 9 := hE4.1.2.2.2.2.2.2.2.2.1
            have hQ4 : v_Q σ w4 := ⟨hsz4, fun i i0 i1 => ⟨(hMB i i0 i1).1, (hMB i i0 i1).2.2.2.1, (hMB i i0 i1).2.2.2.2.1⟩⟩
            have hn4 : w4.1 201 27 = n := by rw [hE4.2.2.2.2 27 (by omega)]; exact hm6
            have hA4 : ∀ j, 0 ≤ j → j < n → w4.1 212 j = A j := fun j j0 j1 => by rw [hE4.2.2.2.1 212 (by omega) (by omega)]; exact hTm.2.1 j j0 j1
            have h264 : w4.1 201 26 = f 0 := by rw [hE4.2.2.2.2 26 (by omega)]; exact hall
            have h704 : w4.1 201 70 = 0 := by rw [hE4.2.2.2.2 70 (by omega), hGm.2 70 (by omega)]; rfl
            have hLr := tp_R_log hR 0 (by decide) hld
            have hL4 : f_L 0 (tp_gf μ 0) w4 := ⟨by omega, h704, fun i i0 i1 => by rw [hkp4 210 (by unfold tp_tl; omega)]; rfl, hLr.2.1, fun i i0 i1 => (hLr.2.2 i i0 i1).2.2⟩
            refine g_iconst rfl ⟨by decide, by decide⟩ ?_
            refine x_zreturn rfl rfl (Or.inr rfl) ?_
            intro _
            refine g_if_ne (tgt := 31) rfl (by decide) (fun _ => ?_) (fun hx => absurd hx (by omega))
            refine g_aload_n rfl rfl ?_
            refine g_cV (as := []) (s_fiA hG hw hW hp9 HH hQ4 hL4 h264 hn4 hA4) rfl rfl mX12_findsAll_ok rfl rfl rfl (by decide) rfl rfl rfl ?_
            rintro _ w7 ⟨rfl, hf7, hG7⟩ _
            have hkp7 : tp_kp μ w7 := v_G3_kp hkp4 hG7
            have h737 : w7.1 201 73 = (q_FL A n σ (tp_gf μ 0) (σ.1 0 9)).1 := hf7.1
            have h267 : w7.1 201 26 = f 0 := by rw [hG7.2 26 (by omega) (by omega) (by omega)]; exact h264
            refine g_iload rfl rfl ?_
            refine g_bipush rfl ⟨by decide, by decide⟩ (by decide) ?_
            refine g_icmp_lt (tgt := 70) rfl (by decide) (fun hx => absurd hx (by omega)) (fun _ => ?_)
            refine g_iload rfl rfl ?_
            refine g_bipush rfl ⟨by decide, by decide⟩ (by decide) ?_
            refine x_isub (z := w - 10) rfl (by omega) ⟨by omega, by omega⟩ ?_
            refine g_aload_n rfl rfl ?_
            refine x_geti (v := (w7.1 201 73)) rfl rfl (by decide) (Or.inl rfl) rfl ?_
            refine g_icmp_ge (tgt := 67) rfl (by decide) (fun hx => absurd hx (by omega)) (fun _ => ?_)
            refine g_aload_n rfl rfl ?_
            refine x_getF (r := 231) hG rfl rfl (by decide) (Or.inr ⟨_, rfl⟩) rfl ?_
            refine g_iload rfl rfl ?_
            refine g_bipush rfl ⟨by decide, by decide⟩ (by decide) ?_
            refine x_isub (z := w - 10) rfl (by omega) ⟨by omega, by omega⟩ ?_
            refine x_iald (v := (w7.1 231 (w - 10))) rfl rfl (by decide) (by omega) (by omega) rfl ?_
            refine g_goto (tgt := 69) rfl (by decide) ?_
            refine x_ireturn rfl rfl ?_
            exact ⟨(by first | rfl | (exfalso; omega) | exact congrArg (fun z => some (tI z)) (by rw [h737, h796]) | exact congrArg (fun z => some (tI z)) ((hf7.2.1 (w - 10) (by omega) (by omega)).trans (hf6.2.1 (w - 10) (by omega) (by omega)).symm)), tp_R_kp hR hkp7⟩
      · refine g_aload_n rfl rfl ?_
        refine x_getF (r := 79) hG rfl rfl (by decide) (Or.inl ⟨_, rfl⟩) rfl ?_
        refine g_aload_n rfl rfl ?_
        refine x_getF (r := 50) hG rfl rfl (by decide) (Or.inl ⟨_, rfl⟩) rfl ?_
        refine x_getM (v := (some c)) hG rfl rfl (by decide) (Or.inl ⟨_, rfl⟩) rfl (by first | exact hco | exact hco3 | exact hco5 | exact hco6) ?_
        refine g_cV (as := [tR (some c)]) (s_ask hG hc hcl hw hn0 hf6 hN6 hCd6) rfl rfl mX2_ask_ok rfl rfl rfl (by decide) rfl rfl rfl ?_
        rintro _ w8 ⟨rfl, hF8⟩ _
        have hkp8 : tp_kp μ w8 := q_f1_kp (by unfold tp_tl; omega) hkp6 hF8
        have h206b : w8.1 206 3 = μ.1 206 3 := by rw [hkp8 206 (by unfold tp_tl; omega)]
        refine x_ireturn rfl rfl ?_
        refine ⟨_, rfl, ?_⟩
        refine tp_ok_of mX12_fits_ok rfl (Nat.le_refl _) ?_
        refine g_aload_n rfl rfl ?_
        refine g_iconst rfl ⟨by decide, by decide⟩ ?_
        refine g_puti rfl rfl (by decide) rfl rfl ?_
        refine g_aload_n rfl rfl ?_
        refine g_iload_n rfl rfl ?_
        refine g_puti rfl rfl (by decide) rfl rfl ?_
        refine g_aload_n rfl rfl ?_
        refine g_iconst rfl ⟨by decide, by decide⟩ ?_
        refine g_iload_n rfl rfl ?_
        refine g_iV (as := [tI 3, tI 0]) mX12_is_ok rfl rfl rfl rfl rfl rfl (by decide) rfl rfl rfl ?_
        refine g_iload_n rfl rfl ?_
        refine g_iconst rfl ⟨by decide, by decide⟩ ?_
        refine g_aload_n rfl rfl ?_
        refine x_getF (r := 206) hG rfl rfl (by decide) (Or.inr ⟨_, rfl⟩) rfl ?_
        refine g_iload_n rfl rfl ?_
        refine x_iald (v := (w8.1 206 3)) rfl rfl (by decide) (by decide) (by decide) rfl ?_
        refine g_iconst rfl ⟨by decide, by decide⟩ ?_
        refine x_isub (z := (w8.1 206 3) - 1) rfl (by omega) ⟨by omega, by omega⟩ ?_
        refine g_iS (as := [tI 0, tI 0, tI ((w8.1 206 3) - 1)]) mX12_in_ok rfl rfl rfl rfl rfl rfl rfl ?_
        refine g_iload_n rfl rfl ?_
        refine g_iload_n rfl rfl ?_
        refine g_icmp_lt (tgt := 14) rfl (by decide) (fun hx => absurd hx (by omega)) (fun _ => ?_)
        refine g_iload_n rfl rfl ?_
        refine g_iload_n rfl rfl ?_
        refine g_icmp_gt (tgt := 14) rfl (by decide) (fun hx => absurd hx (by omega)) (fun _ => ?_)
        refine g_iconst rfl ⟨by decide, by decide⟩ ?_
        refine g_goto (tgt := 15) rfl (by decide) ?_
        refine x_zreturn rfl rfl (Or.inr rfl) ?_
        intro _
        refine x_zreturn rfl rfl (Or.inr rfl) ?_
        intro _
        refine g_if_eq (tgt := 28) rfl (by decide) (fun hx => absurd hx (by omega)) (fun _ => ?_)
        refine g_aload_n rfl rfl ?_
        refine g_iload_n rfl rfl ?_
        refine g_iload_n rfl rfl ?_
        refine g_iV (as := [tI (a : Int), tI (d : Int)]) mX12_layPackets_ok rfl rfl rfl rfl rfl rfl (by decide) rfl rfl rfl ?_
        refine g_aload_n rfl rfl ?_
        refine g_iload_n rfl rfl ?_
        refine g_iload_n rfl rfl ?_
        refine g_cV (as := [tI (a : Int), tI (d : Int)]) (hM _ (tp_kp_pi (by decide) (tp_kp_pi (by decide) hkp8))) rfl rfl mX12_lay_ok rfl rfl rfl (by decide) rfl rfl rfl ?_
        rintro _ w2 ⟨rfl, hTm, hMc, hGm, hdr, hdm⟩ _
        have hkp2 : tp_kp μ w2 := m_G_kp (tp_kp_pi (by decide) (tp_kp_pi (by decide) hkp8)) hGm
        have hm6 := hTm.1
        have hall := hMc.2.2.1
        refine g_if_ne (tgt := 11) rfl (by decide) (fun _ => ?_) (fun hx => absurd hx (by omega))
        refine g_aload_n rfl rfl ?_
        refine g_aload_n rfl rfl ?_
        refine g_iconst rfl ⟨by decide, by decide⟩ ?_
        refine g_cV (as := [tI 1]) (s_of hG hMc (by omega) (by omega)) rfl rfl mX12_of_ok rfl rfl rfl (by decide) rfl rfl rfl ?_
        rintro _ w9 ⟨rfl, hw9⟩ _
        have hw9 := hw9.symm
        subst hw9
        refine g_aload_n rfl rfl ?_
        refine g_iconst rfl ⟨by decide, by decide⟩ ?_
        refine g_cV (as := [tI 2]) (s_of hG hMc (by omega) (by omega)) rfl rfl mX12_of_ok rfl rfl rfl (by decide) rfl rfl rfl ?_
        rintro _ w9 ⟨rfl, hw9⟩ _
        have hw9 := hw9.symm
        subst hw9
        refine g_cV (as := [tI (f 1), tI (f 2)]) (s_encodesM hG hw hMc hW hTm (by omega) (by omega)) rfl rfl mX12_encodes_ok rfl rfl rfl (by decide) rfl rfl rfl ?_
        rintro _ w4 ⟨rfl, hE4⟩ _
        have hkp4 : tp_kp μ w4 := fun k9 z9 => (hE4.2.2.2.1 k9 (by unfold tp_tl at z9; omega) (by unfold tp_tl at z9; omega)).trans (hkp2 k9 z9)
        rw [← hσ] at hE4
        have hMB := hE4.2.1
        have hsz4 : w4.1 201 47 = σ.1 0 9 := hE4.1.2.2.2.2.2.2.2.2.1
        have hQ4 : v_Q σ w4 := ⟨hsz4, fun i i0 i1 => ⟨(hMB i i0 i1).1, (hMB i i0 i1).2.2.2.1, (hMB i i0 i1).2.2.2.2.1⟩⟩
        have hn4 : w4.1 201 27 = n := by rw [hE4.2.2.2.2 27 (by omega)]; exact hm6
        have hA4 : ∀ j, 0 ≤ j → j < n → w4.1 212 j = A j := fun j j0 j1 => by rw [hE4.2.2.2.1 212 (by omega) (by omega)]; exact hTm.2.1 j j0 j1
        have h264 : w4.1 201 26 = f 0 := by rw [hE4.2.2.2.2 26 (by omega)]; exact hall
        have h704 : w4.1 201 70 = 0 := by rw [hE4.2.2.2.2 70 (by omega), hGm.2 70 (by omega)]; rfl
        have hLr := tp_R_log hR 0 (by decide) hld
        have hL4 : f_L 0 (tp_gf μ 0) w4 := ⟨by omega, h704, fun i i0 i1 => by rw [hkp4 210 (by unfold tp_tl; omega)]; rfl, hLr.2.1, fun i i0 i1 => (hLr.2.2 i i0 i1).2.2⟩
        refine g_iconst rfl ⟨by decide, by decide⟩ ?_
        refine x_zreturn rfl rfl (Or.inr rfl) ?_
        intro _
        refine g_if_ne (tgt := 31) rfl (by decide) (fun _ => ?_) (fun hx => absurd hx (by omega))
        refine g_aload_n rfl rfl ?_
        refine g_cV (as := []) (s_fiA hG hw hW hp9 HH hQ4 hL4 h264 hn4 hA4) rfl rfl mX12_findsAll_ok rfl rfl rfl (by decide) rfl rfl rfl ?_
        rintro _ w7 ⟨rfl, hf7, hG7⟩ _
        have hkp7 : tp_kp μ w7 := v_G3_kp hkp4 hG7
        have h737 : w7.1 201 73 = (q_FL A n σ (tp_gf μ 0) (σ.1 0 9)).1 := hf7.1
        have h267 : w7.1 201 26 = f 0 := by rw [hG7.2 26 (by omega) (by omega) (by omega)]; exact h264
        refine g_iload rfl rfl ?_
        refine g_bipush rfl ⟨by decide, by decide⟩ (by decide) ?_
        refine g_icmp_lt (tgt := 70) rfl (by decide) (fun _ => ?_) (fun hx => absurd hx (by omega))
        refine g_iload rfl rfl ?_
        refine g_if_ne (tgt := 82) rfl (by decide) (fun _ => ?_) (fun hx => absurd hx (by omega))
        refine g_iload rfl rfl ?_
        refine g_iconst rfl ⟨by decide, by decide⟩ ?_
        refine g_icmp_ne (tgt := 95) rfl (by decide) (fun hx => absurd hx (by omega)) (fun _ => ?_)
        refine g_aload_n rfl rfl ?_
        refine g_cV (as := []) (s_askM hG hf7 hN6 hw0 h267) rfl rfl mX12_ask_ok rfl rfl rfl (by decide) rfl rfl rfl ?_
        rintro _ w9 ⟨rfl, hw9⟩ _
        have hw9 := hw9.symm
        subst hw9
        refine g_goto (tgt := 97) rfl (by decide) ?_
        refine x_ireturn rfl rfl ?_
        exact ⟨(by first | rfl | (exfalso; omega) | exact congrArg (fun z => some (tI z)) (by rw [h737, h796]) | exact congrArg (fun z => some (tI z)) ((hf7.2.1 (w - 10) (by omega) (by omega)).trans (hf6.2.1 (w - 10) (by omega) (by omega)).symm)), tp_R_kp hR hkp7⟩
    · refine g_aload_n rfl rfl ?_
      refine x_getF (r := 79) hG rfl rfl (by decide) (Or.inl ⟨_, rfl⟩) rfl ?_
      refine x_geti (v := (w6.1 79 3)) rfl rfl (by decide) (Or.inl rfl) rfl ?_
      refine x_ireturn rfl rfl ?_
      refine ⟨_, rfl, ?_⟩
      refine tp_ok_of mX12_fits_ok rfl (Nat.le_refl _) ?_
      refine g_aload_n rfl rfl ?_
      refine g_iconst rfl ⟨by decide, by decide⟩ ?_
      refine g_puti rfl rfl (by decide) rfl rfl ?_
      refine g_aload_n rfl rfl ?_
      refine g_iload_n rfl rfl ?_
      refine g_puti rfl rfl (by decide) rfl rfl ?_
      refine g_aload_n rfl rfl ?_
      refine g_iconst rfl ⟨by decide, by decide⟩ ?_
      refine g_iload_n rfl rfl ?_
      refine g_iV (as := [tI 3, tI 0]) mX12_is_ok rfl rfl rfl rfl rfl rfl (by decide) rfl rfl rfl ?_
      refine g_iload_n rfl rfl ?_
      refine g_iconst rfl ⟨by decide, by decide⟩ ?_
      refine g_aload_n rfl rfl ?_
      refine x_getF (r := 206) hG rfl rfl (by decide) (Or.inr ⟨_, rfl⟩) rfl ?_
      refine g_iload_n rfl rfl ?_
      refine x_iald (v := (w6.1 206 3)) rfl rfl (by decide) (by decide) (by decide) rfl ?_
      refine g_iconst rfl ⟨by decide, by decide⟩ ?_
      refine x_isub (z := (w6.1 206 3) - 1) rfl (by omega) ⟨by omega, by omega⟩ ?_
      refine g_iS (as := [tI 0, tI 0, tI ((w6.1 206 3) - 1)]) mX12_in_ok rfl rfl rfl rfl rfl rfl rfl ?_
      refine g_iload_n rfl rfl ?_
      refine g_iload_n rfl rfl ?_
      refine g_icmp_lt (tgt := 14) rfl (by decide) (fun hx => absurd hx (by omega)) (fun _ => ?_)
      refine g_iload_n rfl rfl ?_
      refine g_iload_n rfl rfl ?_
      refine g_icmp_gt (tgt := 14) rfl (by decide) (fun hx => absurd hx (by omega)) (fun _ => ?_)
      refine g_iconst rfl ⟨by decide, by decide⟩ ?_
      refine g_goto (tgt := 15) rfl (by decide) ?_
      refine x_zreturn rfl rfl (Or.inr rfl) ?_
      intro _
      refine x_zreturn rfl rfl (Or.inr rfl) ?_
      intro _
      refine g_if_eq (tgt := 28) rfl (by decide) (fun hx => absurd hx (by omega)) (fun _ => ?_)
      refine g_aload_n rfl rfl ?_
      refine g_iload_n rfl rfl ?_
      refine g_iload_n rfl rfl ?_
      refine g_iV (as := [tI (a : Int), tI (d : Int)]) mX12_layPackets_ok rfl rfl rfl rfl rfl rfl (by decide) rfl rfl rfl ?_
      refine g_aload_n rfl rfl ?_
      refine g_iload_n rfl rfl ?_
      refine g_iload_n rfl rfl ?_
      refine g_cV (as := [tI (a : Int), tI (d : Int)]) (hM _ (tp_kp_pi (by decide) (tp_kp_pi (by decide) hkp6))) rfl rfl mX12_lay_ok rfl rfl rfl (by decide) rfl rfl rfl ?_
      rintro _ w2 ⟨rfl, hTm, hMc, hGm, hdr, hdm⟩ _
      have hkp2 : tp_kp μ w2 := m_G_kp (tp_kp_pi (by decide) (tp_kp_pi (by decide) hkp6)) hGm
      have hm6 := hTm.1
      have hall := hMc.2.2.1
      refine g_if_ne (tgt := 11) rfl (by decide) (fun _ => ?_) (fun hx => absurd hx (by omega))
      refine g_aload_n rfl rfl ?_
      refine g_aload_n rfl rfl ?_
      refine g_iconst rfl ⟨by decide, by decide⟩ ?_
      refine g_cV (as := [tI 1]) (s_of hG hMc (by omega) (by omega)) rfl rfl mX12_of_ok rfl rfl rfl (by decide) rfl rfl rfl ?_
      rintro _ w9 ⟨rfl, hw9⟩ _
      have hw9 := hw9.symm
      subst hw9
      refine g_aload_n rfl rfl ?_
      refine g_iconst rfl ⟨by decide, by decide⟩ ?_
      refine g_cV (as := [tI 2]) (s_of hG hMc (by omega) (by omega)) rfl rfl mX12_of_ok rfl rfl rfl (by decide) rfl rfl rfl ?_
      rintro _ w9 ⟨rfl, hw9⟩ _
      have hw9 := hw9.symm
      subst hw9
      refine g_cV (as := [tI (f 1), tI (f 2)]) (s_encodesM hG hw hMc hW hTm (by omega) (by omega)) rfl rfl mX12_encodes_ok rfl rfl rfl (by decide) rfl rfl rfl ?_
      rintro _ w4 ⟨rfl, hE4⟩ _
      have hkp4 : tp_kp μ w4 := fun k9 z9 => (hE4.2.2.2.1 k9 (by unfold tp_tl at z9; omega) (by unfold tp_tl at z9; omega)).trans (hkp2 k9 z9)
      rw [← hσ] at hE4
      have hMB := hE4.2.1
      have hsz4 : w4.1 201 47 = σ.1 0 9 := hE4.1.2.2.2.2.2.2.2.2.1
      have hQ4 : v_Q σ w4 := ⟨hsz4, fun i i0 i1 => ⟨(hMB i i0 i1).1, (hMB i i0 i1).2.2.2.1, (hMB i i0 i1).2.2.2.2.1⟩⟩
      have hn4 : w4.1 201 27 = n := by rw [hE4.2.2.2.2 27 (by omega)]; exact hm6
      have hA4 : ∀ j, 0 ≤ j → j < n → w4.1 212 j = A j := fun j j0 j1 => by rw [hE4.2.2.2.1 212 (by omega) (by omega)]; exact hTm.2.1 j j0 j1
      have h264 : w4.1 201 26 = f 0 := by rw [hE4.2.2.2.2 26 (by omega)]; exact hall
      have h704 : w4.1 201 70 = 0 := by rw [hE4.2.2.2.2 70 (by omega), hGm.2 70 (by omega)]; rfl
      have hLr := tp_R_log hR 0 (by decide) hld
      have hL4 : f_L 0 (tp_gf μ 0) w4 := ⟨by omega, h704, fun i i0 i1 => by rw [hkp4 210 (by unfold tp_tl; omega)]; rfl, hLr.2.1, fun i i0 i1 => (hLr.2.2 i i0 i1).2.2⟩
      refine g_iconst rfl ⟨by decide, by decide⟩ ?_
      refine x_zreturn rfl rfl (Or.inr rfl) ?_
      intro _
      refine g_if_ne (tgt := 31) rfl (by decide) (fun _ => ?_) (fun hx => absurd hx (by omega))
      refine g_aload_n rfl rfl ?_
      refine g_cV (as := []) (s_fiA hG hw hW hp9 HH hQ4 hL4 h264 hn4 hA4) rfl rfl mX12_findsAll_ok rfl rfl rfl (by decide) rfl rfl rfl ?_
      rintro _ w7 ⟨rfl, hf7, hG7⟩ _
      have hkp7 : tp_kp μ w7 := v_G3_kp hkp4 hG7
      have h737 : w7.1 201 73 = (q_FL A n σ (tp_gf μ 0) (σ.1 0 9)).1 := hf7.1
      have h267 : w7.1 201 26 = f 0 := by rw [hG7.2 26 (by omega) (by omega) (by omega)]; exact h264
      refine g_iload rfl rfl ?_
      refine g_bipush rfl ⟨by decide, by decide⟩ (by decide) ?_
      refine g_icmp_lt (tgt := 70) rfl (by decide) (fun _ => ?_) (fun hx => absurd hx (by omega))
      refine g_iload rfl rfl ?_
      refine g_if_ne (tgt := 82) rfl (by decide) (fun hx => absurd hx (by omega)) (fun _ => ?_)
      refine g_aload_n rfl rfl ?_
      refine x_geti (v := (w7.1 201 73)) rfl rfl (by decide) (Or.inl rfl) rfl ?_
      refine g_goto (tgt := 97) rfl (by decide) ?_
      refine x_ireturn rfl rfl ?_
      exact ⟨(by first | rfl | (exfalso; omega) | exact congrArg (fun z => some (tI z)) (by rw [h737, h796]) | exact congrArg (fun z => some (tI z)) ((hf7.2.1 (w - 10) (by omega) (by omega)).trans (hf6.2.1 (w - 10) (by omega) (by omega)).symm)), tp_R_kp hR hkp7⟩
set_option maxHeartbeats 4000000 in
set_option maxRecDepth 100000 in
theorem p_fits1 {G : tp_G} (hG : tp_Gf G = true) {a d w : Int} {μ : tp_M} (hR : tp_R μ) (hld : 1 < μ.1 5 3) (hwr : tp_r32 w) : tp_q G mX11_fits mX12_fits [tI a, tI d, tI 1, tI w] μ := by
  have hm2l := tp_R_many hR 3 (by decide) (by decide)
  have hm0 := tp_R_many hR 0 (by decide) (by decide)
  have hm1 := tp_R_many hR 1 (by decide) (by decide)
  by_cases hab : ((a < 0 ∨ μ.1 5 0 ≤ a) ∨ (d < 0 ∨ μ.1 5 1 ≤ d))
  · obtain ⟨hX, hM⟩ := tp_layo hG hR hab
    refine tp_ok_of mX11_fits_ok rfl (Nat.le_refl _) ?_
    refine g_aload_n rfl rfl ?_
    refine x_getF (r := 1) hG rfl rfl (by decide) (Or.inl ⟨_, rfl⟩) rfl ?_
    refine g_iconst rfl ⟨by decide, by decide⟩ ?_
    refine g_iload_n rfl rfl ?_
    refine g_cV (as := [tI 3, tI 1]) (s_rowOf31 hG hld) rfl rfl mX9_rowOf_ok rfl rfl rfl (by decide) rfl rfl rfl ?_
    rintro _ w9 ⟨rfl, hw9⟩ _
    have hw9 := hw9.symm
    subst hw9
    refine g_astore rfl rfl rfl ?_
    refine g_aload rfl rfl ?_
    refine g_ifnull (tgt := 25) rfl (by decide) (fun hx => by cases hx) (fun _ _ => ?_)
    refine g_aload_n rfl rfl ?_
    refine g_iload_n rfl rfl ?_
    refine g_iload_n rfl rfl ?_
    refine g_cV (as := [tI a, tI d]) (hX) rfl rfl mX11_follow_ok rfl rfl rfl (by decide) rfl rfl rfl ?_
    rintro _ w9 ⟨rfl, hw9⟩ _
    have hw9 := hw9.symm
    subst hw9
    refine g_if_ne (tgt := 28) rfl (by decide) (fun hx => absurd hx (by omega)) (fun _ => ?_)
    refine g_bipush rfl ⟨by decide, by decide⟩ (by decide) ?_
    refine x_ireturn rfl rfl ?_
    refine ⟨_, rfl, ?_⟩
    refine tp_ok_of mX12_fits_ok rfl (Nat.le_refl _) ?_
    refine g_aload_n rfl rfl ?_
    refine g_iconst rfl ⟨by decide, by decide⟩ ?_
    refine g_puti rfl rfl (by decide) rfl rfl ?_
    refine g_aload_n rfl rfl ?_
    refine g_iload_n rfl rfl ?_
    refine g_puti rfl rfl (by decide) rfl rfl ?_
    refine g_aload_n rfl rfl ?_
    refine g_iconst rfl ⟨by decide, by decide⟩ ?_
    refine g_iload_n rfl rfl ?_
    refine g_iV (as := [tI 3, tI 1]) mX12_is_ok rfl rfl rfl rfl rfl rfl (by decide) rfl rfl rfl ?_
    refine g_iload_n rfl rfl ?_
    refine g_iconst rfl ⟨by decide, by decide⟩ ?_
    refine g_aload_n rfl rfl ?_
    refine x_getF (r := 206) hG rfl rfl (by decide) (Or.inr ⟨_, rfl⟩) rfl ?_
    refine g_iload_n rfl rfl ?_
    refine x_iald (v := (μ.1 206 3)) rfl rfl (by decide) (by decide) (by decide) rfl ?_
    refine g_iconst rfl ⟨by decide, by decide⟩ ?_
    refine x_isub (z := (μ.1 206 3) - 1) rfl (by omega) ⟨by omega, by omega⟩ ?_
    refine g_iS (as := [tI 1, tI 0, tI ((μ.1 206 3) - 1)]) mX12_in_ok rfl rfl rfl rfl rfl rfl rfl ?_
    refine g_iload_n rfl rfl ?_
    refine g_iload_n rfl rfl ?_
    refine g_icmp_lt (tgt := 14) rfl (by decide) (fun hx => absurd hx (by omega)) (fun _ => ?_)
    refine g_iload_n rfl rfl ?_
    refine g_iload_n rfl rfl ?_
    refine g_icmp_gt (tgt := 14) rfl (by decide) (fun hx => absurd hx (by omega)) (fun _ => ?_)
    refine g_iconst rfl ⟨by decide, by decide⟩ ?_
    refine g_goto (tgt := 15) rfl (by decide) ?_
    refine x_zreturn rfl rfl (Or.inr rfl) ?_
    intro _
    refine x_zreturn rfl rfl (Or.inr rfl) ?_
    intro _
    refine g_if_eq (tgt := 28) rfl (by decide) (fun hx => absurd hx (by omega)) (fun _ => ?_)
    refine g_aload_n rfl rfl ?_
    refine g_iload_n rfl rfl ?_
    refine g_iload_n rfl rfl ?_
    refine g_iV (as := [tI a, tI d]) mX12_layPackets_ok rfl rfl rfl rfl rfl rfl (by decide) rfl rfl rfl ?_
    refine g_aload_n rfl rfl ?_
    refine g_iload_n rfl rfl ?_
    refine g_iload_n rfl rfl ?_
    refine g_cV (as := [tI a, tI d]) (hM _ (tp_kp_pi (by decide) (tp_kp_pi (by decide) tp_kp_rf))) rfl rfl mX12_lay_ok rfl rfl rfl (by decide) rfl rfl rfl ?_
    rintro _ w2 ⟨rfl, hGm⟩ _
    have hkp2 : tp_kp μ w2 := m_G_kp (tp_kp_pi (by decide) (tp_kp_pi (by decide) tp_kp_rf)) hGm
    refine g_if_ne (tgt := 11) rfl (by decide) (fun hx => absurd hx (by omega)) (fun _ => ?_)
    refine g_iconst rfl ⟨by decide, by decide⟩ ?_
    refine x_zreturn rfl rfl (Or.inl rfl) ?_
    intro _
    refine g_if_ne (tgt := 31) rfl (by decide) (fun hx => absurd hx (by omega)) (fun _ => ?_)
    refine g_bipush rfl ⟨by decide, by decide⟩ (by decide) ?_
    refine x_ireturn rfl rfl ?_
    exact ⟨rfl, tp_R_kp hR hkp2⟩
  · obtain ⟨a, rfl⟩ : ∃ a9 : Nat, a = (a9 : Int) := ⟨a.toNat, by omega⟩
    obtain ⟨d, rfl⟩ : ∃ d9 : Nat, d = (d9 : Int) := ⟨d.toNat, by omega⟩
    obtain ⟨n, A, B, Y, H, E, D, U, T, hW, hw, hCd0, hX, hM⟩ := tp_lay hG hR (k := a) (d := d) (by omega) (by omega) (by omega) (by omega)
    generalize tp_cf μ (a : Int) = f at hW hw hCd0 hX hM
    obtain ⟨c, hcE⟩ : ∃ c, c = 6 + 5 * a := ⟨_, rfl⟩
    rw [← hcE] at hCd0 hX
    have hc : tp_SH c = .inl 0 := by rcases (show a = 0 ∨ a = 1 by omega) with q | q <;> (subst q; subst hcE; rfl)
    have hcl : c < 37 := by omega
    have hcn : c < 234 := by omega
    have hw0 := hw.1
    have hn0 := hW.1
    have hrl := hw.2.2
    have hwl := hwr.1
    have hwu := hwr.2
    refine tp_ok_of mX11_fits_ok rfl (Nat.le_refl _) ?_
    refine g_aload_n rfl rfl ?_
    refine x_getF (r := 1) hG rfl rfl (by decide) (Or.inl ⟨_, rfl⟩) rfl ?_
    refine g_iconst rfl ⟨by decide, by decide⟩ ?_
    refine g_iload_n rfl rfl ?_
    refine g_cV (as := [tI 3, tI 1]) (s_rowOf31 hG hld) rfl rfl mX9_rowOf_ok rfl rfl rfl (by decide) rfl rfl rfl ?_
    rintro _ w9 ⟨rfl, hw9⟩ _
    have hw9 := hw9.symm
    subst hw9
    refine g_astore rfl rfl rfl ?_
    refine g_aload rfl rfl ?_
    refine g_ifnull (tgt := 25) rfl (by decide) (fun hx => by cases hx) (fun _ _ => ?_)
    refine g_aload_n rfl rfl ?_
    refine g_iload_n rfl rfl ?_
    refine g_iload_n rfl rfl ?_
    refine g_cV (as := [tI (a : Int), tI (d : Int)]) (hX) rfl rfl mX11_follow_ok rfl rfl rfl (by decide) rfl rfl rfl ?_
    rintro _ w1 ⟨rfl, hT, hco, hfr⟩ _
    have hCd : tp_Cd c f w1 := tp_Cd_fr hcl (fun k9 z9 => hfr k9 (by omega)) hCd0
    have hkp1 : tp_kp μ w1 := fun k9 z9 => hfr k9 (by unfold tp_tl at z9; omega)
    have hn6 := hT.1
    refine g_if_ne (tgt := 28) rfl (by decide) (fun _ => ?_) (fun hx => absurd hx (by omega))
    refine g_aload_n rfl rfl ?_
    refine g_iV (as := []) mX11_encode_ok rfl rfl rfl rfl rfl rfl (by decide) rfl rfl rfl ?_
    refine g_aload_n rfl rfl ?_
    refine x_getF (r := 50) hG rfl rfl (by decide) (Or.inl ⟨_, rfl⟩) rfl ?_
    refine x_getM (v := (some c)) hG rfl rfl (by decide) (Or.inl ⟨_, rfl⟩) rfl (by first | exact hco | exact hco3 | exact hco5 | exact hco6) ?_
    refine g_astore_n rfl rfl rfl ?_
    refine g_aload_n rfl rfl ?_
    refine g_ifnull (tgt := 34) rfl (by decide) (fun hx => by cases hx) (fun _ _ => ?_)
    refine g_aload_n rfl rfl ?_
    refine x_getF (r := 62) hG rfl rfl (by decide) (Or.inl ⟨_, rfl⟩) rfl ?_
    refine g_aload_n rfl rfl ?_
    refine g_aload_n rfl rfl ?_
    refine x_getF (r := 50) hG rfl rfl (by decide) (Or.inl ⟨_, rfl⟩) rfl ?_
    refine g_aload_n rfl rfl ?_
    refine g_iconst rfl ⟨by decide, by decide⟩ ?_
    refine g_cV (as := [tI 0]) (s_ruleN (n := 1) hG hc hcl hCd (by decide) (by decide) (by decide)) rfl rfl mX0_rule_ok rfl hc rfl hcn rfl rfl rfl ?_
    rintro _ w9 ⟨rfl, hw9⟩ _
    have hw9 := hw9.symm
    subst hw9
    refine g_aload_n rfl rfl ?_
    refine g_iconst rfl ⟨by decide, by decide⟩ ?_
    refine g_cV (as := [tI 1]) (s_ruleN (n := 2) hG hc hcl hCd (by decide) (by decide) (by decide)) rfl rfl mX0_rule_ok rfl hc rfl hcn rfl rfl rfl ?_
    rintro _ w9 ⟨rfl, hw9⟩ _
    have hw9 := hw9.symm
    subst hw9
    refine g_cV (as := [tR (some c), tR (some 50), tI (f 1), tI (f 2)]) (s_encode hG hc hcl hw hCd hW hT (by omega) (by omega)) rfl rfl mX1_encode_ok rfl rfl rfl (by decide) rfl rfl rfl ?_
    rintro _ w3 ⟨rfl, hE3⟩ _
    have hkp3 : tp_kp μ w3 := fun k9 z9 => (hE3.2.2.2.2.1 k9 (by unfold tp_tl at z9; omega)).trans (hkp1 k9 z9)
    have hBJ := e_all_B (bt := f 1) (dp := f 2) hw hW (by omega) (by omega)
    obtain ⟨σ, hσ⟩ : ∃ σ9, σ9 = (e_all f (f 1) (f 2) A B Y n) := ⟨_, rfl⟩
    rw [← hσ] at hE3 hBJ
    have hbB := hBJ.1
    have hJ1 := hBJ.2.1
    have hJ2 := hBJ.2.2.1
    have hsz3 : w3.1 63 4 = σ.1 0 9 := hE3.1.2.2.2.2.2.2.2.2.1
    have hp9 : 0 ≤ σ.1 0 9 ∧ σ.1 0 9 ≤ 209 := by omega
    have HH : ∀ p, 0 ≤ p → p < σ.1 0 9 → s_H f A B Y (f 2) n σ p := by rw [hσ]; exact H_all hw hW (by omega) (by omega)
    have hCd3 : tp_Cd c f w3 := tp_Cd_fr hcl (fun k9 z9 => hE3.2.2.2.2.1 k9 (by omega)) hCd
    have hco3 : w3.2 50 5 = some c := by rw [hE3.2.2.2.2.2]; exact hco
    have hT3 : c_T 50 n A B Y E D U T w3 := c_T_fr (fun c9 z1 z2 => hE3.2.2.2.2.1 c9 (by omega)) hT
    refine x_return rfl rfl ?_
    intro _
    refine g_aload_n rfl rfl ?_
    refine x_getF (r := 70) hG rfl rfl (by decide) (Or.inl ⟨_, rfl⟩) rfl ?_
    refine g_aload_n rfl rfl ?_
    refine x_getF (r := 50) hG rfl rfl (by decide) (Or.inl ⟨_, rfl⟩) rfl ?_
    refine x_getM (v := (some c)) hG rfl rfl (by decide) (Or.inl ⟨_, rfl⟩) rfl (by first | exact hco | exact hco3 | exact hco5 | exact hco6) ?_
    refine g_aload_n rfl rfl ?_
    refine x_getF (r := 62) hG rfl rfl (by decide) (Or.inl ⟨_, rfl⟩) rfl ?_
    refine x_getF (r := 63) hG rfl rfl (by decide) (Or.inl ⟨_, rfl⟩) rfl ?_
    refine g_cV (as := [tR (some c), tR (some 63)]) (s_walk hG hc hcl hw hW hCd3 hsz3 hE3.2.1 hp9 HH) rfl rfl mX10_go_ok rfl rfl rfl (by decide) rfl rfl rfl ?_
    rintro _ w5 ⟨rfl, hQ5, hF5, hP5⟩ _
    have hkp5 : tp_kp μ w5 := fun k9 z9 => (hF5 k9 (by unfold tp_tl at z9; omega)).trans (hkp3 k9 z9)
    have hpk5 : w5.2 70 5 = some 63 := by rw [hP5]; rfl
    have hco5 : w5.2 50 5 = some c := by rw [hP5]; exact hco3
    have hsz5 : w5.1 63 4 = σ.1 0 9 := by rw [hF5 63 (by omega)]; exact hsz3
    have hB5 : c_B σ w5 := fun i z0 z1 => by rw [hF5 64 (by omega), hF5 65 (by omega), hF5 66 (by omega), hF5 67 (by omega)]; exact hE3.2.1 i z0 z1
    have hT5 : c_T 50 n A B Y E D U T w5 := c_T_fr (fun c9 z1 z2 => hF5 c9 (by omega)) hT3
    have hCd5 : tp_Cd c f w5 := tp_Cd_fr hcl (fun k9 z9 => hF5 k9 (by omega)) hCd3
    have hU9 : 0 ≤ w_U σ (σ.1 0 9) ∧ w_U σ (σ.1 0 9) ≤ 200 := by
      have q := w_U_b HH (σ.1 0 9).toNat (by omega)
      rw [show (((σ.1 0 9).toNat : Nat) : Int) = σ.1 0 9 by omega] at q
      refine ⟨q.1, ?_⟩
      rcases (show σ.1 0 9 = 0 ∨ 1 ≤ σ.1 0 9 by omega) with z | z
      · rw [z]; show (0 : Int) ≤ 200; omega
      · have q2 := q.2 (by omega); have q3 := (HH (σ.1 0 9 - 1) (by omega) (by omega)).2.1; omega
    have hL5 : tp_Lg w5.1 37 (tp_gf μ 1) := by
      have hL := tp_R_log hR 1 (by decide) hld
      unfold tp_Lg at hL ⊢
      rw [hkp5 37 (by unfold tp_tl; omega), hkp5 (37 + 1) (by unfold tp_tl; omega), hkp5 (37 + 2) (by unfold tp_tl; omega)]
      exact hL
    refine g_aload_n rfl rfl ?_
    refine x_getF (r := 79) hG rfl rfl (by decide) (Or.inl ⟨_, rfl⟩) rfl ?_
    refine g_aload_n rfl rfl ?_
    refine x_getF (r := 70) hG rfl rfl (by decide) (Or.inl ⟨_, rfl⟩) rfl ?_
    refine g_aload_n rfl rfl ?_
    refine x_getF (r := 76) hG rfl rfl (by decide) (Or.inl ⟨_, rfl⟩) rfl ?_
    refine g_aload rfl rfl ?_
    refine g_cV (as := [tR (some 70), tR (some 76), tR (some 37)]) (s_find1 hG hn0 hp9 HH hw hW hsz5 hB5 hpk5 hQ5 hL5) rfl rfl mX2_find_ok rfl rfl rfl (by decide) rfl rfl rfl ?_
    rintro _ w6 ⟨rfl, hf6, hF6⟩ _
    have hkp6 : tp_kp μ w6 := fun k9 z9 => (hF6.1 k9 (by unfold tp_tl at z9; omega)).trans (hkp5 k9 z9)
    have hN6 : 0 ≤ (q_FL A n σ (tp_gf μ 1) (σ.1 0 9)).1 ∧ (q_FL A n σ (tp_gf μ 1) (σ.1 0 9)).1 ≤ 210 := by have := q_FL_b (A := A) (n := n) (σ := σ) (g := tp_gf μ 1) (k := σ.1 0 9) (by omega); omega
    have hCd6 : tp_Cd c f w6 := tp_Cd_fr hcl (fun k9 z9 => hF6.1 k9 (by omega)) hCd5
    have hco6 : w6.2 50 5 = some c := by rw [hF6.2]; exact hco5
    have h796 : w6.1 79 3 = (q_FL A n σ (tp_gf μ 1) (σ.1 0 9)).1 := hf6.1
    have h206 : w6.1 206 3 = μ.1 206 3 := by rw [hkp6 206 (by unfold tp_tl; omega)]
    refine g_iload rfl rfl ?_
    refine g_if_ne (tgt := 83) rfl (by decide) (fun h1 => ?_) (fun h1 => ?_)
    · refine g_iload rfl rfl ?_
      refine g_iconst rfl ⟨by decide, by decide⟩ ?_
      refine g_icmp_ne (tgt := 104) rfl (by decide) (fun h2 => ?_) (fun h2 => ?_)
      · refine g_iload rfl rfl ?_
        refine g_bipush rfl ⟨by decide, by decide⟩ (by decide) ?_
        refine g_icmp_lt (tgt := 126) rfl (by decide) (fun h3 => ?_) (fun h3 => ?_)
        · refine g_bipush rfl ⟨by decide, by decide⟩ (by decide) ?_
          refine x_ireturn rfl rfl ?_
          refine ⟨_, rfl, ?_⟩
          refine tp_ok_of mX12_fits_ok rfl (Nat.le_refl _) ?_
          refine g_aload_n rfl rfl ?_
          refine g_iconst rfl ⟨by decide, by decide⟩ ?_
          refine g_puti rfl rfl (by decide) rfl rfl ?_
          refine g_aload_n rfl rfl ?_
          refine g_iload_n rfl rfl ?_
          refine g_puti rfl rfl (by decide) rfl rfl ?_
          refine g_aload_n rfl rfl ?_
          refine g_iconst rfl ⟨by decide, by decide⟩ ?_
          refine g_iload_n rfl rfl ?_
          refine g_iV (as := [tI 3, tI 1]) mX12_is_ok rfl rfl rfl rfl rfl rfl (by decide) rfl rfl rfl ?_
          refine g_iload_n rfl rfl ?_
          refine g_iconst rfl ⟨by decide, by decide⟩ ?_
          refine g_aload_n rfl rfl ?_
          refine x_getF (r := 206) hG rfl rfl (by decide) (Or.inr ⟨_, rfl⟩) rfl ?_
          refine g_iload_n rfl rfl ?_
          refine x_iald (v := (w6.1 206 3)) rfl rfl (by decide) (by decide) (by decide) rfl ?_
          refine g_iconst rfl ⟨by decide, by decide⟩ ?_
          refine x_isub (z := (w6.1 206 3) - 1) rfl (by omega) ⟨by omega, by omega⟩ ?_
          refine g_iS (as := [tI 1, tI 0, tI ((w6.1 206 3) - 1)]) mX12_in_ok rfl rfl rfl rfl rfl rfl rfl ?_
          refine g_iload_n rfl rfl ?_
          refine g_iload_n rfl rfl ?_
          refine g_icmp_lt (tgt := 14) rfl (by decide) (fun hx => absurd hx (by omega)) (fun _ => ?_)
          refine g_iload_n rfl rfl ?_
          refine g_iload_n rfl rfl ?_
          refine g_icmp_gt (tgt := 14) rfl (by decide) (fun hx => absurd hx (by omega)) (fun _ => ?_)
          refine g_iconst rfl ⟨by decide, by decide⟩ ?_
          refine g_goto (tgt := 15) rfl (by decide) ?_
          refine x_zreturn rfl rfl (Or.inr rfl) ?_
          intro _
          refine x_zreturn rfl rfl (Or.inr rfl) ?_
          intro _
          refine g_if_eq (tgt := 28) rfl (by decide) (fun hx => absurd hx (by omega)) (fun _ => ?_)
          refine g_aload_n rfl rfl ?_
          refine g_iload_n rfl rfl ?_
          refine g_iload_n rfl rfl ?_
          refine g_iV (as := [tI (a : Int), tI (d : Int)]) mX12_layPackets_ok rfl rfl rfl rfl rfl rfl (by decide) rfl rfl rfl ?_
          refine g_aload_n rfl rfl ?_
          refine g_iload_n rfl rfl ?_
          refine g_iload_n rfl rfl ?_
          refine g_cV (as := [tI (a : Int), tI (d : Int)]) (hM _ (tp_kp_pi (by decide) (tp_kp_pi (by decide) hkp6))) rfl rfl mX12_lay_ok rfl rfl rfl (by decide) rfl rfl rfl ?_
          rintro _ w2 ⟨rfl, hTm, hMc, hGm, hdr, hdm⟩ _
          have hkp2 : tp_kp μ w2 := m_G_kp (tp_kp_pi (by decide) (tp_kp_pi (by decide) hkp6)) hGm
          have hm6 := hTm.1
          have hall := hMc.2.2.1
          refine g_if_ne (tgt := 11) rfl (by decide) (fun _ => ?_) (fun hx => absurd hx (by omega))
          refine g_aload_n rfl rfl ?_
          refine g_aload_n rfl rfl ?_
          refine g_iconst rfl ⟨by decide, by decide⟩ ?_
          refine g_cV (as := [tI 1]) (s_of hG hMc (by omega) (by omega)) rfl rfl mX12_of_ok rfl rfl rfl (by decide) rfl rfl rfl ?_
          rintro _ w9 ⟨rfl, hw9⟩ _
          have hw9 := hw9.symm
          subst hw9
          refine g_aload_n rfl rfl ?_
          refine g_iconst rfl ⟨by decide, by decide⟩ ?_
          refine g_cV (as := [tI 2]) (s_of hG hMc (by omega) (by omega)) rfl rfl mX12_of_ok rfl rfl rfl (by decide) rfl rfl rfl ?_
          rintro _ w9 ⟨rfl, hw9⟩ _
          have hw9 := hw9.symm
          subst hw9
          refine g_cV (as := [tI (f 1), tI (f 2)]) (s_encodesM hG hw hMc hW hTm (by omega) (by omega)) rfl rfl mX12_encodes_ok rfl rfl rfl (by decide) rfl rfl rfl ?_
          rintro _ w4 ⟨rfl, hE4⟩ _
          have hkp4 : tp_kp μ w4 := fun k9 z9 => (hE4.2.2.2.1 k9 (by unfold tp_tl at z9; omega) (by unfold tp_tl at z9; omega)).trans (hkp2 k9 z9)
          rw [← hσ] at hE4
          have hMB := hE4.2.1
          have hsz4 : w4.1 201 47 = σ.1 0 9 := hE4.1.2.2.2.2.2.2.2.2.1
          have hQ4 : v_Q σ w4 := ⟨hsz4, fun i i0 i1 => ⟨(hMB i i0 i1).1, (hMB i i0 i1).2.2.2.1, (hMB i i0 i1).2.2.2.2.1⟩⟩
          have hn4 : w4.1 201 27 = n := by rw [hE4.2.2.2.2 27 (by omega)]; exact hm6
          have hA4 : ∀ j, 0 ≤ j → j < n → w4.1 212 j = A j := fun j j0 j1 => by rw [hE4.2.2.2.1 212 (by omega) (by omega)]; exact hTm.2.1 j j0 j1
          have h264 : w4.1 201 26 = f 0 := by rw [hE4.2.2.2.2 26 (by omega)]; exact hall
          have h704 : w4.1 201 70 = 1 := by rw [hE4.2.2.2.2 70 (by omega), hGm.2 70 (by omega)]; rfl
          have hLr := tp_R_log hR 1 (by decide) hld
          have hL4 : f_L 1 (tp_gf μ 1) w4 := ⟨by omega, h704, fun i i0 i1 => by rw [hkp4 210 (by unfold tp_tl; omega)]; rfl, hLr.2.1, fun i i0 i1 => (hLr.2.2 i i0 i1).2.2⟩
          refine g_iconst rfl ⟨by decide, by decide⟩ ?_
          refine x_zreturn rfl rfl (Or.inr rfl) ?_
          intro _
          refine g_if_ne (tgt := 31) rfl (by decide) (fun _ => ?_) (fun hx => absurd hx (by omega))
          refine g_aload_n rfl rfl ?_
          refine g_cV (as := []) (s_fiA hG hw hW hp9 HH hQ4 hL4 h264 hn4 hA4) rfl rfl mX12_findsAll_ok rfl rfl rfl (by decide) rfl rfl rfl ?_
          rintro _ w7 ⟨rfl, hf7, hG7⟩ _
          have hkp7 : tp_kp μ w7 := v_G3_kp hkp4 hG7
          have h737 : w7.1 201 73 = (q_FL A n σ (tp_gf μ 1) (σ.1 0 9)).1 := hf7.1
          have h267 : w7.1 201 26 = f 0 := by rw [hG7.2 26 (by omega) (by omega) (by omega)]; exact h264
          refine g_iload rfl rfl ?_
          refine g_bipush rfl ⟨by decide, by decide⟩ (by decide) ?_
          refine g_icmp_lt (tgt := 70) rfl (by decide) (fun _ => ?_) (fun hx => absurd hx (by omega))
          refine g_iload rfl rfl ?_
          refine g_if_ne (tgt := 82) rfl (by decide) (fun h4 => ?_) (fun h4 => ?_)
          · refine g_iload rfl rfl ?_
            refine g_iconst rfl ⟨by decide, by decide⟩ ?_
            refine g_icmp_ne (tgt := 95) rfl (by decide) (fun h5 => ?_) (fun h5 => ?_)
            · refine g_bipush rfl ⟨by decide, by decide⟩ (by decide) ?_
              refine x_ireturn rfl rfl ?_
              exact ⟨(by first | rfl | (exfalso; omega) | exact congrArg (fun z => some (tI z)) (by rw [h737, h796]) | exact congrArg (fun z => some (tI z)) ((hf7.2.1 (w - 10) (by omega) (by omega)).trans (hf6.2.1 (w - 10) (by omega) (by omega)).symm)), tp_R_kp hR hkp7⟩
            · refine g_aload_n rfl rfl ?_
              refine g_cV (as := []) (s_askM hG hf7 hN6 hw0 h267) rfl rfl mX12_ask_ok rfl rfl rfl (by decide) rfl rfl rfl ?_
              rintro _ w9 ⟨rfl, hw9⟩ _
              have hw9 := hw9.symm
              subst hw9
              refine g_goto (tgt := 97) rfl (by decide) ?_
              refine x_ireturn rfl rfl ?_
              exact ⟨(by first | rfl | (exfalso; omega) | exact congrArg (fun z => some (tI z)) (by rw [h737, h796]) | exact congrArg (fun z => some (tI z)) ((hf7.2.1 (w - 10) (by omega) (by omega)).trans (hf6.2.1 (w - 10) (by omega) (by omega)).symm)), tp_R_kp hR hkp7⟩
          · refine g_aload_n rfl rfl ?_
            refine x_geti (v := (w7.1 201 73)) rfl rfl (by decide) (Or.inl rfl) rfl ?_
            refine g_goto (tgt := 97) rfl (by decide) ?_
            refine x_ireturn rfl rfl ?_
            exact ⟨(by first | rfl | (exfalso; omega) | exact congrArg (fun z => some (tI z)) (by rw [h737, h796]) | exact congrArg (fun z => some (tI z)) ((hf7.2.1 (w - 10) (by omega) (by omega)).trans (hf6.2.1 (w - 10) (by omega) (by omega)).symm)), tp_R_kp hR hkp7⟩
        · refine g_aload_n rfl rfl ?_
          refine x_getF (r := 79) hG rfl rfl (by decide) (Or.inl ⟨_, rfl⟩) rfl ?_
          refine g_iload rfl rfl ?_
          refine g_bipush rfl ⟨by decide, by decide⟩ (by decide) ?_
          refine x_isub (z := w - 10) rfl (by omega) ⟨by omega, by omega⟩ ?_
          refine g_iV (as := [tI (w - 10)]) mX2_lossAt_ok rfl rfl rfl rfl rfl rfl (by decide) rfl rfl rfl ?_
          refine g_iload_n rfl rfl ?_
          refine g_if_lt (tgt := 19) rfl (by decide) (fun hx => absurd hx (by omega)) (fun _ => ?_)
          refine g_iload_n rfl rfl ?_
          refine g_aload_n rfl rfl ?_
          refine x_geti (v := (w6.1 79 3)) rfl rfl (by decide) (Or.inl rfl) rfl ?_
          refine g_icmp_ge (tgt := 19) rfl (by decide) (fun h6 => ?_) (fun h6 => ?_)
          · refine g_bipush rfl ⟨by decide, by decide⟩ (by decide) ?_
            refine g_goto (tgt := 30) rfl (by decide) ?_
            refine x_ireturn rfl rfl ?_
            intro _
            refine g_goto (tgt := 128) rfl (by decide) ?_
            refine x_ireturn rfl rfl ?_
            refine ⟨_, rfl, ?_⟩
            refine tp_ok_of mX12_fits_ok rfl (Nat.le_refl _) ?_
            refine g_aload_n rfl rfl ?_
            refine g_iconst rfl ⟨by decide, by decide⟩ ?_
            refine g_puti rfl rfl (by decide) rfl rfl ?_
            refine g_aload_n rfl rfl ?_
            refine g_iload_n rfl rfl ?_
            refine g_puti rfl rfl (by decide) rfl rfl ?_
            refine g_aload_n rfl rfl ?_
            refine g_iconst rfl ⟨by decide, by decide⟩ ?_
            refine g_iload_n rfl rfl ?_
            refine g_iV (as := [tI 3, tI 1]) mX12_is_ok rfl rfl rfl rfl rfl rfl (by decide) rfl rfl rfl ?_
            refine g_iload_n rfl rfl ?_
            refine g_iconst rfl ⟨by decide, by decide⟩ ?_
            refine g_aload_n rfl rfl ?_
            refine x_getF (r := 206) hG rfl rfl (by decide) (Or.inr ⟨_, rfl⟩) rfl ?_
            refine g_iload_n rfl rfl ?_
            refine x_iald (v := (w6.1 206 3)) rfl rfl (by decide) (by decide) (by decide) rfl ?_
            refine g_iconst rfl ⟨by decide, by decide⟩ ?_
            refine x_isub (z := (w6.1 206 3) - 1) rfl (by omega) ⟨by omega, by omega⟩ ?_
            refine g_iS (as := [tI 1, tI 0, tI ((w6.1 206 3) - 1)]) mX12_in_ok rfl rfl rfl rfl rfl rfl rfl ?_
            refine g_iload_n rfl rfl ?_
            refine g_iload_n rfl rfl ?_
            refine g_icmp_lt (tgt := 14) rfl (by decide) (fun hx => absurd hx (by omega)) (fun _ => ?_)
            refine g_iload_n rfl rfl ?_
            refine g_iload_n rfl rfl ?_
            refine g_icmp_gt (tgt := 14) rfl (by decide) (fun hx => absurd hx (by omega)) (fun _ => ?_)
            refine g_iconst rfl ⟨by decide, by decide⟩ ?_
            refine g_goto (tgt := 15) rfl (by decide) ?_
            refine x_zreturn rfl rfl (Or.inr rfl) ?_
            intro _
            refine x_zreturn rfl rfl (Or.inr rfl) ?_
            intro _
            refine g_if_eq (tgt := 28) rfl (by decide) (fun hx => absurd hx (by omega)) (fun _ => ?_)
            refine g_aload_n rfl rfl ?_
            refine g_iload_n rfl rfl ?_
            refine g_iload_n rfl rfl ?_
            refine g_iV (as := [tI (a : Int), tI (d : Int)]) mX12_layPackets_ok rfl rfl rfl rfl rfl rfl (by decide) rfl rfl rfl ?_
            refine g_aload_n rfl rfl ?_
            refine g_iload_n rfl rfl ?_
            refine g_iload_n rfl rfl ?_
            refine g_cV (as := [tI (a : Int), tI (d : Int)]) (hM _ (tp_kp_pi (by decide) (tp_kp_pi (by decide) hkp6))) rfl rfl mX12_lay_ok rfl rfl rfl (by decide) rfl rfl rfl ?_
            rintro _ w2 ⟨rfl, hTm, hMc, hGm, hdr, hdm⟩ _
            have hkp2 : tp_kp μ w2 := m_G_kp (tp_kp_pi (by decide) (tp_kp_pi (by decide) hkp6)) hGm
            have hm6 := hTm.1
            have hall := hMc.2.2.1
            refine g_if_ne (tgt := 11) rfl (by decide) (fun _ => ?_) (fun hx => absurd hx (by omega))
            refine g_aload_n rfl rfl ?_
            refine g_aload_n rfl rfl ?_
            refine g_iconst rfl ⟨by decide, by decide⟩ ?_
            refine g_cV (as := [tI 1]) (s_of hG hMc (by omega) (by omega)) rfl rfl mX12_of_ok rfl rfl rfl (by decide) rfl rfl rfl ?_
            rintro _ w9 ⟨rfl, hw9⟩ _
            have hw9 := hw9.symm
            subst hw9
            refine g_aload_n rfl rfl ?_
            refine g_iconst rfl ⟨by decide, by decide⟩ ?_
            refine g_cV (as := [tI 2]) (s_of hG hMc (by omega) (by omega)) rfl rfl mX12_of_ok rfl rfl rfl (by decide) rfl rfl rfl ?_
            rintro _ w9 ⟨rfl, hw9⟩ _
            have hw9 := hw9.symm
            subst hw9
            refine g_cV (as := [tI (f 1), tI (f 2)]) (s_encodesM hG hw hMc hW hTm (by omega) (by omega)) rfl rfl mX12_encodes_ok rfl rfl rfl (by decide) rfl rfl rfl ?_
            rintro _ w4 ⟨rfl, hE4⟩ _
            have hkp4 : tp_kp μ w4 := fun k9 z9 => (hE4.2.2.2.1 k9 (by unfold tp_tl at z9; omega) (by unfold tp_tl at z9; omega)).trans (hkp2 k9 z9)
            rw [← hσ] at hE4
            have hMB := hE4.2.1
            have hsz4 : w4.1 201 47 = σ.1 0 9 := hE4.1.2.2.2.2.2.2.2.2.1
            have hQ4 : v_Q σ w4 := ⟨hsz4, fun i i0 i1 => ⟨(hMB i i0 i1).1, (hMB i i0 i1).2.2.2.1, (hMB i i0 i1).2.2.2.2.1⟩⟩
            have hn4 : w4.1 201 27 = n := by rw [hE4.2.2.2.2 27 (by omega)]; exact hm6
            have hA4 : ∀ j, 0 ≤ j → j < n → w4.1 212 j = A j := fun j j0 j1 => by rw [hE4.2.2.2.1 212 (by omega) (by omega)]; exact hTm.2.1 j j0 j1
            have h264 : w4.1 201 26 = f 0 := by rw [hE4.2.2.2.2 26 (by omega)]; exact hall
            have h704 : w4.1 201 70 = 1 := by rw [hE4.2.2.2.2 70 (by omega), hGm.2 70 (by omega)]; rfl
            have hLr := tp_R_log hR 1 (by decide) hld
            have hL4 : f_L 1 (tp_gf μ 1) w4 := ⟨by omega, h704, fun i i0 i1 => by rw [hkp4 210 (by unfold tp_tl; omega)]; rfl, hLr.2.1, fun i i0 i1 => (hLr.2.2 i i0 i1).2.2⟩
            refine g_iconst rfl ⟨by decide, by decide⟩ ?_
            refine x_zreturn rfl rfl (Or.inr rfl) ?_
            intro _
            refine g_if_ne (tgt := 31) rfl (by decide) (fun _ => ?_) (fun hx => absurd hx (by omega))
            refine g_aload_n rfl rfl ?_
            refine g_cV (as := []) (s_fiA hG hw hW hp9 HH hQ4 hL4 h264 hn4 hA4) rfl rfl mX12_findsAll_ok rfl rfl rfl (by decide) rfl rfl rfl ?_
            rintro _ w7 ⟨rfl, hf7, hG7⟩ _
            have hkp7 : tp_kp μ w7 := v_G3_kp hkp4 hG7
            have h737 : w7.1 201 73 = (q_FL A n σ (tp_gf μ 1) (σ.1 0 9)).1 := hf7.1
            have h267 : w7.1 201 26 = f 0 := by rw [hG7.2 26 (by omega) (by omega) (by omega)]; exact h264
            refine g_iload rfl rfl ?_
            refine g_bipush rfl ⟨by decide, by decide⟩ (by decide) ?_
            refine g_icmp_lt (tgt := 70) rfl (by decide) (fun hx => absurd hx (by omega)) (fun _ => ?_)
            refine g_iload rfl rfl ?_
            refine g_bipush rfl ⟨by decide, by decide⟩ (by decide) ?_
            refine x_isub (z := w - 10) rfl (by omega) ⟨by omega, by omega⟩ ?_
            refine g_aload_n rfl rfl ?_
            refine x_geti (v := (w7.1 201 73)) rfl rfl (by decide) (Or.inl rfl) rfl ?_
            refine g_icmp_ge (tgt := 67) rfl (by decide) (fun _ => ?_) (fun hx => absurd hx (by omega))
            refine g_bipush rfl ⟨by decide, by decide⟩ (by decide) ?_
            refine x_ireturn rfl rfl ?_
            exact ⟨(by first | rfl | (exfalso; omega) | exact congrArg (fun z => some (tI z)) (by rw [h737, h796]) | exact congrArg (fun z => some (tI z)) ((hf7.2.1 (w - 10) (by omega) (by omega)).trans (hf6.2.1 (w - 10) (by omega) (by omega)).symm)), tp_R_kp hR hkp7⟩
          · refine g_iload_n rfl rfl ?_
            refine g_sipush rfl ⟨by decide, by decide⟩ (by decide) ?_
            refine g_icmp_lt (tgt := 24) rfl (by decide) (fun _ => ?_) (fun hx => absurd hx (by omega))
            refine g_aload_n rfl rfl ?_
            refine x_getF (r := 80) hG rfl rfl (by decide) (Or.inr ⟨_, rfl⟩) rfl ?_
            refine g_iload_n rfl rfl ?_
            refine x_iald (v := (w6.1 80 (w - 10))) rfl rfl (by decide) (by omega) (by omega) rfl ?_
            refine x_ireturn rfl rfl ?_
            intro _
            refine g_goto (tgt := 128) rfl (by decide) ?_
            refine x_ireturn rfl rfl ?_
            refine ⟨_, rfl, ?_⟩
            refine tp_ok_of mX12_fits_ok rfl (Nat.le_refl _) ?_
            refine g_aload_n rfl rfl ?_
            refine g_iconst rfl ⟨by decide, by decide⟩ ?_
            refine g_puti rfl rfl (by decide) rfl rfl ?_
            refine g_aload_n rfl rfl ?_
            refine g_iload_n rfl rfl ?_
            refine g_puti rfl rfl (by decide) rfl rfl ?_
            refine g_aload_n rfl rfl ?_
            refine g_iconst rfl ⟨by decide, by decide⟩ ?_
            refine g_iload_n rfl rfl ?_
            refine g_iV (as := [tI 3, tI 1]) mX12_is_ok rfl rfl rfl rfl rfl rfl (by decide) rfl rfl rfl ?_
            refine g_iload_n rfl rfl ?_
            refine g_iconst rfl ⟨by decide, by decide⟩ ?_
            refine g_aload_n rfl rfl ?_
            refine x_getF (r := 206) hG rfl rfl (by decide) (Or.inr ⟨_, rfl⟩) rfl ?_
            refine g_iload_n rfl rfl ?_
            refine x_iald (v := (w6.1 206 3)) rfl rfl (by decide) (by decide) (by decide) rfl ?_
            refine g_iconst rfl ⟨by decide, by decide⟩ ?_
            refine x_isub (z := (w6.1 206 3) - 1) rfl (by omega) ⟨by omega, by omega⟩ ?_
            refine g_iS (as := [tI 1, tI 0, tI ((w6.1 206 3) - 1)]) mX12_in_ok rfl rfl rfl rfl rfl rfl rfl ?_
            refine g_iload_n rfl rfl ?_
            refine g_iload_n rfl rfl ?_
            refine g_icmp_lt (tgt := 14) rfl (by decide) (fun hx => absurd hx (by omega)) (fun _ => ?_)
            refine g_iload_n rfl rfl ?_
            refine g_iload_n rfl rfl ?_
            refine g_icmp_gt (tgt := 14) rfl (by decide) (fun hx => absurd hx (by omega)) (fun _ => ?_)
            refine g_iconst rfl ⟨by decide, by decide⟩ ?_
            refine g_goto (tgt := 15) rfl (by decide) ?_
            refine x_zreturn rfl rfl (Or.inr rfl) ?_
            intro _
            refine x_zreturn rfl rfl (Or.inr rfl) ?_
            intro _
            refine g_if_eq (tgt := 28) rfl (by decide) (fun hx => absurd hx (by omega)) (fun _ => ?_)
            refine g_aload_n rfl rfl ?_
            refine g_iload_n rfl rfl ?_
            refine g_iload_n rfl rfl ?_
            refine g_iV (as := [tI (a : Int), tI (d : Int)]) mX12_layPackets_ok rfl rfl rfl rfl rfl rfl (by decide) rfl rfl rfl ?_
            refine g_aload_n rfl rfl ?_
            refine g_iload_n rfl rfl ?_
            refine g_iload_n rfl rfl ?_
            refine g_cV (as := [tI (a : Int), tI (d : Int)]) (hM _ (tp_kp_pi (by decide) (tp_kp_pi (by decide) hkp6))) rfl rfl mX12_lay_ok rfl rfl rfl (by decide) rfl rfl rfl ?_
            rintro _ w2 ⟨rfl, hTm, hMc, hGm, hdr, hdm⟩ _
            have hkp2 : tp_kp μ w2 := m_G_kp (tp_kp_pi (by decide) (tp_kp_pi (by decide) hkp6)) hGm
            have hm6 := hTm.1
            have hall := hMc.2.2.1
            refine g_if_ne (tgt := 11) rfl (by decide) (fun _ => ?_) (fun hx => absurd hx (by omega))
            refine g_aload_n rfl rfl ?_
            refine g_aload_n rfl rfl ?_
            refine g_iconst rfl ⟨by decide, by decide⟩ ?_
            refine g_cV (as := [tI 1]) (s_of hG hMc (by omega) (by omega)) rfl rfl mX12_of_ok rfl rfl rfl (by decide) rfl rfl rfl ?_
            rintro _ w9 ⟨rfl, hw9⟩ _
            have hw9 := hw9.symm
            subst hw9
            refine g_aload_n rfl rfl ?_
            refine g_iconst rfl ⟨by decide, by decide⟩ ?_
            refine g_cV (as := [tI 2]) (s_of hG hMc (by omega) (by omega)) rfl rfl mX12_of_ok rfl rfl rfl (by decide) rfl rfl rfl ?_
            rintro _ w9 ⟨rfl, hw9⟩ _
            have hw9 := hw9.symm
            subst hw9
            refine g_cV (as := [tI (f 1), tI (f 2)]) (s_encodesM hG hw hMc hW hTm (by omega) (by omega)) rfl rfl mX12_encodes_ok rfl rfl rfl (by decide) rfl rfl rfl ?_
            rintro _ w4 ⟨rfl, hE4⟩ _
            have hkp4 : tp_kp μ w4 := fun k9 z9 => (hE4.2.2.2.1 k9 (by unfold tp_tl at z9; omega) (by unfold tp_tl at z9; omega)).trans (hkp2 k9 z9)
            rw [← hσ] at hE4
            have hMB := hE4.2.1
            have hsz4 : w4.1 201 47 = σ.1 0 9 := hE4.1.2.2.2.2.2.2.2.2.1
            have hQ4 : v_Q σ w4 := ⟨hsz4, fun i i0 i1 => ⟨(hMB i i0 i1).1, (hMB i i0 i1).2.2.2.1, (hMB i i0 i1).2.2.2.2.1⟩⟩
            have hn4 : w4.1 201 27 = n := by rw [hE4.2.2.2.2 27 (by omega)]; exact hm6
            have hA4 : ∀ j, 0 ≤ j → j < n → w4.1 212 j = A j := fun j j0 j1 => by rw [hE4.2.2.2.1 212 (by omega) (by omega)]; exact hTm.2.1 j j0 j1
            have h264 : w4.1 201 26 = f 0 := by rw [hE4.2.2.2.2 26 (by omega)]; exact hall
            have h704 : w4.1 201 70 = 1 := by rw [hE4.2.2.2.2 70 (by omega), hGm.2 70 (by omega)]; rfl
            have hLr := tp_R_log hR 1 (by decide) hld
            have hL4 : f_L 1 (tp_gf μ 1) w4 := ⟨by omega, h704, fun i i0 i1 => by rw [hkp4 210 (by unfold tp_tl; omega)]; rfl, hLr.2.1, fun i i0 i1 => (hLr.2.2 i i0 i1).2.2⟩
            refine g_iconst rfl ⟨by decide, by decide⟩ ?_
            refine x_zreturn rfl rfl (Or.inr rfl) ?_
            intro _
            refine g_if_ne (tgt := 31) rfl (by decide) (fun _ => ?_) (fun hx => absurd hx (by omega))
            refine g_aload_n rfl rfl ?_
            refine g_cV (as := []) (s_fiA hG hw hW hp9 HH hQ4 hL4 h264 hn4 hA4) rfl rfl mX12_findsAll_ok rfl rfl rfl (by decide) rfl rfl rfl ?_
            rintro _ w7 ⟨rfl, hf7, hG7⟩ _
            have hkp7 : tp_kp μ w7 := v_G3_kp hkp4 hG7
            have h737 : w7.1 201 73 = (q_FL A n σ (tp_gf μ 1) (σ.1 0 9)).1 := hf7.1
            have h267 : w7.1 201 26 = f 0 := by rw [hG7.2 26 (by omega) (by omega) (by omega)]; exact h264
            refine g_iload rfl rfl ?_
            refine g_bipush rfl ⟨by decide, by decide⟩ (by decide) ?_
            refine g_icmp_lt (tgt := 70) rfl (by decide) (fun hx => absurd hx (by omega)) (fun _ => ?_)
            refine g_iload rfl rfl ?_
            refine g_bipush rfl ⟨by decide, by decide⟩ (by decide) ?_
            refine x_isub (z := w - 10) rfl (by omega) ⟨by omega, by omega⟩ ?_
            refine g_aload_n rfl rfl ?_
            refine x_geti (v := (w7.1 201 73)) rfl rfl (by decide) (Or.inl rfl) rfl ?_
            refine g_icmp_ge (tgt := 67) rfl (by decide) (fun hx => absurd hx (by omega)) (fun _ => ?_)
            refine g_aload_n rfl rfl ?_
            refine x_getF (r := 231) hG rfl rfl (by decide) (Or.inr ⟨_, rfl⟩) rfl ?_
            refine g_iload rfl rfl ?_
            refine g_bipush rfl ⟨by decide, by decide⟩ (by decide) ?_
            refine x_isub (z := w - 10) rfl (by omega) ⟨by omega, by omega⟩ ?_
            refine x_iald (v := (w7.1 231 (w - 10))) rfl rfl (by decide) (by omega) (by omega) rfl ?_
            refine g_goto (tgt := 69) rfl (by decide) ?_
            refine x_ireturn rfl rfl ?_
            exact ⟨(by first | rfl | (exfalso; omega) | exact congrArg (fun z => some (tI z)) (by rw [h737, h796]) | exact congrArg (fun z => some (tI z)) ((hf7.2.1 (w - 10) (by omega) (by omega)).trans (hf6.2.1 (w - 10) (by omega) (by omega)).symm)), tp_R_kp hR hkp7⟩
      · refine g_aload_n rfl rfl ?_
        refine x_getF (r := 79) hG rfl rfl (by decide) (Or.inl ⟨_, rfl⟩) rfl ?_
        refine g_aload_n rfl rfl ?_
        refine x_getF (r := 50) hG rfl rfl (by decide) (Or.inl ⟨_, rfl⟩) rfl ?_
        refine x_getM (v := (some c)) hG rfl rfl (by decide) (Or.inl ⟨_, rfl⟩) rfl (by first | exact hco | exact hco3 | exact hco5 | exact hco6) ?_
        refine g_cV (as := [tR (some c)]) (s_ask hG hc hcl hw hn0 hf6 hN6 hCd6) rfl rfl mX2_ask_ok rfl rfl rfl (by decide) rfl rfl rfl ?_
        rintro _ w8 ⟨rfl, hF8⟩ _
        have hkp8 : tp_kp μ w8 := q_f1_kp (by unfold tp_tl; omega) hkp6 hF8
        have h206b : w8.1 206 3 = μ.1 206 3 := by rw [hkp8 206 (by unfold tp_tl; omega)]
        refine x_ireturn rfl rfl ?_
        refine ⟨_, rfl, ?_⟩
        refine tp_ok_of mX12_fits_ok rfl (Nat.le_refl _) ?_
        refine g_aload_n rfl rfl ?_
        refine g_iconst rfl ⟨by decide, by decide⟩ ?_
        refine g_puti rfl rfl (by decide) rfl rfl ?_
        refine g_aload_n rfl rfl ?_
        refine g_iload_n rfl rfl ?_
        refine g_puti rfl rfl (by decide) rfl rfl ?_
        refine g_aload_n rfl rfl ?_
        refine g_iconst rfl ⟨by decide, by decide⟩ ?_
        refine g_iload_n rfl rfl ?_
        refine g_iV (as := [tI 3, tI 1]) mX12_is_ok rfl rfl rfl rfl rfl rfl (by decide) rfl rfl rfl ?_
        refine g_iload_n rfl rfl ?_
        refine g_iconst rfl ⟨by decide, by decide⟩ ?_
        refine g_aload_n rfl rfl ?_
        refine x_getF (r := 206) hG rfl rfl (by decide) (Or.inr ⟨_, rfl⟩) rfl ?_
        refine g_iload_n rfl rfl ?_
        refine x_iald (v := (w8.1 206 3)) rfl rfl (by decide) (by decide) (by decide) rfl ?_
        refine g_iconst rfl ⟨by decide, by decide⟩ ?_
        refine x_isub (z := (w8.1 206 3) - 1) rfl (by omega) ⟨by omega, by omega⟩ ?_
        refine g_iS (as := [tI 1, tI 0, tI ((w8.1 206 3) - 1)]) mX12_in_ok rfl rfl rfl rfl rfl rfl rfl ?_
        refine g_iload_n rfl rfl ?_
        refine g_iload_n rfl rfl ?_
        refine g_icmp_lt (tgt := 14) rfl (by decide) (fun hx => absurd hx (by omega)) (fun _ => ?_)
        refine g_iload_n rfl rfl ?_
        refine g_iload_n rfl rfl ?_
        refine g_icmp_gt (tgt := 14) rfl (by decide) (fun hx => absurd hx (by omega)) (fun _ => ?_)
        refine g_iconst rfl ⟨by decide, by decide⟩ ?_
        refine g_goto (tgt := 15) rfl (by decide) ?_
        refine x_zreturn rfl rfl (Or.inr rfl) ?_
        intro _
        refine x_zreturn rfl rfl (Or.inr rfl) ?_
        intro _
        refine g_if_eq (tgt := 28) rfl (by decide) (fun hx => absurd hx (by omega)) (fun _ => ?_)
        refine g_aload_n rfl rfl ?_
        refine g_iload_n rfl rfl ?_
        refine g_iload_n rfl rfl ?_
        refine g_iV (as := [tI (a : Int), tI (d : Int)]) mX12_layPackets_ok rfl rfl rfl rfl rfl rfl (by decide) rfl rfl rfl ?_
        refine g_aload_n rfl rfl ?_
        refine g_iload_n rfl rfl ?_
        refine g_iload_n rfl rfl ?_
        refine g_cV (as := [tI (a : Int), tI (d : Int)]) (hM _ (tp_kp_pi (by decide) (tp_kp_pi (by decide) hkp8))) rfl rfl mX12_lay_ok rfl rfl rfl (by decide) rfl rfl rfl ?_
        rintro _ w2 ⟨rfl, hTm, hMc, hGm, hdr, hdm⟩ _
        have hkp2 : tp_kp μ w2 := m_G_kp (tp_kp_pi (by decide) (tp_kp_pi (by decide) hkp8)) hGm
        have hm6 := hTm.1
        have hall := hMc.2.2.1
        refine g_if_ne (tgt := 11) rfl (by decide) (fun _ => ?_) (fun hx => absurd hx (by omega))
        refine g_aload_n rfl rfl ?_
        refine g_aload_n rfl rfl ?_
        refine g_iconst rfl ⟨by decide, by decide⟩ ?_
        refine g_cV (as := [tI 1]) (s_of hG hMc (by omega) (by omega)) rfl rfl mX12_of_ok rfl rfl rfl (by decide) rfl rfl rfl ?_
        rintro _ w9 ⟨rfl, hw9⟩ _
        have hw9 := hw9.symm
        subst hw9
        refine g_aload_n rfl rfl ?_
        refine g_iconst rfl ⟨by decide, by decide⟩ ?_
        refine g_cV (as := [tI 2]) (s_of hG hMc (by omega) (by omega)) rfl rfl mX12_of_ok rfl rfl rfl (by decide) rfl rfl rfl ?_
        rintro _ w9 ⟨rfl, hw9⟩ _
        have hw9 := hw9.symm
        subst hw9
        refine g_cV (as := [tI (f 1), tI (f 2)]) (s_encodesM hG hw hMc hW hTm (by omega) (by omega)) rfl rfl mX12_encodes_ok rfl rfl rfl (by decide) rfl rfl rfl ?_
        rintro _ w4 ⟨rfl, hE4⟩ _
        have hkp4 : tp_kp μ w4 := fun k9 z9 => (hE4.2.2.2.1 k9 (by unfold tp_tl at z9; omega) (by unfold tp_tl at z9; omega)).trans (hkp2 k9 z9)
        rw [← hσ] at hE4
        have hMB := hE4.2.1
        have hsz4 : w4.1 201 47 = σ.1 0 9 := hE4.1.2.2.2.2.2.2.2.2.1
        have hQ4 : v_Q σ w4 := ⟨hsz4, fun i i0 i1 => ⟨(hMB i i0 i1).1, (hMB i i0 i1).2.2.2.1, (hMB i i0 i1).2.2.2.2.1⟩⟩
        have hn4 : w4.1 201 27 = n := by rw [hE4.2.2.2.2 27 (by omega)]; exact hm6
        have hA4 : ∀ j, 0 ≤ j → j < n → w4.1 212 j = A j := fun j j0 j1 => by rw [hE4.2.2.2.1 212 (by omega) (by omega)]; exact hTm.2.1 j j0 j1
        have h264 : w4.1 201 26 = f 0 := by rw [hE4.2.2.2.2 26 (by omega)]; exact hall
        have h704 : w4.1 201 70 = 1 := by rw [hE4.2.2.2.2 70 (by omega), hGm.2 70 (by omega)]; rfl
        have hLr := tp_R_log hR 1 (by decide) hld
        have hL4 : f_L 1 (tp_gf μ 1) w4 := ⟨by omega, h704, fun i i0 i1 => by rw [hkp4 210 (by unfold tp_tl; omega)]; rfl, hLr.2.1, fun i i0 i1 => (hLr.2.2 i i0 i1).2.2⟩
        refine g_iconst rfl ⟨by decide, by decide⟩ ?_
        refine x_zreturn rfl rfl (Or.inr rfl) ?_
        intro _
        refine g_if_ne (tgt := 31) rfl (by decide) (fun _ => ?_) (fun hx => absurd hx (by omega))
        refine g_aload_n rfl rfl ?_
        refine g_cV (as := []) (s_fiA hG hw hW hp9 HH hQ4 hL4 h264 hn4 hA4) rfl rfl mX12_findsAll_ok rfl rfl rfl (by decide) rfl rfl rfl ?_
        rintro _ w7 ⟨rfl, hf7, hG7⟩ _
        have hkp7 : tp_kp μ w7 := v_G3_kp hkp4 hG7
        have h737 : w7.1 201 73 = (q_FL A n σ (tp_gf μ 1) (σ.1 0 9)).1 := hf7.1
        have h267 : w7.1 201 26 = f 0 := by rw [hG7.2 26 (by omega) (by omega) (by omega)]; exact h264
        refine g_iload rfl rfl ?_
        refine g_bipush rfl ⟨by decide, by decide⟩ (by decide) ?_
        refine g_icmp_lt (tgt := 70) rfl (by decide) (fun _ => ?_) (fun hx => absurd hx (by omega))
        refine g_iload rfl rfl ?_
        refine g_if_ne (tgt := 82) rfl (by decide) (fun _ => ?_) (fun hx => absurd hx (by omega))
        refine g_iload rfl rfl ?_
        refine g_iconst rfl ⟨by decide, by decide⟩ ?_
        refine g_icmp_ne (tgt := 95) rfl (by decide) (fun hx => absurd hx (by omega)) (fun _ => ?_)
        refine g_aload_n rfl rfl ?_
        refine g_cV (as := []) (s_askM hG hf7 hN6 hw0 h267) rfl rfl mX12_ask_ok rfl rfl rfl (by decide) rfl rfl rfl ?_
        rintro _ w9 ⟨rfl, hw9⟩ _
        have hw9 := hw9.symm
        subst hw9
        refine g_goto (tgt := 97) rfl (by decide) ?_
        refine x_ireturn rfl rfl ?_
        exact ⟨(by first | rfl | (exfalso; omega) | exact congrArg (fun z => some (tI z)) (by rw [h737, h796]) | exact congrArg (fun z => some (tI z)) ((hf7.2.1 (w - 10) (by omega) (by omega)).trans (hf6.2.1 (w - 10) (by omega) (by omega)).symm)), tp_R_kp hR hkp7⟩
    · refine g_aload_n rfl rfl ?_
      refine x_getF (r := 79) hG rfl rfl (by decide) (Or.inl ⟨_, rfl⟩) rfl ?_
      refine x_geti (v := (w6.1 79 3)) rfl rfl (by decide) (Or.inl rfl) rfl ?_
      refine x_ireturn rfl rfl ?_
      refine ⟨_, rfl, ?_⟩
      refine tp_ok_of mX12_fits_ok rfl (Nat.le_refl _) ?_
      refine g_aload_n rfl rfl ?_
      refine g_iconst rfl ⟨by decide, by decide⟩ ?_
      refine g_puti rfl rfl (by decide) rfl rfl ?_
      refine g_aload_n rfl rfl ?_
      refine g_iload_n rfl rfl ?_
      refine g_puti rfl rfl (by decide) rfl rfl ?_
      refine g_aload_n rfl rfl ?_
      refine g_iconst rfl ⟨by decide, by decide⟩ ?_
      refine g_iload_n rfl rfl ?_
      refine g_iV (as := [tI 3, tI 1]) mX12_is_ok rfl rfl rfl rfl rfl rfl (by decide) rfl rfl rfl ?_
      refine g_iload_n rfl rfl ?_
      refine g_iconst rfl ⟨by decide, by decide⟩ ?_
      refine g_aload_n rfl rfl ?_
      refine x_getF (r := 206) hG rfl rfl (by decide) (Or.inr ⟨_, rfl⟩) rfl ?_
      refine g_iload_n rfl rfl ?_
      refine x_iald (v := (w6.1 206 3)) rfl rfl (by decide) (by decide) (by decide) rfl ?_
      refine g_iconst rfl ⟨by decide, by decide⟩ ?_
      refine x_isub (z := (w6.1 206 3) - 1) rfl (by omega) ⟨by omega, by omega⟩ ?_
      refine g_iS (as := [tI 1, tI 0, tI ((w6.1 206 3) - 1)]) mX12_in_ok rfl rfl rfl rfl rfl rfl rfl ?_
      refine g_iload_n rfl rfl ?_
      refine g_iload_n rfl rfl ?_
      refine g_icmp_lt (tgt := 14) rfl (by decide) (fun hx => absurd hx (by omega)) (fun _ => ?_)
      refine g_iload_n rfl rfl ?_
      refine g_iload_n rfl rfl ?_
      refine g_icmp_gt (tgt := 14) rfl (by decide) (fun hx => absurd hx (by omega)) (fun _ => ?_)
      refine g_iconst rfl ⟨by decide, by decide⟩ ?_
      refine g_goto (tgt := 15) rfl (by decide) ?_
      refine x_zreturn rfl rfl (Or.inr rfl) ?_
      intro _
      refine x_zreturn rfl rfl (Or.inr rfl) ?_
      intro _
      refine g_if_eq (tgt := 28) rfl (by decide) (fun hx => absurd hx (by omega)) (fun _ => ?_)
      refine g_aload_n rfl rfl ?_
      refine g_iload_n rfl rfl ?_
      refine g_iload_n rfl rfl ?_
      refine g_iV (as := [tI (a : Int), tI (d : Int)]) mX12_layPackets_ok rfl rfl rfl rfl rfl rfl (by decide) rfl rfl rfl ?_
      refine g_aload_n rfl rfl ?_
      refine g_iload_n rfl rfl ?_
      refine g_iload_n rfl rfl ?_
      refine g_cV (as := [tI (a : Int), tI (d : Int)]) (hM _ (tp_kp_pi (by decide) (tp_kp_pi (by decide) hkp6))) rfl rfl mX12_lay_ok rfl rfl rfl (by decide) rfl rfl rfl ?_
      rintro _ w2 ⟨rfl, hTm, hMc, hGm, hdr, hdm⟩ _
      have hkp2 : tp_kp μ w2 := m_G_kp (tp_kp_pi (by decide) (tp_kp_pi (by decide) hkp6)) hGm
      have hm6 := hTm.1
      have hall := hMc.2.2.1
      refine g_if_ne (tgt := 11) rfl (by decide) (fun _ => ?_) (fun hx => absurd hx (by omega))
      refine g_aload_n rfl rfl ?_
      refine g_aload_n rfl rfl ?_
      refine g_iconst rfl ⟨by decide, by decide⟩ ?_
      refine g_cV (as := [tI 1]) (s_of hG hMc (by omega) (by omega)) rfl rfl mX12_of_ok rfl rfl rfl (by decide) rfl rfl rfl ?_
      rintro _ w9 ⟨rfl, hw9⟩ _
      have hw9 := hw9.symm
      subst hw9
      refine g_aload_n rfl rfl ?_
      refine g_iconst rfl ⟨by decide, by decide⟩ ?_
      refine g_cV (as := [tI 2]) (s_of hG hMc (by omega) (by omega)) rfl rfl mX12_of_ok rfl rfl rfl (by decide) rfl rfl rfl ?_
      rintro _ w9 ⟨rfl, hw9⟩ _
      have hw9 := hw9.symm
      subst hw9
      refine g_cV (as := [tI (f 1), tI (f 2)]) (s_encodesM hG hw hMc hW hTm (by omega) (by omega)) rfl rfl mX12_encodes_ok rfl rfl rfl (by decide) rfl rfl rfl ?_
      rintro _ w4 ⟨rfl, hE4⟩ _
      have hkp4 : tp_kp μ w4 := fun k9 z9 => (hE4.2.2.2.1 k9 (by unfold tp_tl at z9; omega) (by unfold tp_tl at z9; omega)).trans (hkp2 k9 z9)
      rw [← hσ] at hE4
      have hMB := hE4.2.1
      have hsz4 : w4.1 201 47 = σ.1 0 9 := hE4.1.2.2.2.2.2.2.2.2.1
      have hQ4 : v_Q σ w4 := ⟨hsz4, fun i i0 i1 => ⟨(hMB i i0 i1).1, (hMB i i0 i1).2.2.2.1, (hMB i i0 i1).2.2.2.2.1⟩⟩
      have hn4 : w4.1 201 27 = n := by rw [hE4.2.2.2.2 27 (by omega)]; exact hm6
      have hA4 : ∀ j, 0 ≤ j → j < n → w4.1 212 j = A j := fun j j0 j1 => by rw [hE4.2.2.2.1 212 (by omega) (by omega)]; exact hTm.2.1 j j0 j1
      have h264 : w4.1 201 26 = f 0 := by rw [hE4.2.2.2.2 26 (by omega)]; exact hall
      have h704 : w4.1 201 70 = 1 := by rw [hE4.2.2.2.2 70 (by omega), hGm.2 70 (by omega)]; rfl
      have hLr := tp_R_log hR 1 (by decide) hld
      have hL4 : f_L 1 (tp_gf μ 1) w4 := ⟨by omega, h704, fun i i0 i1 => by rw [hkp4 210 (by unfold tp_tl; omega)]; rfl, hLr.2.1, fun i i0 i1 => (hLr.2.2 i i0 i1).2.2⟩
      refine g_iconst rfl ⟨by decide, by decide⟩ ?_
      refine x_zreturn rfl rfl (Or.inr rfl) ?_
      intro _
      refine g_if_ne (tgt := 31) rfl (by decide) (fun _ => ?_) (fun hx => absurd hx (by omega))
      refine g_aload_n rfl rfl ?_
      refine g_cV (as := []) (s_fiA hG hw hW hp9 HH hQ4 hL4 h264 hn4 hA4) rfl rfl mX12_findsAll_ok rfl rfl rfl (by decide) rfl rfl rfl ?_
      rintro _ w7 ⟨rfl, hf7, hG7⟩ _
      have hkp7 : tp_kp μ w7 := v_G3_kp hkp4 hG7
      have h737 : w7.1 201 73 = (q_FL A n σ (tp_gf μ 1) (σ.1 0 9)).1 := hf7.1
      have h267 : w7.1 201 26 = f 0 := by rw [hG7.2 26 (by omega) (by omega) (by omega)]; exact h264
      refine g_iload rfl rfl ?_
      refine g_bipush rfl ⟨by decide, by decide⟩ (by decide) ?_
      refine g_icmp_lt (tgt := 70) rfl (by decide) (fun _ => ?_) (fun hx => absurd hx (by omega))
      refine g_iload rfl rfl ?_
      refine g_if_ne (tgt := 82) rfl (by decide) (fun hx => absurd hx (by omega)) (fun _ => ?_)
      refine g_aload_n rfl rfl ?_
      refine x_geti (v := (w7.1 201 73)) rfl rfl (by decide) (Or.inl rfl) rfl ?_
      refine g_goto (tgt := 97) rfl (by decide) ?_
      refine x_ireturn rfl rfl ?_
      exact ⟨(by first | rfl | (exfalso; omega) | exact congrArg (fun z => some (tI z)) (by rw [h737, h796]) | exact congrArg (fun z => some (tI z)) ((hf7.2.1 (w - 10) (by omega) (by omega)).trans (hf6.2.1 (w - 10) (by omega) (by omega)).symm)), tp_R_kp hR hkp7⟩
set_option maxHeartbeats 4000000 in
set_option maxRecDepth 100000 in
theorem p_fits {G : tp_G} (hG : tp_Gf G = true) {a d l w : Int} (hwr : tp_r32 w) : tp_pair G mX11_fits mX12_fits [tI a, tI d, tI l, tI w] := by
  intro μ hR
  have hm2l := tp_R_many hR 3 (by decide) (by decide)
  rcases (show (l = 0 ∧ 0 < μ.1 5 3) ∨ (l = 1 ∧ 1 < μ.1 5 3) ∨ l ≤ -1 ∨ (0 ≤ l ∧ μ.1 5 3 ≤ l) by omega) with ⟨rfl, hld⟩ | ⟨rfl, hld⟩ | hld | hld
  · exact p_fits0 hG hR hld hwr
  · exact p_fits1 hG hR hld hwr
  · refine tp_ok_of mX11_fits_ok rfl (Nat.le_refl _) ?_
    refine g_aload_n rfl rfl ?_
    refine x_getF (r := 1) hG rfl rfl (by decide) (Or.inl ⟨_, rfl⟩) rfl ?_
    refine g_iconst rfl ⟨by decide, by decide⟩ ?_
    refine g_iload_n rfl rfl ?_
    refine g_cV (as := [tI 3, tI l]) (s_rowOf3o hG (by omega)) rfl rfl mX9_rowOf_ok rfl rfl rfl (by decide) rfl rfl rfl ?_
    rintro _ w9 ⟨rfl, hw9⟩ _
    have hw9 := hw9.symm
    subst hw9
    refine g_astore rfl rfl rfl ?_
    refine g_aload rfl rfl ?_
    refine g_ifnull (tgt := 25) rfl (by decide) (fun _ => ?_) (fun _ hx => by cases hx)
    refine g_bipush rfl ⟨by decide, by decide⟩ (by decide) ?_
    refine x_ireturn rfl rfl ?_
    refine ⟨_, rfl, ?_⟩
    refine tp_ok_of mX12_fits_ok rfl (Nat.le_refl _) ?_
    refine g_aload_n rfl rfl ?_
    refine g_iconst rfl ⟨by decide, by decide⟩ ?_
    refine g_puti rfl rfl (by decide) rfl rfl ?_
    refine g_aload_n rfl rfl ?_
    refine g_iload_n rfl rfl ?_
    refine g_puti rfl rfl (by decide) rfl rfl ?_
    refine g_aload_n rfl rfl ?_
    refine g_iconst rfl ⟨by decide, by decide⟩ ?_
    refine g_iload_n rfl rfl ?_
    refine g_iV (as := [tI 3, tI l]) mX12_is_ok rfl rfl rfl rfl rfl rfl (by decide) rfl rfl rfl ?_
    refine g_iload_n rfl rfl ?_
    refine g_iconst rfl ⟨by decide, by decide⟩ ?_
    refine g_aload_n rfl rfl ?_
    refine x_getF (r := 206) hG rfl rfl (by decide) (Or.inr ⟨_, rfl⟩) rfl ?_
    refine g_iload_n rfl rfl ?_
    refine x_iald (v := (μ.1 206 3)) rfl rfl (by decide) (by decide) (by decide) rfl ?_
    refine g_iconst rfl ⟨by decide, by decide⟩ ?_
    refine x_isub (z := (μ.1 206 3) - 1) rfl (by omega) ⟨by omega, by omega⟩ ?_
    refine g_iS (as := [tI l, tI 0, tI ((μ.1 206 3) - 1)]) mX12_in_ok rfl rfl rfl rfl rfl rfl rfl ?_
    refine g_iload_n rfl rfl ?_
    refine g_iload_n rfl rfl ?_
    refine g_icmp_lt (tgt := 14) rfl (by decide) (fun _ => ?_) (fun hx => absurd hx (by omega))
    refine g_iconst rfl ⟨by decide, by decide⟩ ?_
    refine x_zreturn rfl rfl (Or.inl rfl) ?_
    intro _
    refine x_zreturn rfl rfl (Or.inl rfl) ?_
    intro _
    refine g_if_eq (tgt := 28) rfl (by decide) (fun _ => ?_) (fun hx => absurd hx (by omega))
    refine g_bipush rfl ⟨by decide, by decide⟩ (by decide) ?_
    refine x_ireturn rfl rfl ?_
    exact ⟨rfl, tp_R_kp hR (tp_kp_pi (by decide) (tp_kp_pi (by decide) tp_kp_rf))⟩
  · refine tp_ok_of mX11_fits_ok rfl (Nat.le_refl _) ?_
    refine g_aload_n rfl rfl ?_
    refine x_getF (r := 1) hG rfl rfl (by decide) (Or.inl ⟨_, rfl⟩) rfl ?_
    refine g_iconst rfl ⟨by decide, by decide⟩ ?_
    refine g_iload_n rfl rfl ?_
    refine g_cV (as := [tI 3, tI l]) (s_rowOf3o hG (by omega)) rfl rfl mX9_rowOf_ok rfl rfl rfl (by decide) rfl rfl rfl ?_
    rintro _ w9 ⟨rfl, hw9⟩ _
    have hw9 := hw9.symm
    subst hw9
    refine g_astore rfl rfl rfl ?_
    refine g_aload rfl rfl ?_
    refine g_ifnull (tgt := 25) rfl (by decide) (fun _ => ?_) (fun _ hx => by cases hx)
    refine g_bipush rfl ⟨by decide, by decide⟩ (by decide) ?_
    refine x_ireturn rfl rfl ?_
    refine ⟨_, rfl, ?_⟩
    refine tp_ok_of mX12_fits_ok rfl (Nat.le_refl _) ?_
    refine g_aload_n rfl rfl ?_
    refine g_iconst rfl ⟨by decide, by decide⟩ ?_
    refine g_puti rfl rfl (by decide) rfl rfl ?_
    refine g_aload_n rfl rfl ?_
    refine g_iload_n rfl rfl ?_
    refine g_puti rfl rfl (by decide) rfl rfl ?_
    refine g_aload_n rfl rfl ?_
    refine g_iconst rfl ⟨by decide, by decide⟩ ?_
    refine g_iload_n rfl rfl ?_
    refine g_iV (as := [tI 3, tI l]) mX12_is_ok rfl rfl rfl rfl rfl rfl (by decide) rfl rfl rfl ?_
    refine g_iload_n rfl rfl ?_
    refine g_iconst rfl ⟨by decide, by decide⟩ ?_
    refine g_aload_n rfl rfl ?_
    refine x_getF (r := 206) hG rfl rfl (by decide) (Or.inr ⟨_, rfl⟩) rfl ?_
    refine g_iload_n rfl rfl ?_
    refine x_iald (v := (μ.1 206 3)) rfl rfl (by decide) (by decide) (by decide) rfl ?_
    refine g_iconst rfl ⟨by decide, by decide⟩ ?_
    refine x_isub (z := (μ.1 206 3) - 1) rfl (by omega) ⟨by omega, by omega⟩ ?_
    refine g_iS (as := [tI l, tI 0, tI ((μ.1 206 3) - 1)]) mX12_in_ok rfl rfl rfl rfl rfl rfl rfl ?_
    refine g_iload_n rfl rfl ?_
    refine g_iload_n rfl rfl ?_
    refine g_icmp_lt (tgt := 14) rfl (by decide) (fun hx => absurd hx (by omega)) (fun _ => ?_)
    refine g_iload_n rfl rfl ?_
    refine g_iload_n rfl rfl ?_
    refine g_icmp_gt (tgt := 14) rfl (by decide) (fun _ => ?_) (fun hx => absurd hx (by omega))
    refine g_iconst rfl ⟨by decide, by decide⟩ ?_
    refine x_zreturn rfl rfl (Or.inl rfl) ?_
    intro _
    refine x_zreturn rfl rfl (Or.inl rfl) ?_
    intro _
    refine g_if_eq (tgt := 28) rfl (by decide) (fun _ => ?_) (fun hx => absurd hx (by omega))
    refine g_bipush rfl ⟨by decide, by decide⟩ (by decide) ?_
    refine x_ireturn rfl rfl ?_
    exact ⟨rfl, tp_R_kp hR (tp_kp_pi (by decide) (tp_kp_pi (by decide) tp_kp_rf))⟩
