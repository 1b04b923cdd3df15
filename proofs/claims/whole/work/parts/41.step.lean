set_option maxHeartbeats 4000000 in
set_option maxRecDepth 100000 in
theorem p_step {G : tp_G} (hG : tp_Gf G = true) {a d k t : Int} (ht : t = 0 ∨ t = 1) : tp_pair G mX11_step mX12_step [tI a, tI d, tI k, tI t] := by
  intro μ hR
  have hm0 := tp_R_many hR 0 (by decide) (by decide)
  have hm1 := tp_R_many hR 1 (by decide) (by decide)
  by_cases hab : ((a < 0 ∨ μ.1 5 0 ≤ a) ∨ (d < 0 ∨ μ.1 5 1 ≤ d))
  · obtain ⟨hX, hM⟩ := tp_layo hG hR hab
    refine tp_ok_of mX11_step_ok rfl (Nat.le_refl _) ?_
    refine g_aload_n rfl rfl ?_
    refine g_iload_n rfl rfl ?_
    refine g_iload_n rfl rfl ?_
    refine g_cV (as := [tI a, tI d]) (hX) rfl rfl mX11_follow_ok rfl rfl rfl (by decide) rfl rfl rfl ?_
    rintro _ w9 ⟨rfl, hw9⟩ _
    have hw9 := hw9.symm
    subst hw9
    refine g_if_eq (tgt := 24) rfl (by decide) (fun _ => ?_) (fun hx => absurd hx (by omega))
    refine g_iconst rfl ⟨by decide, by decide⟩ ?_
    refine x_ireturn rfl rfl ?_
    refine ⟨_, rfl, ?_⟩
    refine tp_ok_of mX12_step_ok rfl (Nat.le_refl _) ?_
    refine g_aload_n rfl rfl ?_
    refine g_iconst rfl ⟨by decide, by decide⟩ ?_
    refine g_puti rfl rfl (by decide) rfl rfl ?_
    refine g_aload_n rfl rfl ?_
    refine g_iload_n rfl rfl ?_
    refine g_iload_n rfl rfl ?_
    refine g_cV (as := [tI a, tI d]) (hM _ (tp_kp_pi (by decide) tp_kp_rf)) rfl rfl mX12_lay_ok rfl rfl rfl (by decide) rfl rfl rfl ?_
    rintro _ w2 ⟨rfl, hGm⟩ _
    have hkp2 : tp_kp μ w2 := m_G_kp (tp_kp_pi (by decide) tp_kp_rf) hGm
    refine g_if_eq (tgt := 28) rfl (by decide) (fun _ => ?_) (fun hx => absurd hx (by omega))
    refine g_iconst rfl ⟨by decide, by decide⟩ ?_
    refine x_ireturn rfl rfl ?_
    exact ⟨rfl, tp_R_kp hR hkp2⟩
  · obtain ⟨a, rfl⟩ : ∃ a9 : Nat, a = (a9 : Int) := ⟨a.toNat, by omega⟩
    obtain ⟨d, rfl⟩ : ∃ d9 : Nat, d = (d9 : Int) := ⟨d.toNat, by omega⟩
    obtain ⟨n, A, B, Y, H, E, D, U, T, hW, hw, hCd0, hX, hM⟩ := tp_lay hG hR (k := a) (d := d) (by omega) (by omega) (by omega) (by omega)
    generalize tp_cf μ (a : Int) = f at hW hw hCd0 hX hM
    obtain ⟨c, hcE⟩ : ∃ c, c = 6 + 5 * a := ⟨_, rfl⟩
    rw [← hcE] at hCd0 hX
    have hc : tp_SH c = .inl 0 := by rcases (show a = 0 ∨ a = 1 by omega) with q | q <;> (subst q; subst hcE; rfl)
    have hcl : c < 37 := by omega
    have hcn : c < 234 := by omega
    have hw0 := hw.1
    have hn0 := hW.1
    refine tp_ok_of mX11_step_ok rfl (Nat.le_refl _) ?_
    refine g_aload_n rfl rfl ?_
    refine g_iload_n rfl rfl ?_
    refine g_iload_n rfl rfl ?_
    refine g_cV (as := [tI (a : Int), tI (d : Int)]) (hX) rfl rfl mX11_follow_ok rfl rfl rfl (by decide) rfl rfl rfl ?_
    rintro _ w1 ⟨rfl, hT, hco, hfr⟩ _
    have hCd : tp_Cd c f w1 := tp_Cd_fr hcl (fun k9 z9 => hfr k9 (by omega)) hCd0
    have hkp1 : tp_kp μ w1 := fun k9 z9 => hfr k9 (by unfold tp_tl at z9; omega)
    have hn6 := hT.1
    refine g_if_eq (tgt := 24) rfl (by decide) (fun hx => absurd hx (by omega)) (fun _ => ?_)
    refine g_iload_n rfl rfl ?_
    refine g_if_lt (tgt := 24) rfl (by decide) (fun h1 => ?_) (fun h1 => ?_)
    · refine g_iconst rfl ⟨by decide, by decide⟩ ?_
      refine x_ireturn rfl rfl ?_
      refine ⟨_, rfl, ?_⟩
      refine tp_ok_of mX12_step_ok rfl (Nat.le_refl _) ?_
      refine g_aload_n rfl rfl ?_
      refine g_iconst rfl ⟨by decide, by decide⟩ ?_
      refine g_puti rfl rfl (by decide) rfl rfl ?_
      refine g_aload_n rfl rfl ?_
      refine g_iload_n rfl rfl ?_
      refine g_iload_n rfl rfl ?_
      refine g_cV (as := [tI (a : Int), tI (d : Int)]) (hM _ (tp_kp_pi (by decide) hkp1)) rfl rfl mX12_lay_ok rfl rfl rfl (by decide) rfl rfl rfl ?_
      rintro _ w2 ⟨rfl, hTm, hMc, hGm, hdr, hdm⟩ _
      have hkp2 : tp_kp μ w2 := m_G_kp (tp_kp_pi (by decide) hkp1) hGm
      have hm6 := hTm.1
      have hall := hMc.2.2.1
      refine g_if_eq (tgt := 28) rfl (by decide) (fun hx => absurd hx (by omega)) (fun _ => ?_)
      refine g_iload_n rfl rfl ?_
      refine g_iconst rfl ⟨by decide, by decide⟩ ?_
      refine g_aload_n rfl rfl ?_
      refine x_geti (v := (w2.1 201 27)) rfl rfl (by decide) (Or.inl rfl) rfl ?_
      refine g_iconst rfl ⟨by decide, by decide⟩ ?_
      refine x_isub (z := (w2.1 201 27) - 1) rfl (by omega) ⟨by omega, by omega⟩ ?_
      refine g_iS (as := [tI k, tI 0, tI ((w2.1 201 27) - 1)]) mX12_in_ok rfl rfl rfl rfl rfl rfl rfl ?_
      refine g_iload_n rfl rfl ?_
      refine g_iload_n rfl rfl ?_
      refine g_icmp_lt (tgt := 14) rfl (by decide) (fun _ => ?_) (fun hx => absurd hx (by omega))
      refine g_iconst rfl ⟨by decide, by decide⟩ ?_
      refine x_zreturn rfl rfl (Or.inl rfl) ?_
      intro _
      refine g_if_ne (tgt := 30) rfl (by decide) (fun hx => absurd hx (by omega)) (fun _ => ?_)
      refine g_iconst rfl ⟨by decide, by decide⟩ ?_
      refine x_ireturn rfl rfl ?_
      exact ⟨(by first | rfl | exact congrArg (fun z => some (tI z)) (hTm.2.1 k (by omega) (by omega)) | (exfalso; omega)), tp_R_kp hR hkp2⟩
    · refine g_iload_n rfl rfl ?_
      refine g_aload_n rfl rfl ?_
      refine x_getF (r := 50) hG rfl rfl (by decide) (Or.inl ⟨_, rfl⟩) rfl ?_
      refine x_geti (v := (w1.1 50 6)) rfl rfl (by decide) (Or.inl rfl) rfl ?_
      refine g_icmp_lt (tgt := 26) rfl (by decide) (fun h2 => ?_) (fun h2 => ?_)
      · refine g_iload rfl rfl ?_
        refine g_if_ne (tgt := 40) rfl (by decide) (fun h3 => ?_) (fun h3 => ?_)
        · refine g_aload_n rfl rfl ?_
          refine x_getF (r := 50) hG rfl rfl (by decide) (Or.inl ⟨_, rfl⟩) rfl ?_
          refine g_iload_n rfl rfl ?_
          refine g_cV (as := [tI k]) (s_isTraced50 hG hc hcl hw hW hT hCd hco (by omega) (by omega)) rfl rfl mX7_isTraced_ok rfl rfl rfl (by decide) rfl rfl rfl ?_
          rintro _ w9 ⟨rfl, hw9⟩ _
          have hw9 := hw9.symm
          subst hw9
          have hq1 := q_tr_b f (A k)
          refine g_if_eq (tgt := 55) rfl (by decide) (fun h4 => ?_) (fun h4 => ?_)
          · refine g_iconst rfl ⟨by decide, by decide⟩ ?_
            refine x_ireturn rfl rfl ?_
            refine ⟨_, rfl, ?_⟩
            refine tp_ok_of mX12_step_ok rfl (Nat.le_refl _) ?_
            refine g_aload_n rfl rfl ?_
            refine g_iconst rfl ⟨by decide, by decide⟩ ?_
            refine g_puti rfl rfl (by decide) rfl rfl ?_
            refine g_aload_n rfl rfl ?_
            refine g_iload_n rfl rfl ?_
            refine g_iload_n rfl rfl ?_
            refine g_cV (as := [tI (a : Int), tI (d : Int)]) (hM _ (tp_kp_pi (by decide) hkp1)) rfl rfl mX12_lay_ok rfl rfl rfl (by decide) rfl rfl rfl ?_
            rintro _ w2 ⟨rfl, hTm, hMc, hGm, hdr, hdm⟩ _
            have hkp2 : tp_kp μ w2 := m_G_kp (tp_kp_pi (by decide) hkp1) hGm
            have hm6 := hTm.1
            have hall := hMc.2.2.1
            refine g_if_eq (tgt := 28) rfl (by decide) (fun hx => absurd hx (by omega)) (fun _ => ?_)
            refine g_iload_n rfl rfl ?_
            refine g_iconst rfl ⟨by decide, by decide⟩ ?_
            refine g_aload_n rfl rfl ?_
            refine x_geti (v := (w2.1 201 27)) rfl rfl (by decide) (Or.inl rfl) rfl ?_
            refine g_iconst rfl ⟨by decide, by decide⟩ ?_
            refine x_isub (z := (w2.1 201 27) - 1) rfl (by omega) ⟨by omega, by omega⟩ ?_
            refine g_iS (as := [tI k, tI 0, tI ((w2.1 201 27) - 1)]) mX12_in_ok rfl rfl rfl rfl rfl rfl rfl ?_
            refine g_iload_n rfl rfl ?_
            refine g_iload_n rfl rfl ?_
            refine g_icmp_lt (tgt := 14) rfl (by decide) (fun hx => absurd hx (by omega)) (fun _ => ?_)
            refine g_iload_n rfl rfl ?_
            refine g_iload_n rfl rfl ?_
            refine g_icmp_gt (tgt := 14) rfl (by decide) (fun hx => absurd hx (by omega)) (fun _ => ?_)
            refine g_iconst rfl ⟨by decide, by decide⟩ ?_
            refine g_goto (tgt := 15) rfl (by decide) ?_
            refine x_zreturn rfl rfl (Or.inr rfl) ?_
            intro _
            refine g_if_ne (tgt := 30) rfl (by decide) (fun _ => ?_) (fun hx => absurd hx (by omega))
            refine g_iload rfl rfl ?_
            refine g_if_ne (tgt := 44) rfl (by decide) (fun _ => ?_) (fun hx => absurd hx (by omega))
            refine g_aload_n rfl rfl ?_
            refine g_iload_n rfl rfl ?_
            refine g_cV (as := [tI k]) (s_isTracedM hG hw hW hTm hMc (by omega) (by omega)) rfl rfl mX12_isTraced_ok rfl rfl rfl (by decide) rfl rfl rfl ?_
            rintro _ w9 ⟨rfl, hw9⟩ _
            have hw9 := hw9.symm
            subst hw9
            have hq2 := q_tr_b f (A k)
            refine g_if_eq (tgt := 56) rfl (by decide) (fun _ => ?_) (fun hx => absurd hx (by omega))
            refine g_iconst rfl ⟨by decide, by decide⟩ ?_
            refine x_ireturn rfl rfl ?_
            exact ⟨(by first | rfl | exact congrArg (fun z => some (tI z)) (hTm.2.1 k (by omega) (by omega)) | (exfalso; omega)), tp_R_kp hR hkp2⟩
          · refine g_iconst rfl ⟨by decide, by decide⟩ ?_
            refine g_goto (tgt := 56) rfl (by decide) ?_
            refine x_ireturn rfl rfl ?_
            refine ⟨_, rfl, ?_⟩
            refine tp_ok_of mX12_step_ok rfl (Nat.le_refl _) ?_
            refine g_aload_n rfl rfl ?_
            refine g_iconst rfl ⟨by decide, by decide⟩ ?_
            refine g_puti rfl rfl (by decide) rfl rfl ?_
            refine g_aload_n rfl rfl ?_
            refine g_iload_n rfl rfl ?_
            refine g_iload_n rfl rfl ?_
            refine g_cV (as := [tI (a : Int), tI (d : Int)]) (hM _ (tp_kp_pi (by decide) hkp1)) rfl rfl mX12_lay_ok rfl rfl rfl (by decide) rfl rfl rfl ?_
            rintro _ w2 ⟨rfl, hTm, hMc, hGm, hdr, hdm⟩ _
            have hkp2 : tp_kp μ w2 := m_G_kp (tp_kp_pi (by decide) hkp1) hGm
            have hm6 := hTm.1
            have hall := hMc.2.2.1
            refine g_if_eq (tgt := 28) rfl (by decide) (fun hx => absurd hx (by omega)) (fun _ => ?_)
            refine g_iload_n rfl rfl ?_
            refine g_iconst rfl ⟨by decide, by decide⟩ ?_
            refine g_aload_n rfl rfl ?_
            refine x_geti (v := (w2.1 201 27)) rfl rfl (by decide) (Or.inl rfl) rfl ?_
            refine g_iconst rfl ⟨by decide, by decide⟩ ?_
            refine x_isub (z := (w2.1 201 27) - 1) rfl (by omega) ⟨by omega, by omega⟩ ?_
            refine g_iS (as := [tI k, tI 0, tI ((w2.1 201 27) - 1)]) mX12_in_ok rfl rfl rfl rfl rfl rfl rfl ?_
            refine g_iload_n rfl rfl ?_
            refine g_iload_n rfl rfl ?_
            refine g_icmp_lt (tgt := 14) rfl (by decide) (fun hx => absurd hx (by omega)) (fun _ => ?_)
            refine g_iload_n rfl rfl ?_
            refine g_iload_n rfl rfl ?_
            refine g_icmp_gt (tgt := 14) rfl (by decide) (fun hx => absurd hx (by omega)) (fun _ => ?_)
            refine g_iconst rfl ⟨by decide, by decide⟩ ?_
            refine g_goto (tgt := 15) rfl (by decide) ?_
            refine x_zreturn rfl rfl (Or.inr rfl) ?_
            intro _
            refine g_if_ne (tgt := 30) rfl (by decide) (fun _ => ?_) (fun hx => absurd hx (by omega))
            refine g_iload rfl rfl ?_
            refine g_if_ne (tgt := 44) rfl (by decide) (fun _ => ?_) (fun hx => absurd hx (by omega))
            refine g_aload_n rfl rfl ?_
            refine g_iload_n rfl rfl ?_
            refine g_cV (as := [tI k]) (s_isTracedM hG hw hW hTm hMc (by omega) (by omega)) rfl rfl mX12_isTraced_ok rfl rfl rfl (by decide) rfl rfl rfl ?_
            rintro _ w9 ⟨rfl, hw9⟩ _
            have hw9 := hw9.symm
            subst hw9
            have hq2 := q_tr_b f (A k)
            refine g_if_eq (tgt := 56) rfl (by decide) (fun hx => absurd hx (by omega)) (fun _ => ?_)
            refine g_iconst rfl ⟨by decide, by decide⟩ ?_
            refine g_goto (tgt := 57) rfl (by decide) ?_
            refine x_ireturn rfl rfl ?_
            exact ⟨(by first | rfl | exact congrArg (fun z => some (tI z)) (hTm.2.1 k (by omega) (by omega)) | (exfalso; omega)), tp_R_kp hR hkp2⟩
        · refine g_aload_n rfl rfl ?_
          refine x_getF (r := 50) hG rfl rfl (by decide) (Or.inl ⟨_, rfl⟩) rfl ?_
          refine g_iload_n rfl rfl ?_
          refine g_cV (as := [tI k]) (s_at50 hG hT (by omega) (by omega) (by omega)) rfl rfl mX7_at_ok rfl rfl rfl (by decide) rfl rfl rfl ?_
          rintro _ w9 ⟨rfl, hw9⟩ _
          have hw9 := hw9.symm
          subst hw9
          have hr4 := (hW.2.2.2 (k) (by omega) (by omega)).1.1
          refine x_ireturn rfl rfl ?_
          refine ⟨_, rfl, ?_⟩
          refine tp_ok_of mX12_step_ok rfl (Nat.le_refl _) ?_
          refine g_aload_n rfl rfl ?_
          refine g_iconst rfl ⟨by decide, by decide⟩ ?_
          refine g_puti rfl rfl (by decide) rfl rfl ?_
          refine g_aload_n rfl rfl ?_
          refine g_iload_n rfl rfl ?_
          refine g_iload_n rfl rfl ?_
          refine g_cV (as := [tI (a : Int), tI (d : Int)]) (hM _ (tp_kp_pi (by decide) hkp1)) rfl rfl mX12_lay_ok rfl rfl rfl (by decide) rfl rfl rfl ?_
          rintro _ w2 ⟨rfl, hTm, hMc, hGm, hdr, hdm⟩ _
          have hkp2 : tp_kp μ w2 := m_G_kp (tp_kp_pi (by decide) hkp1) hGm
          have hm6 := hTm.1
          have hall := hMc.2.2.1
          refine g_if_eq (tgt := 28) rfl (by decide) (fun hx => absurd hx (by omega)) (fun _ => ?_)
          refine g_iload_n rfl rfl ?_
          refine g_iconst rfl ⟨by decide, by decide⟩ ?_
          refine g_aload_n rfl rfl ?_
          refine x_geti (v := (w2.1 201 27)) rfl rfl (by decide) (Or.inl rfl) rfl ?_
          refine g_iconst rfl ⟨by decide, by decide⟩ ?_
          refine x_isub (z := (w2.1 201 27) - 1) rfl (by omega) ⟨by omega, by omega⟩ ?_
          refine g_iS (as := [tI k, tI 0, tI ((w2.1 201 27) - 1)]) mX12_in_ok rfl rfl rfl rfl rfl rfl rfl ?_
          refine g_iload_n rfl rfl ?_
          refine g_iload_n rfl rfl ?_
          refine g_icmp_lt (tgt := 14) rfl (by decide) (fun hx => absurd hx (by omega)) (fun _ => ?_)
          refine g_iload_n rfl rfl ?_
          refine g_iload_n rfl rfl ?_
          refine g_icmp_gt (tgt := 14) rfl (by decide) (fun hx => absurd hx (by omega)) (fun _ => ?_)
          refine g_iconst rfl ⟨by decide, by decide⟩ ?_
          refine g_goto (tgt := 15) rfl (by decide) ?_
          refine x_zreturn rfl rfl (Or.inr rfl) ?_
          intro _
          refine g_if_ne (tgt := 30) rfl (by decide) (fun _ => ?_) (fun hx => absurd hx (by omega))
          refine g_iload rfl rfl ?_
          refine g_if_ne (tgt := 44) rfl (by decide) (fun hx => absurd hx (by omega)) (fun _ => ?_)
          refine g_aload_n rfl rfl ?_
          refine x_getF (r := 212) hG rfl rfl (by decide) (Or.inr ⟨_, rfl⟩) rfl ?_
          refine g_iload_n rfl rfl ?_
          refine x_iald (v := (w2.1 212 k)) rfl rfl (by decide) (by omega) (by omega) rfl ?_
          refine g_goto (tgt := 57) rfl (by decide) ?_
          refine x_ireturn rfl rfl ?_
          exact ⟨(by first | rfl | exact congrArg (fun z => some (tI z)) (hTm.2.1 k (by omega) (by omega)) | (exfalso; omega)), tp_R_kp hR hkp2⟩
      · refine g_iconst rfl ⟨by decide, by decide⟩ ?_
        refine x_ireturn rfl rfl ?_
        refine ⟨_, rfl, ?_⟩
        refine tp_ok_of mX12_step_ok rfl (Nat.le_refl _) ?_
        refine g_aload_n rfl rfl ?_
        refine g_iconst rfl ⟨by decide, by decide⟩ ?_
        refine g_puti rfl rfl (by decide) rfl rfl ?_
        refine g_aload_n rfl rfl ?_
        refine g_iload_n rfl rfl ?_
        refine g_iload_n rfl rfl ?_
        refine g_cV (as := [tI (a : Int), tI (d : Int)]) (hM _ (tp_kp_pi (by decide) hkp1)) rfl rfl mX12_lay_ok rfl rfl rfl (by decide) rfl rfl rfl ?_
        rintro _ w2 ⟨rfl, hTm, hMc, hGm, hdr, hdm⟩ _
        have hkp2 : tp_kp μ w2 := m_G_kp (tp_kp_pi (by decide) hkp1) hGm
        have hm6 := hTm.1
        have hall := hMc.2.2.1
        refine g_if_eq (tgt := 28) rfl (by decide) (fun hx => absurd hx (by omega)) (fun _ => ?_)
        refine g_iload_n rfl rfl ?_
        refine g_iconst rfl ⟨by decide, by decide⟩ ?_
        refine g_aload_n rfl rfl ?_
        refine x_geti (v := (w2.1 201 27)) rfl rfl (by decide) (Or.inl rfl) rfl ?_
        refine g_iconst rfl ⟨by decide, by decide⟩ ?_
        refine x_isub (z := (w2.1 201 27) - 1) rfl (by omega) ⟨by omega, by omega⟩ ?_
        refine g_iS (as := [tI k, tI 0, tI ((w2.1 201 27) - 1)]) mX12_in_ok rfl rfl rfl rfl rfl rfl rfl ?_
        refine g_iload_n rfl rfl ?_
        refine g_iload_n rfl rfl ?_
        refine g_icmp_lt (tgt := 14) rfl (by decide) (fun hx => absurd hx (by omega)) (fun _ => ?_)
        refine g_iload_n rfl rfl ?_
        refine g_iload_n rfl rfl ?_
        refine g_icmp_gt (tgt := 14) rfl (by decide) (fun _ => ?_) (fun hx => absurd hx (by omega))
        refine g_iconst rfl ⟨by decide, by decide⟩ ?_
        refine x_zreturn rfl rfl (Or.inl rfl) ?_
        intro _
        refine g_if_ne (tgt := 30) rfl (by decide) (fun hx => absurd hx (by omega)) (fun _ => ?_)
        refine g_iconst rfl ⟨by decide, by decide⟩ ?_
        refine x_ireturn rfl rfl ?_
        exact ⟨(by first | rfl | exact congrArg (fun z => some (tI z)) (hTm.2.1 k (by omega) (by omega)) | (exfalso; omega)), tp_R_kp hR hkp2⟩
theorem s_hasV {G : tp_G} {μ : tp_M} (hG : tp_Gf G = true) {c : Nat} {f : Int → Int} {x : Int} (hc : tp_SH c = .inl 0) (hcl : c < 37) (hw : tp_Cw f) (h : tp_Cd c f μ) : tp_k G mX0_has [tR (some c), tI x] μ (fun r μ' => (r = some (tI (if 0 ≤ x ∧ x < f 0 then 1 else 0))) ∧ μ' = μ) := by
  by_cases q : 0 ≤ x ∧ x < f 0
  · rw [if_pos q]; exact s_hasX hG hc hcl hw h q.1 q.2
  · rw [if_neg q]; exact s_hasXo hG hc hcl h (by omega)
set_option maxHeartbeats 4000000 in
set_option maxRecDepth 100000 in
theorem p_visits {G : tp_G} (hG : tp_Gf G = true) {a d x : Int} : tp_pair G mX11_visits mX12_visits [tI a, tI d, tI x] := by
  intro μ hR
  have hm0 := tp_R_many hR 0 (by decide) (by decide)
  have hm1 := tp_R_many hR 1 (by decide) (by decide)
  by_cases hab : ((a < 0 ∨ μ.1 5 0 ≤ a) ∨ (d < 0 ∨ μ.1 5 1 ≤ d))
  · obtain ⟨hX, hM⟩ := tp_layo hG hR hab
    refine tp_ok_of mX11_visits_ok rfl (Nat.le_refl _) ?_
    refine g_aload_n rfl rfl ?_
    refine g_iload_n rfl rfl ?_
    refine g_iload_n rfl rfl ?_
    refine g_cV (as := [tI a, tI d]) (hX) rfl rfl mX11_follow_ok rfl rfl rfl (by decide) rfl rfl rfl ?_
    rintro _ w9 ⟨rfl, hw9⟩ _
    have hw9 := hw9.symm
    subst hw9
    refine g_if_eq (tgt := 20) rfl (by decide) (fun _ => ?_) (fun hx => absurd hx (by omega))
    refine g_iconst rfl ⟨by decide, by decide⟩ ?_
    refine x_ireturn rfl rfl ?_
    refine ⟨_, rfl, ?_⟩
    refine tp_ok_of mX12_visits_ok rfl (Nat.le_refl _) ?_
    refine g_aload_n rfl rfl ?_
    refine g_iconst rfl ⟨by decide, by decide⟩ ?_
    refine g_puti rfl rfl (by decide) rfl rfl ?_
    refine g_aload_n rfl rfl ?_
    refine g_iload_n rfl rfl ?_
    refine g_iload_n rfl rfl ?_
    refine g_cV (as := [tI a, tI d]) (hM _ (tp_kp_pi (by decide) tp_kp_rf)) rfl rfl mX12_lay_ok rfl rfl rfl (by decide) rfl rfl rfl ?_
    rintro _ w2 ⟨rfl, hGm⟩ _
    have hkp2 : tp_kp μ w2 := m_G_kp (tp_kp_pi (by decide) tp_kp_rf) hGm
    refine g_if_eq (tgt := 30) rfl (by decide) (fun _ => ?_) (fun hx => absurd hx (by omega))
    refine g_iconst rfl ⟨by decide, by decide⟩ ?_
    refine x_ireturn rfl rfl ?_
    exact ⟨rfl, tp_R_kp hR hkp2⟩
  · obtain ⟨a, rfl⟩ : ∃ a9 : Nat, a = (a9 : Int) := ⟨a.toNat, by omega⟩
    obtain ⟨d, rfl⟩ : ∃ d9 : Nat, d = (d9 : Int) := ⟨d.toNat, by omega⟩
    obtain ⟨n, A, B, Y, H, E, D, U, T, hW, hw, hCd0, hX, hM⟩ := tp_lay hG hR (k := a) (d := d) (by omega) (by omega) (by omega) (by omega)
    generalize tp_cf μ (a : Int) = f at hW hw hCd0 hX hM
    obtain ⟨c, hcE⟩ : ∃ c, c = 6 + 5 * a := ⟨_, rfl⟩
    rw [← hcE] at hCd0 hX
    have hc : tp_SH c = .inl 0 := by rcases (show a = 0 ∨ a = 1 by omega) with q | q <;> (subst q; subst hcE; rfl)
    have hcl : c < 37 := by omega
    have hcn : c < 234 := by omega
    have hw0 := hw.1
    have hn0 := hW.1
    refine tp_ok_of mX11_visits_ok rfl (Nat.le_refl _) ?_
    refine g_aload_n rfl rfl ?_
    refine g_iload_n rfl rfl ?_
    refine g_iload_n rfl rfl ?_
    refine g_cV (as := [tI (a : Int), tI (d : Int)]) (hX) rfl rfl mX11_follow_ok rfl rfl rfl (by decide) rfl rfl rfl ?_
    rintro _ w1 ⟨rfl, hT, hco, hfr⟩ _
    have hCd : tp_Cd c f w1 := tp_Cd_fr hcl (fun k9 z9 => hfr k9 (by omega)) hCd0
    have hkp1 : tp_kp μ w1 := fun k9 z9 => hfr k9 (by unfold tp_tl at z9; omega)
    have hn6 := hT.1
    refine g_if_eq (tgt := 20) rfl (by decide) (fun hx => absurd hx (by omega)) (fun _ => ?_)
    refine g_aload_n rfl rfl ?_
    refine x_getF (r := 50) hG rfl rfl (by decide) (Or.inl ⟨_, rfl⟩) rfl ?_
    refine g_iload_n rfl rfl ?_
    refine g_iV (as := [tI x]) mX7_hasInstruction_ok rfl rfl rfl rfl rfl rfl (by decide) rfl rfl rfl ?_
    refine g_aload_n rfl rfl ?_
    refine x_getM (v := (some c)) hG rfl rfl (by decide) (Or.inl ⟨_, rfl⟩) rfl hco ?_
    refine g_ifnull (tgt := 22) rfl (by decide) (fun hx => by cases hx) (fun _ _ => ?_)
    refine g_aload_n rfl rfl ?_
    refine x_getM (v := (some c)) hG rfl rfl (by decide) (Or.inl ⟨_, rfl⟩) rfl hco ?_
    refine g_iload_n rfl rfl ?_
    refine g_cV (as := [tI x]) (s_hasV hG hc hcl hw hCd) rfl rfl mX0_has_ok rfl hc rfl hcn rfl rfl rfl ?_
    rintro _ w9 ⟨rfl, hw9⟩ _
    have hw9 := hw9.symm
    subst hw9
    by_cases hx9 : 0 ≤ x ∧ x < f 0
    · rw [if_pos hx9]
      refine g_if_eq (tgt := 22) rfl (by decide) (fun hx => absurd hx (by omega)) (fun _ => ?_)
      refine g_iconst rfl ⟨by decide, by decide⟩ ?_
      refine g_goto (tgt := 23) rfl (by decide) ?_
      refine x_zreturn rfl rfl (Or.inr rfl) ?_
      intro _
      refine g_if_ne (tgt := 22) rfl (by decide) (fun _ => ?_) (fun hx => absurd hx (by omega))
      refine g_aload_n rfl rfl ?_
      refine x_getF (r := 50) hG rfl rfl (by decide) (Or.inl ⟨_, rfl⟩) rfl ?_
      refine g_aload_n rfl rfl ?_
      refine x_getF (r := 83) hG rfl rfl (by decide) (Or.inr ⟨_, rfl⟩) rfl ?_
      refine g_cV (as := [tR (some 83)]) (s_visits hG hc hcl hw hW hT hCd hco) rfl rfl mX7_visitsInto_ok rfl rfl rfl (by decide) rfl rfl rfl ?_
      rintro _ w3 ⟨rfl, hv, hf1⟩ _
      have hkp3 : tp_kp μ w3 := q_f1_kp (by unfold tp_tl; omega) hkp1 hf1
      refine g_aload_n rfl rfl ?_
      refine g_iload_n rfl rfl ?_
      refine g_iV (as := [tI x]) mX11_weightOf_ok rfl rfl rfl rfl rfl rfl (by decide) rfl rfl rfl ?_
      refine g_iload_n rfl rfl ?_
      refine g_if_lt (tgt := 10) rfl (by decide) (fun hx => absurd hx (by omega)) (fun _ => ?_)
      refine g_iload_n rfl rfl ?_
      refine g_bipush rfl ⟨by decide, by decide⟩ (by decide) ?_
      refine g_icmp_lt (tgt := 14) rfl (by decide) (fun _ => ?_) (fun hx => absurd hx (by omega))
      refine g_aload_n rfl rfl ?_
      refine x_getF (r := 83) hG rfl rfl (by decide) (Or.inr ⟨_, rfl⟩) rfl ?_
      refine g_iload_n rfl rfl ?_
      refine x_iald (v := (w3.1 83 x)) rfl rfl (by decide) (by omega) (by omega) rfl ?_
      refine x_ireturn rfl rfl ?_
      intro _
      refine x_ireturn rfl rfl ?_
      refine ⟨_, rfl, ?_⟩
      refine tp_ok_of mX12_visits_ok rfl (Nat.le_refl _) ?_
      refine g_aload_n rfl rfl ?_
      refine g_iconst rfl ⟨by decide, by decide⟩ ?_
      refine g_puti rfl rfl (by decide) rfl rfl ?_
      refine g_aload_n rfl rfl ?_
      refine g_iload_n rfl rfl ?_
      refine g_iload_n rfl rfl ?_
      refine g_cV (as := [tI (a : Int), tI (d : Int)]) (hM _ (tp_kp_pi (by decide) hkp3)) rfl rfl mX12_lay_ok rfl rfl rfl (by decide) rfl rfl rfl ?_
      rintro _ w2 ⟨rfl, hTm, hMc, hGm, hdr, hdm⟩ _
      have hkp2 : tp_kp μ w2 := m_G_kp (tp_kp_pi (by decide) hkp3) hGm
      have hm6 := hTm.1
      have hall := hMc.2.2.1
      refine g_if_eq (tgt := 30) rfl (by decide) (fun hx => absurd hx (by omega)) (fun _ => ?_)
      refine g_aload_n rfl rfl ?_
      refine g_iload_n rfl rfl ?_
      refine g_iV (as := [tI x]) mX12_isAddress_ok rfl rfl rfl rfl rfl rfl (by decide) rfl rfl rfl ?_
      refine g_iload_n rfl rfl ?_
      refine g_iconst rfl ⟨by decide, by decide⟩ ?_
      refine g_aload_n rfl rfl ?_
      refine x_geti (v := (w2.1 201 26)) rfl rfl (by decide) (Or.inl rfl) rfl ?_
      refine g_iconst rfl ⟨by decide, by decide⟩ ?_
      refine x_isub (z := (w2.1 201 26) - 1) rfl (by omega) ⟨by omega, by omega⟩ ?_
      refine g_iS (as := [tI x, tI 0, tI ((w2.1 201 26) - 1)]) mX12_in_ok rfl rfl rfl rfl rfl rfl rfl ?_
      refine g_iload_n rfl rfl ?_
      refine g_iload_n rfl rfl ?_
      refine g_icmp_lt (tgt := 14) rfl (by decide) (fun hx => absurd hx (by omega)) (fun _ => ?_)
      refine g_iload_n rfl rfl ?_
      refine g_iload_n rfl rfl ?_
      refine g_icmp_gt (tgt := 14) rfl (by decide) (fun hx => absurd hx (by omega)) (fun _ => ?_)
      refine g_iconst rfl ⟨by decide, by decide⟩ ?_
      refine g_goto (tgt := 15) rfl (by decide) ?_
      refine x_zreturn rfl rfl (Or.inr rfl) ?_
      intro _
      refine x_zreturn rfl rfl (Or.inr rfl) ?_
      intro _
      refine g_if_eq (tgt := 30) rfl (by decide) (fun hx => absurd hx (by omega)) (fun _ => ?_)
      refine g_aload_n rfl rfl ?_
      refine g_iload_n rfl rfl ?_
      refine g_cV (as := [tI x]) (s_visM hG hw hW hTm hMc) rfl rfl mX12_visitsOf_ok rfl rfl rfl (by decide) rfl rfl rfl ?_
      rintro _ w9 ⟨rfl, hw9⟩ _
      have hw9 := hw9.symm
      subst hw9
      refine g_goto (tgt := 31) rfl (by decide) ?_
      refine x_ireturn rfl rfl ?_
      exact ⟨(by first | rfl | exact congrArg (fun z => some (tI z)) (hv x (by omega) (by omega)).symm | (exfalso; omega)), tp_R_kp hR hkp2⟩
    · rw [if_neg hx9]
      refine g_if_eq (tgt := 22) rfl (by decide) (fun _ => ?_) (fun hx => absurd hx (by omega))
      refine g_iconst rfl ⟨by decide, by decide⟩ ?_
      refine x_zreturn rfl rfl (Or.inl rfl) ?_
      intro _
      refine g_if_ne (tgt := 22) rfl (by decide) (fun hx => absurd hx (by omega)) (fun _ => ?_)
      refine g_iconst rfl ⟨by decide, by decide⟩ ?_
      refine x_ireturn rfl rfl ?_
      refine ⟨_, rfl, ?_⟩
      refine tp_ok_of mX12_visits_ok rfl (Nat.le_refl _) ?_
      refine g_aload_n rfl rfl ?_
      refine g_iconst rfl ⟨by decide, by decide⟩ ?_
      refine g_puti rfl rfl (by decide) rfl rfl ?_
      refine g_aload_n rfl rfl ?_
      refine g_iload_n rfl rfl ?_
      refine g_iload_n rfl rfl ?_
      refine g_cV (as := [tI (a : Int), tI (d : Int)]) (hM _ (tp_kp_pi (by decide) hkp1)) rfl rfl mX12_lay_ok rfl rfl rfl (by decide) rfl rfl rfl ?_
      rintro _ w2 ⟨rfl, hTm, hMc, hGm, hdr, hdm⟩ _
      have hkp2 : tp_kp μ w2 := m_G_kp (tp_kp_pi (by decide) hkp1) hGm
      have hm6 := hTm.1
      have hall := hMc.2.2.1
      refine g_if_eq (tgt := 30) rfl (by decide) (fun hx => absurd hx (by omega)) (fun _ => ?_)
      refine g_aload_n rfl rfl ?_
      refine g_iload_n rfl rfl ?_
      refine g_iV (as := [tI x]) mX12_isAddress_ok rfl rfl rfl rfl rfl rfl (by decide) rfl rfl rfl ?_
      refine g_iload_n rfl rfl ?_
      refine g_iconst rfl ⟨by decide, by decide⟩ ?_
      refine g_aload_n rfl rfl ?_
      refine x_geti (v := (w2.1 201 26)) rfl rfl (by decide) (Or.inl rfl) rfl ?_
      refine g_iconst rfl ⟨by decide, by decide⟩ ?_
      refine x_isub (z := (w2.1 201 26) - 1) rfl (by omega) ⟨by omega, by omega⟩ ?_
      refine g_iS (as := [tI x, tI 0, tI ((w2.1 201 26) - 1)]) mX12_in_ok rfl rfl rfl rfl rfl rfl rfl ?_
      refine g_iload_n rfl rfl ?_
      refine g_iload_n rfl rfl ?_
      refine g_icmp_lt (tgt := 14) rfl (by decide) (fun h1 => ?_) (fun h1 => ?_)
      · refine g_iconst rfl ⟨by decide, by decide⟩ ?_
        refine x_zreturn rfl rfl (Or.inl rfl) ?_
        intro _
        refine x_zreturn rfl rfl (Or.inl rfl) ?_
        intro _
        refine g_if_eq (tgt := 30) rfl (by decide) (fun _ => ?_) (fun hx => absurd hx (by omega))
        refine g_iconst rfl ⟨by decide, by decide⟩ ?_
        refine x_ireturn rfl rfl ?_
        exact ⟨(by first | rfl | exact congrArg (fun z => some (tI z)) (hv x (by omega) (by omega)).symm | (exfalso; omega)), tp_R_kp hR hkp2⟩
      · refine g_iload_n rfl rfl ?_
        refine g_iload_n rfl rfl ?_
        refine g_icmp_gt (tgt := 14) rfl (by decide) (fun h2 => ?_) (fun h2 => ?_)
        · refine g_iconst rfl ⟨by decide, by decide⟩ ?_
          refine x_zreturn rfl rfl (Or.inl rfl) ?_
          intro _
          refine x_zreturn rfl rfl (Or.inl rfl) ?_
          intro _
          refine g_if_eq (tgt := 30) rfl (by decide) (fun _ => ?_) (fun hx => absurd hx (by omega))
          refine g_iconst rfl ⟨by decide, by decide⟩ ?_
          refine x_ireturn rfl rfl ?_
          exact ⟨(by first | rfl | exact congrArg (fun z => some (tI z)) (hv x (by omega) (by omega)).symm | (exfalso; omega)), tp_R_kp hR hkp2⟩
        · refine g_iconst rfl ⟨by decide, by decide⟩ ?_
          refine g_goto (tgt := 15) rfl (by decide) ?_
          refine x_zreturn rfl rfl (Or.inr rfl) ?_
          intro _
          refine x_zreturn rfl rfl (Or.inr rfl) ?_
          intro _
          refine g_if_eq (tgt := 30) rfl (by decide) (fun hx => absurd hx (by omega)) (fun _ => ?_)
          refine g_aload_n rfl rfl ?_
          refine g_iload_n rfl rfl ?_
          refine g_cV (as := [tI x]) (s_visM hG hw hW hTm hMc) rfl rfl mX12_visitsOf_ok rfl rfl rfl (by decide) rfl rfl rfl ?_
          rintro _ w9 ⟨rfl, hw9⟩ _
          have hw9 := hw9.symm
          subst hw9
          refine g_goto (tgt := 31) rfl (by decide) ?_
          refine x_ireturn rfl rfl ?_
          exact ⟨(by first | rfl | exact congrArg (fun z => some (tI z)) (hv x (by omega) (by omega)).symm | (exfalso; omega)), tp_R_kp hR hkp2⟩
