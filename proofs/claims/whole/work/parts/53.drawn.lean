theorem tp_kc {G : tp_G} {d : tp_D} {as : List tp_V} {μ : tp_M} {n n' ms : Nat} {Φ Ψ : Option tp_V → tp_M → Prop} (h : ∀ r μ', Ψ r μ' → Φ r μ') (k : tp_ok G d as μ n n' ms Ψ) : tp_ok G d as μ n n' ms Φ :=
  ⟨k.1, fun hm hf p e h1 h2 h3 s m args below h4 h5 h6 h7 => by
    obtain ⟨N, o, a1, a2, a3, ⟨r, μ', q1, q2, q3, q4, q5, q6⟩, a4⟩ := k.2 hm hf p e h1 h2 h3 s m args below h4 h5 h6 h7
    exact ⟨N, o, a1, a2, a3, ⟨r, μ', q1, q2, q3, q4, h r μ' q5, q6⟩, a4⟩⟩
theorem tp_drw {G : tp_G} {μ : tp_M} (hG : tp_Gf G = true) {c : Nat} {f : Int → Int} (hc : tp_SH c = .inl 0) (hcl : c < 37) (hw : tp_Cw f) (hCd : tp_Cd c f μ) {s m : Int} (hm : 0 ≤ m ∧ m ≤ 60) : ∃ (n : Int) (A B Y H : Int → Int) (E D U T : Int), r_W f n A B Y H ∧ tp_k G mX7_go [tR (some 50)] (tp_pi (tp_pi (tp_pr (tp_pr μ 50 5 (some c)) 50 7 none) 50 8 s) 50 9 m) (fun r μ' => r = none ∧ c_T 50 n A B Y E D U T μ' ∧ (∀ c', (c' < 50 ∨ 54 < c') → μ'.1 c' = μ.1 c') ∧ μ'.2 50 5 = some c) ∧ ∀ ck w9, tp_Mc ck f w9 → tp_k G mX12_runs [tR (some 201)] (tp_pi (tp_pi w9 201 38 s) 201 37 m) (fun r μ' => r = none ∧ m_T n A B Y E D U T μ' ∧ m_F (tp_pi (tp_pi w9 201 38 s) 201 37 m) μ') := by
  have hCd' : tp_Cd c f (tp_pi (tp_pi (tp_pr (tp_pr μ 50 5 (some c)) 50 7 none) 50 8 s) 50 9 m) := tp_Cd_pi hcl (by omega) (tp_Cd_pi hcl (by omega) hCd)
  have hfr : ∀ c', (c' < 50 ∨ 54 < c') → ((tp_pi (tp_pi (tp_pr (tp_pr μ 50 5 (some c)) 50 7 none) 50 8 s) 50 9 m)).1 c' = μ.1 c' := fun c' z => by rw [tp_pi_ne (by omega), tp_pi_ne (by omega)]; rfl
  have hw0 := hw.1
  by_cases hf0 : f 0 = 0
  · exact ⟨0, fun _ => 0, fun _ => 0, fun _ => 0, fun _ => 0, 3, 0, 0, 0, ⟨⟨by omega, by omega⟩, rfl, rfl, fun j g0 g1 => by omega⟩, tp_kc (fun r μ' h => ⟨h.1, h.2.1, fun c' z => (h.2.2.1 c' z).trans (hfr c' z), by rw [h.2.2.2]; rfl⟩) (s_go0 hG hc hcl rfl hCd' hf0), fun ck w9 hMc => s_runs0 hG (by show w9.1 201 26 = 0; rw [hMc.2.2.1]; exact hf0)⟩
  · obtain ⟨n, hn2, hn⟩ := r_N_ex f (r_dw (f 0) m) s
    refine ⟨n, _, _, _, _, r_E f (r_dw (f 0) m) s n, r_dp f (r_dw (f 0) m) s n, (r_at f (r_dw (f 0) m) s n).2.2.2.1, r_rt f (r_dw (f 0) m) s n, r_W_of hw (r_src_dw (by omega) (by omega)) hn2 hn, tp_kc (fun r μ' h => ?_) (s_go50 (c := c) (f := f) (ch := r_dw (f 0) m) hG hc hcl rfl hCd' hw (r_src_dw (by omega) (by omega)) (r_Hc_dw50 hG hc hcl rfl rfl hCd'.1 (by omega) rfl hm)), fun ck w9 hMc => tp_kc (fun r μ' h => ?_) (s_runs (ck := ck) (f := f) (ch := r_dw (f 0) m) hG (tp_Mc_pi (by omega) (tp_Mc_pi (by omega) hMc)) hw (r_src_dw (by omega) (by omega)) (m_Hc_dw hG (by show w9.1 201 26 = f 0; exact hMc.2.2.1) (by omega) rfl hm))⟩
    · obtain ⟨h1, ⟨m', h2⟩, h3⟩ := h
      have e : m' = n := r_N_uniq h2.1 hn
      subst e
      exact ⟨h1, c_T_of h2, fun c' z => (h3.1 c' z).trans (hfr c' z), by rw [h3.2.2]; rfl⟩
    · obtain ⟨h1, ⟨m', _, h2, h4⟩, h3⟩ := h
      have e : m' = n := r_N_uniq h2 hn
      subst e
      exact ⟨h1, h4, h3⟩
theorem m_F_Mc {k : Int} {f : Int → Int} {μ μ' : tp_M} (h : m_F μ μ') (q : tp_Mc k f μ) : tp_Mc k f μ' := tp_Mc_fr ⟨h.2.1 24 (by omega) (by omega), h.2.1 26 (by omega) (by omega)⟩ (h.1 207 (by omega) (by omega)) q
theorem m_F_kp {μ μ1 μ2 : tp_M} (h : tp_kp μ μ1) (q : m_F μ1 μ2) : tp_kp μ μ2 := fun k hk => (q.1 k (by unfold tp_tl at hk; omega) (by unfold tp_tl at hk; omega)).trans (h k hk)
set_option maxHeartbeats 4000000 in
set_option maxRecDepth 100000 in
theorem p_drawn {G : tp_G} (hG : tp_Gf G = true) {a s m w : Int} : tp_pair G mX11_drawn mX12_drawn [tI a, tI s, tI m, tI w] := by
  intro μ hR
  have hm0 := tp_R_many hR 0 (by decide) (by decide)
  by_cases hab : (a < 0 ∨ μ.1 5 0 ≤ a)
  · have hab9 : ∀ w, tp_kp μ w → ((a < 0 ∨ w.1 206 0 ≤ a) ∧ (0 ≤ w.1 206 0 ∧ w.1 206 0 ≤ 2)) := fun w h => by rw [h 206 (by unfold tp_tl; omega)]; omega
    refine tp_ok_of mX11_drawn_ok rfl (Nat.le_refl _) ?_
    refine g_aload_n rfl rfl ?_
    refine x_getF (r := 1) hG rfl rfl (by decide) (Or.inl ⟨_, rfl⟩) rfl ?_
    refine g_iload_n rfl rfl ?_
    refine g_cV (as := [tI a]) (s_codeOfo hG ⟨hab, hm0.2.2⟩) rfl rfl mX9_codeOf_ok rfl rfl rfl (by decide) rfl rfl rfl ?_
    rintro _ w9 ⟨rfl, hw9⟩ _
    have hw9 := hw9.symm
    subst hw9
    refine g_astore rfl rfl rfl ?_
    refine g_aload rfl rfl ?_
    refine g_ifnull (tgt := 25) rfl (by decide) (fun _ => ?_) (fun _ hx => by cases hx)
    refine g_iconst rfl ⟨by decide, by decide⟩ ?_
    refine x_ireturn rfl rfl ?_
    refine ⟨_, rfl, ?_⟩
    refine tp_ok_of mX12_drawn_ok rfl (Nat.le_refl _) ?_
    refine g_aload_n rfl rfl ?_
    refine g_iconst rfl ⟨by decide, by decide⟩ ?_
    refine g_puti rfl rfl (by decide) rfl rfl ?_
    refine g_iload_n rfl rfl ?_
    refine g_iconst rfl ⟨by decide, by decide⟩ ?_
    refine g_bipush rfl ⟨by decide, by decide⟩ (by decide) ?_
    refine g_iS (as := [tI m, tI 0, tI 60]) mX12_in_ok rfl rfl rfl rfl rfl rfl rfl ?_
    refine g_iload_n rfl rfl ?_
    refine g_iload_n rfl rfl ?_
    refine g_icmp_lt (tgt := 14) rfl (by decide) (fun h1 => ?_) (fun h1 => ?_)
    · refine g_iconst rfl ⟨by decide, by decide⟩ ?_
      refine x_zreturn rfl rfl (Or.inl rfl) ?_
      intro _
      refine g_if_eq (tgt := 40) rfl (by decide) (fun _ => ?_) (fun hx => absurd hx (by omega))
      refine g_iconst rfl ⟨by decide, by decide⟩ ?_
      refine x_ireturn rfl rfl ?_
      exact ⟨rfl, tp_R_kp hR (tp_kp_pi (by decide) tp_kp_rf)⟩
    · refine g_iload_n rfl rfl ?_
      refine g_iload_n rfl rfl ?_
      refine g_icmp_gt (tgt := 14) rfl (by decide) (fun h2 => ?_) (fun h2 => ?_)
      · refine g_iconst rfl ⟨by decide, by decide⟩ ?_
        refine x_zreturn rfl rfl (Or.inl rfl) ?_
        intro _
        refine g_if_eq (tgt := 40) rfl (by decide) (fun _ => ?_) (fun hx => absurd hx (by omega))
        refine g_iconst rfl ⟨by decide, by decide⟩ ?_
        refine x_ireturn rfl rfl ?_
        exact ⟨rfl, tp_R_kp hR (tp_kp_pi (by decide) tp_kp_rf)⟩
      · refine g_iconst rfl ⟨by decide, by decide⟩ ?_
        refine g_goto (tgt := 15) rfl (by decide) ?_
        refine x_zreturn rfl rfl (Or.inr rfl) ?_
        intro _
        refine g_if_eq (tgt := 40) rfl (by decide) (fun hx => absurd hx (by omega)) (fun _ => ?_)
        refine g_aload_n rfl rfl ?_
        refine g_iload_n rfl rfl ?_
        refine g_cV (as := [tI a]) (s_hasCo hG (hab9 _ (tp_kp_pi (by decide) tp_kp_rf))) rfl rfl mX12_hasCode_ok rfl rfl rfl (by decide) rfl rfl rfl ?_
        rintro _ w2 ⟨rfl, hGm⟩ _
        have hkp2 : tp_kp μ w2 := m_G_kp (tp_kp_pi (by decide) tp_kp_rf) hGm
        refine g_if_eq (tgt := 40) rfl (by decide) (fun _ => ?_) (fun hx => absurd hx (by omega))
        refine g_iconst rfl ⟨by decide, by decide⟩ ?_
        refine x_ireturn rfl rfl ?_
        exact ⟨rfl, tp_R_kp hR hkp2⟩
  · obtain ⟨a, rfl⟩ : ∃ a9 : Nat, a = (a9 : Int) := ⟨a.toNat, by omega⟩
    obtain ⟨f, c, hfE, hcE, hc, hcl, hw, hCd, hX, hM⟩ := tp_cdL hG hR (k := a) (by omega) (by omega)
    have hcn : c < 234 := by omega
    have hw0 := hw.1
    refine tp_ok_of mX11_drawn_ok rfl (Nat.le_refl _) ?_
    refine g_aload_n rfl rfl ?_
    refine x_getF (r := 1) hG rfl rfl (by decide) (Or.inl ⟨_, rfl⟩) rfl ?_
    refine g_iload_n rfl rfl ?_
    refine g_cV (as := [tI (a : Int)]) (hX) rfl rfl mX9_codeOf_ok rfl rfl rfl (by decide) rfl rfl rfl ?_
    rintro _ w9 ⟨rfl, hw9⟩ _
    have hw9 := hw9.symm
    subst hw9
    refine g_astore rfl rfl rfl ?_
    refine g_aload rfl rfl ?_
    refine g_ifnull (tgt := 25) rfl (by decide) (fun hx => by cases hx) (fun _ _ => ?_)
    refine g_iload_n rfl rfl ?_
    refine g_if_lt (tgt := 25) rfl (by decide) (fun h1 => ?_) (fun h1 => ?_)
    · refine g_iconst rfl ⟨by decide, by decide⟩ ?_
      refine x_ireturn rfl rfl ?_
      refine ⟨_, rfl, ?_⟩
      refine tp_ok_of mX12_drawn_ok rfl (Nat.le_refl _) ?_
      refine g_aload_n rfl rfl ?_
      refine g_iconst rfl ⟨by decide, by decide⟩ ?_
      refine g_puti rfl rfl (by decide) rfl rfl ?_
      refine g_iload_n rfl rfl ?_
      refine g_iconst rfl ⟨by decide, by decide⟩ ?_
      refine g_bipush rfl ⟨by decide, by decide⟩ (by decide) ?_
      refine g_iS (as := [tI m, tI 0, tI 60]) mX12_in_ok rfl rfl rfl rfl rfl rfl rfl ?_
      refine g_iload_n rfl rfl ?_
      refine g_iload_n rfl rfl ?_
      refine g_icmp_lt (tgt := 14) rfl (by decide) (fun _ => ?_) (fun hx => absurd hx (by omega))
      refine g_iconst rfl ⟨by decide, by decide⟩ ?_
      refine x_zreturn rfl rfl (Or.inl rfl) ?_
      intro _
      refine g_if_eq (tgt := 40) rfl (by decide) (fun _ => ?_) (fun hx => absurd hx (by omega))
      refine g_iconst rfl ⟨by decide, by decide⟩ ?_
      refine x_ireturn rfl rfl ?_
      exact ⟨(by first | rfl | exact congrArg (fun z => some (tI z)) (by rw [hTm.1, hT.1]; exact hTm.2.1 _ (by omega) (by omega)) | (exfalso; omega)), tp_R_kp hR (tp_kp_pi (by decide) tp_kp_rf)⟩
    · refine g_iload_n rfl rfl ?_
      refine g_bipush rfl ⟨by decide, by decide⟩ (by decide) ?_
      refine g_icmp_le (tgt := 27) rfl (by decide) (fun h2 => ?_) (fun h2 => ?_)
      · refine g_aload_n rfl rfl ?_
        refine x_getF (r := 50) hG rfl rfl (by decide) (Or.inl ⟨_, rfl⟩) rfl ?_
        refine g_aload rfl rfl ?_
        refine g_iload_n rfl rfl ?_
        refine g_iload_n rfl rfl ?_
        refine g_iV (as := [tR (some c), tI s, tI m]) mX7_drawBy_ok rfl rfl rfl rfl rfl rfl (by decide) rfl rfl rfl ?_
        refine g_aload_n rfl rfl ?_
        refine g_aload_n rfl rfl ?_
        refine x_putr rfl rfl (by decide) rfl (Or.inl ⟨_, rfl⟩) rfl ?_
        refine g_aload_n rfl rfl ?_
        refine g_null rfl ?_
        refine x_putr rfl rfl (by decide) rfl (Or.inl ⟨_, rfl⟩) rfl ?_
        refine g_aload_n rfl rfl ?_
        refine g_iload_n rfl rfl ?_
        refine g_puti rfl rfl (by decide) rfl rfl ?_
        refine g_aload_n rfl rfl ?_
        refine g_iload_n rfl rfl ?_
        refine g_puti rfl rfl (by decide) rfl rfl ?_
        refine x_return rfl rfl ?_
        intro _
        refine g_aload_n rfl rfl ?_
        refine x_getF (r := 50) hG rfl rfl (by decide) (Or.inl ⟨_, rfl⟩) rfl ?_
        obtain ⟨n, A, B, Y, H, E, D, U, T, hW, hX2, hM2⟩ := tp_drw hG hc hcl hw hCd (s := s) (m := m) (by omega)
        have hn0 := hW.1
        refine g_cV (as := []) (hX2) rfl rfl mX7_go_ok rfl rfl rfl (by decide) rfl rfl rfl ?_
        rintro _ w1 ⟨rfl, hT, hfr, hco⟩ _
        have hCd1 : tp_Cd c f w1 := tp_Cd_fr hcl (fun k9 z9 => hfr k9 (by omega)) hCd
        have hkp1 : tp_kp μ w1 := fun k9 z9 => hfr k9 (by unfold tp_tl at z9; omega)
        have hn6 := hT.1
        refine g_iload rfl rfl ?_
        refine g_bipush rfl ⟨by decide, by decide⟩ (by decide) ?_
        refine g_icmp_ne (tgt := 83) rfl (by decide) (fun h3 => ?_) (fun h3 => ?_)
        · refine g_iload rfl rfl ?_
          refine g_if_lt (tgt := 106) rfl (by decide) (fun h4 => ?_) (fun h4 => ?_)
          · refine g_iconst rfl ⟨by decide, by decide⟩ ?_
            refine x_ireturn rfl rfl ?_
            refine ⟨_, rfl, ?_⟩
            refine tp_ok_of mX12_drawn_ok rfl (Nat.le_refl _) ?_
            refine g_aload_n rfl rfl ?_
            refine g_iconst rfl ⟨by decide, by decide⟩ ?_
            refine g_puti rfl rfl (by decide) rfl rfl ?_
            refine g_iload_n rfl rfl ?_
            refine g_iconst rfl ⟨by decide, by decide⟩ ?_
            refine g_bipush rfl ⟨by decide, by decide⟩ (by decide) ?_
            refine g_iS (as := [tI m, tI 0, tI 60]) mX12_in_ok rfl rfl rfl rfl rfl rfl rfl ?_
            refine g_iload_n rfl rfl ?_
            refine g_iload_n rfl rfl ?_
            refine g_icmp_lt (tgt := 14) rfl (by decide) (fun hx => absurd hx (by omega)) (fun _ => ?_)
            refine g_iload_n rfl rfl ?_
            refine g_iload_n rfl rfl ?_
            refine g_icmp_gt (tgt := 14) rfl (by decide) (fun hx => absurd hx (by omega)) (fun _ => ?_)
            refine g_iconst rfl ⟨by decide, by decide⟩ ?_
            refine g_goto (tgt := 15) rfl (by decide) ?_
            refine x_zreturn rfl rfl (Or.inr rfl) ?_
            intro _
            refine g_if_eq (tgt := 40) rfl (by decide) (fun hx => absurd hx (by omega)) (fun _ => ?_)
            refine g_aload_n rfl rfl ?_
            refine g_iload_n rfl rfl ?_
            refine g_cV (as := [tI (a : Int)]) (hM _ (tp_kp_pi (by decide) hkp1)) rfl rfl mX12_hasCode_ok rfl rfl rfl (by decide) rfl rfl rfl ?_
            rintro _ w2 ⟨rfl, hMc, hGm⟩ _
            have hkp2 : tp_kp μ w2 := m_G_kp (tp_kp_pi (by decide) hkp1) hGm
            have hall := hMc.2.2.1
            refine g_if_eq (tgt := 40) rfl (by decide) (fun hx => absurd hx (by omega)) (fun _ => ?_)
            refine g_iload rfl rfl ?_
            refine g_iconst rfl ⟨by decide, by decide⟩ ?_
            refine g_iconst rfl ⟨by decide, by decide⟩ ?_
            refine g_iS (as := [tI w, tI 0, tI 5]) mX12_in_ok rfl rfl rfl rfl rfl rfl rfl ?_
            refine g_iload_n rfl rfl ?_
            refine g_iload_n rfl rfl ?_
            refine g_icmp_lt (tgt := 14) rfl (by decide) (fun _ => ?_) (fun hx => absurd hx (by omega))
            refine g_iconst rfl ⟨by decide, by decide⟩ ?_
            refine x_zreturn rfl rfl (Or.inl rfl) ?_
            intro _
            refine g_if_ne (tgt := 42) rfl (by decide) (fun hx => absurd hx (by omega)) (fun _ => ?_)
            refine g_iload rfl rfl ?_
            refine g_bipush rfl ⟨by decide, by decide⟩ (by decide) ?_
            refine g_icmp_eq (tgt := 42) rfl (by decide) (fun hx => absurd hx (by omega)) (fun _ => ?_)
            refine g_iconst rfl ⟨by decide, by decide⟩ ?_
            refine x_ireturn rfl rfl ?_
            exact ⟨(by first | rfl | exact congrArg (fun z => some (tI z)) (by rw [hTm.1, hT.1]; exact hTm.2.1 _ (by omega) (by omega)) | (exfalso; omega)), tp_R_kp hR hkp2⟩
          · refine g_iload rfl rfl ?_
            refine g_iconst rfl ⟨by decide, by decide⟩ ?_
            refine g_icmp_gt (tgt := 106) rfl (by decide) (fun h5 => ?_) (fun h5 => ?_)
            · refine g_iconst rfl ⟨by decide, by decide⟩ ?_
              refine x_ireturn rfl rfl ?_
              refine ⟨_, rfl, ?_⟩
              refine tp_ok_of mX12_drawn_ok rfl (Nat.le_refl _) ?_
              refine g_aload_n rfl rfl ?_
              refine g_iconst rfl ⟨by decide, by decide⟩ ?_
              refine g_puti rfl rfl (by decide) rfl rfl ?_
              refine g_iload_n rfl rfl ?_
              refine g_iconst rfl ⟨by decide, by decide⟩ ?_
              refine g_bipush rfl ⟨by decide, by decide⟩ (by decide) ?_
              refine g_iS (as := [tI m, tI 0, tI 60]) mX12_in_ok rfl rfl rfl rfl rfl rfl rfl ?_
              refine g_iload_n rfl rfl ?_
              refine g_iload_n rfl rfl ?_
              refine g_icmp_lt (tgt := 14) rfl (by decide) (fun hx => absurd hx (by omega)) (fun _ => ?_)
              refine g_iload_n rfl rfl ?_
              refine g_iload_n rfl rfl ?_
              refine g_icmp_gt (tgt := 14) rfl (by decide) (fun hx => absurd hx (by omega)) (fun _ => ?_)
              refine g_iconst rfl ⟨by decide, by decide⟩ ?_
              refine g_goto (tgt := 15) rfl (by decide) ?_
              refine x_zreturn rfl rfl (Or.inr rfl) ?_
              intro _
              refine g_if_eq (tgt := 40) rfl (by decide) (fun hx => absurd hx (by omega)) (fun _ => ?_)
              refine g_aload_n rfl rfl ?_
              refine g_iload_n rfl rfl ?_
              refine g_cV (as := [tI (a : Int)]) (hM _ (tp_kp_pi (by decide) hkp1)) rfl rfl mX12_hasCode_ok rfl rfl rfl (by decide) rfl rfl rfl ?_
              rintro _ w2 ⟨rfl, hMc, hGm⟩ _
              have hkp2 : tp_kp μ w2 := m_G_kp (tp_kp_pi (by decide) hkp1) hGm
              have hall := hMc.2.2.1
              refine g_if_eq (tgt := 40) rfl (by decide) (fun hx => absurd hx (by omega)) (fun _ => ?_)
              refine g_iload rfl rfl ?_
              refine g_iconst rfl ⟨by decide, by decide⟩ ?_
              refine g_iconst rfl ⟨by decide, by decide⟩ ?_
              refine g_iS (as := [tI w, tI 0, tI 5]) mX12_in_ok rfl rfl rfl rfl rfl rfl rfl ?_
              refine g_iload_n rfl rfl ?_
              refine g_iload_n rfl rfl ?_
              refine g_icmp_lt (tgt := 14) rfl (by decide) (fun hx => absurd hx (by omega)) (fun _ => ?_)
              refine g_iload_n rfl rfl ?_
              refine g_iload_n rfl rfl ?_
              refine g_icmp_gt (tgt := 14) rfl (by decide) (fun _ => ?_) (fun hx => absurd hx (by omega))
              refine g_iconst rfl ⟨by decide, by decide⟩ ?_
              refine x_zreturn rfl rfl (Or.inl rfl) ?_
              intro _
              refine g_if_ne (tgt := 42) rfl (by decide) (fun hx => absurd hx (by omega)) (fun _ => ?_)
              refine g_iload rfl rfl ?_
              refine g_bipush rfl ⟨by decide, by decide⟩ (by decide) ?_
              refine g_icmp_eq (tgt := 42) rfl (by decide) (fun h6 => ?_) (fun h6 => ?_)
              · refine g_aload_n rfl rfl ?_
                refine g_iload_n rfl rfl ?_
                refine g_puti rfl rfl (by decide) rfl rfl ?_
                refine g_aload_n rfl rfl ?_
                refine g_iload_n rfl rfl ?_
                refine g_puti rfl rfl (by decide) rfl rfl ?_
                refine g_aload_n rfl rfl ?_
                refine g_cV (as := []) (hM2 _ _ hMc) rfl rfl mX12_runs_ok rfl rfl rfl (by decide) rfl rfl rfl ?_
                rintro _ w4 ⟨rfl, hTm, hFm⟩ _
                have hMc4 := m_F_Mc hFm (tp_Mc_pi (by omega) (tp_Mc_pi (by omega) hMc))
                have hkp4 : tp_kp μ w4 := m_F_kp (tp_kp_pi (by decide) (tp_kp_pi (by decide) hkp2)) hFm
                have hm6 := hTm.1
                refine g_iload rfl rfl ?_
                refine g_bipush rfl ⟨by decide, by decide⟩ (by decide) ?_
                refine g_icmp_ge (tgt := 72) rfl (by decide) (fun _ => ?_) (fun hx => absurd hx (by omega))
                refine g_aload_n rfl rfl ?_
                refine x_geti (v := (w4.1 201 27)) rfl rfl (by decide) (Or.inl rfl) rfl ?_
                refine g_if_ne (tgt := 83) rfl (by decide) (fun h7 => ?_) (fun h7 => ?_)
                · refine g_aload_n rfl rfl ?_
                  refine x_getF (r := 212) hG rfl rfl (by decide) (Or.inr ⟨_, rfl⟩) rfl ?_
                  refine g_aload_n rfl rfl ?_
                  refine x_geti (v := (w4.1 201 27)) rfl rfl (by decide) (Or.inl rfl) rfl ?_
                  refine g_iconst rfl ⟨by decide, by decide⟩ ?_
                  refine x_isub (z := (w4.1 201 27) - 1) rfl (by omega) ⟨by omega, by omega⟩ ?_
                  refine x_iald (v := (w4.1 212 (w4.1 201 27 - 1))) rfl rfl (by decide) (by omega) (by omega) rfl ?_
                  refine x_ireturn rfl rfl ?_
                  exact ⟨(by first | rfl | exact congrArg (fun z => some (tI z)) (by rw [hTm.1, hT.1]; exact hTm.2.1 _ (by omega) (by omega)) | (exfalso; omega)), tp_R_kp hR hkp4⟩
                · refine g_iconst rfl ⟨by decide, by decide⟩ ?_
                  refine g_goto (tgt := 94) rfl (by decide) ?_
                  refine x_ireturn rfl rfl ?_
                  exact ⟨(by first | rfl | exact congrArg (fun z => some (tI z)) (by rw [hTm.1, hT.1]; exact hTm.2.1 _ (by omega) (by omega)) | (exfalso; omega)), tp_R_kp hR hkp4⟩
              · refine g_iconst rfl ⟨by decide, by decide⟩ ?_
                refine x_ireturn rfl rfl ?_
                exact ⟨(by first | rfl | exact congrArg (fun z => some (tI z)) (by rw [hTm.1, hT.1]; exact hTm.2.1 _ (by omega) (by omega)) | (exfalso; omega)), tp_R_kp hR hkp2⟩
            · refine g_aload_n rfl rfl ?_
              refine x_getF (r := 50) hG rfl rfl (by decide) (Or.inl ⟨_, rfl⟩) rfl ?_
              refine g_iload rfl rfl ?_
              refine g_cV (as := [tI w]) (s_tell50 hG hc hcl hw hW hT hCd1 hco) rfl rfl mX7_tell_ok rfl rfl rfl (by decide) rfl rfl rfl ?_
              rintro _ w3 ⟨rfl, hf1⟩ _
              have hkp3 : tp_kp μ w3 := q_f1_kp (by unfold tp_tl; omega) hkp1 hf1
              refine g_goto (tgt := 107) rfl (by decide) ?_
              refine x_ireturn rfl rfl ?_
              refine ⟨_, rfl, ?_⟩
              refine tp_ok_of mX12_drawn_ok rfl (Nat.le_refl _) ?_
              refine g_aload_n rfl rfl ?_
              refine g_iconst rfl ⟨by decide, by decide⟩ ?_
              refine g_puti rfl rfl (by decide) rfl rfl ?_
              refine g_iload_n rfl rfl ?_
              refine g_iconst rfl ⟨by decide, by decide⟩ ?_
              refine g_bipush rfl ⟨by decide, by decide⟩ (by decide) ?_
              refine g_iS (as := [tI m, tI 0, tI 60]) mX12_in_ok rfl rfl rfl rfl rfl rfl rfl ?_
              refine g_iload_n rfl rfl ?_
              refine g_iload_n rfl rfl ?_
              refine g_icmp_lt (tgt := 14) rfl (by decide) (fun hx => absurd hx (by omega)) (fun _ => ?_)
              refine g_iload_n rfl rfl ?_
              refine g_iload_n rfl rfl ?_
              refine g_icmp_gt (tgt := 14) rfl (by decide) (fun hx => absurd hx (by omega)) (fun _ => ?_)
              refine g_iconst rfl ⟨by decide, by decide⟩ ?_
              refine g_goto (tgt := 15) rfl (by decide) ?_
              refine x_zreturn rfl rfl (Or.inr rfl) ?_
              intro _
              refine g_if_eq (tgt := 40) rfl (by decide) (fun hx => absurd hx (by omega)) (fun _ => ?_)
              refine g_aload_n rfl rfl ?_
              refine g_iload_n rfl rfl ?_
              refine g_cV (as := [tI (a : Int)]) (hM _ (tp_kp_pi (by decide) hkp3)) rfl rfl mX12_hasCode_ok rfl rfl rfl (by decide) rfl rfl rfl ?_
              rintro _ w2 ⟨rfl, hMc, hGm⟩ _
              have hkp2 : tp_kp μ w2 := m_G_kp (tp_kp_pi (by decide) hkp3) hGm
              have hall := hMc.2.2.1
              refine g_if_eq (tgt := 40) rfl (by decide) (fun hx => absurd hx (by omega)) (fun _ => ?_)
              refine g_iload rfl rfl ?_
              refine g_iconst rfl ⟨by decide, by decide⟩ ?_
              refine g_iconst rfl ⟨by decide, by decide⟩ ?_
              refine g_iS (as := [tI w, tI 0, tI 5]) mX12_in_ok rfl rfl rfl rfl rfl rfl rfl ?_
              refine g_iload_n rfl rfl ?_
              refine g_iload_n rfl rfl ?_
              refine g_icmp_lt (tgt := 14) rfl (by decide) (fun hx => absurd hx (by omega)) (fun _ => ?_)
              refine g_iload_n rfl rfl ?_
              refine g_iload_n rfl rfl ?_
              refine g_icmp_gt (tgt := 14) rfl (by decide) (fun hx => absurd hx (by omega)) (fun _ => ?_)
              refine g_iconst rfl ⟨by decide, by decide⟩ ?_
              refine g_goto (tgt := 15) rfl (by decide) ?_
              refine x_zreturn rfl rfl (Or.inr rfl) ?_
              intro _
              refine g_if_ne (tgt := 42) rfl (by decide) (fun _ => ?_) (fun hx => absurd hx (by omega))
              refine g_aload_n rfl rfl ?_
              refine g_iload_n rfl rfl ?_
              refine g_puti rfl rfl (by decide) rfl rfl ?_
              refine g_aload_n rfl rfl ?_
              refine g_iload_n rfl rfl ?_
              refine g_puti rfl rfl (by decide) rfl rfl ?_
              refine g_aload_n rfl rfl ?_
              refine g_cV (as := []) (hM2 _ _ hMc) rfl rfl mX12_runs_ok rfl rfl rfl (by decide) rfl rfl rfl ?_
              rintro _ w4 ⟨rfl, hTm, hFm⟩ _
              have hMc4 := m_F_Mc hFm (tp_Mc_pi (by omega) (tp_Mc_pi (by omega) hMc))
              have hkp4 : tp_kp μ w4 := m_F_kp (tp_kp_pi (by decide) (tp_kp_pi (by decide) hkp2)) hFm
              have hm6 := hTm.1
              refine g_iload rfl rfl ?_
              refine g_bipush rfl ⟨by decide, by decide⟩ (by decide) ?_
              refine g_icmp_ge (tgt := 72) rfl (by decide) (fun hx => absurd hx (by omega)) (fun _ => ?_)
              refine g_aload_n rfl rfl ?_
              refine g_iload rfl rfl ?_
              refine g_cV (as := [tI w]) (s_ofRunM hG hw hW hTm hMc4) rfl rfl mX12_ofRun_ok rfl rfl rfl (by decide) rfl rfl rfl ?_
              rintro _ w5 ⟨rfl, hf2⟩ _
              have hkp5 : tp_kp μ w5 := q_f1_kp (by unfold tp_tl; omega) hkp4 hf2
              refine g_goto (tgt := 94) rfl (by decide) ?_
              refine x_ireturn rfl rfl ?_
              exact ⟨(by first | rfl | exact congrArg (fun z => some (tI z)) (by rw [hTm.1, hT.1]; exact hTm.2.1 _ (by omega) (by omega)) | (exfalso; omega)), tp_R_kp hR hkp5⟩
        · refine g_aload_n rfl rfl ?_
          refine x_getF (r := 50) hG rfl rfl (by decide) (Or.inl ⟨_, rfl⟩) rfl ?_
          refine x_geti (v := (w1.1 50 6)) rfl rfl (by decide) (Or.inl rfl) rfl ?_
          refine g_if_ne (tgt := 66) rfl (by decide) (fun h8 => ?_) (fun h8 => ?_)
          · refine g_aload_n rfl rfl ?_
            refine x_getF (r := 50) hG rfl rfl (by decide) (Or.inl ⟨_, rfl⟩) rfl ?_
            refine g_aload_n rfl rfl ?_
            refine x_getF (r := 50) hG rfl rfl (by decide) (Or.inl ⟨_, rfl⟩) rfl ?_
            refine x_geti (v := (w1.1 50 6)) rfl rfl (by decide) (Or.inl rfl) rfl ?_
            refine g_iconst rfl ⟨by decide, by decide⟩ ?_
            refine x_isub (z := (w1.1 50 6) - 1) rfl (by omega) ⟨by omega, by omega⟩ ?_
            refine g_cV (as := [tI ((w1.1 50 6) - 1)]) (s_at50 hG hT (by omega) (by omega) (by omega)) rfl rfl mX7_at_ok rfl rfl rfl (by decide) rfl rfl rfl ?_
            rintro _ w9 ⟨rfl, hw9⟩ _
            have hw9 := hw9.symm
            subst hw9
            refine x_ireturn rfl rfl ?_
            refine ⟨_, rfl, ?_⟩
            refine tp_ok_of mX12_drawn_ok rfl (Nat.le_refl _) ?_
            refine g_aload_n rfl rfl ?_
            refine g_iconst rfl ⟨by decide, by decide⟩ ?_
            refine g_puti rfl rfl (by decide) rfl rfl ?_
            refine g_iload_n rfl rfl ?_
            refine g_iconst rfl ⟨by decide, by decide⟩ ?_
            refine g_bipush rfl ⟨by decide, by decide⟩ (by decide) ?_
            refine g_iS (as := [tI m, tI 0, tI 60]) mX12_in_ok rfl rfl rfl rfl rfl rfl rfl ?_
            refine g_iload_n rfl rfl ?_
            refine g_iload_n rfl rfl ?_
            refine g_icmp_lt (tgt := 14) rfl (by decide) (fun hx => absurd hx (by omega)) (fun _ => ?_)
            refine g_iload_n rfl rfl ?_
            refine g_iload_n rfl rfl ?_
            refine g_icmp_gt (tgt := 14) rfl (by decide) (fun hx => absurd hx (by omega)) (fun _ => ?_)
            refine g_iconst rfl ⟨by decide, by decide⟩ ?_
            refine g_goto (tgt := 15) rfl (by decide) ?_
            refine x_zreturn rfl rfl (Or.inr rfl) ?_
            intro _
            refine g_if_eq (tgt := 40) rfl (by decide) (fun hx => absurd hx (by omega)) (fun _ => ?_)
            refine g_aload_n rfl rfl ?_
            refine g_iload_n rfl rfl ?_
            refine g_cV (as := [tI (a : Int)]) (hM _ (tp_kp_pi (by decide) hkp1)) rfl rfl mX12_hasCode_ok rfl rfl rfl (by decide) rfl rfl rfl ?_
            rintro _ w2 ⟨rfl, hMc, hGm⟩ _
            have hkp2 : tp_kp μ w2 := m_G_kp (tp_kp_pi (by decide) hkp1) hGm
            have hall := hMc.2.2.1
            refine g_if_eq (tgt := 40) rfl (by decide) (fun hx => absurd hx (by omega)) (fun _ => ?_)
            refine g_iload rfl rfl ?_
            refine g_iconst rfl ⟨by decide, by decide⟩ ?_
            refine g_iconst rfl ⟨by decide, by decide⟩ ?_
            refine g_iS (as := [tI w, tI 0, tI 5]) mX12_in_ok rfl rfl rfl rfl rfl rfl rfl ?_
            refine g_iload_n rfl rfl ?_
            refine g_iload_n rfl rfl ?_
            refine g_icmp_lt (tgt := 14) rfl (by decide) (fun hx => absurd hx (by omega)) (fun _ => ?_)
            refine g_iload_n rfl rfl ?_
            refine g_iload_n rfl rfl ?_
            refine g_icmp_gt (tgt := 14) rfl (by decide) (fun _ => ?_) (fun hx => absurd hx (by omega))
            refine g_iconst rfl ⟨by decide, by decide⟩ ?_
            refine x_zreturn rfl rfl (Or.inl rfl) ?_
            intro _
            refine g_if_ne (tgt := 42) rfl (by decide) (fun hx => absurd hx (by omega)) (fun _ => ?_)
            refine g_iload rfl rfl ?_
            refine g_bipush rfl ⟨by decide, by decide⟩ (by decide) ?_
            refine g_icmp_eq (tgt := 42) rfl (by decide) (fun _ => ?_) (fun hx => absurd hx (by omega))
            refine g_aload_n rfl rfl ?_
            refine g_iload_n rfl rfl ?_
            refine g_puti rfl rfl (by decide) rfl rfl ?_
            refine g_aload_n rfl rfl ?_
            refine g_iload_n rfl rfl ?_
            refine g_puti rfl rfl (by decide) rfl rfl ?_
            refine g_aload_n rfl rfl ?_
            refine g_cV (as := []) (hM2 _ _ hMc) rfl rfl mX12_runs_ok rfl rfl rfl (by decide) rfl rfl rfl ?_
            rintro _ w4 ⟨rfl, hTm, hFm⟩ _
            have hMc4 := m_F_Mc hFm (tp_Mc_pi (by omega) (tp_Mc_pi (by omega) hMc))
            have hkp4 : tp_kp μ w4 := m_F_kp (tp_kp_pi (by decide) (tp_kp_pi (by decide) hkp2)) hFm
            have hm6 := hTm.1
            refine g_iload rfl rfl ?_
            refine g_bipush rfl ⟨by decide, by decide⟩ (by decide) ?_
            refine g_icmp_ge (tgt := 72) rfl (by decide) (fun _ => ?_) (fun hx => absurd hx (by omega))
            refine g_aload_n rfl rfl ?_
            refine x_geti (v := (w4.1 201 27)) rfl rfl (by decide) (Or.inl rfl) rfl ?_
            refine g_if_ne (tgt := 83) rfl (by decide) (fun _ => ?_) (fun hx => absurd hx (by omega))
            refine g_aload_n rfl rfl ?_
            refine x_getF (r := 212) hG rfl rfl (by decide) (Or.inr ⟨_, rfl⟩) rfl ?_
            refine g_aload_n rfl rfl ?_
            refine x_geti (v := (w4.1 201 27)) rfl rfl (by decide) (Or.inl rfl) rfl ?_
            refine g_iconst rfl ⟨by decide, by decide⟩ ?_
            refine x_isub (z := (w4.1 201 27) - 1) rfl (by omega) ⟨by omega, by omega⟩ ?_
            refine x_iald (v := (w4.1 212 (w4.1 201 27 - 1))) rfl rfl (by decide) (by omega) (by omega) rfl ?_
            refine x_ireturn rfl rfl ?_
            exact ⟨(by first | rfl | exact congrArg (fun z => some (tI z)) (by rw [hTm.1, hT.1]; exact hTm.2.1 _ (by omega) (by omega)) | (exfalso; omega)), tp_R_kp hR hkp4⟩
          · refine g_iconst rfl ⟨by decide, by decide⟩ ?_
            refine g_goto (tgt := 82) rfl (by decide) ?_
            refine x_ireturn rfl rfl ?_
            refine ⟨_, rfl, ?_⟩
            refine tp_ok_of mX12_drawn_ok rfl (Nat.le_refl _) ?_
            refine g_aload_n rfl rfl ?_
            refine g_iconst rfl ⟨by decide, by decide⟩ ?_
            refine g_puti rfl rfl (by decide) rfl rfl ?_
            refine g_iload_n rfl rfl ?_
            refine g_iconst rfl ⟨by decide, by decide⟩ ?_
            refine g_bipush rfl ⟨by decide, by decide⟩ (by decide) ?_
            refine g_iS (as := [tI m, tI 0, tI 60]) mX12_in_ok rfl rfl rfl rfl rfl rfl rfl ?_
            refine g_iload_n rfl rfl ?_
            refine g_iload_n rfl rfl ?_
            refine g_icmp_lt (tgt := 14) rfl (by decide) (fun hx => absurd hx (by omega)) (fun _ => ?_)
            refine g_iload_n rfl rfl ?_
            refine g_iload_n rfl rfl ?_
            refine g_icmp_gt (tgt := 14) rfl (by decide) (fun hx => absurd hx (by omega)) (fun _ => ?_)
            refine g_iconst rfl ⟨by decide, by decide⟩ ?_
            refine g_goto (tgt := 15) rfl (by decide) ?_
            refine x_zreturn rfl rfl (Or.inr rfl) ?_
            intro _
            refine g_if_eq (tgt := 40) rfl (by decide) (fun hx => absurd hx (by omega)) (fun _ => ?_)
            refine g_aload_n rfl rfl ?_
            refine g_iload_n rfl rfl ?_
            refine g_cV (as := [tI (a : Int)]) (hM _ (tp_kp_pi (by decide) hkp1)) rfl rfl mX12_hasCode_ok rfl rfl rfl (by decide) rfl rfl rfl ?_
            rintro _ w2 ⟨rfl, hMc, hGm⟩ _
            have hkp2 : tp_kp μ w2 := m_G_kp (tp_kp_pi (by decide) hkp1) hGm
            have hall := hMc.2.2.1
            refine g_if_eq (tgt := 40) rfl (by decide) (fun hx => absurd hx (by omega)) (fun _ => ?_)
            refine g_iload rfl rfl ?_
            refine g_iconst rfl ⟨by decide, by decide⟩ ?_
            refine g_iconst rfl ⟨by decide, by decide⟩ ?_
            refine g_iS (as := [tI w, tI 0, tI 5]) mX12_in_ok rfl rfl rfl rfl rfl rfl rfl ?_
            refine g_iload_n rfl rfl ?_
            refine g_iload_n rfl rfl ?_
            refine g_icmp_lt (tgt := 14) rfl (by decide) (fun hx => absurd hx (by omega)) (fun _ => ?_)
            refine g_iload_n rfl rfl ?_
            refine g_iload_n rfl rfl ?_
            refine g_icmp_gt (tgt := 14) rfl (by decide) (fun _ => ?_) (fun hx => absurd hx (by omega))
            refine g_iconst rfl ⟨by decide, by decide⟩ ?_
            refine x_zreturn rfl rfl (Or.inl rfl) ?_
            intro _
            refine g_if_ne (tgt := 42) rfl (by decide) (fun hx => absurd hx (by omega)) (fun _ => ?_)
            refine g_iload rfl rfl ?_
            refine g_bipush rfl ⟨by decide, by decide⟩ (by decide) ?_
            refine g_icmp_eq (tgt := 42) rfl (by decide) (fun _ => ?_) (fun hx => absurd hx (by omega))
            refine g_aload_n rfl rfl ?_
            refine g_iload_n rfl rfl ?_
            refine g_puti rfl rfl (by decide) rfl rfl ?_
            refine g_aload_n rfl rfl ?_
            refine g_iload_n rfl rfl ?_
            refine g_puti rfl rfl (by decide) rfl rfl ?_
            refine g_aload_n rfl rfl ?_
            refine g_cV (as := []) (hM2 _ _ hMc) rfl rfl mX12_runs_ok rfl rfl rfl (by decide) rfl rfl rfl ?_
            rintro _ w4 ⟨rfl, hTm, hFm⟩ _
            have hMc4 := m_F_Mc hFm (tp_Mc_pi (by omega) (tp_Mc_pi (by omega) hMc))
            have hkp4 : tp_kp μ w4 := m_F_kp (tp_kp_pi (by decide) (tp_kp_pi (by decide) hkp2)) hFm
            have hm6 := hTm.1
            refine g_iload rfl rfl ?_
            refine g_bipush rfl ⟨by decide, by decide⟩ (by decide) ?_
            refine g_icmp_ge (tgt := 72) rfl (by decide) (fun _ => ?_) (fun hx => absurd hx (by omega))
            refine g_aload_n rfl rfl ?_
            refine x_geti (v := (w4.1 201 27)) rfl rfl (by decide) (Or.inl rfl) rfl ?_
            refine g_if_ne (tgt := 83) rfl (by decide) (fun hx => absurd hx (by omega)) (fun _ => ?_)
            refine g_iconst rfl ⟨by decide, by decide⟩ ?_
            refine g_goto (tgt := 94) rfl (by decide) ?_
            refine x_ireturn rfl rfl ?_
            exact ⟨(by first | rfl | exact congrArg (fun z => some (tI z)) (by rw [hTm.1, hT.1]; exact hTm.2.1 _ (by omega) (by omega)) | (exfalso; omega)), tp_R_kp hR hkp4⟩
      · refine g_iconst rfl ⟨by decide, by decide⟩ ?_
        refine x_ireturn rfl rfl ?_
        refine ⟨_, rfl, ?_⟩
        refine tp_ok_of mX12_drawn_ok rfl (Nat.le_refl _) ?_
        refine g_aload_n rfl rfl ?_
        refine g_iconst rfl ⟨by decide, by decide⟩ ?_
        refine g_puti rfl rfl (by decide) rfl rfl ?_
        refine g_iload_n rfl rfl ?_
        refine g_iconst rfl ⟨by decide, by decide⟩ ?_
        refine g_bipush rfl ⟨by decide, by decide⟩ (by decide) ?_
        refine g_iS (as := [tI m, tI 0, tI 60]) mX12_in_ok rfl rfl rfl rfl rfl rfl rfl ?_
        refine g_iload_n rfl rfl ?_
        refine g_iload_n rfl rfl ?_
        refine g_icmp_lt (tgt := 14) rfl (by decide) (fun hx => absurd hx (by omega)) (fun _ => ?_)
        refine g_iload_n rfl rfl ?_
        refine g_iload_n rfl rfl ?_
        refine g_icmp_gt (tgt := 14) rfl (by decide) (fun _ => ?_) (fun hx => absurd hx (by omega))
        refine g_iconst rfl ⟨by decide, by decide⟩ ?_
        refine x_zreturn rfl rfl (Or.inl rfl) ?_
        intro _
        refine g_if_eq (tgt := 40) rfl (by decide) (fun _ => ?_) (fun hx => absurd hx (by omega))
        refine g_iconst rfl ⟨by decide, by decide⟩ ?_
        refine x_ireturn rfl rfl ?_
        exact ⟨(by first | rfl | exact congrArg (fun z => some (tI z)) (by rw [hTm.1, hT.1]; exact hTm.2.1 _ (by omega) (by omega)) | (exfalso; omega)), tp_R_kp hR (tp_kp_pi (by decide) tp_kp_rf)⟩
