set_option maxHeartbeats 4000000 in
set_option maxRecDepth 100000 in
theorem l_map {G : tp_G} (hG : tp_Gf G = true) {c : Nat} {f : Int → Int} {n S : Int} {A B Y H : Int → Int} (hc : tp_SH c = .inl 0) (hcl : c < 37) (hw : tp_Cw f) (hW : r_W f n A B Y H) {μ0 : tp_M} (hCd0 : tp_Cd c f μ0) (hco0 : μ0.2 70 4 = some c) {j0 z0 j1 : Int} (hS : S ≤ j0) (hj : 0 ≤ j0 ∧ j0 ≤ j1 ∧ j1 ≤ n) (hz : 0 ≤ z0 ∧ z0 ≤ j0) (hS0 : 0 ≤ S) {b mo : Int} (hlt : j0 < j1) (hl : s_ev f A B (f 2) S (j1 - 1) = 1) (hev : ∀ j, j0 ≤ j → j < j1 → s_ev f A B (f 2) S j = 1 ∨ s_st f A B j) (hmo : mo = s_n f A B (f 2) S j1 - s_n f A B (f 2) S j0) (hbt : s_bt f A B Y (f 2) b S j0 j1) : ∀ k, k ≤ j1 - j0 → ∀ (μ : tp_M) (h : Int) (x5 : Option tp_V), 0 ≤ k → w_P f A B n S (j0 + k) (z0 + (j0 + k - j0)) μ → w_A A j0 z0 (j0 + k) μ0 μ → w_F μ0 μ → h = s_n f A B (f 2) S (j0 + k) - s_n f A B (f 2) S j0 → tp_g G mX10_hearMap 5 [some (tR (some 70)), some (tI b), some (tI mo), some (tI h), some (tI k), x5] [] μ (fun r μ' => r = none ∧ w_P f A B n S j1 (z0 + (j1 - j0)) μ' ∧ w_A A j0 z0 j1 μ0 μ' ∧ w_F μ0 μ') := by
  have hcn : c < 234 := by omega
  have hw0 := hw.1
  have hn0 := hW.1
  have hrl := hw.2.2
  refine tp_ind _ ?_
  intro k hkN ih μ h x5 h0 hP hA hF hhn
  have hCd : tp_Cd c f μ := tp_Cd_fr hcl (fun k9 z9 => hF.1 k9 (by omega) (by omega) (by omega) (by omega) (by omega)) hCd0
  have hco : μ.2 70 4 = some c := by rw [hF.2]; exact hco0
  have e6 := hP.1
  have e8 := hP.2.2.1
  have e9 := hP.2.2.2.1
  have hzb : 0 ≤ μ.1 74 1 ∧ μ.1 74 1 ≤ 4 := by have e := hP.2.2.2.2.1; have b := s_S_b (f := f) (A := A) (B := B) (dp := f 2) (s := S) (j := j0 + k) (by omega); rw [← e] at b; exact b
  by_cases hend : j0 + k < j1
  case neg =>
    have hq : j0 + k = j1 := by omega
    have hh9 : mo ≤ h := by rw [hq] at hhn; omega
    refine g_iload rfl rfl ?_
    refine g_sipush rfl ⟨by decide, by decide⟩ (by decide) ?_
    refine g_icmp_ge (tgt := 120) rfl (by decide) (fun h1 => ?_) (fun h1 => ?_)
    · refine x_return rfl rfl ?_
      have hkj : j0 + k = j1 := by omega
      rw [hkj] at hP hA
      exact ⟨rfl, hP, hA, hF⟩
    · refine g_iload_n rfl rfl ?_
      refine g_iload_n rfl rfl ?_
      refine g_icmp_ge (tgt := 120) rfl (by decide) (fun _ => ?_) (fun hx => absurd hx (by omega))
      refine x_return rfl rfl ?_
      have hkj : j0 + k = j1 := by omega
      rw [hkj] at hP hA
      exact ⟨rfl, hP, hA, hF⟩
  have sn := s_n_s (f := f) (A := A) (B := B) (dp := f 2) (s := S) (k := j0 + k) (by omega)
  have sl := s_n_s (f := f) (A := A) (B := B) (dp := f 2) (s := S) (k := j1 - 1) (by omega)
  rw [show j1 - 1 + 1 = j1 by omega, hl] at sl
  have sm := s_n_m (f := f) (A := A) (B := B) (dp := f 2) (s := S) (j := j0 + k) (k := j1 - 1) (by omega) (by omega)
  have sm0 := s_n_m (f := f) (A := A) (B := B) (dp := f 2) (s := S) (j := j0) (k := j0 + k) (by omega) (by omega)
  have hlm : h < mo := by omega
  have hnb : s_n f A B (f 2) S j1 ≤ j1 := (q_s_B (F := s_ev f A B (f 2) S) (k := j1) (by omega) (s_ev_b f A B (f 2) S)).2
  have hnb0 : 0 ≤ s_n f A B (f 2) S j0 := (q_s_B (F := s_ev f A B (f 2) S) (k := j0) (by omega) (s_ev_b f A B (f 2) S)).1
  have hw1 := (hW.2.2.2 (j0 + k) (by omega) (by omega)).1
  have hpos : (f (9 + A (j0 + k)) = 1 ∧ s_ev f A B (f 2) S (j0 + k) = 1 ∧ tp_and (tp_ishr b h) 1 = 1 ∧ f (49 + A (j0 + k)) = B (j0 + k)) ∨ (f (9 + A (j0 + k)) = 1 ∧ s_ev f A B (f 2) S (j0 + k) = 1 ∧ tp_and (tp_ishr b h) 1 = 0 ∧ A (j0 + k) + 1 = B (j0 + k)) ∨ (f (9 + A (j0 + k)) = 4 ∧ s_ev f A B (f 2) S (j0 + k) = 1 ∧ B (j0 + k) ≠ -1 ∧ s_top (s_S f A B (f 2) S (j0 + k)) = B (j0 + k)) ∨ (s_st f A B (j0 + k) ∧ s_ev f A B (f 2) S (j0 + k) = 0 ∧ (f (9 + A (j0 + k)) = 0 ∨ f (9 + A (j0 + k)) = 2 ∨ f (9 + A (j0 + k)) = 3)) := by
    rcases hev (j0 + k) (by omega) hend with q | q
    · have i := s_ev_i q
      have bt := hbt (j0 + k) (by omega) hend q
      rw [← hhn] at bt
      rcases i.2 with t | t
      · have ey : s_y f A Y (j0 + k) = Y (j0 + k) := if_pos t
        rw [ey] at bt
        have w1 := hw1.2.2.2.2.1 t
        rcases w1 with u | u | u
        · exact absurd u.1 i.1
        · exact Or.inl ⟨t, q, by rw [bt]; exact u.1, u.2.symm⟩
        · exact Or.inr (Or.inl ⟨t, q, by rw [bt]; exact u.1, u.2.symm⟩)
      · exact Or.inr (Or.inr (Or.inl ⟨t.1, q, i.1, t.2⟩))
    · refine Or.inr (Or.inr (Or.inr ⟨q, s_st_ev q, ?_⟩))
      have ne : j0 + k ≠ j1 - 1 := fun z => by rw [← z, s_st_ev q] at hl; omega
      have e1 := ((hW.2.2.2 (j0 + k) (by omega) (by omega)).2.2 (by omega)).1
      have e2 := (hW.2.2.2 (j0 + k + 1) (by omega) (by omega)).1.1
      rcases q with t | t
      · omega
      · exact t
  clear hev hbt hw1 sl sm
  rcases hpos with ⟨hkd, hv, hbit, htg⟩ | ⟨hkd, hv, hbit, htg⟩ | ⟨hkd, hv, hbn, htb⟩ | ⟨hstk, hv, hkd⟩
  · refine g_iload rfl rfl ?_
    refine g_sipush rfl ⟨by decide, by decide⟩ (by decide) ?_
    refine g_icmp_ge (tgt := 120) rfl (by decide) (fun hx => absurd hx (by omega)) (fun _ => ?_)
    refine g_iload_n rfl rfl ?_
    refine g_iload_n rfl rfl ?_
    refine g_icmp_ge (tgt := 120) rfl (by decide) (fun hx => absurd hx (by omega)) (fun _ => ?_)
    refine g_aload_n rfl rfl ?_
    have hh := hP.2.1 (show j0 + k < n by omega)
    have hak := (hW.2.2.2 (j0 + k) (by omega) (by omega)).1.1
    refine g_cV (as := []) (s_canG hG hc hcl hw hCd hco (by omega) (by omega)) rfl rfl mX10_canGoOn_ok rfl rfl rfl (by decide) rfl rfl rfl ?_
    rintro _ w9 ⟨rfl, hw9⟩ _
    have hw9 := hw9.symm
    subst hw9
    refine g_if_eq (tgt := 120) rfl (by decide) (fun hx => absurd hx (by omega)) (fun _ => ?_)
    refine g_aload_n rfl rfl ?_
    refine x_getM (v := (some c)) hG rfl rfl (by decide) (Or.inl ⟨_, rfl⟩) rfl hco ?_
    refine g_aload_n rfl rfl ?_
    refine x_geti (v := (μ.1 70 7)) rfl rfl (by decide) (Or.inl rfl) rfl ?_
    refine g_cV (as := [tI (μ.1 70 7)]) ((by rw [hh]; exact s_kindX hG hc hcl hw hCd hak.1 hak.2)) rfl rfl mX0_kindAt_ok rfl hc rfl hcn rfl rfl rfl ?_
    rintro _ w9 ⟨rfl, hw9⟩ _
    have hw9 := hw9.symm
    subst hw9
    refine g_istore rfl rfl rfl ?_
    refine g_iload rfl rfl ?_
    refine g_iconst rfl ⟨by decide, by decide⟩ ?_
    refine g_icmp_ne (tgt := 83) rfl (by decide) (fun hx => absurd hx (by omega)) (fun _ => ?_)
    refine g_aload_n rfl rfl ?_
    refine g_iload_n rfl rfl ?_
    refine g_iload_n rfl rfl ?_
    refine g_ishr rfl ?_
    refine g_iconst rfl ⟨by decide, by decide⟩ ?_
    refine g_iand rfl ?_
    refine g_iconst rfl ⟨by decide, by decide⟩ ?_
    refine g_icmp_ne (tgt := 68) rfl (by decide) (fun hx => absurd hx (by omega)) (fun _ => ?_)
    refine g_aload_n rfl rfl ?_
    refine x_getM (v := (some c)) hG rfl rfl (by decide) (Or.inl ⟨_, rfl⟩) rfl hco ?_
    refine g_aload_n rfl rfl ?_
    refine x_geti (v := (μ.1 70 7)) rfl rfl (by decide) (Or.inl rfl) rfl ?_
    refine g_cV (as := [tI (μ.1 70 7)]) ((by rw [hh]; exact s_targX hG hc hcl hw hCd hak.1 hak.2)) rfl rfl mX0_targetAt_ok rfl hc rfl hcn rfl rfl rfl ?_
    rintro _ w9 ⟨rfl, hw9⟩ _
    have hw9 := hw9.symm
    subst hw9
    refine g_goto (tgt := 74) rfl (by decide) ?_
    refine g_iV (as := [tI (f (49 + A (j0 + k)))]) mX10_goOn_ok rfl rfl rfl rfl rfl rfl (by decide) rfl rfl rfl ?_
    refine g_aload_n rfl rfl ?_
    refine x_geti (v := (μ.1 70 6)) rfl rfl (by decide) (Or.inl rfl) rfl ?_
    refine g_if_lt (tgt := 53) rfl (by decide) (fun hx => absurd hx (by omega)) (fun _ => ?_)
    refine g_aload_n rfl rfl ?_
    refine x_geti (v := (μ.1 70 6)) rfl rfl (by decide) (Or.inl rfl) rfl ?_
    refine g_sipush rfl ⟨by decide, by decide⟩ (by decide) ?_
    refine g_icmp_ge (tgt := 53) rfl (by decide) (fun hx => absurd hx (by omega)) (fun _ => ?_)
    refine g_aload_n rfl rfl ?_
    refine x_getF (r := 71) hG rfl rfl (by decide) (Or.inr ⟨_, rfl⟩) rfl ?_
    refine g_aload_n rfl rfl ?_
    refine x_geti (v := (μ.1 70 6)) rfl rfl (by decide) (Or.inl rfl) rfl ?_
    refine g_aload_n rfl rfl ?_
    refine x_geti (v := (μ.1 70 7)) rfl rfl (by decide) (Or.inl rfl) rfl ?_
    refine g_iast rfl rfl (by decide) (by omega) (by omega) ?_
    refine g_aload_n rfl rfl ?_
    refine x_getF (r := 72) hG rfl rfl (by decide) (Or.inr ⟨_, rfl⟩) rfl ?_
    refine g_aload_n rfl rfl ?_
    refine x_geti (v := (μ.1 70 6)) rfl rfl (by decide) (Or.inl rfl) rfl ?_
    refine g_aload_n rfl rfl ?_
    refine x_geti (v := (μ.1 70 9)) rfl rfl (by decide) (Or.inl rfl) rfl ?_
    refine g_iast rfl rfl (by decide) (by omega) (by omega) ?_
    refine g_aload_n rfl rfl ?_
    refine g_dupr rfl ?_
    refine x_geti (v := (μ.1 70 6)) rfl rfl (by decide) (Or.inl rfl) rfl ?_
    refine g_iconst rfl ⟨by decide, by decide⟩ ?_
    refine x_iadd (z := (μ.1 70 6) + 1) rfl (by omega) ⟨by omega, by omega⟩ ?_
    refine g_puti rfl rfl (by decide) rfl rfl ?_
    refine g_aload_n rfl rfl ?_
    refine g_iload_n rfl rfl ?_
    refine g_puti rfl rfl (by decide) rfl rfl ?_
    refine g_aload_n rfl rfl ?_
    refine g_dupr rfl ?_
    refine x_geti (v := (μ.1 70 9)) rfl rfl (by decide) (Or.inl rfl) rfl ?_
    refine g_iconst rfl ⟨by decide, by decide⟩ ?_
    refine x_iadd (z := (μ.1 70 9) + 1) rfl (by omega) ⟨by omega, by omega⟩ ?_
    refine g_puti rfl rfl (by decide) rfl rfl ?_
    refine g_aload_n rfl rfl ?_
    refine g_dupr rfl ?_
    refine x_geti (v := (μ.1 70 8)) rfl rfl (by decide) (Or.inl rfl) rfl ?_
    refine g_iconst rfl ⟨by decide, by decide⟩ ?_
    refine x_iadd (z := (μ.1 70 8) + 1) rfl (by omega) ⟨by omega, by omega⟩ ?_
    refine g_puti rfl rfl (by decide) rfl rfl ?_
    refine x_return rfl rfl ?_
    intro _
    refine x_iinc (z := h + 1) rfl rfl (by omega) ⟨by omega, by omega⟩ rfl rfl ?_
    refine g_goto (tgt := 114) rfl (by decide) ?_
    refine x_iinc (z := k + 1) rfl rfl (by omega) ⟨by omega, by omega⟩ rfl rfl ?_
    refine g_goto (tgt := 5) rfl (by decide) ?_
    have hg := w_go (v := (f (49 + A (j0 + k)))) hP hA (by omega) (by omega) (fun z => by have e := ((hW.2.2.2 (j0 + k) (by omega) (by omega)).2.2 z).1; omega) (by rw [s_S_s (by omega), s_stp_n (by omega) (fun z => by omega)]; exact hP.2.2.2.2) (μ1 := μ) ⟨fun _ _ _ => rfl, rfl⟩
    rw [show j0 + k + 1 = j0 + (k + 1) by omega] at hg
    exact ih (by omega) _ _ _ (by omega) hg.1 hg.2 ⟨fun c9 z1 z2 z3 z4 z5 => by rw [tp_pi_ne (by omega), tp_pi_ne (by omega), tp_pi_ne (by omega), tp_pi_ne (by omega), tp_pi_ne (by omega), tp_pi_ne (by omega)]; exact hF.1 c9 z1 z2 z3 z4 z5, hF.2⟩ (by rw [show j0 + (k + 1) = j0 + k + 1 by omega]; omega)
  · refine g_iload rfl rfl ?_
    refine g_sipush rfl ⟨by decide, by decide⟩ (by decide) ?_
    refine g_icmp_ge (tgt := 120) rfl (by decide) (fun hx => absurd hx (by omega)) (fun _ => ?_)
    refine g_iload_n rfl rfl ?_
    refine g_iload_n rfl rfl ?_
    refine g_icmp_ge (tgt := 120) rfl (by decide) (fun hx => absurd hx (by omega)) (fun _ => ?_)
    refine g_aload_n rfl rfl ?_
    have hh := hP.2.1 (show j0 + k < n by omega)
    have hak := (hW.2.2.2 (j0 + k) (by omega) (by omega)).1.1
    refine g_cV (as := []) (s_canG hG hc hcl hw hCd hco (by omega) (by omega)) rfl rfl mX10_canGoOn_ok rfl rfl rfl (by decide) rfl rfl rfl ?_
    rintro _ w9 ⟨rfl, hw9⟩ _
    have hw9 := hw9.symm
    subst hw9
    refine g_if_eq (tgt := 120) rfl (by decide) (fun hx => absurd hx (by omega)) (fun _ => ?_)
    refine g_aload_n rfl rfl ?_
    refine x_getM (v := (some c)) hG rfl rfl (by decide) (Or.inl ⟨_, rfl⟩) rfl hco ?_
    refine g_aload_n rfl rfl ?_
    refine x_geti (v := (μ.1 70 7)) rfl rfl (by decide) (Or.inl rfl) rfl ?_
    refine g_cV (as := [tI (μ.1 70 7)]) ((by rw [hh]; exact s_kindX hG hc hcl hw hCd hak.1 hak.2)) rfl rfl mX0_kindAt_ok rfl hc rfl hcn rfl rfl rfl ?_
    rintro _ w9 ⟨rfl, hw9⟩ _
    have hw9 := hw9.symm
    subst hw9
    refine g_istore rfl rfl rfl ?_
    refine g_iload rfl rfl ?_
    refine g_iconst rfl ⟨by decide, by decide⟩ ?_
    refine g_icmp_ne (tgt := 83) rfl (by decide) (fun hx => absurd hx (by omega)) (fun _ => ?_)
    refine g_aload_n rfl rfl ?_
    refine g_iload_n rfl rfl ?_
    refine g_iload_n rfl rfl ?_
    refine g_ishr rfl ?_
    refine g_iconst rfl ⟨by decide, by decide⟩ ?_
    refine g_iand rfl ?_
    refine g_iconst rfl ⟨by decide, by decide⟩ ?_
    refine g_icmp_ne (tgt := 68) rfl (by decide) (fun _ => ?_) (fun hx => absurd hx (by omega))
    refine g_aload_n rfl rfl ?_
    refine x_geti (v := (μ.1 70 7)) rfl rfl (by decide) (Or.inl rfl) rfl ?_
    refine g_iconst rfl ⟨by decide, by decide⟩ ?_
    refine x_iadd (z := (μ.1 70 7) + 1) rfl (by omega) ⟨by omega, by omega⟩ ?_
    refine g_iV (as := [tI ((μ.1 70 7) + 1)]) mX10_goOn_ok rfl rfl rfl rfl rfl rfl (by decide) rfl rfl rfl ?_
    refine g_aload_n rfl rfl ?_
    refine x_geti (v := (μ.1 70 6)) rfl rfl (by decide) (Or.inl rfl) rfl ?_
    refine g_if_lt (tgt := 53) rfl (by decide) (fun hx => absurd hx (by omega)) (fun _ => ?_)
    refine g_aload_n rfl rfl ?_
    refine x_geti (v := (μ.1 70 6)) rfl rfl (by decide) (Or.inl rfl) rfl ?_
    refine g_sipush rfl ⟨by decide, by decide⟩ (by decide) ?_
    refine g_icmp_ge (tgt := 53) rfl (by decide) (fun hx => absurd hx (by omega)) (fun _ => ?_)
    refine g_aload_n rfl rfl ?_
    refine x_getF (r := 71) hG rfl rfl (by decide) (Or.inr ⟨_, rfl⟩) rfl ?_
    refine g_aload_n rfl rfl ?_
    refine x_geti (v := (μ.1 70 6)) rfl rfl (by decide) (Or.inl rfl) rfl ?_
    refine g_aload_n rfl rfl ?_
    refine x_geti (v := (μ.1 70 7)) rfl rfl (by decide) (Or.inl rfl) rfl ?_
    refine g_iast rfl rfl (by decide) (by omega) (by omega) ?_
    refine g_aload_n rfl rfl ?_
    refine x_getF (r := 72) hG rfl rfl (by decide) (Or.inr ⟨_, rfl⟩) rfl ?_
    refine g_aload_n rfl rfl ?_
    refine x_geti (v := (μ.1 70 6)) rfl rfl (by decide) (Or.inl rfl) rfl ?_
    refine g_aload_n rfl rfl ?_
    refine x_geti (v := (μ.1 70 9)) rfl rfl (by decide) (Or.inl rfl) rfl ?_
    refine g_iast rfl rfl (by decide) (by omega) (by omega) ?_
    refine g_aload_n rfl rfl ?_
    refine g_dupr rfl ?_
    refine x_geti (v := (μ.1 70 6)) rfl rfl (by decide) (Or.inl rfl) rfl ?_
    refine g_iconst rfl ⟨by decide, by decide⟩ ?_
    refine x_iadd (z := (μ.1 70 6) + 1) rfl (by omega) ⟨by omega, by omega⟩ ?_
    refine g_puti rfl rfl (by decide) rfl rfl ?_
    refine g_aload_n rfl rfl ?_
    refine g_iload_n rfl rfl ?_
    refine g_puti rfl rfl (by decide) rfl rfl ?_
    refine g_aload_n rfl rfl ?_
    refine g_dupr rfl ?_
    refine x_geti (v := (μ.1 70 9)) rfl rfl (by decide) (Or.inl rfl) rfl ?_
    refine g_iconst rfl ⟨by decide, by decide⟩ ?_
    refine x_iadd (z := (μ.1 70 9) + 1) rfl (by omega) ⟨by omega, by omega⟩ ?_
    refine g_puti rfl rfl (by decide) rfl rfl ?_
    refine g_aload_n rfl rfl ?_
    refine g_dupr rfl ?_
    refine x_geti (v := (μ.1 70 8)) rfl rfl (by decide) (Or.inl rfl) rfl ?_
    refine g_iconst rfl ⟨by decide, by decide⟩ ?_
    refine x_iadd (z := (μ.1 70 8) + 1) rfl (by omega) ⟨by omega, by omega⟩ ?_
    refine g_puti rfl rfl (by decide) rfl rfl ?_
    refine x_return rfl rfl ?_
    intro _
    refine x_iinc (z := h + 1) rfl rfl (by omega) ⟨by omega, by omega⟩ rfl rfl ?_
    refine g_goto (tgt := 114) rfl (by decide) ?_
    refine x_iinc (z := k + 1) rfl rfl (by omega) ⟨by omega, by omega⟩ rfl rfl ?_
    refine g_goto (tgt := 5) rfl (by decide) ?_
    have hg := w_go (v := ((μ.1 70 7) + 1)) hP hA (by omega) (by omega) (fun z => by have e := ((hW.2.2.2 (j0 + k) (by omega) (by omega)).2.2 z).1; omega) (by rw [s_S_s (by omega), s_stp_n (by omega) (fun z => by omega)]; exact hP.2.2.2.2) (μ1 := μ) ⟨fun _ _ _ => rfl, rfl⟩
    rw [show j0 + k + 1 = j0 + (k + 1) by omega] at hg
    exact ih (by omega) _ _ _ (by omega) hg.1 hg.2 ⟨fun c9 z1 z2 z3 z4 z5 => by rw [tp_pi_ne (by omega), tp_pi_ne (by omega), tp_pi_ne (by omega), tp_pi_ne (by omega), tp_pi_ne (by omega), tp_pi_ne (by omega)]; exact hF.1 c9 z1 z2 z3 z4 z5, hF.2⟩ (by rw [show j0 + (k + 1) = j0 + k + 1 by omega]; omega)
  · refine g_iload rfl rfl ?_
    refine g_sipush rfl ⟨by decide, by decide⟩ (by decide) ?_
    refine g_icmp_ge (tgt := 120) rfl (by decide) (fun hx => absurd hx (by omega)) (fun _ => ?_)
    refine g_iload_n rfl rfl ?_
    refine g_iload_n rfl rfl ?_
    refine g_icmp_ge (tgt := 120) rfl (by decide) (fun hx => absurd hx (by omega)) (fun _ => ?_)
    refine g_aload_n rfl rfl ?_
    have hh := hP.2.1 (show j0 + k < n by omega)
    have hak := (hW.2.2.2 (j0 + k) (by omega) (by omega)).1.1
    refine g_cV (as := []) (s_canG hG hc hcl hw hCd hco (by omega) (by omega)) rfl rfl mX10_canGoOn_ok rfl rfl rfl (by decide) rfl rfl rfl ?_
    rintro _ w9 ⟨rfl, hw9⟩ _
    have hw9 := hw9.symm
    subst hw9
    refine g_if_eq (tgt := 120) rfl (by decide) (fun hx => absurd hx (by omega)) (fun _ => ?_)
    refine g_aload_n rfl rfl ?_
    refine x_getM (v := (some c)) hG rfl rfl (by decide) (Or.inl ⟨_, rfl⟩) rfl hco ?_
    refine g_aload_n rfl rfl ?_
    refine x_geti (v := (μ.1 70 7)) rfl rfl (by decide) (Or.inl rfl) rfl ?_
    refine g_cV (as := [tI (μ.1 70 7)]) ((by rw [hh]; exact s_kindX hG hc hcl hw hCd hak.1 hak.2)) rfl rfl mX0_kindAt_ok rfl hc rfl hcn rfl rfl rfl ?_
    rintro _ w9 ⟨rfl, hw9⟩ _
    have hw9 := hw9.symm
    subst hw9
    refine g_istore rfl rfl rfl ?_
    refine g_iload rfl rfl ?_
    refine g_iconst rfl ⟨by decide, by decide⟩ ?_
    refine g_icmp_ne (tgt := 83) rfl (by decide) (fun _ => ?_) (fun hx => absurd hx (by omega))
    refine g_iload rfl rfl ?_
    refine g_iconst rfl ⟨by decide, by decide⟩ ?_
    refine g_icmp_ne (tgt := 106) rfl (by decide) (fun hx => absurd hx (by omega)) (fun _ => ?_)
    refine g_aload_n rfl rfl ?_
    refine g_aload_n rfl rfl ?_
    refine x_getF (r := 74) hG rfl rfl (by decide) (Or.inl ⟨_, rfl⟩) rfl ?_
    refine g_cV (as := []) (s_popW hG hzb) rfl rfl mX8_pop_ok rfl rfl rfl (by decide) rfl rfl rfl ?_
    rintro _ w1 ⟨rfl, hxs, hfw⟩ _
    have htop : s_top (w_X μ) = B (j0 + k) := by rw [s_eq_top hP.2.2.2.2]; exact htb
    have w6 : w1.1 70 6 = z0 + (j0 + k - j0) := by rw [hfw.1 70 (by omega) (by omega)]; exact e6
    have w8 : w1.1 70 8 = j0 + k - S := by rw [hfw.1 70 (by omega) (by omega)]; exact e8
    have w9 : w1.1 70 9 = j0 + k := by rw [hfw.1 70 (by omega) (by omega)]; exact e9
    refine g_iV (as := [tI (s_top (w_X μ))]) mX10_goOn_ok rfl rfl rfl rfl rfl rfl (by decide) rfl rfl rfl ?_
    refine g_aload_n rfl rfl ?_
    refine x_geti (v := (w1.1 70 6)) rfl rfl (by decide) (Or.inl rfl) rfl ?_
    refine g_if_lt (tgt := 53) rfl (by decide) (fun hx => absurd hx (by omega)) (fun _ => ?_)
    refine g_aload_n rfl rfl ?_
    refine x_geti (v := (w1.1 70 6)) rfl rfl (by decide) (Or.inl rfl) rfl ?_
    refine g_sipush rfl ⟨by decide, by decide⟩ (by decide) ?_
    refine g_icmp_ge (tgt := 53) rfl (by decide) (fun hx => absurd hx (by omega)) (fun _ => ?_)
    refine g_aload_n rfl rfl ?_
    refine x_getF (r := 71) hG rfl rfl (by decide) (Or.inr ⟨_, rfl⟩) rfl ?_
    refine g_aload_n rfl rfl ?_
    refine x_geti (v := (w1.1 70 6)) rfl rfl (by decide) (Or.inl rfl) rfl ?_
    refine g_aload_n rfl rfl ?_
    refine x_geti (v := (w1.1 70 7)) rfl rfl (by decide) (Or.inl rfl) rfl ?_
    refine g_iast rfl rfl (by decide) (by omega) (by omega) ?_
    refine g_aload_n rfl rfl ?_
    refine x_getF (r := 72) hG rfl rfl (by decide) (Or.inr ⟨_, rfl⟩) rfl ?_
    refine g_aload_n rfl rfl ?_
    refine x_geti (v := (w1.1 70 6)) rfl rfl (by decide) (Or.inl rfl) rfl ?_
    refine g_aload_n rfl rfl ?_
    refine x_geti (v := (w1.1 70 9)) rfl rfl (by decide) (Or.inl rfl) rfl ?_
    refine g_iast rfl rfl (by decide) (by omega) (by omega) ?_
    refine g_aload_n rfl rfl ?_
    refine g_dupr rfl ?_
    refine x_geti (v := (w1.1 70 6)) rfl rfl (by decide) (Or.inl rfl) rfl ?_
    refine g_iconst rfl ⟨by decide, by decide⟩ ?_
    refine x_iadd (z := (w1.1 70 6) + 1) rfl (by omega) ⟨by omega, by omega⟩ ?_
    refine g_puti rfl rfl (by decide) rfl rfl ?_
    refine g_aload_n rfl rfl ?_
    refine g_iload_n rfl rfl ?_
    refine g_puti rfl rfl (by decide) rfl rfl ?_
    refine g_aload_n rfl rfl ?_
    refine g_dupr rfl ?_
    refine x_geti (v := (w1.1 70 9)) rfl rfl (by decide) (Or.inl rfl) rfl ?_
    refine g_iconst rfl ⟨by decide, by decide⟩ ?_
    refine x_iadd (z := (w1.1 70 9) + 1) rfl (by omega) ⟨by omega, by omega⟩ ?_
    refine g_puti rfl rfl (by decide) rfl rfl ?_
    refine g_aload_n rfl rfl ?_
    refine g_dupr rfl ?_
    refine x_geti (v := (w1.1 70 8)) rfl rfl (by decide) (Or.inl rfl) rfl ?_
    refine g_iconst rfl ⟨by decide, by decide⟩ ?_
    refine x_iadd (z := (w1.1 70 8) + 1) rfl (by omega) ⟨by omega, by omega⟩ ?_
    refine g_puti rfl rfl (by decide) rfl rfl ?_
    refine x_return rfl rfl ?_
    intro _
    refine x_iinc (z := h + 1) rfl rfl (by omega) ⟨by omega, by omega⟩ rfl rfl ?_
    refine g_goto (tgt := 114) rfl (by decide) ?_
    refine x_iinc (z := k + 1) rfl rfl (by omega) ⟨by omega, by omega⟩ rfl rfl ?_
    refine g_goto (tgt := 5) rfl (by decide) ?_
    have hg := w_go (v := (s_top (w_X μ))) hP hA (by omega) (by omega) (fun z => by have e := ((hW.2.2.2 (j0 + k) (by omega) (by omega)).2.2 z).1; rw [htop]; exact e) (by rw [s_S_s (by omega)]; unfold s_stp; rw [if_neg (by omega), if_pos ⟨by omega, hbn⟩]; exact s_eq_tr hxs (s_eq_pop hP.2.2.2.2)) (μ1 := w1) hfw
    rw [show j0 + k + 1 = j0 + (k + 1) by omega] at hg
    exact ih (by omega) _ _ _ (by omega) hg.1 hg.2 ⟨fun c9 z1 z2 z3 z4 z5 => by rw [tp_pi_ne (by omega), tp_pi_ne (by omega), tp_pi_ne (by omega), tp_pi_ne (by omega), tp_pi_ne (by omega), tp_pi_ne (by omega), hfw.1 c9 z4 z5]; exact hF.1 c9 z1 z2 z3 z4 z5, hfw.2.trans hF.2⟩ (by rw [show j0 + (k + 1) = j0 + k + 1 by omega]; omega)
  · refine g_iload rfl rfl ?_
    refine g_sipush rfl ⟨by decide, by decide⟩ (by decide) ?_
    refine g_icmp_ge (tgt := 120) rfl (by decide) (fun hx => absurd hx (by omega)) (fun _ => ?_)
    refine g_iload_n rfl rfl ?_
    refine g_iload_n rfl rfl ?_
    refine g_icmp_ge (tgt := 120) rfl (by decide) (fun hx => absurd hx (by omega)) (fun _ => ?_)
    refine g_aload_n rfl rfl ?_
    have hh := hP.2.1 (show j0 + k < n by omega)
    have hak := (hW.2.2.2 (j0 + k) (by omega) (by omega)).1.1
    refine g_cV (as := []) (s_canG hG hc hcl hw hCd hco (by omega) (by omega)) rfl rfl mX10_canGoOn_ok rfl rfl rfl (by decide) rfl rfl rfl ?_
    rintro _ w9 ⟨rfl, hw9⟩ _
    have hw9 := hw9.symm
    subst hw9
    refine g_if_eq (tgt := 120) rfl (by decide) (fun hx => absurd hx (by omega)) (fun _ => ?_)
    refine g_aload_n rfl rfl ?_
    refine x_getM (v := (some c)) hG rfl rfl (by decide) (Or.inl ⟨_, rfl⟩) rfl hco ?_
    refine g_aload_n rfl rfl ?_
    refine x_geti (v := (μ.1 70 7)) rfl rfl (by decide) (Or.inl rfl) rfl ?_
    refine g_cV (as := [tI (μ.1 70 7)]) ((by rw [hh]; exact s_kindX hG hc hcl hw hCd hak.1 hak.2)) rfl rfl mX0_kindAt_ok rfl hc rfl hcn rfl rfl rfl ?_
    rintro _ w9 ⟨rfl, hw9⟩ _
    have hw9 := hw9.symm
    subst hw9
    refine g_istore rfl rfl rfl ?_
    refine g_iload rfl rfl ?_
    refine g_iconst rfl ⟨by decide, by decide⟩ ?_
    refine g_icmp_ne (tgt := 83) rfl (by decide) (fun _ => ?_) (fun hx => absurd hx (by omega))
    refine g_iload rfl rfl ?_
    refine g_iconst rfl ⟨by decide, by decide⟩ ?_
    refine g_icmp_ne (tgt := 106) rfl (by decide) (fun _ => ?_) (fun hx => absurd hx (by omega))
    refine g_aload_n rfl rfl ?_
    refine g_aload_n rfl rfl ?_
    refine g_cV (as := []) (s_strOn hG hc hcl hw hW hCd hco (j := j0 + k) (by omega) (by omega) hh hP.2.2.2.2 hstk) rfl rfl mX10_straightOn_ok rfl rfl rfl (by decide) rfl rfl rfl ?_
    rintro _ w1 ⟨v1, rfl, hv1, hX1, hfw⟩ _
    have w6 : w1.1 70 6 = z0 + (j0 + k - j0) := by rw [hfw.1 70 (by omega) (by omega)]; exact e6
    have w8 : w1.1 70 8 = j0 + k - S := by rw [hfw.1 70 (by omega) (by omega)]; exact e8
    have w9 : w1.1 70 9 = j0 + k := by rw [hfw.1 70 (by omega) (by omega)]; exact e9
    refine g_iV (as := [tI v1]) mX10_goOn_ok rfl rfl rfl rfl rfl rfl (by decide) rfl rfl rfl ?_
    refine g_aload_n rfl rfl ?_
    refine x_geti (v := (w1.1 70 6)) rfl rfl (by decide) (Or.inl rfl) rfl ?_
    refine g_if_lt (tgt := 53) rfl (by decide) (fun hx => absurd hx (by omega)) (fun _ => ?_)
    refine g_aload_n rfl rfl ?_
    refine x_geti (v := (w1.1 70 6)) rfl rfl (by decide) (Or.inl rfl) rfl ?_
    refine g_sipush rfl ⟨by decide, by decide⟩ (by decide) ?_
    refine g_icmp_ge (tgt := 53) rfl (by decide) (fun hx => absurd hx (by omega)) (fun _ => ?_)
    refine g_aload_n rfl rfl ?_
    refine x_getF (r := 71) hG rfl rfl (by decide) (Or.inr ⟨_, rfl⟩) rfl ?_
    refine g_aload_n rfl rfl ?_
    refine x_geti (v := (w1.1 70 6)) rfl rfl (by decide) (Or.inl rfl) rfl ?_
    refine g_aload_n rfl rfl ?_
    refine x_geti (v := (w1.1 70 7)) rfl rfl (by decide) (Or.inl rfl) rfl ?_
    refine g_iast rfl rfl (by decide) (by omega) (by omega) ?_
    refine g_aload_n rfl rfl ?_
    refine x_getF (r := 72) hG rfl rfl (by decide) (Or.inr ⟨_, rfl⟩) rfl ?_
    refine g_aload_n rfl rfl ?_
    refine x_geti (v := (w1.1 70 6)) rfl rfl (by decide) (Or.inl rfl) rfl ?_
    refine g_aload_n rfl rfl ?_
    refine x_geti (v := (w1.1 70 9)) rfl rfl (by decide) (Or.inl rfl) rfl ?_
    refine g_iast rfl rfl (by decide) (by omega) (by omega) ?_
    refine g_aload_n rfl rfl ?_
    refine g_dupr rfl ?_
    refine x_geti (v := (w1.1 70 6)) rfl rfl (by decide) (Or.inl rfl) rfl ?_
    refine g_iconst rfl ⟨by decide, by decide⟩ ?_
    refine x_iadd (z := (w1.1 70 6) + 1) rfl (by omega) ⟨by omega, by omega⟩ ?_
    refine g_puti rfl rfl (by decide) rfl rfl ?_
    refine g_aload_n rfl rfl ?_
    refine g_iload_n rfl rfl ?_
    refine g_puti rfl rfl (by decide) rfl rfl ?_
    refine g_aload_n rfl rfl ?_
    refine g_dupr rfl ?_
    refine x_geti (v := (w1.1 70 9)) rfl rfl (by decide) (Or.inl rfl) rfl ?_
    refine g_iconst rfl ⟨by decide, by decide⟩ ?_
    refine x_iadd (z := (w1.1 70 9) + 1) rfl (by omega) ⟨by omega, by omega⟩ ?_
    refine g_puti rfl rfl (by decide) rfl rfl ?_
    refine g_aload_n rfl rfl ?_
    refine g_dupr rfl ?_
    refine x_geti (v := (w1.1 70 8)) rfl rfl (by decide) (Or.inl rfl) rfl ?_
    refine g_iconst rfl ⟨by decide, by decide⟩ ?_
    refine x_iadd (z := (w1.1 70 8) + 1) rfl (by omega) ⟨by omega, by omega⟩ ?_
    refine g_puti rfl rfl (by decide) rfl rfl ?_
    refine x_return rfl rfl ?_
    intro _
    refine x_iinc (z := k + 1) rfl rfl (by omega) ⟨by omega, by omega⟩ rfl rfl ?_
    refine g_goto (tgt := 5) rfl (by decide) ?_
    have hg := w_go (v := v1) hP hA (by omega) (by omega) (hv1) (hX1) (μ1 := w1) hfw
    rw [show j0 + k + 1 = j0 + (k + 1) by omega] at hg
    exact ih (by omega) _ _ _ (by omega) hg.1 hg.2 ⟨fun c9 z1 z2 z3 z4 z5 => by rw [tp_pi_ne (by omega), tp_pi_ne (by omega), tp_pi_ne (by omega), tp_pi_ne (by omega), tp_pi_ne (by omega), tp_pi_ne (by omega), hfw.1 c9 z4 z5]; exact hF.1 c9 z1 z2 z3 z4 z5, hfw.2.trans hF.2⟩ (by rw [show j0 + (k + 1) = j0 + k + 1 by omega]; omega)
set_option maxHeartbeats 4000000 in
set_option maxRecDepth 100000 in
theorem s_hearM {G : tp_G} {μ : tp_M} (hG : tp_Gf G = true) {c : Nat} {f : Int → Int} {n S : Int} {A B Y H : Int → Int} (hc : tp_SH c = .inl 0) (hcl : c < 37) (hw : tp_Cw f) (hW : r_W f n A B Y H) (hCd : tp_Cd c f μ) (hco : μ.2 70 4 = some c) {j0 z0 j1 : Int} (hS : S ≤ j0) (hj : 0 ≤ j0 ∧ j0 ≤ j1 ∧ j1 ≤ n) (hz : 0 ≤ z0 ∧ z0 ≤ j0) (hP : w_P f A B n S j0 z0 μ) (hS0 : 0 ≤ S) {b mo : Int} (hlt : j0 < j1) (hl : s_ev f A B (f 2) S (j1 - 1) = 1) (hev : ∀ j, j0 ≤ j → j < j1 → s_ev f A B (f 2) S j = 1 ∨ s_st f A B j) (hmo : mo = s_n f A B (f 2) S j1 - s_n f A B (f 2) S j0) (hbt : s_bt f A B Y (f 2) b S j0 j1) : tp_k G mX10_hearMap [tR (some 70), tI b, tI mo] μ (fun r μ' => r = none ∧ w_P f A B n S j1 (z0 + (j1 - j0)) μ' ∧ w_A A j0 z0 j1 μ μ' ∧ w_F μ μ') := by
  refine tp_ok_of mX10_hearMap_ok rfl (Nat.le_refl _) ?_
  have hcn : c < 234 := by omega
  have hw0 := hw.1
  have hn0 := hW.1
  have hrl := hw.2.2
  refine g_iconst rfl ⟨by decide, by decide⟩ ?_
  refine g_istore_n rfl rfl rfl ?_
  refine g_iconst rfl ⟨by decide, by decide⟩ ?_
  refine g_istore rfl rfl rfl ?_
  exact l_map hG hc hcl hw hW hCd hco hS hj hz hS0 hlt hl hev hmo hbt 0 (by omega) _ 0 _ (by omega) (by rw [show j0 + 0 = j0 by omega, show z0 + (j0 - j0) = z0 by omega]; exact hP) (by rw [show j0 + 0 = j0 by omega]; exact w_A_rf) w_F_rf (by rw [show j0 + 0 = j0 by omega]; omega)
set_option maxHeartbeats 4000000 in
set_option maxRecDepth 100000 in
theorem s_countZ {G : tp_G} {μ : tp_M} (hG : tp_Gf G = true) {cnt : Int} (hh : cnt ≤ μ.1 70 8) : tp_k G mX10_goToCount [tR (some 70), tI cnt] μ (fun r μ' => r = none ∧ μ' = μ) := by
  refine tp_ok_of mX10_goToCount_ok rfl (Nat.le_refl _) ?_
  refine g_iconst rfl ⟨by decide, by decide⟩ ?_
  refine g_istore_n rfl rfl rfl ?_
  refine g_iload_n rfl rfl ?_
  refine g_sipush rfl ⟨by decide, by decide⟩ (by decide) ?_
  refine g_icmp_ge (tgt := 38) rfl (by decide) (fun hx => absurd hx (by omega)) (fun _ => ?_)
  refine g_aload_n rfl rfl ?_
  refine x_geti (v := (μ.1 70 8)) rfl rfl (by decide) (Or.inl rfl) rfl ?_
  refine g_iload_n rfl rfl ?_
  refine g_icmp_ge (tgt := 38) rfl (by decide) (fun _ => ?_) (fun hx => absurd hx (by omega))
  refine x_return rfl rfl ?_
  exact ⟨rfl, rfl⟩
set_option maxHeartbeats 4000000 in
set_option maxRecDepth 100000 in
theorem s_pk {G : tp_G} {μ : tp_M} (hG : tp_Gf G = true) {σ : tp_M} {k : Int} (hsz : μ.1 63 4 = σ.1 0 9) (hB : c_B σ μ) (hp : σ.1 0 9 ≤ 209) (h0 : 0 ≤ k) (h1 : k < σ.1 0 9) : tp_k G mX3_kind [tR (some 63), tI k] μ (fun r μ' => r = some (tI (σ.1 2 k)) ∧ μ' = μ) := by
  refine tp_ok_of mX3_kind_ok rfl (Nat.le_refl _) ?_
  refine g_aload_n rfl rfl ?_
  refine g_iload_n rfl rfl ?_
  refine g_iV (as := [tI k]) mX3_has_ok rfl rfl rfl rfl rfl rfl (by decide) rfl rfl rfl ?_
  refine g_iload_n rfl rfl ?_
  refine g_if_lt (tgt := 23) rfl (by decide) (fun hx => absurd hx (by omega)) (fun _ => ?_)
  refine g_iload_n rfl rfl ?_
  refine g_aload_n rfl rfl ?_
  refine x_geti (v := (μ.1 63 4)) rfl rfl (by decide) (Or.inl rfl) rfl ?_
  refine g_icmp_ge (tgt := 23) rfl (by decide) (fun hx => absurd hx (by omega)) (fun _ => ?_)
  refine g_iload_n rfl rfl ?_
  refine g_sipush rfl ⟨by decide, by decide⟩ (by decide) ?_
  refine g_icmp_ge (tgt := 23) rfl (by decide) (fun hx => absurd hx (by omega)) (fun _ => ?_)
  refine g_iconst rfl ⟨by decide, by decide⟩ ?_
  refine g_goto (tgt := 24) rfl (by decide) ?_
  refine x_zreturn rfl rfl (Or.inr rfl) ?_
  intro _
  refine g_if_eq (tgt := 17) rfl (by decide) (fun hx => absurd hx (by omega)) (fun _ => ?_)
  refine g_aload_n rfl rfl ?_
  refine x_getF (r := 64) hG rfl rfl (by decide) (Or.inr ⟨_, rfl⟩) rfl ?_
  refine g_iload_n rfl rfl ?_
  refine x_iald (v := (μ.1 64 k)) rfl rfl (by decide) (by omega) (by omega) rfl ?_
  refine g_goto (tgt := 18) rfl (by decide) ?_
  refine x_ireturn rfl rfl ?_
  exact ⟨by rw [← (hB k h0 h1).1], rfl⟩
set_option maxHeartbeats 4000000 in
set_option maxRecDepth 100000 in
theorem s_pv {G : tp_G} {μ : tp_M} (hG : tp_Gf G = true) {σ : tp_M} {k : Int} (hsz : μ.1 63 4 = σ.1 0 9) (hB : c_B σ μ) (hp : σ.1 0 9 ≤ 209) (h0 : 0 ≤ k) (h1 : k < σ.1 0 9) : tp_k G mX3_value [tR (some 63), tI k] μ (fun r μ' => r = some (tI (σ.1 3 k)) ∧ μ' = μ) := by
  refine tp_ok_of mX3_value_ok rfl (Nat.le_refl _) ?_
  refine g_aload_n rfl rfl ?_
  refine g_iload_n rfl rfl ?_
  refine g_iV (as := [tI k]) mX3_has_ok rfl rfl rfl rfl rfl rfl (by decide) rfl rfl rfl ?_
  refine g_iload_n rfl rfl ?_
  refine g_if_lt (tgt := 23) rfl (by decide) (fun hx => absurd hx (by omega)) (fun _ => ?_)
  refine g_iload_n rfl rfl ?_
  refine g_aload_n rfl rfl ?_
  refine x_geti (v := (μ.1 63 4)) rfl rfl (by decide) (Or.inl rfl) rfl ?_
  refine g_icmp_ge (tgt := 23) rfl (by decide) (fun hx => absurd hx (by omega)) (fun _ => ?_)
  refine g_iload_n rfl rfl ?_
  refine g_sipush rfl ⟨by decide, by decide⟩ (by decide) ?_
  refine g_icmp_ge (tgt := 23) rfl (by decide) (fun hx => absurd hx (by omega)) (fun _ => ?_)
  refine g_iconst rfl ⟨by decide, by decide⟩ ?_
  refine g_goto (tgt := 24) rfl (by decide) ?_
  refine x_zreturn rfl rfl (Or.inr rfl) ?_
  intro _
  refine g_if_eq (tgt := 17) rfl (by decide) (fun hx => absurd hx (by omega)) (fun _ => ?_)
  refine g_aload_n rfl rfl ?_
  refine x_getF (r := 65) hG rfl rfl (by decide) (Or.inr ⟨_, rfl⟩) rfl ?_
  refine g_iload_n rfl rfl ?_
  refine x_iald (v := (μ.1 65 k)) rfl rfl (by decide) (by omega) (by omega) rfl ?_
  refine g_goto (tgt := 18) rfl (by decide) ?_
  refine x_ireturn rfl rfl ?_
  exact ⟨by rw [← (hB k h0 h1).2.1], rfl⟩
set_option maxHeartbeats 4000000 in
set_option maxRecDepth 100000 in
theorem s_px {G : tp_G} {μ : tp_M} (hG : tp_Gf G = true) {σ : tp_M} {k : Int} (hsz : μ.1 63 4 = σ.1 0 9) (hB : c_B σ μ) (hp : σ.1 0 9 ≤ 209) (h0 : 0 ≤ k) (h1 : k < σ.1 0 9) : tp_k G mX3_extra [tR (some 63), tI k] μ (fun r μ' => r = some (tI (σ.1 4 k)) ∧ μ' = μ) := by
  refine tp_ok_of mX3_extra_ok rfl (Nat.le_refl _) ?_
  refine g_aload_n rfl rfl ?_
  refine g_iload_n rfl rfl ?_
  refine g_iV (as := [tI k]) mX3_has_ok rfl rfl rfl rfl rfl rfl (by decide) rfl rfl rfl ?_
  refine g_iload_n rfl rfl ?_
  refine g_if_lt (tgt := 23) rfl (by decide) (fun hx => absurd hx (by omega)) (fun _ => ?_)
  refine g_iload_n rfl rfl ?_
  refine g_aload_n rfl rfl ?_
  refine x_geti (v := (μ.1 63 4)) rfl rfl (by decide) (Or.inl rfl) rfl ?_
  refine g_icmp_ge (tgt := 23) rfl (by decide) (fun hx => absurd hx (by omega)) (fun _ => ?_)
  refine g_iload_n rfl rfl ?_
  refine g_sipush rfl ⟨by decide, by decide⟩ (by decide) ?_
  refine g_icmp_ge (tgt := 23) rfl (by decide) (fun hx => absurd hx (by omega)) (fun _ => ?_)
  refine g_iconst rfl ⟨by decide, by decide⟩ ?_
  refine g_goto (tgt := 24) rfl (by decide) ?_
  refine x_zreturn rfl rfl (Or.inr rfl) ?_
  intro _
  refine g_if_eq (tgt := 17) rfl (by decide) (fun hx => absurd hx (by omega)) (fun _ => ?_)
  refine g_aload_n rfl rfl ?_
  refine x_getF (r := 66) hG rfl rfl (by decide) (Or.inr ⟨_, rfl⟩) rfl ?_
  refine g_iload_n rfl rfl ?_
  refine x_iald (v := (μ.1 66 k)) rfl rfl (by decide) (by omega) (by omega) rfl ?_
  refine g_goto (tgt := 18) rfl (by decide) ?_
  refine x_ireturn rfl rfl ?_
  exact ⟨by rw [← (hB k h0 h1).2.2.1], rfl⟩
set_option maxHeartbeats 4000000 in
set_option maxRecDepth 100000 in
theorem s_ps {G : tp_G} {μ : tp_M} (hG : tp_Gf G = true) {σ : tp_M} {k : Int} (hsz : μ.1 63 4 = σ.1 0 9) (hB : c_B σ μ) (hp : σ.1 0 9 ≤ 209) (h0 : 0 ≤ k) (h1 : k < σ.1 0 9) : tp_k G mX3_stepOf [tR (some 63), tI k] μ (fun r μ' => r = some (tI (σ.1 5 k)) ∧ μ' = μ) := by
  refine tp_ok_of mX3_stepOf_ok rfl (Nat.le_refl _) ?_
  refine g_aload_n rfl rfl ?_
  refine g_iload_n rfl rfl ?_
  refine g_iV (as := [tI k]) mX3_has_ok rfl rfl rfl rfl rfl rfl (by decide) rfl rfl rfl ?_
  refine g_iload_n rfl rfl ?_
  refine g_if_lt (tgt := 23) rfl (by decide) (fun hx => absurd hx (by omega)) (fun _ => ?_)
  refine g_iload_n rfl rfl ?_
  refine g_aload_n rfl rfl ?_
  refine x_geti (v := (μ.1 63 4)) rfl rfl (by decide) (Or.inl rfl) rfl ?_
  refine g_icmp_ge (tgt := 23) rfl (by decide) (fun hx => absurd hx (by omega)) (fun _ => ?_)
  refine g_iload_n rfl rfl ?_
  refine g_sipush rfl ⟨by decide, by decide⟩ (by decide) ?_
  refine g_icmp_ge (tgt := 23) rfl (by decide) (fun hx => absurd hx (by omega)) (fun _ => ?_)
  refine g_iconst rfl ⟨by decide, by decide⟩ ?_
  refine g_goto (tgt := 24) rfl (by decide) ?_
  refine x_zreturn rfl rfl (Or.inr rfl) ?_
  intro _
  refine g_if_eq (tgt := 17) rfl (by decide) (fun hx => absurd hx (by omega)) (fun _ => ?_)
  refine g_aload_n rfl rfl ?_
  refine x_getF (r := 67) hG rfl rfl (by decide) (Or.inr ⟨_, rfl⟩) rfl ?_
  refine g_iload_n rfl rfl ?_
  refine x_iald (v := (μ.1 67 k)) rfl rfl (by decide) (by omega) (by omega) rfl ?_
  refine g_goto (tgt := 18) rfl (by decide) ?_
  refine x_ireturn rfl rfl ?_
  exact ⟨by rw [← (hB k h0 h1).2.2.2], rfl⟩
