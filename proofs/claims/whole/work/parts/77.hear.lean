set_option maxHeartbeats 4000000 in
set_option maxRecDepth 100000 in
theorem l_count {G : tp_G} (hG : tp_Gf G = true) {c : Nat} {f : Int → Int} {n S : Int} {A B Y H : Int → Int} (hc : tp_SH c = .inl 0) (hcl : c < 37) (hw : tp_Cw f) (hW : r_W f n A B Y H) {μ0 : tp_M} (hCd0 : tp_Cd c f μ0) (hco0 : μ0.2 70 4 = some c) {j0 z0 j1 : Int} (hS : S ≤ j0) (hj : 0 ≤ j0 ∧ j0 ≤ j1 ∧ j1 ≤ n) (hz : 0 ≤ z0 ∧ z0 ≤ j0) (hS0 : 0 ≤ S) {cnt : Int} (hcnt : cnt = j1 - S) (hst : ∀ j, j0 ≤ j → j < j1 → s_st f A B j) : ∀ k, k ≤ j1 - j0 → ∀ (μ : tp_M), 0 ≤ k → w_P f A B n S (j0 + k) (z0 + (j0 + k - j0)) μ → w_A A j0 z0 (j0 + k) μ0 μ → w_F μ0 μ → tp_g G mX10_goToCount 2 [some (tR (some 70)), some (tI cnt), some (tI k)] [] μ (fun r μ' => r = none ∧ w_P f A B n S j1 (z0 + (j1 - j0)) μ' ∧ w_A A j0 z0 j1 μ0 μ' ∧ w_F μ0 μ') := by
  have hcn : c < 234 := by omega
  have hw0 := hw.1
  have hn0 := hW.1
  have hrl := hw.2.2
  refine tp_ind _ ?_
  intro k hkN ih μ h0 hP hA hF
  have hCd : tp_Cd c f μ := tp_Cd_fr hcl (fun k9 z9 => hF.1 k9 (by omega) (by omega) (by omega) (by omega) (by omega)) hCd0
  have hco : μ.2 70 4 = some c := by rw [hF.2]; exact hco0
  have e6 := hP.1
  have e8 := hP.2.2.1
  have e9 := hP.2.2.2.1
  refine g_iload_n rfl rfl ?_
  refine g_sipush rfl ⟨by decide, by decide⟩ (by decide) ?_
  refine g_icmp_ge (tgt := 38) rfl (by decide) (fun h1 => ?_) (fun h1 => ?_)
  · refine x_return rfl rfl ?_
    have hkj : j0 + k = j1 := by omega
    rw [hkj] at hP hA
    exact ⟨rfl, hP, hA, hF⟩
  · refine g_aload_n rfl rfl ?_
    refine x_geti (v := (μ.1 70 8)) rfl rfl (by decide) (Or.inl rfl) rfl ?_
    refine g_iload_n rfl rfl ?_
    refine g_icmp_ge (tgt := 38) rfl (by decide) (fun h2 => ?_) (fun h2 => ?_)
    · refine x_return rfl rfl ?_
      have hkj : j0 + k = j1 := by omega
      rw [hkj] at hP hA
      exact ⟨rfl, hP, hA, hF⟩
    · refine g_aload_n rfl rfl ?_
      have hh := hP.2.1 (show j0 + k < n by omega)
      have hak := (hW.2.2.2 (j0 + k) (by omega) (by omega)).1.1
      refine g_cV (as := []) (s_canG hG hc hcl hw hCd hco (by omega) (by omega)) rfl rfl mX10_canGoOn_ok rfl rfl rfl (by decide) rfl rfl rfl ?_
      rintro _ w9 ⟨rfl, hw9⟩ _
      have hw9 := hw9.symm
      subst hw9
      refine g_if_eq (tgt := 38) rfl (by decide) (fun hx => absurd hx (by omega)) (fun _ => ?_)
      refine g_aload_n rfl rfl ?_
      refine g_aload_n rfl rfl ?_
      refine g_cV (as := []) (s_strOn hG hc hcl hw hW hCd hco (j := j0 + k) (by omega) (by omega) hh hP.2.2.2.2 (hst _ (by omega) (by omega))) rfl rfl mX10_straightOn_ok rfl rfl rfl (by decide) rfl rfl rfl ?_
      rintro _ w1 ⟨v1, rfl, hv1, hX1, hfw⟩ _
      have w6 : w1.1 70 6 = z0 + (j0 + k - j0) := by rw [hfw.1 70 (by omega) (by omega)]; exact e6
      have w8 : w1.1 70 8 = j0 + k - S := by rw [hfw.1 70 (by omega) (by omega)]; exact e8
      have w9 : w1.1 70 9 = j0 + k := by rw [hfw.1 70 (by omega) (by omega)]; exact e9
      refine g_iV (as := [tI v1]) mX10_goOn_ok rfl rfl rfl rfl rfl rfl (by decide) rfl rfl rfl ?_
      refine g_aload_n rfl rfl ?_
      refine x_geti (v := (w1.1 70 6)) rfl rfl (by decide) (Or.inl rfl) rfl ?_
      refine g_if_lt (tgt := 53) rfl (by decide) (fun hx => absurd hx (by omega)) (fun _ => ?_)
      refine g_aload_n rfl rfl ?_
      refine x_geti (v := (w1.1 70 6)) rfl rfl (by decide) (Or.inl rfl) rfl ?_
      refine g_sipush rfl ⟨by decide, by decide⟩ (by decide) ?_
      refine g_icmp_ge (tgt := 53) rfl (by decide) (fun hx => absurd hx (by omega)) (fun _ => ?_)
      refine g_aload_n rfl rfl ?_
      refine x_getF (r := 71) hG rfl rfl (by decide) (Or.inr ⟨_, rfl⟩) rfl ?_
      refine g_aload_n rfl rfl ?_
      refine x_geti (v := (w1.1 70 6)) rfl rfl (by decide) (Or.inl rfl) rfl ?_
      refine g_aload_n rfl rfl ?_
      refine x_geti (v := (w1.1 70 7)) rfl rfl (by decide) (Or.inl rfl) rfl ?_
      refine g_iast rfl rfl (by decide) (by omega) (by omega) ?_
      refine g_aload_n rfl rfl ?_
      refine x_getF (r := 72) hG rfl rfl (by decide) (Or.inr ⟨_, rfl⟩) rfl ?_
      refine g_aload_n rfl rfl ?_
      refine x_geti (v := (w1.1 70 6)) rfl rfl (by decide) (Or.inl rfl) rfl ?_
      refine g_aload_n rfl rfl ?_
      refine x_geti (v := (w1.1 70 9)) rfl rfl (by decide) (Or.inl rfl) rfl ?_
      refine g_iast rfl rfl (by decide) (by omega) (by omega) ?_
      refine g_aload_n rfl rfl ?_
      refine g_dupr rfl ?_
      refine x_geti (v := (w1.1 70 6)) rfl rfl (by decide) (Or.inl rfl) rfl ?_
      refine g_iconst rfl ⟨by decide, by decide⟩ ?_
      refine x_iadd (z := (w1.1 70 6) + 1) rfl (by omega) ⟨by omega, by omega⟩ ?_
      refine g_puti rfl rfl (by decide) rfl rfl ?_
      refine g_aload_n rfl rfl ?_
      refine g_iload_n rfl rfl ?_
      refine g_puti rfl rfl (by decide) rfl rfl ?_
      refine g_aload_n rfl rfl ?_
      refine g_dupr rfl ?_
      refine x_geti (v := (w1.1 70 9)) rfl rfl (by decide) (Or.inl rfl) rfl ?_
      refine g_iconst rfl ⟨by decide, by decide⟩ ?_
      refine x_iadd (z := (w1.1 70 9) + 1) rfl (by omega) ⟨by omega, by omega⟩ ?_
      refine g_puti rfl rfl (by decide) rfl rfl ?_
      refine g_aload_n rfl rfl ?_
      refine g_dupr rfl ?_
      refine x_geti (v := (w1.1 70 8)) rfl rfl (by decide) (Or.inl rfl) rfl ?_
      refine g_iconst rfl ⟨by decide, by decide⟩ ?_
      refine x_iadd (z := (w1.1 70 8) + 1) rfl (by omega) ⟨by omega, by omega⟩ ?_
      refine g_puti rfl rfl (by decide) rfl rfl ?_
      refine x_return rfl rfl ?_
      intro _
      refine x_iinc (z := k + 1) rfl rfl (by omega) ⟨by omega, by omega⟩ rfl rfl ?_
      refine g_goto (tgt := 2) rfl (by decide) ?_
      have hg := w_go (v := v1) hP hA (by omega) (by omega) (hv1) (hX1) (μ1 := w1) hfw
      rw [show j0 + k + 1 = j0 + (k + 1) by omega] at hg
      exact ih (by omega) _ (by omega) hg.1 hg.2 ⟨fun c9 z1 z2 z3 z4 z5 => by rw [tp_pi_ne (by omega), tp_pi_ne (by omega), tp_pi_ne (by omega), tp_pi_ne (by omega), tp_pi_ne (by omega), tp_pi_ne (by omega), hfw.1 c9 z4 z5]; exact hF.1 c9 z1 z2 z3 z4 z5, hfw.2.trans hF.2⟩
set_option maxHeartbeats 4000000 in
set_option maxRecDepth 100000 in
theorem s_count {G : tp_G} {μ : tp_M} (hG : tp_Gf G = true) {c : Nat} {f : Int → Int} {n S : Int} {A B Y H : Int → Int} (hc : tp_SH c = .inl 0) (hcl : c < 37) (hw : tp_Cw f) (hW : r_W f n A B Y H) (hCd : tp_Cd c f μ) (hco : μ.2 70 4 = some c) {j0 z0 j1 : Int} (hS : S ≤ j0) (hj : 0 ≤ j0 ∧ j0 ≤ j1 ∧ j1 ≤ n) (hz : 0 ≤ z0 ∧ z0 ≤ j0) (hP : w_P f A B n S j0 z0 μ) (hS0 : 0 ≤ S) {cnt : Int} (hcnt : cnt = j1 - S) (hst : ∀ j, j0 ≤ j → j < j1 → s_st f A B j) : tp_k G mX10_goToCount [tR (some 70), tI cnt] μ (fun r μ' => r = none ∧ w_P f A B n S j1 (z0 + (j1 - j0)) μ' ∧ w_A A j0 z0 j1 μ μ' ∧ w_F μ μ') := by
  refine tp_ok_of mX10_goToCount_ok rfl (Nat.le_refl _) ?_
  have hcn : c < 234 := by omega
  have hw0 := hw.1
  have hn0 := hW.1
  have hrl := hw.2.2
  refine g_iconst rfl ⟨by decide, by decide⟩ ?_
  refine g_istore_n rfl rfl rfl ?_
  exact l_count hG hc hcl hw hW hCd hco hS hj hz hS0 hcnt hst 0 (by omega) _ (by omega) (by rw [show j0 + 0 = j0 by omega, show z0 + (j0 - j0) = z0 by omega]; exact hP) (by rw [show j0 + 0 = j0 by omega]; exact w_A_rf) w_F_rf
set_option maxHeartbeats 4000000 in
set_option maxRecDepth 100000 in
theorem s_count0 {G : tp_G} {μ : tp_M} (hG : tp_Gf G = true) {c : Nat} {f : Int → Int} (hc : tp_SH c = .inl 0) (hcl : c < 37) (hw : tp_Cw f) (hCd : tp_Cd c f μ) (hco : μ.2 70 4 = some c) {cnt : Int} (hh : μ.1 70 7 < 0) : tp_k G mX10_goToCount [tR (some 70), tI cnt] μ (fun r μ' => r = none ∧ μ' = μ) := by
  refine tp_ok_of mX10_goToCount_ok rfl (Nat.le_refl _) ?_
  refine g_iconst rfl ⟨by decide, by decide⟩ ?_
  refine g_istore_n rfl rfl rfl ?_
  refine g_iload_n rfl rfl ?_
  refine g_sipush rfl ⟨by decide, by decide⟩ (by decide) ?_
  refine g_icmp_ge (tgt := 38) rfl (by decide) (fun hx => absurd hx (by omega)) (fun _ => ?_)
  refine g_aload_n rfl rfl ?_
  refine x_geti (v := (μ.1 70 8)) rfl rfl (by decide) (Or.inl rfl) rfl ?_
  refine g_iload_n rfl rfl ?_
  refine g_icmp_ge (tgt := 38) rfl (by decide) (fun h1 => ?_) (fun h1 => ?_)
  · refine x_return rfl rfl ?_
    exact ⟨rfl, rfl⟩
  · refine g_aload_n rfl rfl ?_
    refine g_cV (as := []) (s_canGo hG hc hcl hw hCd hco hh) rfl rfl mX10_canGoOn_ok rfl rfl rfl (by decide) rfl rfl rfl ?_
    rintro _ w9 ⟨rfl, hw9⟩ _
    have hw9 := hw9.symm
    subst hw9
    refine g_if_eq (tgt := 38) rfl (by decide) (fun _ => ?_) (fun hx => absurd hx (by omega))
    refine x_return rfl rfl ?_
    exact ⟨rfl, rfl⟩
set_option maxHeartbeats 4000000 in
set_option maxRecDepth 100000 in
theorem l_goto {G : tp_G} (hG : tp_Gf G = true) {c : Nat} {f : Int → Int} {n S : Int} {A B Y H : Int → Int} (hc : tp_SH c = .inl 0) (hcl : c < 37) (hw : tp_Cw f) (hW : r_W f n A B Y H) {μ0 : tp_M} (hCd0 : tp_Cd c f μ0) (hco0 : μ0.2 70 4 = some c) {j0 z0 j1 : Int} (hS : S ≤ j0) (hj : 0 ≤ j0 ∧ j0 ≤ j1 ∧ j1 ≤ n) (hz : 0 ≤ z0 ∧ z0 ≤ j0) (hS0 : 0 ≤ S) {ad : Int} (hlt : j0 < j1) (hst : ∀ j, j0 ≤ j → j < j1 - 1 → s_st f A B j) (hgo : s_go f A B (f 2) S (j1 - 1)) (had0 : ad = B (j1 - 1)) : ∀ k, k ≤ j1 - 1 - j0 → ∀ (μ : tp_M) (x3 : Option tp_V), 0 ≤ k → w_P f A B n S (j0 + k) (z0 + (j0 + k - j0)) μ → w_A A j0 z0 (j0 + k) μ0 μ → w_F μ0 μ → tp_g G mX10_hearGoto 2 [some (tR (some 70)), some (tI ad), some (tI k), x3] [] μ (fun r μ' => r = none ∧ w_P f A B n S j1 (z0 + (j1 - j0)) μ' ∧ w_A A j0 z0 j1 μ0 μ' ∧ w_F μ0 μ') := by
  have hcn : c < 234 := by omega
  have hw0 := hw.1
  have hn0 := hW.1
  have hrl := hw.2.2
  refine tp_ind _ ?_
  intro k hkN ih μ x3 h0 hP hA hF
  have hCd : tp_Cd c f μ := tp_Cd_fr hcl (fun k9 z9 => hF.1 k9 (by omega) (by omega) (by omega) (by omega) (by omega)) hCd0
  have hco : μ.2 70 4 = some c := by rw [hF.2]; exact hco0
  have e6 := hP.1
  have e8 := hP.2.2.1
  have e9 := hP.2.2.2.1
  have hzb : 0 ≤ μ.1 74 1 ∧ μ.1 74 1 ≤ 4 := by have e := hP.2.2.2.2.1; have b := s_S_b (f := f) (A := A) (B := B) (dp := f 2) (s := S) (j := j0 + k) (by omega); rw [← e] at b; exact b
  have hpos : (j0 + k < j1 - 1 ∧ s_st f A B (j0 + k) ∧ (f (9 + A (j0 + k)) = 0 ∨ f (9 + A (j0 + k)) = 2 ∨ f (9 + A (j0 + k)) = 3)) ∨ (j0 + k = j1 - 1 ∧ f (9 + A (j0 + k)) = 5) ∨ (j0 + k = j1 - 1 ∧ f (9 + A (j0 + k)) = 4) := by
    rcases (show j0 + k < j1 - 1 ∨ j0 + k = j1 - 1 by omega) with q | q
    · have s1 := hst (j0 + k) (by omega) q
      have e1 := ((hW.2.2.2 (j0 + k) (by omega) (by omega)).2.2 (by omega)).1
      have e2 := (hW.2.2.2 (j0 + k + 1) (by omega) (by omega)).1.1
      refine Or.inl ⟨q, s1, ?_⟩
      rcases s1 with t | t
      · omega
      · exact t
    · rw [q]
      rcases hgo.2 with t | t
      · exact Or.inr (Or.inl ⟨rfl, t⟩)
      · exact Or.inr (Or.inr ⟨rfl, t.1⟩)
  have hbk : j0 + k = j1 - 1 → B (j0 + k) ≠ -1 ∧ ad = B (j0 + k) := fun q => by rw [q]; exact ⟨hgo.1, had0⟩
  rcases hpos with ⟨hp1, hstk, hkd⟩ | ⟨hp1, hkd⟩ | ⟨hp1, hkd⟩
  · refine g_iload_n rfl rfl ?_
    refine g_sipush rfl ⟨by decide, by decide⟩ (by decide) ?_
    refine g_icmp_ge (tgt := 71) rfl (by decide) (fun hx => absurd hx (by omega)) (fun _ => ?_)
    refine g_aload_n rfl rfl ?_
    have hh := hP.2.1 (show j0 + k < n by omega)
    have hak := (hW.2.2.2 (j0 + k) (by omega) (by omega)).1.1
    refine g_cV (as := []) (s_canG hG hc hcl hw hCd hco (by omega) (by omega)) rfl rfl mX10_canGoOn_ok rfl rfl rfl (by decide) rfl rfl rfl ?_
    rintro _ w9 ⟨rfl, hw9⟩ _
    have hw9 := hw9.symm
    subst hw9
    refine g_if_eq (tgt := 71) rfl (by decide) (fun hx => absurd hx (by omega)) (fun _ => ?_)
    refine g_aload_n rfl rfl ?_
    refine x_getM (v := (some c)) hG rfl rfl (by decide) (Or.inl ⟨_, rfl⟩) rfl hco ?_
    refine g_aload_n rfl rfl ?_
    refine x_geti (v := (μ.1 70 7)) rfl rfl (by decide) (Or.inl rfl) rfl ?_
    refine g_cV (as := [tI (μ.1 70 7)]) ((by rw [hh]; exact s_kindX hG hc hcl hw hCd hak.1 hak.2)) rfl rfl mX0_kindAt_ok rfl hc rfl hcn rfl rfl rfl ?_
    rintro _ w9 ⟨rfl, hw9⟩ _
    have hw9 := hw9.symm
    subst hw9
    refine g_istore_n rfl rfl rfl ?_
    refine g_iload_n rfl rfl ?_
    refine g_iconst rfl ⟨by decide, by decide⟩ ?_
    refine g_icmp_ne (tgt := 41) rfl (by decide) (fun h1 => ?_) (fun h1 => ?_)
    · refine g_iload_n rfl rfl ?_
      refine g_iconst rfl ⟨by decide, by decide⟩ ?_
      refine g_icmp_eq (tgt := 51) rfl (by decide) (fun h2 => ?_) (fun h2 => ?_)
      · refine g_aload_n rfl rfl ?_
        refine g_iload_n rfl rfl ?_
        refine g_iV (as := [tI ad]) mX10_goOn_ok rfl rfl rfl rfl rfl rfl (by decide) rfl rfl rfl ?_
        refine g_aload_n rfl rfl ?_
        refine x_geti (v := (μ.1 70 6)) rfl rfl (by decide) (Or.inl rfl) rfl ?_
        refine g_if_lt (tgt := 53) rfl (by decide) (fun hx => absurd hx (by omega)) (fun _ => ?_)
        refine g_aload_n rfl rfl ?_
        refine x_geti (v := (μ.1 70 6)) rfl rfl (by decide) (Or.inl rfl) rfl ?_
        refine g_sipush rfl ⟨by decide, by decide⟩ (by decide) ?_
        refine g_icmp_ge (tgt := 53) rfl (by decide) (fun hx => absurd hx (by omega)) (fun _ => ?_)
        refine g_aload_n rfl rfl ?_
        refine x_getF (r := 71) hG rfl rfl (by decide) (Or.inr ⟨_, rfl⟩) rfl ?_
        refine g_aload_n rfl rfl ?_
        refine x_geti (v := (μ.1 70 6)) rfl rfl (by decide) (Or.inl rfl) rfl ?_
        refine g_aload_n rfl rfl ?_
        refine x_geti (v := (μ.1 70 7)) rfl rfl (by decide) (Or.inl rfl) rfl ?_
        refine g_iast rfl rfl (by decide) (by omega) (by omega) ?_
        refine g_aload_n rfl rfl ?_
        refine x_getF (r := 72) hG rfl rfl (by decide) (Or.inr ⟨_, rfl⟩) rfl ?_
        refine g_aload_n rfl rfl ?_
        refine x_geti (v := (μ.1 70 6)) rfl rfl (by decide) (Or.inl rfl) rfl ?_
        refine g_aload_n rfl rfl ?_
        refine x_geti (v := (μ.1 70 9)) rfl rfl (by decide) (Or.inl rfl) rfl ?_
        refine g_iast rfl rfl (by decide) (by omega) (by omega) ?_
        refine g_aload_n rfl rfl ?_
        refine g_dupr rfl ?_
        refine x_geti (v := (μ.1 70 6)) rfl rfl (by decide) (Or.inl rfl) rfl ?_
        refine g_iconst rfl ⟨by decide, by decide⟩ ?_
        refine x_iadd (z := (μ.1 70 6) + 1) rfl (by omega) ⟨by omega, by omega⟩ ?_
        refine g_puti rfl rfl (by decide) rfl rfl ?_
        refine g_aload_n rfl rfl ?_
        refine g_iload_n rfl rfl ?_
        refine g_puti rfl rfl (by decide) rfl rfl ?_
        refine g_aload_n rfl rfl ?_
        refine g_dupr rfl ?_
        refine x_geti (v := (μ.1 70 9)) rfl rfl (by decide) (Or.inl rfl) rfl ?_
        refine g_iconst rfl ⟨by decide, by decide⟩ ?_
        refine x_iadd (z := (μ.1 70 9) + 1) rfl (by omega) ⟨by omega, by omega⟩ ?_
        refine g_puti rfl rfl (by decide) rfl rfl ?_
        refine g_aload_n rfl rfl ?_
        refine g_dupr rfl ?_
        refine x_geti (v := (μ.1 70 8)) rfl rfl (by decide) (Or.inl rfl) rfl ?_
        refine g_iconst rfl ⟨by decide, by decide⟩ ?_
        refine x_iadd (z := (μ.1 70 8) + 1) rfl (by omega) ⟨by omega, by omega⟩ ?_
        refine g_puti rfl rfl (by decide) rfl rfl ?_
        refine x_return rfl rfl ?_
        intro _
        refine x_return rfl rfl ?_
        omega
      · refine g_iload_n rfl rfl ?_
        refine g_iconst rfl ⟨by decide, by decide⟩ ?_
        refine g_icmp_ne (tgt := 57) rfl (by decide) (fun h3 => ?_) (fun h3 => ?_)
        · refine g_aload_n rfl rfl ?_
          refine g_aload_n rfl rfl ?_
          refine g_cV (as := []) (s_strOn hG hc hcl hw hW hCd hco (j := j0 + k) (by omega) (by omega) hh hP.2.2.2.2 hstk) rfl rfl mX10_straightOn_ok rfl rfl rfl (by decide) rfl rfl rfl ?_
          rintro _ w1 ⟨v1, rfl, hv1, hX1, hfw⟩ _
          have w6 : w1.1 70 6 = z0 + (j0 + k - j0) := by rw [hfw.1 70 (by omega) (by omega)]; exact e6
          have w8 : w1.1 70 8 = j0 + k - S := by rw [hfw.1 70 (by omega) (by omega)]; exact e8
          have w9 : w1.1 70 9 = j0 + k := by rw [hfw.1 70 (by omega) (by omega)]; exact e9
          refine g_iV (as := [tI v1]) mX10_goOn_ok rfl rfl rfl rfl rfl rfl (by decide) rfl rfl rfl ?_
          refine g_aload_n rfl rfl ?_
          refine x_geti (v := (w1.1 70 6)) rfl rfl (by decide) (Or.inl rfl) rfl ?_
          refine g_if_lt (tgt := 53) rfl (by decide) (fun hx => absurd hx (by omega)) (fun _ => ?_)
          refine g_aload_n rfl rfl ?_
          refine x_geti (v := (w1.1 70 6)) rfl rfl (by decide) (Or.inl rfl) rfl ?_
          refine g_sipush rfl ⟨by decide, by decide⟩ (by decide) ?_
          refine g_icmp_ge (tgt := 53) rfl (by decide) (fun hx => absurd hx (by omega)) (fun _ => ?_)
          refine g_aload_n rfl rfl ?_
          refine x_getF (r := 71) hG rfl rfl (by decide) (Or.inr ⟨_, rfl⟩) rfl ?_
          refine g_aload_n rfl rfl ?_
          refine x_geti (v := (w1.1 70 6)) rfl rfl (by decide) (Or.inl rfl) rfl ?_
          refine g_aload_n rfl rfl ?_
          refine x_geti (v := (w1.1 70 7)) rfl rfl (by decide) (Or.inl rfl) rfl ?_
          refine g_iast rfl rfl (by decide) (by omega) (by omega) ?_
          refine g_aload_n rfl rfl ?_
          refine x_getF (r := 72) hG rfl rfl (by decide) (Or.inr ⟨_, rfl⟩) rfl ?_
          refine g_aload_n rfl rfl ?_
          refine x_geti (v := (w1.1 70 6)) rfl rfl (by decide) (Or.inl rfl) rfl ?_
          refine g_aload_n rfl rfl ?_
          refine x_geti (v := (w1.1 70 9)) rfl rfl (by decide) (Or.inl rfl) rfl ?_
          refine g_iast rfl rfl (by decide) (by omega) (by omega) ?_
          refine g_aload_n rfl rfl ?_
          refine g_dupr rfl ?_
          refine x_geti (v := (w1.1 70 6)) rfl rfl (by decide) (Or.inl rfl) rfl ?_
          refine g_iconst rfl ⟨by decide, by decide⟩ ?_
          refine x_iadd (z := (w1.1 70 6) + 1) rfl (by omega) ⟨by omega, by omega⟩ ?_
          refine g_puti rfl rfl (by decide) rfl rfl ?_
          refine g_aload_n rfl rfl ?_
          refine g_iload_n rfl rfl ?_
          refine g_puti rfl rfl (by decide) rfl rfl ?_
          refine g_aload_n rfl rfl ?_
          refine g_dupr rfl ?_
          refine x_geti (v := (w1.1 70 9)) rfl rfl (by decide) (Or.inl rfl) rfl ?_
          refine g_iconst rfl ⟨by decide, by decide⟩ ?_
          refine x_iadd (z := (w1.1 70 9) + 1) rfl (by omega) ⟨by omega, by omega⟩ ?_
          refine g_puti rfl rfl (by decide) rfl rfl ?_
          refine g_aload_n rfl rfl ?_
          refine g_dupr rfl ?_
          refine x_geti (v := (w1.1 70 8)) rfl rfl (by decide) (Or.inl rfl) rfl ?_
          refine g_iconst rfl ⟨by decide, by decide⟩ ?_
          refine x_iadd (z := (w1.1 70 8) + 1) rfl (by omega) ⟨by omega, by omega⟩ ?_
          refine g_puti rfl rfl (by decide) rfl rfl ?_
          refine x_return rfl rfl ?_
          intro _
          refine x_iinc (z := k + 1) rfl rfl (by omega) ⟨by omega, by omega⟩ rfl rfl ?_
          refine g_goto (tgt := 2) rfl (by decide) ?_
          have hg := w_go (v := v1) hP hA (by omega) (by omega) (hv1) (hX1) (μ1 := w1) hfw
          rw [show j0 + k + 1 = j0 + (k + 1) by omega] at hg
          exact ih (by omega) _ _ (by omega) hg.1 hg.2 ⟨fun c9 z1 z2 z3 z4 z5 => by rw [tp_pi_ne (by omega), tp_pi_ne (by omega), tp_pi_ne (by omega), tp_pi_ne (by omega), tp_pi_ne (by omega), tp_pi_ne (by omega), hfw.1 c9 z4 z5]; exact hF.1 c9 z1 z2 z3 z4 z5, hfw.2.trans hF.2⟩
        · refine g_aload_n rfl rfl ?_
          refine g_iload_n rfl rfl ?_
          refine g_iV (as := [tI ad]) mX10_goOn_ok rfl rfl rfl rfl rfl rfl (by decide) rfl rfl rfl ?_
          refine g_aload_n rfl rfl ?_
          refine x_geti (v := (μ.1 70 6)) rfl rfl (by decide) (Or.inl rfl) rfl ?_
          refine g_if_lt (tgt := 53) rfl (by decide) (fun hx => absurd hx (by omega)) (fun _ => ?_)
          refine g_aload_n rfl rfl ?_
          refine x_geti (v := (μ.1 70 6)) rfl rfl (by decide) (Or.inl rfl) rfl ?_
          refine g_sipush rfl ⟨by decide, by decide⟩ (by decide) ?_
          refine g_icmp_ge (tgt := 53) rfl (by decide) (fun hx => absurd hx (by omega)) (fun _ => ?_)
          refine g_aload_n rfl rfl ?_
          refine x_getF (r := 71) hG rfl rfl (by decide) (Or.inr ⟨_, rfl⟩) rfl ?_
          refine g_aload_n rfl rfl ?_
          refine x_geti (v := (μ.1 70 6)) rfl rfl (by decide) (Or.inl rfl) rfl ?_
          refine g_aload_n rfl rfl ?_
          refine x_geti (v := (μ.1 70 7)) rfl rfl (by decide) (Or.inl rfl) rfl ?_
          refine g_iast rfl rfl (by decide) (by omega) (by omega) ?_
          refine g_aload_n rfl rfl ?_
          refine x_getF (r := 72) hG rfl rfl (by decide) (Or.inr ⟨_, rfl⟩) rfl ?_
          refine g_aload_n rfl rfl ?_
          refine x_geti (v := (μ.1 70 6)) rfl rfl (by decide) (Or.inl rfl) rfl ?_
          refine g_aload_n rfl rfl ?_
          refine x_geti (v := (μ.1 70 9)) rfl rfl (by decide) (Or.inl rfl) rfl ?_
          refine g_iast rfl rfl (by decide) (by omega) (by omega) ?_
          refine g_aload_n rfl rfl ?_
          refine g_dupr rfl ?_
          refine x_geti (v := (μ.1 70 6)) rfl rfl (by decide) (Or.inl rfl) rfl ?_
          refine g_iconst rfl ⟨by decide, by decide⟩ ?_
          refine x_iadd (z := (μ.1 70 6) + 1) rfl (by omega) ⟨by omega, by omega⟩ ?_
          refine g_puti rfl rfl (by decide) rfl rfl ?_
          refine g_aload_n rfl rfl ?_
          refine g_iload_n rfl rfl ?_
          refine g_puti rfl rfl (by decide) rfl rfl ?_
          refine g_aload_n rfl rfl ?_
          refine g_dupr rfl ?_
          refine x_geti (v := (μ.1 70 9)) rfl rfl (by decide) (Or.inl rfl) rfl ?_
          refine g_iconst rfl ⟨by decide, by decide⟩ ?_
          refine x_iadd (z := (μ.1 70 9) + 1) rfl (by omega) ⟨by omega, by omega⟩ ?_
          refine g_puti rfl rfl (by decide) rfl rfl ?_
          refine g_aload_n rfl rfl ?_
          refine g_dupr rfl ?_
          refine x_geti (v := (μ.1 70 8)) rfl rfl (by decide) (Or.inl rfl) rfl ?_
          refine g_iconst rfl ⟨by decide, by decide⟩ ?_
          refine x_iadd (z := (μ.1 70 8) + 1) rfl (by omega) ⟨by omega, by omega⟩ ?_
          refine g_puti rfl rfl (by decide) rfl rfl ?_
          refine x_return rfl rfl ?_
          intro _
          refine x_return rfl rfl ?_
          omega
    · refine g_aload_n rfl rfl ?_
      refine x_getF (r := 74) hG rfl rfl (by decide) (Or.inl ⟨_, rfl⟩) rfl ?_
      refine g_cV (as := []) (s_popW hG hzb) rfl rfl mX8_pop_ok rfl rfl rfl (by decide) rfl rfl rfl ?_
      rintro _ w1 ⟨rfl, hxs, hfw⟩ _
      have w6 : w1.1 70 6 = z0 + (j0 + k - j0) := by rw [hfw.1 70 (by omega) (by omega)]; exact e6
      have w8 : w1.1 70 8 = j0 + k - S := by rw [hfw.1 70 (by omega) (by omega)]; exact e8
      have w9 : w1.1 70 9 = j0 + k := by rw [hfw.1 70 (by omega) (by omega)]; exact e9
      refine g_popi rfl ?_
      refine g_iload_n rfl rfl ?_
      refine g_iconst rfl ⟨by decide, by decide⟩ ?_
      refine g_icmp_eq (tgt := 51) rfl (by decide) (fun _ => ?_) (fun hx => absurd hx (by omega))
      refine g_aload_n rfl rfl ?_
      refine g_iload_n rfl rfl ?_
      refine g_iV (as := [tI ad]) mX10_goOn_ok rfl rfl rfl rfl rfl rfl (by decide) rfl rfl rfl ?_
      refine g_aload_n rfl rfl ?_
      refine x_geti (v := (w1.1 70 6)) rfl rfl (by decide) (Or.inl rfl) rfl ?_
      refine g_if_lt (tgt := 53) rfl (by decide) (fun hx => absurd hx (by omega)) (fun _ => ?_)
      refine g_aload_n rfl rfl ?_
      refine x_geti (v := (w1.1 70 6)) rfl rfl (by decide) (Or.inl rfl) rfl ?_
      refine g_sipush rfl ⟨by decide, by decide⟩ (by decide) ?_
      refine g_icmp_ge (tgt := 53) rfl (by decide) (fun hx => absurd hx (by omega)) (fun _ => ?_)
      refine g_aload_n rfl rfl ?_
      refine x_getF (r := 71) hG rfl rfl (by decide) (Or.inr ⟨_, rfl⟩) rfl ?_
      refine g_aload_n rfl rfl ?_
      refine x_geti (v := (w1.1 70 6)) rfl rfl (by decide) (Or.inl rfl) rfl ?_
      refine g_aload_n rfl rfl ?_
      refine x_geti (v := (w1.1 70 7)) rfl rfl (by decide) (Or.inl rfl) rfl ?_
      refine g_iast rfl rfl (by decide) (by omega) (by omega) ?_
      refine g_aload_n rfl rfl ?_
      refine x_getF (r := 72) hG rfl rfl (by decide) (Or.inr ⟨_, rfl⟩) rfl ?_
      refine g_aload_n rfl rfl ?_
      refine x_geti (v := (w1.1 70 6)) rfl rfl (by decide) (Or.inl rfl) rfl ?_
      refine g_aload_n rfl rfl ?_
      refine x_geti (v := (w1.1 70 9)) rfl rfl (by decide) (Or.inl rfl) rfl ?_
      refine g_iast rfl rfl (by decide) (by omega) (by omega) ?_
      refine g_aload_n rfl rfl ?_
      refine g_dupr rfl ?_
      refine x_geti (v := (w1.1 70 6)) rfl rfl (by decide) (Or.inl rfl) rfl ?_
      refine g_iconst rfl ⟨by decide, by decide⟩ ?_
      refine x_iadd (z := (w1.1 70 6) + 1) rfl (by omega) ⟨by omega, by omega⟩ ?_
      refine g_puti rfl rfl (by decide) rfl rfl ?_
      refine g_aload_n rfl rfl ?_
      refine g_iload_n rfl rfl ?_
      refine g_puti rfl rfl (by decide) rfl rfl ?_
      refine g_aload_n rfl rfl ?_
      refine g_dupr rfl ?_
      refine x_geti (v := (w1.1 70 9)) rfl rfl (by decide) (Or.inl rfl) rfl ?_
      refine g_iconst rfl ⟨by decide, by decide⟩ ?_
      refine x_iadd (z := (w1.1 70 9) + 1) rfl (by omega) ⟨by omega, by omega⟩ ?_
      refine g_puti rfl rfl (by decide) rfl rfl ?_
      refine g_aload_n rfl rfl ?_
      refine g_dupr rfl ?_
      refine x_geti (v := (w1.1 70 8)) rfl rfl (by decide) (Or.inl rfl) rfl ?_
      refine g_iconst rfl ⟨by decide, by decide⟩ ?_
      refine x_iadd (z := (w1.1 70 8) + 1) rfl (by omega) ⟨by omega, by omega⟩ ?_
      refine g_puti rfl rfl (by decide) rfl rfl ?_
      refine x_return rfl rfl ?_
      intro _
      refine x_return rfl rfl ?_
      omega
  · obtain ⟨hbn, had⟩ := hbk hp1
    refine g_iload_n rfl rfl ?_
    refine g_sipush rfl ⟨by decide, by decide⟩ (by decide) ?_
    refine g_icmp_ge (tgt := 71) rfl (by decide) (fun hx => absurd hx (by omega)) (fun _ => ?_)
    refine g_aload_n rfl rfl ?_
    have hh := hP.2.1 (show j0 + k < n by omega)
    have hak := (hW.2.2.2 (j0 + k) (by omega) (by omega)).1.1
    refine g_cV (as := []) (s_canG hG hc hcl hw hCd hco (by omega) (by omega)) rfl rfl mX10_canGoOn_ok rfl rfl rfl (by decide) rfl rfl rfl ?_
    rintro _ w9 ⟨rfl, hw9⟩ _
    have hw9 := hw9.symm
    subst hw9
    refine g_if_eq (tgt := 71) rfl (by decide) (fun hx => absurd hx (by omega)) (fun _ => ?_)
    refine g_aload_n rfl rfl ?_
    refine x_getM (v := (some c)) hG rfl rfl (by decide) (Or.inl ⟨_, rfl⟩) rfl hco ?_
    refine g_aload_n rfl rfl ?_
    refine x_geti (v := (μ.1 70 7)) rfl rfl (by decide) (Or.inl rfl) rfl ?_
    refine g_cV (as := [tI (μ.1 70 7)]) ((by rw [hh]; exact s_kindX hG hc hcl hw hCd hak.1 hak.2)) rfl rfl mX0_kindAt_ok rfl hc rfl hcn rfl rfl rfl ?_
    rintro _ w9 ⟨rfl, hw9⟩ _
    have hw9 := hw9.symm
    subst hw9
    refine g_istore_n rfl rfl rfl ?_
    refine g_iload_n rfl rfl ?_
    refine g_iconst rfl ⟨by decide, by decide⟩ ?_
    refine g_icmp_ne (tgt := 41) rfl (by decide) (fun _ => ?_) (fun hx => absurd hx (by omega))
    refine g_iload_n rfl rfl ?_
    refine g_iconst rfl ⟨by decide, by decide⟩ ?_
    refine g_icmp_eq (tgt := 51) rfl (by decide) (fun hx => absurd hx (by omega)) (fun _ => ?_)
    refine g_iload_n rfl rfl ?_
    refine g_iconst rfl ⟨by decide, by decide⟩ ?_
    refine g_icmp_ne (tgt := 57) rfl (by decide) (fun hx => absurd hx (by omega)) (fun _ => ?_)
    refine g_aload_n rfl rfl ?_
    refine g_iload_n rfl rfl ?_
    refine g_iV (as := [tI ad]) mX10_goOn_ok rfl rfl rfl rfl rfl rfl (by decide) rfl rfl rfl ?_
    refine g_aload_n rfl rfl ?_
    refine x_geti (v := (μ.1 70 6)) rfl rfl (by decide) (Or.inl rfl) rfl ?_
    refine g_if_lt (tgt := 53) rfl (by decide) (fun hx => absurd hx (by omega)) (fun _ => ?_)
    refine g_aload_n rfl rfl ?_
    refine x_geti (v := (μ.1 70 6)) rfl rfl (by decide) (Or.inl rfl) rfl ?_
    refine g_sipush rfl ⟨by decide, by decide⟩ (by decide) ?_
    refine g_icmp_ge (tgt := 53) rfl (by decide) (fun hx => absurd hx (by omega)) (fun _ => ?_)
    refine g_aload_n rfl rfl ?_
    refine x_getF (r := 71) hG rfl rfl (by decide) (Or.inr ⟨_, rfl⟩) rfl ?_
    refine g_aload_n rfl rfl ?_
    refine x_geti (v := (μ.1 70 6)) rfl rfl (by decide) (Or.inl rfl) rfl ?_
    refine g_aload_n rfl rfl ?_
    refine x_geti (v := (μ.1 70 7)) rfl rfl (by decide) (Or.inl rfl) rfl ?_
    refine g_iast rfl rfl (by decide) (by omega) (by omega) ?_
    refine g_aload_n rfl rfl ?_
    refine x_getF (r := 72) hG rfl rfl (by decide) (Or.inr ⟨_, rfl⟩) rfl ?_
    refine g_aload_n rfl rfl ?_
    refine x_geti (v := (μ.1 70 6)) rfl rfl (by decide) (Or.inl rfl) rfl ?_
    refine g_aload_n rfl rfl ?_
    refine x_geti (v := (μ.1 70 9)) rfl rfl (by decide) (Or.inl rfl) rfl ?_
    refine g_iast rfl rfl (by decide) (by omega) (by omega) ?_
    refine g_aload_n rfl rfl ?_
    refine g_dupr rfl ?_
    refine x_geti (v := (μ.1 70 6)) rfl rfl (by decide) (Or.inl rfl) rfl ?_
    refine g_iconst rfl ⟨by decide, by decide⟩ ?_
    refine x_iadd (z := (μ.1 70 6) + 1) rfl (by omega) ⟨by omega, by omega⟩ ?_
    refine g_puti rfl rfl (by decide) rfl rfl ?_
    refine g_aload_n rfl rfl ?_
    refine g_iload_n rfl rfl ?_
    refine g_puti rfl rfl (by decide) rfl rfl ?_
    refine g_aload_n rfl rfl ?_
    refine g_dupr rfl ?_
    refine x_geti (v := (μ.1 70 9)) rfl rfl (by decide) (Or.inl rfl) rfl ?_
    refine g_iconst rfl ⟨by decide, by decide⟩ ?_
    refine x_iadd (z := (μ.1 70 9) + 1) rfl (by omega) ⟨by omega, by omega⟩ ?_
    refine g_puti rfl rfl (by decide) rfl rfl ?_
    refine g_aload_n rfl rfl ?_
    refine g_dupr rfl ?_
    refine x_geti (v := (μ.1 70 8)) rfl rfl (by decide) (Or.inl rfl) rfl ?_
    refine g_iconst rfl ⟨by decide, by decide⟩ ?_
    refine x_iadd (z := (μ.1 70 8) + 1) rfl (by omega) ⟨by omega, by omega⟩ ?_
    refine g_puti rfl rfl (by decide) rfl rfl ?_
    refine x_return rfl rfl ?_
    intro _
    refine x_return rfl rfl ?_
    have hg := w_go (v := ad) hP hA (by omega) (by omega) (fun z => by have e := (hW.2.2.2 (j0 + k) (by omega) (by omega)).2.2 z; rw [← e.1]; exact had) (by rw [s_S_s (by omega), s_stp_n (by omega) (fun z => by omega)]; exact hP.2.2.2.2) (μ1 := μ) ⟨fun _ _ _ => rfl, rfl⟩
    rw [show j0 + k + 1 = j0 + (k + 1) by omega] at hg
    have hkj : j0 + (k + 1) = j1 := by omega
    rw [hkj] at hg
    exact ⟨rfl, hg.1, hg.2, ⟨fun c9 z1 z2 z3 z4 z5 => by rw [tp_pi_ne (by omega), tp_pi_ne (by omega), tp_pi_ne (by omega), tp_pi_ne (by omega), tp_pi_ne (by omega), tp_pi_ne (by omega)]; exact hF.1 c9 z1 z2 z3 z4 z5, hF.2⟩⟩
  · obtain ⟨hbn, had⟩ := hbk hp1
    refine g_iload_n rfl rfl ?_
    refine g_sipush rfl ⟨by decide, by decide⟩ (by decide) ?_
    refine g_icmp_ge (tgt := 71) rfl (by decide) (fun hx => absurd hx (by omega)) (fun _ => ?_)
    refine g_aload_n rfl rfl ?_
    have hh := hP.2.1 (show j0 + k < n by omega)
    have hak := (hW.2.2.2 (j0 + k) (by omega) (by omega)).1.1
    refine g_cV (as := []) (s_canG hG hc hcl hw hCd hco (by omega) (by omega)) rfl rfl mX10_canGoOn_ok rfl rfl rfl (by decide) rfl rfl rfl ?_
    rintro _ w9 ⟨rfl, hw9⟩ _
    have hw9 := hw9.symm
    subst hw9
    refine g_if_eq (tgt := 71) rfl (by decide) (fun hx => absurd hx (by omega)) (fun _ => ?_)
    refine g_aload_n rfl rfl ?_
    refine x_getM (v := (some c)) hG rfl rfl (by decide) (Or.inl ⟨_, rfl⟩) rfl hco ?_
    refine g_aload_n rfl rfl ?_
    refine x_geti (v := (μ.1 70 7)) rfl rfl (by decide) (Or.inl rfl) rfl ?_
    refine g_cV (as := [tI (μ.1 70 7)]) ((by rw [hh]; exact s_kindX hG hc hcl hw hCd hak.1 hak.2)) rfl rfl mX0_kindAt_ok rfl hc rfl hcn rfl rfl rfl ?_
    rintro _ w9 ⟨rfl, hw9⟩ _
    have hw9 := hw9.symm
    subst hw9
    refine g_istore_n rfl rfl rfl ?_
    refine g_iload_n rfl rfl ?_
    refine g_iconst rfl ⟨by decide, by decide⟩ ?_
    refine g_icmp_ne (tgt := 41) rfl (by decide) (fun hx => absurd hx (by omega)) (fun _ => ?_)
    refine g_aload_n rfl rfl ?_
    refine x_getF (r := 74) hG rfl rfl (by decide) (Or.inl ⟨_, rfl⟩) rfl ?_
    refine g_cV (as := []) (s_popW hG hzb) rfl rfl mX8_pop_ok rfl rfl rfl (by decide) rfl rfl rfl ?_
    rintro _ w1 ⟨rfl, hxs, hfw⟩ _
    have w6 : w1.1 70 6 = z0 + (j0 + k - j0) := by rw [hfw.1 70 (by omega) (by omega)]; exact e6
    have w8 : w1.1 70 8 = j0 + k - S := by rw [hfw.1 70 (by omega) (by omega)]; exact e8
    have w9 : w1.1 70 9 = j0 + k := by rw [hfw.1 70 (by omega) (by omega)]; exact e9
    refine g_popi rfl ?_
    refine g_iload_n rfl rfl ?_
    refine g_iconst rfl ⟨by decide, by decide⟩ ?_
    refine g_icmp_eq (tgt := 51) rfl (by decide) (fun _ => ?_) (fun hx => absurd hx (by omega))
    refine g_aload_n rfl rfl ?_
    refine g_iload_n rfl rfl ?_
    refine g_iV (as := [tI ad]) mX10_goOn_ok rfl rfl rfl rfl rfl rfl (by decide) rfl rfl rfl ?_
    refine g_aload_n rfl rfl ?_
    refine x_geti (v := (w1.1 70 6)) rfl rfl (by decide) (Or.inl rfl) rfl ?_
    refine g_if_lt (tgt := 53) rfl (by decide) (fun hx => absurd hx (by omega)) (fun _ => ?_)
    refine g_aload_n rfl rfl ?_
    refine x_geti (v := (w1.1 70 6)) rfl rfl (by decide) (Or.inl rfl) rfl ?_
    refine g_sipush rfl ⟨by decide, by decide⟩ (by decide) ?_
    refine g_icmp_ge (tgt := 53) rfl (by decide) (fun hx => absurd hx (by omega)) (fun _ => ?_)
    refine g_aload_n rfl rfl ?_
    refine x_getF (r := 71) hG rfl rfl (by decide) (Or.inr ⟨_, rfl⟩) rfl ?_
    refine g_aload_n rfl rfl ?_
    refine x_geti (v := (w1.1 70 6)) rfl rfl (by decide) (Or.inl rfl) rfl ?_
    refine g_aload_n rfl rfl ?_
    refine x_geti (v := (w1.1 70 7)) rfl rfl (by decide) (Or.inl rfl) rfl ?_
    refine g_iast rfl rfl (by decide) (by omega) (by omega) ?_
    refine g_aload_n rfl rfl ?_
    refine x_getF (r := 72) hG rfl rfl (by decide) (Or.inr ⟨_, rfl⟩) rfl ?_
    refine g_aload_n rfl rfl ?_
    refine x_geti (v := (w1.1 70 6)) rfl rfl (by decide) (Or.inl rfl) rfl ?_
    refine g_aload_n rfl rfl ?_
    refine x_geti (v := (w1.1 70 9)) rfl rfl (by decide) (Or.inl rfl) rfl ?_
    refine g_iast rfl rfl (by decide) (by omega) (by omega) ?_
    refine g_aload_n rfl rfl ?_
    refine g_dupr rfl ?_
    refine x_geti (v := (w1.1 70 6)) rfl rfl (by decide) (Or.inl rfl) rfl ?_
    refine g_iconst rfl ⟨by decide, by decide⟩ ?_
    refine x_iadd (z := (w1.1 70 6) + 1) rfl (by omega) ⟨by omega, by omega⟩ ?_
    refine g_puti rfl rfl (by decide) rfl rfl ?_
    refine g_aload_n rfl rfl ?_
    refine g_iload_n rfl rfl ?_
    refine g_puti rfl rfl (by decide) rfl rfl ?_
    refine g_aload_n rfl rfl ?_
    refine g_dupr rfl ?_
    refine x_geti (v := (w1.1 70 9)) rfl rfl (by decide) (Or.inl rfl) rfl ?_
    refine g_iconst rfl ⟨by decide, by decide⟩ ?_
    refine x_iadd (z := (w1.1 70 9) + 1) rfl (by omega) ⟨by omega, by omega⟩ ?_
    refine g_puti rfl rfl (by decide) rfl rfl ?_
    refine g_aload_n rfl rfl ?_
    refine g_dupr rfl ?_
    refine x_geti (v := (w1.1 70 8)) rfl rfl (by decide) (Or.inl rfl) rfl ?_
    refine g_iconst rfl ⟨by decide, by decide⟩ ?_
    refine x_iadd (z := (w1.1 70 8) + 1) rfl (by omega) ⟨by omega, by omega⟩ ?_
    refine g_puti rfl rfl (by decide) rfl rfl ?_
    refine x_return rfl rfl ?_
    intro _
    refine x_return rfl rfl ?_
    have hg := w_go (v := ad) hP hA (by omega) (by omega) (fun z => by have e := (hW.2.2.2 (j0 + k) (by omega) (by omega)).2.2 z; rw [← e.1]; exact had) (by rw [s_S_s (by omega)]; unfold s_stp; rw [if_neg (by omega), if_pos ⟨by omega, hbn⟩]; exact s_eq_tr hxs (s_eq_pop hP.2.2.2.2)) (μ1 := w1) hfw
    rw [show j0 + k + 1 = j0 + (k + 1) by omega] at hg
    have hkj : j0 + (k + 1) = j1 := by omega
    rw [hkj] at hg
    exact ⟨rfl, hg.1, hg.2, ⟨fun c9 z1 z2 z3 z4 z5 => by rw [tp_pi_ne (by omega), tp_pi_ne (by omega), tp_pi_ne (by omega), tp_pi_ne (by omega), tp_pi_ne (by omega), tp_pi_ne (by omega), hfw.1 c9 z4 z5]; exact hF.1 c9 z1 z2 z3 z4 z5, hfw.2.trans hF.2⟩⟩
set_option maxHeartbeats 4000000 in
set_option maxRecDepth 100000 in
theorem s_hearG {G : tp_G} {μ : tp_M} (hG : tp_Gf G = true) {c : Nat} {f : Int → Int} {n S : Int} {A B Y H : Int → Int} (hc : tp_SH c = .inl 0) (hcl : c < 37) (hw : tp_Cw f) (hW : r_W f n A B Y H) (hCd : tp_Cd c f μ) (hco : μ.2 70 4 = some c) {j0 z0 j1 : Int} (hS : S ≤ j0) (hj : 0 ≤ j0 ∧ j0 ≤ j1 ∧ j1 ≤ n) (hz : 0 ≤ z0 ∧ z0 ≤ j0) (hP : w_P f A B n S j0 z0 μ) (hS0 : 0 ≤ S) {ad : Int} (hlt : j0 < j1) (hst : ∀ j, j0 ≤ j → j < j1 - 1 → s_st f A B j) (hgo : s_go f A B (f 2) S (j1 - 1)) (had0 : ad = B (j1 - 1)) : tp_k G mX10_hearGoto [tR (some 70), tI ad] μ (fun r μ' => r = none ∧ w_P f A B n S j1 (z0 + (j1 - j0)) μ' ∧ w_A A j0 z0 j1 μ μ' ∧ w_F μ μ') := by
  refine tp_ok_of mX10_hearGoto_ok rfl (Nat.le_refl _) ?_
  have hcn : c < 234 := by omega
  have hw0 := hw.1
  have hn0 := hW.1
  have hrl := hw.2.2
  refine g_iconst rfl ⟨by decide, by decide⟩ ?_
  refine g_istore_n rfl rfl rfl ?_
  exact l_goto hG hc hcl hw hW hCd hco hS hj hz hS0 hlt hst hgo had0 0 (by omega) _ _ (by omega) (by rw [show j0 + 0 = j0 by omega, show z0 + (j0 - j0) = z0 by omega]; exact hP) (by rw [show j0 + 0 = j0 by omega]; exact w_A_rf) w_F_rf
