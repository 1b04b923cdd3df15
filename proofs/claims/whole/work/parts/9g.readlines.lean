theorem t_go_s {so : Int} {T : Int → Int} {len k i : Int} {st : t_S} (h : k ≤ len) : t_go so T len (len + 1 - k).toNat i st = if t_k T len i = 0 then ((1, t_s T len i), st) else if (t_ln so T len i st).1.1 = 0 then ((0, (t_ln so T len i st).1.2), st) else t_go so T len (len + 1 - (k + 1)).toNat (t_ln so T len i st).1.2 (t_ln so T len i st).2 := by
  rw [show (len + 1 - k).toNat = (len + 1 - (k + 1)).toNat + 1 by omega]
  rfl
theorem k_C_o {T : Int → Int} {len : Int} {μ μ' : tp_M} (h : o_F μ μ') (hC : k_C T len μ) : k_C T len μ' := by
  unfold k_C
  rw [h.2.1 1 (by omega), h.1 2 (by omega), h.2.2]
  exact hC
/-- how the reading ends -/
def o_R (so : Int) (R : (Int × Int) × t_S) (μ : tp_M) : Prop := (R.1.1 = 0 → μ.1 41 8 = 1 ∧ μ.1 41 9 = R.1.2) ∧ (R.1.1 = 1 → c_Rel so R.2 μ) ∧ (R.1.1 = 0 ∨ R.1.1 = 1)
set_option maxHeartbeats 4000000 in
set_option maxRecDepth 100000 in
theorem l_rls0 {G : tp_G} (hG : tp_Gf G = true) {T : Int → Int} {len : Int} (hT : ∀ j, 0 ≤ T j ∧ T j ≤ 255) (hlen : 0 ≤ len ∧ len ≤ 600) {μ0 : tp_M} {R : (Int × Int) × t_S} : ∀ k, k ≤ len + 1 → ∀ (μ : tp_M) (i : Int) (st : t_S), 0 ≤ k → k ≤ i → i ≤ len → μ.1 41 2 = i → rs T len st.1 st.2.1 st.2.2.1 μ → (st.1 = 0 → μ.1 41 7 = st.2.2.2.1 ∧ t_cont 0 st.2.2.2.2.2 μ) → t_I 0 i st → t_go 0 T len (len + 1 - k).toNat i st = R → o_F μ0 μ → tp_g G mX5_readLines 2 [some (tR (some 41)), some (tI 0), some (tI k)] [] μ (fun r μ' => r = none ∧ o_R 0 R μ' ∧ o_F μ0 μ') := by
  refine tp_ind _ ?_
  intro k hkN ih μ i st h0 hki hil hnx hr hcR hI hgo hF
  refine g_iload_n rfl rfl ?_
  refine g_aload_n rfl rfl ?_
  refine x_geti (v := len) rfl rfl (by decide) (Or.inl rfl) hr.1.1 ?_
  refine g_icmp_gt (tgt := 50) rfl (by decide) (fun hx => absurd hx (by omega)) (fun _ => ?_)
  refine g_aload_n rfl rfl ?_
  refine g_cV (as := []) (s_adv9 hG hT hr (i := i) (by omega) hil hnx) rfl rfl mX5_advance_ok rfl rfl rfl (by decide) rfl rfl rfl ?_
  rintro _ w1 ⟨rfl, ht1, hr1, hF1⟩ _
  have hkb := t_k_b T len i
  have hc1 : st.1 = 0 → w1.1 41 7 = st.2.2.2.1 ∧ t_cont 0 st.2.2.2.2.2 w1 := fun z => ⟨by rw [hF1.2.1 7 (by omega)]; exact (hcR z).1, t_cont_F hF1.1 (hcR z).2⟩
  refine g_aload_n rfl rfl ?_
  refine x_geti (v := (t_k T len i)) rfl rfl (by decide) (Or.inl rfl) ht1.2.1 ?_
  refine g_if_ne (tgt := 22) rfl (by decide) (fun h1 => ?_) (fun h1 => ?_)
  · refine g_aload_n rfl rfl ?_
    refine g_iload_n rfl rfl ?_
    refine g_cV (as := [tI 0]) (s_rlS0 hG hT (by omega) hil hr1 ht1 hc1 hI) rfl rfl mX5_readLine_ok rfl rfl rfl (by decide) rfl rfl rfl ?_
    rintro _ w2 ⟨rfl, hP2⟩ _
    have hP2 : True ∧ _ := ⟨trivial, hP2⟩
    have hok := t_lnI0 (T := T) (len := len) (by omega) hil hI
    have hok1 := hok.1
    have hok2 := hok.2
    refine g_if_ne (tgt := 44) rfl (by decide) (fun h2 => ?_) (fun h2 => ?_)
    · refine x_iinc (z := k + 1) rfl rfl (by omega) ⟨by omega, by omega⟩ rfl rfl ?_
      refine g_goto (tgt := 2) rfl (by decide) ?_
      have h11 : (t_ln 0 T len i st).1.1 = 1 := by omega
      have hI2 := hok2 h11
      have hP3 := hP2.2.2.1 h11
      rw [t_go_s (by omega), if_neg (by omega), if_neg (by omega)] at hgo
      exact ih (by omega) _ (t_ln 0 T len i st).1.2 (t_ln 0 T len i st).2 (by omega) (by omega) hI2.2.1 hP3.1 ⟨k_C_o hP2.2.2.2 hr1.1, hP3.2.1, hP3.2.2.1⟩ hP3.2.2.2 hI2.2.2 hgo (o_F_tr hF (o_F_tr (o_F_r hF1) hP2.2.2.2))
    · refine g_aload_n rfl rfl ?_
      refine g_iconst rfl ⟨by decide, by decide⟩ ?_
      refine g_puti rfl rfl (by decide) rfl rfl ?_
      refine g_aload_n rfl rfl ?_
      refine g_aload_n rfl rfl ?_
      refine x_geti (v := ((t_ln 0 T len i st).1.2)) rfl rfl (by decide) (Or.inl rfl) (hP2.2.1 (by omega)) ?_
      refine g_puti rfl rfl (by decide) rfl rfl ?_
      refine x_return rfl rfl ?_
      rw [t_go_s (by omega), if_neg (by omega), if_pos (by omega)] at hgo
      rw [← hgo]
      exact ⟨rfl, ⟨fun _ => ⟨rfl, rfl⟩, fun z => absurd (show (0 : Int) = 1 from z) (by decide), Or.inl rfl⟩, o_F_tr hF (o_F_tr (o_F_tr (o_F_r hF1) hP2.2.2.2) ⟨fun c9 z => by rw [tp_pi_ne (by omega), tp_pi_ne (by omega)], fun j z => (tp_pi_ix (by omega)).trans (tp_pi_ix (by omega)), rfl⟩)⟩
  · refine x_return rfl rfl ?_
    rw [t_go_s (by omega), if_pos (by omega)] at hgo
    rw [← hgo]
    exact ⟨rfl, ⟨fun z => absurd (show (1 : Int) = 0 from z) (by decide), fun _ => ⟨hr1.2.1, hr1.2.2, hc1⟩, Or.inr rfl⟩, o_F_tr hF (o_F_r hF1)⟩
set_option maxHeartbeats 4000000 in
set_option maxRecDepth 100000 in
theorem s_rls0 {G : tp_G} {μ : tp_M} (hG : tp_Gf G = true) {T : Int → Int} {len : Int} {st : t_S} (hT : ∀ j, 0 ≤ T j ∧ T j ≤ 255) (hlen : 0 ≤ len ∧ len ≤ 600) (hnx : μ.1 41 2 = 0) (hr : rs T len st.1 st.2.1 st.2.2.1 μ) (hcR : st.1 = 0 → μ.1 41 7 = st.2.2.2.1 ∧ t_cont 0 st.2.2.2.2.2 μ) (hI : t_I 0 0 st) : tp_k G mX5_readLines [tR (some 41), tI 0] μ (fun r μ' => r = none ∧ o_R 0 (t_go 0 T len (len + 1 - 0).toNat 0 st) μ' ∧ o_F μ μ') := by
  refine tp_ok_of mX5_readLines_ok rfl (Nat.le_refl _) ?_
  refine g_iconst rfl ⟨by decide, by decide⟩ ?_
  refine g_istore_n rfl rfl rfl ?_
  exact l_rls0 (μ0 := μ) hG hT hlen 0 (by omega) _ 0 st (by omega) (by omega) hlen.1 hnx hr hcR hI rfl o_F_rf
set_option maxHeartbeats 4000000 in
set_option maxRecDepth 100000 in
theorem l_rls1 {G : tp_G} (hG : tp_Gf G = true) {T : Int → Int} {len : Int} (hT : ∀ j, 0 ≤ T j ∧ T j ≤ 255) (hlen : 0 ≤ len ∧ len ≤ 600) {μ0 : tp_M} {R : (Int × Int) × t_S} : ∀ k, k ≤ len + 1 → ∀ (μ : tp_M) (i : Int) (st : t_S), 0 ≤ k → k ≤ i → i ≤ len → μ.1 41 2 = i → rs T len st.1 st.2.1 st.2.2.1 μ → (st.1 = 0 → μ.1 41 7 = st.2.2.2.1 ∧ t_cont 1 st.2.2.2.2.2 μ) → t_I 1 i st → t_go 1 T len (len + 1 - k).toNat i st = R → o_F μ0 μ → tp_g G mX5_readLines 2 [some (tR (some 41)), some (tI 1), some (tI k)] [] μ (fun r μ' => r = none ∧ o_R 1 R μ' ∧ o_F μ0 μ') := by
  refine tp_ind _ ?_
  intro k hkN ih μ i st h0 hki hil hnx hr hcR hI hgo hF
  refine g_iload_n rfl rfl ?_
  refine g_aload_n rfl rfl ?_
  refine x_geti (v := len) rfl rfl (by decide) (Or.inl rfl) hr.1.1 ?_
  refine g_icmp_gt (tgt := 50) rfl (by decide) (fun hx => absurd hx (by omega)) (fun _ => ?_)
  refine g_aload_n rfl rfl ?_
  refine g_cV (as := []) (s_adv9 hG hT hr (i := i) (by omega) hil hnx) rfl rfl mX5_advance_ok rfl rfl rfl (by decide) rfl rfl rfl ?_
  rintro _ w1 ⟨rfl, ht1, hr1, hF1⟩ _
  have hkb := t_k_b T len i
  have hc1 : st.1 = 0 → w1.1 41 7 = st.2.2.2.1 ∧ t_cont 1 st.2.2.2.2.2 w1 := fun z => ⟨by rw [hF1.2.1 7 (by omega)]; exact (hcR z).1, t_cont_F hF1.1 (hcR z).2⟩
  refine g_aload_n rfl rfl ?_
  refine x_geti (v := (t_k T len i)) rfl rfl (by decide) (Or.inl rfl) ht1.2.1 ?_
  refine g_if_ne (tgt := 22) rfl (by decide) (fun h1 => ?_) (fun h1 => ?_)
  · refine g_aload_n rfl rfl ?_
    refine g_iload_n rfl rfl ?_
    refine g_cV (as := [tI 1]) (s_rlS1 hG hT (by omega) hil hr1 ht1 hc1 hI) rfl rfl mX5_readLine_ok rfl rfl rfl (by decide) rfl rfl rfl ?_
    rintro _ w2 ⟨rfl, hP2⟩ _
    have hP2 : True ∧ _ := ⟨trivial, hP2⟩
    have hok := t_lnI1 (T := T) (len := len) (by omega) hil hI
    have hok1 := hok.1
    have hok2 := hok.2
    refine g_if_ne (tgt := 44) rfl (by decide) (fun h2 => ?_) (fun h2 => ?_)
    · refine x_iinc (z := k + 1) rfl rfl (by omega) ⟨by omega, by omega⟩ rfl rfl ?_
      refine g_goto (tgt := 2) rfl (by decide) ?_
      have h11 : (t_ln 1 T len i st).1.1 = 1 := by omega
      have hI2 := hok2 h11
      have hP3 := hP2.2.2.1 h11
      rw [t_go_s (by omega), if_neg (by omega), if_neg (by omega)] at hgo
      exact ih (by omega) _ (t_ln 1 T len i st).1.2 (t_ln 1 T len i st).2 (by omega) (by omega) hI2.2.1 hP3.1 ⟨k_C_o hP2.2.2.2 hr1.1, hP3.2.1, hP3.2.2.1⟩ hP3.2.2.2 hI2.2.2 hgo (o_F_tr hF (o_F_tr (o_F_r hF1) hP2.2.2.2))
    · refine g_aload_n rfl rfl ?_
      refine g_iconst rfl ⟨by decide, by decide⟩ ?_
      refine g_puti rfl rfl (by decide) rfl rfl ?_
      refine g_aload_n rfl rfl ?_
      refine g_aload_n rfl rfl ?_
      refine x_geti (v := ((t_ln 1 T len i st).1.2)) rfl rfl (by decide) (Or.inl rfl) (hP2.2.1 (by omega)) ?_
      refine g_puti rfl rfl (by decide) rfl rfl ?_
      refine x_return rfl rfl ?_
      rw [t_go_s (by omega), if_neg (by omega), if_pos (by omega)] at hgo
      rw [← hgo]
      exact ⟨rfl, ⟨fun _ => ⟨rfl, rfl⟩, fun z => absurd (show (0 : Int) = 1 from z) (by decide), Or.inl rfl⟩, o_F_tr hF (o_F_tr (o_F_tr (o_F_r hF1) hP2.2.2.2) ⟨fun c9 z => by rw [tp_pi_ne (by omega), tp_pi_ne (by omega)], fun j z => (tp_pi_ix (by omega)).trans (tp_pi_ix (by omega)), rfl⟩)⟩
  · refine x_return rfl rfl ?_
    rw [t_go_s (by omega), if_pos (by omega)] at hgo
    rw [← hgo]
    exact ⟨rfl, ⟨fun z => absurd (show (1 : Int) = 0 from z) (by decide), fun _ => ⟨hr1.2.1, hr1.2.2, hc1⟩, Or.inr rfl⟩, o_F_tr hF (o_F_r hF1)⟩
set_option maxHeartbeats 4000000 in
set_option maxRecDepth 100000 in
theorem s_rls1 {G : tp_G} {μ : tp_M} (hG : tp_Gf G = true) {T : Int → Int} {len : Int} {st : t_S} (hT : ∀ j, 0 ≤ T j ∧ T j ≤ 255) (hlen : 0 ≤ len ∧ len ≤ 600) (hnx : μ.1 41 2 = 0) (hr : rs T len st.1 st.2.1 st.2.2.1 μ) (hcR : st.1 = 0 → μ.1 41 7 = st.2.2.2.1 ∧ t_cont 1 st.2.2.2.2.2 μ) (hI : t_I 1 0 st) : tp_k G mX5_readLines [tR (some 41), tI 1] μ (fun r μ' => r = none ∧ o_R 1 (t_go 1 T len (len + 1 - 0).toNat 0 st) μ' ∧ o_F μ μ') := by
  refine tp_ok_of mX5_readLines_ok rfl (Nat.le_refl _) ?_
  refine g_iconst rfl ⟨by decide, by decide⟩ ?_
  refine g_istore_n rfl rfl rfl ?_
  exact l_rls1 (μ0 := μ) hG hT hlen 0 (by omega) _ 0 st (by omega) (by omega) hlen.1 hnx hr hcR hI rfl o_F_rf
set_option maxHeartbeats 4000000 in
set_option maxRecDepth 100000 in
theorem l_rls2 {G : tp_G} (hG : tp_Gf G = true) {T : Int → Int} {len : Int} (hT : ∀ j, 0 ≤ T j ∧ T j ≤ 255) (hlen : 0 ≤ len ∧ len ≤ 600) {μ0 : tp_M} {R : (Int × Int) × t_S} : ∀ k, k ≤ len + 1 → ∀ (μ : tp_M) (i : Int) (st : t_S), 0 ≤ k → k ≤ i → i ≤ len → μ.1 41 2 = i → rs T len st.1 st.2.1 st.2.2.1 μ → (st.1 = 0 → μ.1 41 7 = st.2.2.2.1 ∧ t_cont 2 st.2.2.2.2.2 μ) → t_I 2 i st → t_go 2 T len (len + 1 - k).toNat i st = R → o_F μ0 μ → tp_g G mX5_readLines 2 [some (tR (some 41)), some (tI 2), some (tI k)] [] μ (fun r μ' => r = none ∧ o_R 2 R μ' ∧ o_F μ0 μ') := by
  refine tp_ind _ ?_
  intro k hkN ih μ i st h0 hki hil hnx hr hcR hI hgo hF
  refine g_iload_n rfl rfl ?_
  refine g_aload_n rfl rfl ?_
  refine x_geti (v := len) rfl rfl (by decide) (Or.inl rfl) hr.1.1 ?_
  refine g_icmp_gt (tgt := 50) rfl (by decide) (fun hx => absurd hx (by omega)) (fun _ => ?_)
  refine g_aload_n rfl rfl ?_
  refine g_cV (as := []) (s_adv9 hG hT hr (i := i) (by omega) hil hnx) rfl rfl mX5_advance_ok rfl rfl rfl (by decide) rfl rfl rfl ?_
  rintro _ w1 ⟨rfl, ht1, hr1, hF1⟩ _
  have hkb := t_k_b T len i
  have hc1 : st.1 = 0 → w1.1 41 7 = st.2.2.2.1 ∧ t_cont 2 st.2.2.2.2.2 w1 := fun z => ⟨by rw [hF1.2.1 7 (by omega)]; exact (hcR z).1, t_cont_F hF1.1 (hcR z).2⟩
  refine g_aload_n rfl rfl ?_
  refine x_geti (v := (t_k T len i)) rfl rfl (by decide) (Or.inl rfl) ht1.2.1 ?_
  refine g_if_ne (tgt := 22) rfl (by decide) (fun h1 => ?_) (fun h1 => ?_)
  · refine g_aload_n rfl rfl ?_
    refine g_iload_n rfl rfl ?_
    refine g_cV (as := [tI 2]) (s_rlS2 hG hT (by omega) hil hr1 ht1 hc1 hI) rfl rfl mX5_readLine_ok rfl rfl rfl (by decide) rfl rfl rfl ?_
    rintro _ w2 ⟨rfl, hP2⟩ _
    have hP2 : True ∧ _ := ⟨trivial, hP2⟩
    have hok := t_lnI2 (T := T) (len := len) (by omega) hil hI
    have hok1 := hok.1
    have hok2 := hok.2
    refine g_if_ne (tgt := 44) rfl (by decide) (fun h2 => ?_) (fun h2 => ?_)
    · refine x_iinc (z := k + 1) rfl rfl (by omega) ⟨by omega, by omega⟩ rfl rfl ?_
      refine g_goto (tgt := 2) rfl (by decide) ?_
      have h11 : (t_ln 2 T len i st).1.1 = 1 := by omega
      have hI2 := hok2 h11
      have hP3 := hP2.2.2.1 h11
      rw [t_go_s (by omega), if_neg (by omega), if_neg (by omega)] at hgo
      exact ih (by omega) _ (t_ln 2 T len i st).1.2 (t_ln 2 T len i st).2 (by omega) (by omega) hI2.2.1 hP3.1 ⟨k_C_o hP2.2.2.2 hr1.1, hP3.2.1, hP3.2.2.1⟩ hP3.2.2.2 hI2.2.2 hgo (o_F_tr hF (o_F_tr (o_F_r hF1) hP2.2.2.2))
    · refine g_aload_n rfl rfl ?_
      refine g_iconst rfl ⟨by decide, by decide⟩ ?_
      refine g_puti rfl rfl (by decide) rfl rfl ?_
      refine g_aload_n rfl rfl ?_
      refine g_aload_n rfl rfl ?_
      refine x_geti (v := ((t_ln 2 T len i st).1.2)) rfl rfl (by decide) (Or.inl rfl) (hP2.2.1 (by omega)) ?_
      refine g_puti rfl rfl (by decide) rfl rfl ?_
      refine x_return rfl rfl ?_
      rw [t_go_s (by omega), if_neg (by omega), if_pos (by omega)] at hgo
      rw [← hgo]
      exact ⟨rfl, ⟨fun _ => ⟨rfl, rfl⟩, fun z => absurd (show (0 : Int) = 1 from z) (by decide), Or.inl rfl⟩, o_F_tr hF (o_F_tr (o_F_tr (o_F_r hF1) hP2.2.2.2) ⟨fun c9 z => by rw [tp_pi_ne (by omega), tp_pi_ne (by omega)], fun j z => (tp_pi_ix (by omega)).trans (tp_pi_ix (by omega)), rfl⟩)⟩
  · refine x_return rfl rfl ?_
    rw [t_go_s (by omega), if_pos (by omega)] at hgo
    rw [← hgo]
    exact ⟨rfl, ⟨fun z => absurd (show (1 : Int) = 0 from z) (by decide), fun _ => ⟨hr1.2.1, hr1.2.2, hc1⟩, Or.inr rfl⟩, o_F_tr hF (o_F_r hF1)⟩
set_option maxHeartbeats 4000000 in
set_option maxRecDepth 100000 in
theorem s_rls2 {G : tp_G} {μ : tp_M} (hG : tp_Gf G = true) {T : Int → Int} {len : Int} {st : t_S} (hT : ∀ j, 0 ≤ T j ∧ T j ≤ 255) (hlen : 0 ≤ len ∧ len ≤ 600) (hnx : μ.1 41 2 = 0) (hr : rs T len st.1 st.2.1 st.2.2.1 μ) (hcR : st.1 = 0 → μ.1 41 7 = st.2.2.2.1 ∧ t_cont 2 st.2.2.2.2.2 μ) (hI : t_I 2 0 st) : tp_k G mX5_readLines [tR (some 41), tI 2] μ (fun r μ' => r = none ∧ o_R 2 (t_go 2 T len (len + 1 - 0).toNat 0 st) μ' ∧ o_F μ μ') := by
  refine tp_ok_of mX5_readLines_ok rfl (Nat.le_refl _) ?_
  refine g_iconst rfl ⟨by decide, by decide⟩ ?_
  refine g_istore_n rfl rfl rfl ?_
  exact l_rls2 (μ0 := μ) hG hT hlen 0 (by omega) _ 0 st (by omega) (by omega) hlen.1 hnx hr hcR hI rfl o_F_rf
set_option maxHeartbeats 4000000 in
set_option maxRecDepth 100000 in
theorem l_rls3 {G : tp_G} (hG : tp_Gf G = true) {T : Int → Int} {len : Int} (hT : ∀ j, 0 ≤ T j ∧ T j ≤ 255) (hlen : 0 ≤ len ∧ len ≤ 600) {μ0 : tp_M} {R : (Int × Int) × t_S} : ∀ k, k ≤ len + 1 → ∀ (μ : tp_M) (i : Int) (st : t_S), 0 ≤ k → k ≤ i → i ≤ len → μ.1 41 2 = i → rs T len st.1 st.2.1 st.2.2.1 μ → (st.1 = 0 → μ.1 41 7 = st.2.2.2.1 ∧ t_cont 3 st.2.2.2.2.2 μ) → t_I 3 i st → t_go 3 T len (len + 1 - k).toNat i st = R → o_F μ0 μ → tp_g G mX5_readLines 2 [some (tR (some 41)), some (tI 3), some (tI k)] [] μ (fun r μ' => r = none ∧ o_R 3 R μ' ∧ o_F μ0 μ') := by
  refine tp_ind _ ?_
  intro k hkN ih μ i st h0 hki hil hnx hr hcR hI hgo hF
  refine g_iload_n rfl rfl ?_
  refine g_aload_n rfl rfl ?_
  refine x_geti (v := len) rfl rfl (by decide) (Or.inl rfl) hr.1.1 ?_
  refine g_icmp_gt (tgt := 50) rfl (by decide) (fun hx => absurd hx (by omega)) (fun _ => ?_)
  refine g_aload_n rfl rfl ?_
  refine g_cV (as := []) (s_adv9 hG hT hr (i := i) (by omega) hil hnx) rfl rfl mX5_advance_ok rfl rfl rfl (by decide) rfl rfl rfl ?_
  rintro _ w1 ⟨rfl, ht1, hr1, hF1⟩ _
  have hkb := t_k_b T len i
  have hc1 : st.1 = 0 → w1.1 41 7 = st.2.2.2.1 ∧ t_cont 3 st.2.2.2.2.2 w1 := fun z => ⟨by rw [hF1.2.1 7 (by omega)]; exact (hcR z).1, t_cont_F hF1.1 (hcR z).2⟩
  refine g_aload_n rfl rfl ?_
  refine x_geti (v := (t_k T len i)) rfl rfl (by decide) (Or.inl rfl) ht1.2.1 ?_
  refine g_if_ne (tgt := 22) rfl (by decide) (fun h1 => ?_) (fun h1 => ?_)
  · refine g_aload_n rfl rfl ?_
    refine g_iload_n rfl rfl ?_
    refine g_cV (as := [tI 3]) (s_rlS3 hG hT (by omega) hil hr1 ht1 hc1 hI) rfl rfl mX5_readLine_ok rfl rfl rfl (by decide) rfl rfl rfl ?_
    rintro _ w2 ⟨rfl, hP2⟩ _
    have hP2 : True ∧ _ := ⟨trivial, hP2⟩
    have hok := t_lnI3 (T := T) (len := len) (by omega) hil hI
    have hok1 := hok.1
    have hok2 := hok.2
    refine g_if_ne (tgt := 44) rfl (by decide) (fun h2 => ?_) (fun h2 => ?_)
    · refine x_iinc (z := k + 1) rfl rfl (by omega) ⟨by omega, by omega⟩ rfl rfl ?_
      refine g_goto (tgt := 2) rfl (by decide) ?_
      have h11 : (t_ln 3 T len i st).1.1 = 1 := by omega
      have hI2 := hok2 h11
      have hP3 := hP2.2.2.1 h11
      rw [t_go_s (by omega), if_neg (by omega), if_neg (by omega)] at hgo
      exact ih (by omega) _ (t_ln 3 T len i st).1.2 (t_ln 3 T len i st).2 (by omega) (by omega) hI2.2.1 hP3.1 ⟨k_C_o hP2.2.2.2 hr1.1, hP3.2.1, hP3.2.2.1⟩ hP3.2.2.2 hI2.2.2 hgo (o_F_tr hF (o_F_tr (o_F_r hF1) hP2.2.2.2))
    · refine g_aload_n rfl rfl ?_
      refine g_iconst rfl ⟨by decide, by decide⟩ ?_
      refine g_puti rfl rfl (by decide) rfl rfl ?_
      refine g_aload_n rfl rfl ?_
      refine g_aload_n rfl rfl ?_
      refine x_geti (v := ((t_ln 3 T len i st).1.2)) rfl rfl (by decide) (Or.inl rfl) (hP2.2.1 (by omega)) ?_
      refine g_puti rfl rfl (by decide) rfl rfl ?_
      refine x_return rfl rfl ?_
      rw [t_go_s (by omega), if_neg (by omega), if_pos (by omega)] at hgo
      rw [← hgo]
      exact ⟨rfl, ⟨fun _ => ⟨rfl, rfl⟩, fun z => absurd (show (0 : Int) = 1 from z) (by decide), Or.inl rfl⟩, o_F_tr hF (o_F_tr (o_F_tr (o_F_r hF1) hP2.2.2.2) ⟨fun c9 z => by rw [tp_pi_ne (by omega), tp_pi_ne (by omega)], fun j z => (tp_pi_ix (by omega)).trans (tp_pi_ix (by omega)), rfl⟩)⟩
  · refine x_return rfl rfl ?_
    rw [t_go_s (by omega), if_pos (by omega)] at hgo
    rw [← hgo]
    exact ⟨rfl, ⟨fun z => absurd (show (1 : Int) = 0 from z) (by decide), fun _ => ⟨hr1.2.1, hr1.2.2, hc1⟩, Or.inr rfl⟩, o_F_tr hF (o_F_r hF1)⟩
set_option maxHeartbeats 4000000 in
set_option maxRecDepth 100000 in
theorem s_rls3 {G : tp_G} {μ : tp_M} (hG : tp_Gf G = true) {T : Int → Int} {len : Int} {st : t_S} (hT : ∀ j, 0 ≤ T j ∧ T j ≤ 255) (hlen : 0 ≤ len ∧ len ≤ 600) (hnx : μ.1 41 2 = 0) (hr : rs T len st.1 st.2.1 st.2.2.1 μ) (hcR : st.1 = 0 → μ.1 41 7 = st.2.2.2.1 ∧ t_cont 3 st.2.2.2.2.2 μ) (hI : t_I 3 0 st) : tp_k G mX5_readLines [tR (some 41), tI 3] μ (fun r μ' => r = none ∧ o_R 3 (t_go 3 T len (len + 1 - 0).toNat 0 st) μ' ∧ o_F μ μ') := by
  refine tp_ok_of mX5_readLines_ok rfl (Nat.le_refl _) ?_
  refine g_iconst rfl ⟨by decide, by decide⟩ ?_
  refine g_istore_n rfl rfl rfl ?_
  exact l_rls3 (μ0 := μ) hG hT hlen 0 (by omega) _ 0 st (by omega) (by omega) hlen.1 hnx hr hcR hI rfl o_F_rf
