theorem t_wx_o {so : Int} {T : Int → Int} {len i : Int} : (if t_k T len i = 1 then t_wi so (t_wv T (t_s T len i) (t_e T len i)) else -1) = t_wx so T len i := rfl
/-- the letters of a word -/
theorem t_k_1 {T : Int → Int} {len i : Int} (h0 : 0 ≤ i) (hi : i ≤ len) (h : t_k T len i = 1) : (0 ≤ t_s T len i ∧ t_s T len i < t_e T len i ∧ t_e T len i ≤ len) ∧ (∀ j, t_s T len i ≤ j → j < t_e T len i → 97 ≤ T j ∧ T j ≤ 122) ∧ t_wd T len i = t_wv T (t_s T len i) (t_e T len i) := by
  have b := t_s_B (T := T) hi
  have e := t_e_B (T := T) hi
  have e3 := e.2.2.1 (by omega)
  refine ⟨⟨by omega, e3, e.2.1⟩, ?_, ?_⟩
  · unfold t_k at h
    unfold t_e
    generalize t_s T len i = s at *
    by_cases q : len ≤ s
    · rw [(t_ks_0 q).1] at h; omega
    by_cases ql : 97 ≤ T s ∧ T s ≤ 122
    · rw [(t_ks_1 (by omega) ql).2]
      intro j j0 j1
      exact (t_lt_i _).1 (t_R_in (P := t_lt) _ s rfl j j0 j1)
    · by_cases qd : 48 ≤ T s ∧ T s ≤ 57
      · rw [(t_ks_2 (by omega) qd).1] at h; split at h <;> omega
      · rw [(t_ks_3 (by omega) ql qd).1] at h; split at h <;> omega
  · unfold t_wd t_wds t_wv t_e
    unfold t_k at h
    generalize t_s T len i = s at *
    by_cases q : len ≤ s
    · rw [(t_ks_0 q).1] at h; omega
    by_cases ql : 97 ≤ T s ∧ T s ≤ 122
    · rw [(t_ks_1 (by omega) ql).2]
      by_cases u : t_R t_lt T len s - s ≤ 8
      · rw [if_pos ⟨h, u⟩, if_pos u]
      · rw [if_neg (fun z => u z.2), if_neg u]
    · by_cases qd : 48 ≤ T s ∧ T s ≤ 57
      · rw [(t_ks_2 (by omega) qd).1] at h; split at h <;> omega
      · rw [(t_ks_3 (by omega) ql qd).1] at h; split at h <;> omega
set_option maxHeartbeats 4000000 in
set_option maxRecDepth 100000 in
theorem s_rl0 {G : tp_G} {μ : tp_M} (hG : tp_Gf G = true) {T : Int → Int} {len i f p it m ft : Int} {D : Int → Int} (hT : ∀ j, 0 ≤ T j ∧ T j ≤ 255) (h0 : 0 ≤ i) (h1 : i ≤ len) (hr : rs T len f p it μ) (ht : tk9 T len i μ) (hcR : f = 0 → μ.1 41 7 = m ∧ t_cont 0 D μ) (hit : 0 ≤ it ∧ it ≤ 600) (hD0 : 0 ≤ D 0 ∧ D 0 ≤ it) (hwx : t_wx 0 T len i = 0) (hmx : f = 0 → it ≤ 40) : tp_k G mX5_readLine [tR (some 41), tI 0] μ (fun r μ' => o_P 0 (t_ln 0 T len i (f, p, it, m, ft, D)) μ r μ') := by
  refine tp_ok_of mX5_readLine_ok rfl (Nat.le_refl _) ?_
  obtain ⟨i1, he1⟩ : ∃ x, t_e T len i = x := ⟨_, rfl⟩
  obtain ⟨i2, he2⟩ : ∃ x, t_e T len i1 = x := ⟨_, rfl⟩
  obtain ⟨i3, he3⟩ : ∃ x, t_e T len i2 = x := ⟨_, rfl⟩
  have hb0 := t_s_B (T := T) h1
  have hb1 := t_e_B (T := T) h1
  have hb2 := t_e_B (T := T) (len := len) (i := i1) (by omega)
  have hbs1 := t_s_B (T := T) (len := len) (i := i1) (by omega)
  have hb3 := t_e_B (T := T) (len := len) (i := i2) (by omega)
  have hbs2 := t_s_B (T := T) (len := len) (i := i2) (by omega)
  have hwO : tp_k G mX5_wordOf [tR (some 41), tI 0] μ (fun r μ' => r = some (tI 0) ∧ μ' = μ) := by
    have q := s_wO0 hG hT hr.1 ht.2.2.1 ht.1 ht.2.1 (fun z => (t_k_1 h0 h1 z).1) (fun z => (t_k_1 h0 h1 z).2.1)
    rw [t_wx_o, hwx] at q
    exact q
  refine g_aload_n rfl rfl ?_
  refine g_iload_n rfl rfl ?_
  refine g_cV (as := [tI 0]) (hwO) rfl rfl mX5_wordOf_ok rfl rfl rfl (by decide) rfl rfl rfl ?_
  rintro _ w9 ⟨rfl, hw9⟩ _
  have hw9 := hw9.symm
  subst hw9
  refine g_istore_n rfl rfl rfl ?_
  refine g_iload_n rfl rfl ?_
  refine g_iconst rfl ⟨by decide, by decide⟩ ?_
  refine g_icmp_ne (tgt := 13) rfl (by decide) (fun _ => ?_) (fun hx => absurd hx (by omega))
  refine g_aload_n rfl rfl ?_
  refine g_iload_n rfl rfl ?_
  refine g_iload_n rfl rfl ?_
  refine g_cV (as := [tI 0, tI 0]) (s_cI0a (m := m) (ft := ft) (D := D) hG hr ht hit (by omega)) rfl rfl mX5_countItem_ok rfl rfl rfl (by decide) rfl rfl rfl ?_
  rintro _ w1 ⟨rfl, f1, p1, heq1, hz1, hr1, ht1, hFx1⟩ _
  have hz1f : f1 = 0 → f = 0 ∧ it < 40 := fun z => ⟨(hz1 z).1, (hz1 z).2⟩
  have hFw1 : rF μ w1 := rF_tr rF_rf hFx1
  have hzw1 : f1 = 0 → f = 0 := fun z => by omega
  have hmdw1 : f1 = 0 → w1.1 41 7 = m := fun z => by rw [hFw1.2.1 7 (by omega)]; exact (hcR (hzw1 z)).1
  have hctw1 : f1 = 0 → t_cont 0 D w1 := fun z => t_cont_F hFw1.1 (hcR (hzw1 z)).2
  refine g_iconst rfl ⟨by decide, by decide⟩ ?_
  refine g_istore_n rfl rfl rfl ?_
  refine g_iconst rfl ⟨by decide, by decide⟩ ?_
  refine g_istore rfl rfl rfl ?_
  refine g_iconst rfl ⟨by decide, by decide⟩ ?_
  refine g_istore rfl rfl rfl ?_
  refine g_iload rfl rfl ?_
  refine g_gets rfl ?_
  refine g_iload_n rfl rfl ?_
  refine x_sald (i0 := 4) (v := 0) rfl (by decide) (by decide) (by show _ < ((21 : Nat) : Int); decide) rfl ?_
  refine g_icmp_ge (tgt := 78) rfl (by decide) (fun _ => ?_) (fun hx => absurd hx (by omega))
  refine g_aload_n rfl rfl ?_
  refine g_cV (as := []) (s_adv9 hG hT hr1 (i := i1) (by omega) (by omega) (ht1.1.trans he1)) rfl rfl mX5_advance_ok rfl rfl rfl (by decide) rfl rfl rfl ?_
  rintro _ w2 ⟨rfl, ht2, hr2, hFx2⟩ _
  have hFw2 : rF μ w2 := rF_tr hFw1 hFx2
  have hzw2 : f1 = 0 → f = 0 := fun z => by omega
  have hmdw2 : f1 = 0 → w2.1 41 7 = m := fun z => by rw [hFw2.2.1 7 (by omega)]; exact (hcR (hzw2 z)).1
  have hctw2 : f1 = 0 → t_cont 0 D w2 := fun z => t_cont_F hFw2.1 (hcR (hzw2 z)).2
  have hkb1 := t_k_b T len i1
  refine g_aload_n rfl rfl ?_
  refine x_geti (v := (t_k T len i1)) rfl rfl (by decide) (Or.inl rfl) ht2.2.1 ?_
  refine g_iconst rfl ⟨by decide, by decide⟩ ?_
  refine g_icmp_eq (tgt := 92) rfl (by decide) (fun h1 => ?_) (fun h1 => ?_)
  · refine g_aload_n rfl rfl ?_
    refine x_geti (v := f1) rfl rfl (by decide) (Or.inl rfl) hr2.2.1.1 ?_
    refine g_if_ne (tgt := 107) rfl (by decide) (fun h2 => ?_) (fun h2 => ?_)
    · refine g_iconst rfl ⟨by decide, by decide⟩ ?_
      refine x_zreturn rfl rfl (Or.inr rfl) ?_
      rw [t_ln_w hwx (by decide), t_l0_0y rfl he1 (by omega), heq1]
      exact ⟨rfl, fun z => absurd (show (1 : Int) = 0 from z) (by decide), fun _ => ⟨ht2.1, ⟨hr2.2.1, hr2.2.2, fun z => absurd z (by show ¬ f1 = 0; omega)⟩⟩, o_F_r hFw2⟩
    · refine g_aload_n rfl rfl ?_
      refine g_iload_n rfl rfl ?_
      refine g_iload_n rfl rfl ?_
      refine g_iload rfl rfl ?_
      refine g_iV (as := [tI 0, tI 0, tI 0]) mX5_take_ok rfl rfl rfl rfl rfl rfl (by decide) rfl rfl rfl ?_
      refine g_iload_n rfl rfl ?_
      refine g_bipush rfl ⟨by decide, by decide⟩ (by decide) ?_
      refine g_icmp_ge (tgt := 35) rfl (by decide) (fun hx => absurd hx (by omega)) (fun _ => ?_)
      refine g_aload_n rfl rfl ?_
      refine x_getF (r := 42) hG rfl rfl (by decide) (Or.inl ⟨_, rfl⟩) rfl ?_
      refine g_iload_n rfl rfl ?_
      refine g_gets rfl ?_
      refine g_iload_n rfl rfl ?_
      refine x_sald (i0 := 4) (v := 0) rfl (by decide) (by decide) (by show _ < ((21 : Nat) : Int); decide) rfl ?_
      refine g_iconst rfl ⟨by decide, by decide⟩ ?_
      refine g_icmp_ne (tgt := 24) rfl (by decide) (fun _ => ?_) (fun hx => absurd hx (by omega))
      refine g_iconst rfl ⟨by decide, by decide⟩ ?_
      refine g_aload_n rfl rfl ?_
      refine x_geti (v := m) rfl rfl (by decide) (Or.inl rfl) (hmdw2 (by omega)) ?_
      refine g_iV (as := [tI 0, tI (-1), tI m]) mX0_add_ok rfl rfl rfl rfl rfl rfl (by decide) rfl rfl rfl ?_
      refine g_aload_n rfl rfl ?_
      refine x_geti (v := (D 0)) rfl rfl (by decide) (Or.inl rfl) (hctw2 (by omega)).1 ?_
      refine g_if_lt (tgt := 56) rfl (by decide) (fun hx => absurd hx (by omega)) (fun _ => ?_)
      refine g_aload_n rfl rfl ?_
      refine x_geti (v := (D 0)) rfl rfl (by decide) (Or.inl rfl) (hctw2 (by omega)).1 ?_
      refine g_bipush rfl ⟨by decide, by decide⟩ (by decide) ?_
      refine g_icmp_ge (tgt := 56) rfl (by decide) (fun hx => absurd hx (by omega)) (fun _ => ?_)
      refine g_aload_n rfl rfl ?_
      refine x_getF (r := 43) hG rfl rfl (by decide) (Or.inr ⟨_, rfl⟩) rfl ?_
      refine g_aload_n rfl rfl ?_
      refine x_geti (v := (D 0)) rfl rfl (by decide) (Or.inl rfl) (hctw2 (by omega)).1 ?_
      refine g_iload_n rfl rfl ?_
      refine g_iast rfl rfl (by decide) (by omega) (by omega) ?_
      refine g_aload_n rfl rfl ?_
      refine x_getF (r := 44) hG rfl rfl (by decide) (Or.inr ⟨_, rfl⟩) rfl ?_
      refine g_aload_n rfl rfl ?_
      refine x_geti (v := (D 0)) rfl rfl (by decide) (Or.inl rfl) (hctw2 (by omega)).1 ?_
      refine g_iload_n rfl rfl ?_
      refine g_iast rfl rfl (by decide) (by omega) (by omega) ?_
      refine g_aload_n rfl rfl ?_
      refine x_getF (r := 45) hG rfl rfl (by decide) (Or.inr ⟨_, rfl⟩) rfl ?_
      refine g_aload_n rfl rfl ?_
      refine x_geti (v := (D 0)) rfl rfl (by decide) (Or.inl rfl) (hctw2 (by omega)).1 ?_
      refine g_iload_n rfl rfl ?_
      refine g_iast rfl rfl (by decide) (by omega) (by omega) ?_
      refine g_aload_n rfl rfl ?_
      refine g_dupr rfl ?_
      refine x_geti (v := (D 0)) rfl rfl (by decide) (Or.inl rfl) (hctw2 (by omega)).1 ?_
      refine g_iconst rfl ⟨by decide, by decide⟩ ?_
      refine x_iadd (z := (D 0) + 1) rfl (by omega) ⟨by omega, by omega⟩ ?_
      refine g_puti rfl rfl (by decide) rfl rfl ?_
      refine x_return rfl rfl ?_
      intro _
      refine g_goto (tgt := 158) rfl (by decide) ?_
      refine x_return rfl rfl ?_
      intro _
      refine g_iconst rfl ⟨by decide, by decide⟩ ?_
      refine x_zreturn rfl rfl (Or.inr rfl) ?_
      rw [t_ln_w hwx (by decide), t_l0_0y rfl he1 (by omega), heq1]
      exact ⟨rfl, fun z => absurd (show (1 : Int) = 0 from z) (by decide), fun _ => ⟨ht2.1, ⟨⟨hr2.2.1.1, hr2.2.1.2.1, hr2.2.1.2.2⟩, hr2.2.2, fun _ => ⟨hmdw2 (by omega), by show t_cont 0 (t_D 0 (t_rw 0 0) 0 m D) _; rw [t_D_a (by decide) (by omega), show t_rw 0 0 = (-1) from rfl]; exact cont_a (hctw2 (by omega)) hD0.1 (by omega)⟩⟩⟩, (o_F_pi (by decide) (o_F_pi (by decide) (o_F_pi (by decide) (o_F_pi (by decide) (o_F_r hFw2)))))⟩
  · refine g_iconst rfl ⟨by decide, by decide⟩ ?_
    refine x_zreturn rfl rfl (Or.inl rfl) ?_
    rw [t_ln_w hwx (by decide), t_l0_0n rfl he1 (by omega)]
    exact ⟨rfl, fun _ => ht2.2.2.1, fun z => absurd (show (0 : Int) = 1 from z) (by decide), o_F_r hFw2⟩
set_option maxHeartbeats 4000000 in
set_option maxRecDepth 100000 in
theorem s_rl1 {G : tp_G} {μ : tp_M} (hG : tp_Gf G = true) {T : Int → Int} {len i f p it m ft : Int} {D : Int → Int} (hT : ∀ j, 0 ≤ T j ∧ T j ≤ 255) (h0 : 0 ≤ i) (h1 : i ≤ len) (hr : rs T len f p it μ) (ht : tk9 T len i μ) (hcR : f = 0 → μ.1 41 7 = m ∧ t_cont 0 D μ) (hit : 0 ≤ it ∧ it ≤ 600) (hD0 : 0 ≤ D 0 ∧ D 0 ≤ it) (hwx : t_wx 0 T len i = 1) (hmx : f = 0 → it ≤ 40) : tp_k G mX5_readLine [tR (some 41), tI 0] μ (fun r μ' => o_P 0 (t_ln 0 T len i (f, p, it, m, ft, D)) μ r μ') := by
  refine tp_ok_of mX5_readLine_ok rfl (Nat.le_refl _) ?_
  obtain ⟨i1, he1⟩ : ∃ x, t_e T len i = x := ⟨_, rfl⟩
  obtain ⟨i2, he2⟩ : ∃ x, t_e T len i1 = x := ⟨_, rfl⟩
  obtain ⟨i3, he3⟩ : ∃ x, t_e T len i2 = x := ⟨_, rfl⟩
  have hb0 := t_s_B (T := T) h1
  have hb1 := t_e_B (T := T) h1
  have hb2 := t_e_B (T := T) (len := len) (i := i1) (by omega)
  have hbs1 := t_s_B (T := T) (len := len) (i := i1) (by omega)
  have hb3 := t_e_B (T := T) (len := len) (i := i2) (by omega)
  have hbs2 := t_s_B (T := T) (len := len) (i := i2) (by omega)
  have hwO : tp_k G mX5_wordOf [tR (some 41), tI 0] μ (fun r μ' => r = some (tI 1) ∧ μ' = μ) := by
    have q := s_wO0 hG hT hr.1 ht.2.2.1 ht.1 ht.2.1 (fun z => (t_k_1 h0 h1 z).1) (fun z => (t_k_1 h0 h1 z).2.1)
    rw [t_wx_o, hwx] at q
    exact q
  refine g_aload_n rfl rfl ?_
  refine g_iload_n rfl rfl ?_
  refine g_cV (as := [tI 0]) (hwO) rfl rfl mX5_wordOf_ok rfl rfl rfl (by decide) rfl rfl rfl ?_
  rintro _ w9 ⟨rfl, hw9⟩ _
  have hw9 := hw9.symm
  subst hw9
  refine g_istore_n rfl rfl rfl ?_
  refine g_iload_n rfl rfl ?_
  refine g_iconst rfl ⟨by decide, by decide⟩ ?_
  refine g_icmp_ne (tgt := 13) rfl (by decide) (fun _ => ?_) (fun hx => absurd hx (by omega))
  refine g_aload_n rfl rfl ?_
  refine g_iload_n rfl rfl ?_
  refine g_iload_n rfl rfl ?_
  refine g_cV (as := [tI 0, tI 1]) (s_cI0a (m := m) (ft := ft) (D := D) hG hr ht hit (by omega)) rfl rfl mX5_countItem_ok rfl rfl rfl (by decide) rfl rfl rfl ?_
  rintro _ w1 ⟨rfl, f1, p1, heq1, hz1, hr1, ht1, hFx1⟩ _
  have hz1f : f1 = 0 → f = 0 ∧ it < 40 := fun z => ⟨(hz1 z).1, (hz1 z).2⟩
  have hFw1 : rF μ w1 := rF_tr rF_rf hFx1
  have hzw1 : f1 = 0 → f = 0 := fun z => by omega
  have hmdw1 : f1 = 0 → w1.1 41 7 = m := fun z => by rw [hFw1.2.1 7 (by omega)]; exact (hcR (hzw1 z)).1
  have hctw1 : f1 = 0 → t_cont 0 D w1 := fun z => t_cont_F hFw1.1 (hcR (hzw1 z)).2
  refine g_iconst rfl ⟨by decide, by decide⟩ ?_
  refine g_istore_n rfl rfl rfl ?_
  refine g_iconst rfl ⟨by decide, by decide⟩ ?_
  refine g_istore rfl rfl rfl ?_
  refine g_iconst rfl ⟨by decide, by decide⟩ ?_
  refine g_istore rfl rfl rfl ?_
  refine g_iload rfl rfl ?_
  refine g_gets rfl ?_
  refine g_iload_n rfl rfl ?_
  refine x_sald (i0 := 4) (v := 1) rfl (by decide) (by decide) (by show _ < ((21 : Nat) : Int); decide) rfl ?_
  refine g_icmp_ge (tgt := 78) rfl (by decide) (fun hx => absurd hx (by omega)) (fun _ => ?_)
  refine g_aload_n rfl rfl ?_
  refine g_cV (as := []) (s_adv9 hG hT hr1 (i := i1) (by omega) (by omega) (ht1.1.trans he1)) rfl rfl mX5_advance_ok rfl rfl rfl (by decide) rfl rfl rfl ?_
  rintro _ w2 ⟨rfl, ht2, hr2, hFx2⟩ _
  have hFw2 : rF μ w2 := rF_tr hFw1 hFx2
  have hzw2 : f1 = 0 → f = 0 := fun z => by omega
  have hmdw2 : f1 = 0 → w2.1 41 7 = m := fun z => by rw [hFw2.2.1 7 (by omega)]; exact (hcR (hzw2 z)).1
  have hctw2 : f1 = 0 → t_cont 0 D w2 := fun z => t_cont_F hFw2.1 (hcR (hzw2 z)).2
  have hkb1 := t_k_b T len i1
  refine g_aload_n rfl rfl ?_
  refine x_geti (v := (t_k T len i1)) rfl rfl (by decide) (Or.inl rfl) ht2.2.1 ?_
  refine g_iconst rfl ⟨by decide, by decide⟩ ?_
  refine g_icmp_eq (tgt := 51) rfl (by decide) (fun h1 => ?_) (fun h1 => ?_)
  · refine g_iload rfl rfl ?_
    refine g_if_ne (tgt := 66) rfl (by decide) (fun hx => absurd hx (by omega)) (fun _ => ?_)
    refine g_aload_n rfl rfl ?_
    refine x_geti (v := (t_v T len i1)) rfl rfl (by decide) (Or.inl rfl) (ht2.2.2.2 (by omega)) ?_
    refine g_istore_n rfl rfl rfl ?_
    refine g_aload_n rfl rfl ?_
    refine g_iload_n rfl rfl ?_
    refine g_cV (as := [tI 1]) (s_cN1 (R := (m, ft, D)) hG hr2 ht2 (by omega)) rfl rfl mX5_checkNumber_ok rfl rfl rfl (by decide) rfl rfl rfl ?_
    rintro _ w3 ⟨rfl, f3, p3, heq2, hz2, hr3, ht3, hFx3⟩ _
    have hz2f : f3 = 0 → f1 = 0 ∧ 0 ≤ t_v T len i1 ∧ t_v T len i1 ≤ 39 := fun z => ⟨(hz2 z).1, (hz2 z).2.1, (hz2 z).2.2⟩
    have hFw3 : rF μ w3 := rF_tr hFw2 hFx3
    have hzw3 : f3 = 0 → f = 0 := fun z => by omega
    have hmdw3 : f3 = 0 → w3.1 41 7 = m := fun z => by rw [hFw3.2.1 7 (by omega)]; exact (hcR (hzw3 z)).1
    have hctw3 : f3 = 0 → t_cont 0 D w3 := fun z => t_cont_F hFw3.1 (hcR (hzw3 z)).2
    refine g_aload_n rfl rfl ?_
    refine x_geti (v := (t_v T len i1)) rfl rfl (by decide) (Or.inl rfl) (ht3.2.2.2 (by omega)) ?_
    refine g_istore rfl rfl rfl ?_
    refine x_iinc (z := 1) rfl rfl (by omega) ⟨by omega, by omega⟩ rfl rfl ?_
    refine g_goto (tgt := 27) rfl (by decide) ?_
    refine g_iload rfl rfl ?_
    refine g_gets rfl ?_
    refine g_iload_n rfl rfl ?_
    refine x_sald (i0 := 4) (v := 1) rfl (by decide) (by decide) (by show _ < ((21 : Nat) : Int); decide) rfl ?_
    refine g_icmp_ge (tgt := 78) rfl (by decide) (fun _ => ?_) (fun hx => absurd hx (by omega))
    refine g_aload_n rfl rfl ?_
    refine g_cV (as := []) (s_adv9 hG hT hr3 (i := i2) (by omega) (by omega) (ht3.1.trans he2)) rfl rfl mX5_advance_ok rfl rfl rfl (by decide) rfl rfl rfl ?_
    rintro _ w4 ⟨rfl, ht4, hr4, hFx4⟩ _
    have hFw4 : rF μ w4 := rF_tr hFw3 hFx4
    have hzw4 : f3 = 0 → f = 0 := fun z => by omega
    have hmdw4 : f3 = 0 → w4.1 41 7 = m := fun z => by rw [hFw4.2.1 7 (by omega)]; exact (hcR (hzw4 z)).1
    have hctw4 : f3 = 0 → t_cont 0 D w4 := fun z => t_cont_F hFw4.1 (hcR (hzw4 z)).2
    have hkb2 := t_k_b T len i2
    refine g_aload_n rfl rfl ?_
    refine x_geti (v := (t_k T len i2)) rfl rfl (by decide) (Or.inl rfl) ht4.2.1 ?_
    refine g_iconst rfl ⟨by decide, by decide⟩ ?_
    refine g_icmp_eq (tgt := 92) rfl (by decide) (fun h2 => ?_) (fun h2 => ?_)
    · refine g_aload_n rfl rfl ?_
      refine x_geti (v := f3) rfl rfl (by decide) (Or.inl rfl) hr4.2.1.1 ?_
      refine g_if_ne (tgt := 107) rfl (by decide) (fun h3 => ?_) (fun h3 => ?_)
      · refine g_iconst rfl ⟨by decide, by decide⟩ ?_
        refine x_zreturn rfl rfl (Or.inr rfl) ?_
        rw [t_ln_w hwx (by decide), t_l0_1y rfl he1 he2 (by omega) (by omega), heq1, heq2]
        exact ⟨rfl, fun z => absurd (show (1 : Int) = 0 from z) (by decide), fun _ => ⟨ht4.1, ⟨hr4.2.1, hr4.2.2, fun z => absurd z (by show ¬ f3 = 0; omega)⟩⟩, o_F_r hFw4⟩
      · refine g_aload_n rfl rfl ?_
        refine g_iload_n rfl rfl ?_
        refine g_iload_n rfl rfl ?_
        refine g_iload rfl rfl ?_
        refine g_iV (as := [tI 1, tI (t_v T len i1), tI (t_v T len i1)]) mX5_take_ok rfl rfl rfl rfl rfl rfl (by decide) rfl rfl rfl ?_
        refine g_iload_n rfl rfl ?_
        refine g_bipush rfl ⟨by decide, by decide⟩ (by decide) ?_
        refine g_icmp_ge (tgt := 35) rfl (by decide) (fun hx => absurd hx (by omega)) (fun _ => ?_)
        refine g_aload_n rfl rfl ?_
        refine x_getF (r := 42) hG rfl rfl (by decide) (Or.inl ⟨_, rfl⟩) rfl ?_
        refine g_iload_n rfl rfl ?_
        refine g_gets rfl ?_
        refine g_iload_n rfl rfl ?_
        refine x_sald (i0 := 4) (v := 1) rfl (by decide) (by decide) (by show _ < ((21 : Nat) : Int); decide) rfl ?_
        refine g_iconst rfl ⟨by decide, by decide⟩ ?_
        refine g_icmp_ne (tgt := 24) rfl (by decide) (fun hx => absurd hx (by omega)) (fun _ => ?_)
        refine g_iload_n rfl rfl ?_
        refine g_goto (tgt := 25) rfl (by decide) ?_
        refine g_aload_n rfl rfl ?_
        refine x_geti (v := m) rfl rfl (by decide) (Or.inl rfl) (hmdw4 (by omega)) ?_
        refine g_iV (as := [tI 1, tI (t_v T len i1), tI m]) mX0_add_ok rfl rfl rfl rfl rfl rfl (by decide) rfl rfl rfl ?_
        refine g_aload_n rfl rfl ?_
        refine x_geti (v := (D 0)) rfl rfl (by decide) (Or.inl rfl) (hctw4 (by omega)).1 ?_
        refine g_if_lt (tgt := 56) rfl (by decide) (fun hx => absurd hx (by omega)) (fun _ => ?_)
        refine g_aload_n rfl rfl ?_
        refine x_geti (v := (D 0)) rfl rfl (by decide) (Or.inl rfl) (hctw4 (by omega)).1 ?_
        refine g_bipush rfl ⟨by decide, by decide⟩ (by decide) ?_
        refine g_icmp_ge (tgt := 56) rfl (by decide) (fun hx => absurd hx (by omega)) (fun _ => ?_)
        refine g_aload_n rfl rfl ?_
        refine x_getF (r := 43) hG rfl rfl (by decide) (Or.inr ⟨_, rfl⟩) rfl ?_
        refine g_aload_n rfl rfl ?_
        refine x_geti (v := (D 0)) rfl rfl (by decide) (Or.inl rfl) (hctw4 (by omega)).1 ?_
        refine g_iload_n rfl rfl ?_
        refine g_iast rfl rfl (by decide) (by omega) (by omega) ?_
        refine g_aload_n rfl rfl ?_
        refine x_getF (r := 44) hG rfl rfl (by decide) (Or.inr ⟨_, rfl⟩) rfl ?_
        refine g_aload_n rfl rfl ?_
        refine x_geti (v := (D 0)) rfl rfl (by decide) (Or.inl rfl) (hctw4 (by omega)).1 ?_
        refine g_iload_n rfl rfl ?_
        refine g_iast rfl rfl (by decide) (by omega) (by omega) ?_
        refine g_aload_n rfl rfl ?_
        refine x_getF (r := 45) hG rfl rfl (by decide) (Or.inr ⟨_, rfl⟩) rfl ?_
        refine g_aload_n rfl rfl ?_
        refine x_geti (v := (D 0)) rfl rfl (by decide) (Or.inl rfl) (hctw4 (by omega)).1 ?_
        refine g_iload_n rfl rfl ?_
        refine g_iast rfl rfl (by decide) (by omega) (by omega) ?_
        refine g_aload_n rfl rfl ?_
        refine g_dupr rfl ?_
        refine x_geti (v := (D 0)) rfl rfl (by decide) (Or.inl rfl) (hctw4 (by omega)).1 ?_
        refine g_iconst rfl ⟨by decide, by decide⟩ ?_
        refine x_iadd (z := (D 0) + 1) rfl (by omega) ⟨by omega, by omega⟩ ?_
        refine g_puti rfl rfl (by decide) rfl rfl ?_
        refine x_return rfl rfl ?_
        intro _
        refine g_goto (tgt := 158) rfl (by decide) ?_
        refine x_return rfl rfl ?_
        intro _
        refine g_iconst rfl ⟨by decide, by decide⟩ ?_
        refine x_zreturn rfl rfl (Or.inr rfl) ?_
        rw [t_ln_w hwx (by decide), t_l0_1y rfl he1 he2 (by omega) (by omega), heq1, heq2]
        exact ⟨rfl, fun z => absurd (show (1 : Int) = 0 from z) (by decide), fun _ => ⟨ht4.1, ⟨⟨hr4.2.1.1, hr4.2.1.2.1, hr4.2.1.2.2⟩, hr4.2.2, fun _ => ⟨hmdw4 (by omega), by show t_cont 0 (t_D 1 (t_rw 1 (t_v T len i1)) 0 m D) _; rw [t_D_a (by decide) (by omega), show t_rw 1 (t_v T len i1) = (t_v T len i1) from t_cl_i (by show (0 : Int) ≤ _ ∧ _ ≤ (39 : Int); omega)]; exact cont_a (hctw4 (by omega)) hD0.1 (by omega)⟩⟩⟩, (o_F_pi (by decide) (o_F_pi (by decide) (o_F_pi (by decide) (o_F_pi (by decide) (o_F_r hFw4)))))⟩
    · refine g_iconst rfl ⟨by decide, by decide⟩ ?_
      refine x_zreturn rfl rfl (Or.inl rfl) ?_
      rw [t_ln_w hwx (by decide), t_l0_1n rfl he1 he2 (by omega) (by omega)]
      exact ⟨rfl, fun _ => ht4.2.2.1, fun z => absurd (show (0 : Int) = 1 from z) (by decide), o_F_r hFw4⟩
  · refine g_iconst rfl ⟨by decide, by decide⟩ ?_
    refine x_zreturn rfl rfl (Or.inl rfl) ?_
    rw [t_ln_w hwx (by decide), t_l0_1a (by decide) he1 (by omega)]
    exact ⟨rfl, fun _ => ht2.2.2.1, fun z => absurd (show (0 : Int) = 1 from z) (by decide), o_F_r hFw2⟩
set_option maxHeartbeats 4000000 in
set_option maxRecDepth 100000 in
theorem s_rl2 {G : tp_G} {μ : tp_M} (hG : tp_Gf G = true) {T : Int → Int} {len i f p it m ft : Int} {D : Int → Int} (hT : ∀ j, 0 ≤ T j ∧ T j ≤ 255) (h0 : 0 ≤ i) (h1 : i ≤ len) (hr : rs T len f p it μ) (ht : tk9 T len i μ) (hcR : f = 0 → μ.1 41 7 = m ∧ t_cont 0 D μ) (hit : 0 ≤ it ∧ it ≤ 600) (hD0 : 0 ≤ D 0 ∧ D 0 ≤ it) (hwx : t_wx 0 T len i = 2) (hmx : f = 0 → it ≤ 40) : tp_k G mX5_readLine [tR (some 41), tI 0] μ (fun r μ' => o_P 0 (t_ln 0 T len i (f, p, it, m, ft, D)) μ r μ') := by
  refine tp_ok_of mX5_readLine_ok rfl (Nat.le_refl _) ?_
  obtain ⟨i1, he1⟩ : ∃ x, t_e T len i = x := ⟨_, rfl⟩
  obtain ⟨i2, he2⟩ : ∃ x, t_e T len i1 = x := ⟨_, rfl⟩
  obtain ⟨i3, he3⟩ : ∃ x, t_e T len i2 = x := ⟨_, rfl⟩
  have hb0 := t_s_B (T := T) h1
  have hb1 := t_e_B (T := T) h1
  have hb2 := t_e_B (T := T) (len := len) (i := i1) (by omega)
  have hbs1 := t_s_B (T := T) (len := len) (i := i1) (by omega)
  have hb3 := t_e_B (T := T) (len := len) (i := i2) (by omega)
  have hbs2 := t_s_B (T := T) (len := len) (i := i2) (by omega)
  have hwO : tp_k G mX5_wordOf [tR (some 41), tI 0] μ (fun r μ' => r = some (tI 2) ∧ μ' = μ) := by
    have q := s_wO0 hG hT hr.1 ht.2.2.1 ht.1 ht.2.1 (fun z => (t_k_1 h0 h1 z).1) (fun z => (t_k_1 h0 h1 z).2.1)
    rw [t_wx_o, hwx] at q
    exact q
  refine g_aload_n rfl rfl ?_
  refine g_iload_n rfl rfl ?_
  refine g_cV (as := [tI 0]) (hwO) rfl rfl mX5_wordOf_ok rfl rfl rfl (by decide) rfl rfl rfl ?_
  rintro _ w9 ⟨rfl, hw9⟩ _
  have hw9 := hw9.symm
  subst hw9
  refine g_istore_n rfl rfl rfl ?_
  refine g_iload_n rfl rfl ?_
  refine g_iconst rfl ⟨by decide, by decide⟩ ?_
  refine g_icmp_ne (tgt := 13) rfl (by decide) (fun _ => ?_) (fun hx => absurd hx (by omega))
  refine g_aload_n rfl rfl ?_
  refine g_iload_n rfl rfl ?_
  refine g_iload_n rfl rfl ?_
  refine g_cV (as := [tI 0, tI 2]) (s_cI0a (m := m) (ft := ft) (D := D) hG hr ht hit (by omega)) rfl rfl mX5_countItem_ok rfl rfl rfl (by decide) rfl rfl rfl ?_
  rintro _ w1 ⟨rfl, f1, p1, heq1, hz1, hr1, ht1, hFx1⟩ _
  have hz1f : f1 = 0 → f = 0 ∧ it < 40 := fun z => ⟨(hz1 z).1, (hz1 z).2⟩
  have hFw1 : rF μ w1 := rF_tr rF_rf hFx1
  have hzw1 : f1 = 0 → f = 0 := fun z => by omega
  have hmdw1 : f1 = 0 → w1.1 41 7 = m := fun z => by rw [hFw1.2.1 7 (by omega)]; exact (hcR (hzw1 z)).1
  have hctw1 : f1 = 0 → t_cont 0 D w1 := fun z => t_cont_F hFw1.1 (hcR (hzw1 z)).2
  refine g_iconst rfl ⟨by decide, by decide⟩ ?_
  refine g_istore_n rfl rfl rfl ?_
  refine g_iconst rfl ⟨by decide, by decide⟩ ?_
  refine g_istore rfl rfl rfl ?_
  refine g_iconst rfl ⟨by decide, by decide⟩ ?_
  refine g_istore rfl rfl rfl ?_
  refine g_iload rfl rfl ?_
  refine g_gets rfl ?_
  refine g_iload_n rfl rfl ?_
  refine x_sald (i0 := 4) (v := 1) rfl (by decide) (by decide) (by show _ < ((21 : Nat) : Int); decide) rfl ?_
  refine g_icmp_ge (tgt := 78) rfl (by decide) (fun hx => absurd hx (by omega)) (fun _ => ?_)
  refine g_aload_n rfl rfl ?_
  refine g_cV (as := []) (s_adv9 hG hT hr1 (i := i1) (by omega) (by omega) (ht1.1.trans he1)) rfl rfl mX5_advance_ok rfl rfl rfl (by decide) rfl rfl rfl ?_
  rintro _ w2 ⟨rfl, ht2, hr2, hFx2⟩ _
  have hFw2 : rF μ w2 := rF_tr hFw1 hFx2
  have hzw2 : f1 = 0 → f = 0 := fun z => by omega
  have hmdw2 : f1 = 0 → w2.1 41 7 = m := fun z => by rw [hFw2.2.1 7 (by omega)]; exact (hcR (hzw2 z)).1
  have hctw2 : f1 = 0 → t_cont 0 D w2 := fun z => t_cont_F hFw2.1 (hcR (hzw2 z)).2
  have hkb1 := t_k_b T len i1
  refine g_aload_n rfl rfl ?_
  refine x_geti (v := (t_k T len i1)) rfl rfl (by decide) (Or.inl rfl) ht2.2.1 ?_
  refine g_iconst rfl ⟨by decide, by decide⟩ ?_
  refine g_icmp_eq (tgt := 51) rfl (by decide) (fun h1 => ?_) (fun h1 => ?_)
  · refine g_iload rfl rfl ?_
    refine g_if_ne (tgt := 66) rfl (by decide) (fun hx => absurd hx (by omega)) (fun _ => ?_)
    refine g_aload_n rfl rfl ?_
    refine x_geti (v := (t_v T len i1)) rfl rfl (by decide) (Or.inl rfl) (ht2.2.2.2 (by omega)) ?_
    refine g_istore_n rfl rfl rfl ?_
    refine g_aload_n rfl rfl ?_
    refine g_iload_n rfl rfl ?_
    refine g_cV (as := [tI 2]) (s_cN2 (R := (m, ft, D)) hG hr2 ht2 (by omega)) rfl rfl mX5_checkNumber_ok rfl rfl rfl (by decide) rfl rfl rfl ?_
    rintro _ w3 ⟨rfl, f3, p3, heq2, hz2, hr3, ht3, hFx3⟩ _
    have hz2f : f3 = 0 → f1 = 0 ∧ 0 ≤ t_v T len i1 ∧ t_v T len i1 ≤ 39 := fun z => ⟨(hz2 z).1, (hz2 z).2.1, (hz2 z).2.2⟩
    have hFw3 : rF μ w3 := rF_tr hFw2 hFx3
    have hzw3 : f3 = 0 → f = 0 := fun z => by omega
    have hmdw3 : f3 = 0 → w3.1 41 7 = m := fun z => by rw [hFw3.2.1 7 (by omega)]; exact (hcR (hzw3 z)).1
    have hctw3 : f3 = 0 → t_cont 0 D w3 := fun z => t_cont_F hFw3.1 (hcR (hzw3 z)).2
    refine g_aload_n rfl rfl ?_
    refine x_geti (v := (t_v T len i1)) rfl rfl (by decide) (Or.inl rfl) (ht3.2.2.2 (by omega)) ?_
    refine g_istore rfl rfl rfl ?_
    refine x_iinc (z := 1) rfl rfl (by omega) ⟨by omega, by omega⟩ rfl rfl ?_
    refine g_goto (tgt := 27) rfl (by decide) ?_
    refine g_iload rfl rfl ?_
    refine g_gets rfl ?_
    refine g_iload_n rfl rfl ?_
    refine x_sald (i0 := 4) (v := 1) rfl (by decide) (by decide) (by show _ < ((21 : Nat) : Int); decide) rfl ?_
    refine g_icmp_ge (tgt := 78) rfl (by decide) (fun _ => ?_) (fun hx => absurd hx (by omega))
    refine g_aload_n rfl rfl ?_
    refine g_cV (as := []) (s_adv9 hG hT hr3 (i := i2) (by omega) (by omega) (ht3.1.trans he2)) rfl rfl mX5_advance_ok rfl rfl rfl (by decide) rfl rfl rfl ?_
    rintro _ w4 ⟨rfl, ht4, hr4, hFx4⟩ _
    have hFw4 : rF μ w4 := rF_tr hFw3 hFx4
    have hzw4 : f3 = 0 → f = 0 := fun z => by omega
    have hmdw4 : f3 = 0 → w4.1 41 7 = m := fun z => by rw [hFw4.2.1 7 (by omega)]; exact (hcR (hzw4 z)).1
    have hctw4 : f3 = 0 → t_cont 0 D w4 := fun z => t_cont_F hFw4.1 (hcR (hzw4 z)).2
    have hkb2 := t_k_b T len i2
    refine g_aload_n rfl rfl ?_
    refine x_geti (v := (t_k T len i2)) rfl rfl (by decide) (Or.inl rfl) ht4.2.1 ?_
    refine g_iconst rfl ⟨by decide, by decide⟩ ?_
    refine g_icmp_eq (tgt := 92) rfl (by decide) (fun h2 => ?_) (fun h2 => ?_)
    · refine g_aload_n rfl rfl ?_
      refine x_geti (v := f3) rfl rfl (by decide) (Or.inl rfl) hr4.2.1.1 ?_
      refine g_if_ne (tgt := 107) rfl (by decide) (fun h3 => ?_) (fun h3 => ?_)
      · refine g_iconst rfl ⟨by decide, by decide⟩ ?_
        refine x_zreturn rfl rfl (Or.inr rfl) ?_
        rw [t_ln_w hwx (by decide), t_l0_1y rfl he1 he2 (by omega) (by omega), heq1, heq2]
        exact ⟨rfl, fun z => absurd (show (1 : Int) = 0 from z) (by decide), fun _ => ⟨ht4.1, ⟨hr4.2.1, hr4.2.2, fun z => absurd z (by show ¬ f3 = 0; omega)⟩⟩, o_F_r hFw4⟩
      · refine g_aload_n rfl rfl ?_
        refine g_iload_n rfl rfl ?_
        refine g_iload_n rfl rfl ?_
        refine g_iload rfl rfl ?_
        refine g_iV (as := [tI 2, tI (t_v T len i1), tI (t_v T len i1)]) mX5_take_ok rfl rfl rfl rfl rfl rfl (by decide) rfl rfl rfl ?_
        refine g_iload_n rfl rfl ?_
        refine g_bipush rfl ⟨by decide, by decide⟩ (by decide) ?_
        refine g_icmp_ge (tgt := 35) rfl (by decide) (fun hx => absurd hx (by omega)) (fun _ => ?_)
        refine g_aload_n rfl rfl ?_
        refine x_getF (r := 42) hG rfl rfl (by decide) (Or.inl ⟨_, rfl⟩) rfl ?_
        refine g_iload_n rfl rfl ?_
        refine g_gets rfl ?_
        refine g_iload_n rfl rfl ?_
        refine x_sald (i0 := 4) (v := 1) rfl (by decide) (by decide) (by show _ < ((21 : Nat) : Int); decide) rfl ?_
        refine g_iconst rfl ⟨by decide, by decide⟩ ?_
        refine g_icmp_ne (tgt := 24) rfl (by decide) (fun hx => absurd hx (by omega)) (fun _ => ?_)
        refine g_iload_n rfl rfl ?_
        refine g_goto (tgt := 25) rfl (by decide) ?_
        refine g_aload_n rfl rfl ?_
        refine x_geti (v := m) rfl rfl (by decide) (Or.inl rfl) (hmdw4 (by omega)) ?_
        refine g_iV (as := [tI 2, tI (t_v T len i1), tI m]) mX0_add_ok rfl rfl rfl rfl rfl rfl (by decide) rfl rfl rfl ?_
        refine g_aload_n rfl rfl ?_
        refine x_geti (v := (D 0)) rfl rfl (by decide) (Or.inl rfl) (hctw4 (by omega)).1 ?_
        refine g_if_lt (tgt := 56) rfl (by decide) (fun hx => absurd hx (by omega)) (fun _ => ?_)
        refine g_aload_n rfl rfl ?_
        refine x_geti (v := (D 0)) rfl rfl (by decide) (Or.inl rfl) (hctw4 (by omega)).1 ?_
        refine g_bipush rfl ⟨by decide, by decide⟩ (by decide) ?_
        refine g_icmp_ge (tgt := 56) rfl (by decide) (fun hx => absurd hx (by omega)) (fun _ => ?_)
        refine g_aload_n rfl rfl ?_
        refine x_getF (r := 43) hG rfl rfl (by decide) (Or.inr ⟨_, rfl⟩) rfl ?_
        refine g_aload_n rfl rfl ?_
        refine x_geti (v := (D 0)) rfl rfl (by decide) (Or.inl rfl) (hctw4 (by omega)).1 ?_
        refine g_iload_n rfl rfl ?_
        refine g_iast rfl rfl (by decide) (by omega) (by omega) ?_
        refine g_aload_n rfl rfl ?_
        refine x_getF (r := 44) hG rfl rfl (by decide) (Or.inr ⟨_, rfl⟩) rfl ?_
        refine g_aload_n rfl rfl ?_
        refine x_geti (v := (D 0)) rfl rfl (by decide) (Or.inl rfl) (hctw4 (by omega)).1 ?_
        refine g_iload_n rfl rfl ?_
        refine g_iast rfl rfl (by decide) (by omega) (by omega) ?_
        refine g_aload_n rfl rfl ?_
        refine x_getF (r := 45) hG rfl rfl (by decide) (Or.inr ⟨_, rfl⟩) rfl ?_
        refine g_aload_n rfl rfl ?_
        refine x_geti (v := (D 0)) rfl rfl (by decide) (Or.inl rfl) (hctw4 (by omega)).1 ?_
        refine g_iload_n rfl rfl ?_
        refine g_iast rfl rfl (by decide) (by omega) (by omega) ?_
        refine g_aload_n rfl rfl ?_
        refine g_dupr rfl ?_
        refine x_geti (v := (D 0)) rfl rfl (by decide) (Or.inl rfl) (hctw4 (by omega)).1 ?_
        refine g_iconst rfl ⟨by decide, by decide⟩ ?_
        refine x_iadd (z := (D 0) + 1) rfl (by omega) ⟨by omega, by omega⟩ ?_
        refine g_puti rfl rfl (by decide) rfl rfl ?_
        refine x_return rfl rfl ?_
        intro _
        refine g_goto (tgt := 158) rfl (by decide) ?_
        refine x_return rfl rfl ?_
        intro _
        refine g_iconst rfl ⟨by decide, by decide⟩ ?_
        refine x_zreturn rfl rfl (Or.inr rfl) ?_
        rw [t_ln_w hwx (by decide), t_l0_1y rfl he1 he2 (by omega) (by omega), heq1, heq2]
        exact ⟨rfl, fun z => absurd (show (1 : Int) = 0 from z) (by decide), fun _ => ⟨ht4.1, ⟨⟨hr4.2.1.1, hr4.2.1.2.1, hr4.2.1.2.2⟩, hr4.2.2, fun _ => ⟨hmdw4 (by omega), by show t_cont 0 (t_D 2 (t_rw 2 (t_v T len i1)) 0 m D) _; rw [t_D_a (by decide) (by omega), show t_rw 2 (t_v T len i1) = (t_v T len i1) from t_cl_i (by show (0 : Int) ≤ _ ∧ _ ≤ (39 : Int); omega)]; exact cont_a (hctw4 (by omega)) hD0.1 (by omega)⟩⟩⟩, (o_F_pi (by decide) (o_F_pi (by decide) (o_F_pi (by decide) (o_F_pi (by decide) (o_F_r hFw4)))))⟩
    · refine g_iconst rfl ⟨by decide, by decide⟩ ?_
      refine x_zreturn rfl rfl (Or.inl rfl) ?_
      rw [t_ln_w hwx (by decide), t_l0_1n rfl he1 he2 (by omega) (by omega)]
      exact ⟨rfl, fun _ => ht4.2.2.1, fun z => absurd (show (0 : Int) = 1 from z) (by decide), o_F_r hFw4⟩
  · refine g_iconst rfl ⟨by decide, by decide⟩ ?_
    refine x_zreturn rfl rfl (Or.inl rfl) ?_
    rw [t_ln_w hwx (by decide), t_l0_1a (by decide) he1 (by omega)]
    exact ⟨rfl, fun _ => ht2.2.2.1, fun z => absurd (show (0 : Int) = 1 from z) (by decide), o_F_r hFw2⟩
set_option maxHeartbeats 4000000 in
set_option maxRecDepth 100000 in
theorem s_rl3 {G : tp_G} {μ : tp_M} (hG : tp_Gf G = true) {T : Int → Int} {len i f p it m ft : Int} {D : Int → Int} (hT : ∀ j, 0 ≤ T j ∧ T j ≤ 255) (h0 : 0 ≤ i) (h1 : i ≤ len) (hr : rs T len f p it μ) (ht : tk9 T len i μ) (hcR : f = 0 → μ.1 41 7 = m ∧ t_cont 0 D μ) (hit : 0 ≤ it ∧ it ≤ 600) (hD0 : 0 ≤ D 0 ∧ D 0 ≤ it) (hwx : t_wx 0 T len i = 3) (hmx : f = 0 → it ≤ 40) : tp_k G mX5_readLine [tR (some 41), tI 0] μ (fun r μ' => o_P 0 (t_ln 0 T len i (f, p, it, m, ft, D)) μ r μ') := by
  refine tp_ok_of mX5_readLine_ok rfl (Nat.le_refl _) ?_
  obtain ⟨i1, he1⟩ : ∃ x, t_e T len i = x := ⟨_, rfl⟩
  obtain ⟨i2, he2⟩ : ∃ x, t_e T len i1 = x := ⟨_, rfl⟩
  obtain ⟨i3, he3⟩ : ∃ x, t_e T len i2 = x := ⟨_, rfl⟩
  have hb0 := t_s_B (T := T) h1
  have hb1 := t_e_B (T := T) h1
  have hb2 := t_e_B (T := T) (len := len) (i := i1) (by omega)
  have hbs1 := t_s_B (T := T) (len := len) (i := i1) (by omega)
  have hb3 := t_e_B (T := T) (len := len) (i := i2) (by omega)
  have hbs2 := t_s_B (T := T) (len := len) (i := i2) (by omega)
  have hwO : tp_k G mX5_wordOf [tR (some 41), tI 0] μ (fun r μ' => r = some (tI 3) ∧ μ' = μ) := by
    have q := s_wO0 hG hT hr.1 ht.2.2.1 ht.1 ht.2.1 (fun z => (t_k_1 h0 h1 z).1) (fun z => (t_k_1 h0 h1 z).2.1)
    rw [t_wx_o, hwx] at q
    exact q
  refine g_aload_n rfl rfl ?_
  refine g_iload_n rfl rfl ?_
  refine g_cV (as := [tI 0]) (hwO) rfl rfl mX5_wordOf_ok rfl rfl rfl (by decide) rfl rfl rfl ?_
  rintro _ w9 ⟨rfl, hw9⟩ _
  have hw9 := hw9.symm
  subst hw9
  refine g_istore_n rfl rfl rfl ?_
  refine g_iload_n rfl rfl ?_
  refine g_iconst rfl ⟨by decide, by decide⟩ ?_
  refine g_icmp_ne (tgt := 13) rfl (by decide) (fun _ => ?_) (fun hx => absurd hx (by omega))
  refine g_aload_n rfl rfl ?_
  refine g_iload_n rfl rfl ?_
  refine g_iload_n rfl rfl ?_
  refine g_cV (as := [tI 0, tI 3]) (s_cI0a (m := m) (ft := ft) (D := D) hG hr ht hit (by omega)) rfl rfl mX5_countItem_ok rfl rfl rfl (by decide) rfl rfl rfl ?_
  rintro _ w1 ⟨rfl, f1, p1, heq1, hz1, hr1, ht1, hFx1⟩ _
  have hz1f : f1 = 0 → f = 0 ∧ it < 40 := fun z => ⟨(hz1 z).1, (hz1 z).2⟩
  have hFw1 : rF μ w1 := rF_tr rF_rf hFx1
  have hzw1 : f1 = 0 → f = 0 := fun z => by omega
  have hmdw1 : f1 = 0 → w1.1 41 7 = m := fun z => by rw [hFw1.2.1 7 (by omega)]; exact (hcR (hzw1 z)).1
  have hctw1 : f1 = 0 → t_cont 0 D w1 := fun z => t_cont_F hFw1.1 (hcR (hzw1 z)).2
  refine g_iconst rfl ⟨by decide, by decide⟩ ?_
  refine g_istore_n rfl rfl rfl ?_
  refine g_iconst rfl ⟨by decide, by decide⟩ ?_
  refine g_istore rfl rfl rfl ?_
  refine g_iconst rfl ⟨by decide, by decide⟩ ?_
  refine g_istore rfl rfl rfl ?_
  refine g_iload rfl rfl ?_
  refine g_gets rfl ?_
  refine g_iload_n rfl rfl ?_
  refine x_sald (i0 := 4) (v := 1) rfl (by decide) (by decide) (by show _ < ((21 : Nat) : Int); decide) rfl ?_
  refine g_icmp_ge (tgt := 78) rfl (by decide) (fun hx => absurd hx (by omega)) (fun _ => ?_)
  refine g_aload_n rfl rfl ?_
  refine g_cV (as := []) (s_adv9 hG hT hr1 (i := i1) (by omega) (by omega) (ht1.1.trans he1)) rfl rfl mX5_advance_ok rfl rfl rfl (by decide) rfl rfl rfl ?_
  rintro _ w2 ⟨rfl, ht2, hr2, hFx2⟩ _
  have hFw2 : rF μ w2 := rF_tr hFw1 hFx2
  have hzw2 : f1 = 0 → f = 0 := fun z => by omega
  have hmdw2 : f1 = 0 → w2.1 41 7 = m := fun z => by rw [hFw2.2.1 7 (by omega)]; exact (hcR (hzw2 z)).1
  have hctw2 : f1 = 0 → t_cont 0 D w2 := fun z => t_cont_F hFw2.1 (hcR (hzw2 z)).2
  have hkb1 := t_k_b T len i1
  refine g_aload_n rfl rfl ?_
  refine x_geti (v := (t_k T len i1)) rfl rfl (by decide) (Or.inl rfl) ht2.2.1 ?_
  refine g_iconst rfl ⟨by decide, by decide⟩ ?_
  refine g_icmp_eq (tgt := 51) rfl (by decide) (fun h1 => ?_) (fun h1 => ?_)
  · refine g_iload rfl rfl ?_
    refine g_if_ne (tgt := 66) rfl (by decide) (fun hx => absurd hx (by omega)) (fun _ => ?_)
    refine g_aload_n rfl rfl ?_
    refine x_geti (v := (t_v T len i1)) rfl rfl (by decide) (Or.inl rfl) (ht2.2.2.2 (by omega)) ?_
    refine g_istore_n rfl rfl rfl ?_
    refine g_aload_n rfl rfl ?_
    refine g_iload_n rfl rfl ?_
    refine g_cV (as := [tI 3]) (s_cN3 (R := (m, ft, D)) hG hr2 ht2 (by omega)) rfl rfl mX5_checkNumber_ok rfl rfl rfl (by decide) rfl rfl rfl ?_
    rintro _ w3 ⟨rfl, f3, p3, heq2, hz2, hr3, ht3, hFx3⟩ _
    have hz2f : f3 = 0 → f1 = 0 ∧ 0 ≤ t_v T len i1 ∧ t_v T len i1 ≤ 39 := fun z => ⟨(hz2 z).1, (hz2 z).2.1, (hz2 z).2.2⟩
    have hFw3 : rF μ w3 := rF_tr hFw2 hFx3
    have hzw3 : f3 = 0 → f = 0 := fun z => by omega
    have hmdw3 : f3 = 0 → w3.1 41 7 = m := fun z => by rw [hFw3.2.1 7 (by omega)]; exact (hcR (hzw3 z)).1
    have hctw3 : f3 = 0 → t_cont 0 D w3 := fun z => t_cont_F hFw3.1 (hcR (hzw3 z)).2
    refine g_aload_n rfl rfl ?_
    refine x_geti (v := (t_v T len i1)) rfl rfl (by decide) (Or.inl rfl) (ht3.2.2.2 (by omega)) ?_
    refine g_istore rfl rfl rfl ?_
    refine x_iinc (z := 1) rfl rfl (by omega) ⟨by omega, by omega⟩ rfl rfl ?_
    refine g_goto (tgt := 27) rfl (by decide) ?_
    refine g_iload rfl rfl ?_
    refine g_gets rfl ?_
    refine g_iload_n rfl rfl ?_
    refine x_sald (i0 := 4) (v := 1) rfl (by decide) (by decide) (by show _ < ((21 : Nat) : Int); decide) rfl ?_
    refine g_icmp_ge (tgt := 78) rfl (by decide) (fun _ => ?_) (fun hx => absurd hx (by omega))
    refine g_aload_n rfl rfl ?_
    refine g_cV (as := []) (s_adv9 hG hT hr3 (i := i2) (by omega) (by omega) (ht3.1.trans he2)) rfl rfl mX5_advance_ok rfl rfl rfl (by decide) rfl rfl rfl ?_
    rintro _ w4 ⟨rfl, ht4, hr4, hFx4⟩ _
    have hFw4 : rF μ w4 := rF_tr hFw3 hFx4
    have hzw4 : f3 = 0 → f = 0 := fun z => by omega
    have hmdw4 : f3 = 0 → w4.1 41 7 = m := fun z => by rw [hFw4.2.1 7 (by omega)]; exact (hcR (hzw4 z)).1
    have hctw4 : f3 = 0 → t_cont 0 D w4 := fun z => t_cont_F hFw4.1 (hcR (hzw4 z)).2
    have hkb2 := t_k_b T len i2
    refine g_aload_n rfl rfl ?_
    refine x_geti (v := (t_k T len i2)) rfl rfl (by decide) (Or.inl rfl) ht4.2.1 ?_
    refine g_iconst rfl ⟨by decide, by decide⟩ ?_
    refine g_icmp_eq (tgt := 92) rfl (by decide) (fun h2 => ?_) (fun h2 => ?_)
    · refine g_aload_n rfl rfl ?_
      refine x_geti (v := f3) rfl rfl (by decide) (Or.inl rfl) hr4.2.1.1 ?_
      refine g_if_ne (tgt := 107) rfl (by decide) (fun h3 => ?_) (fun h3 => ?_)
      · refine g_iconst rfl ⟨by decide, by decide⟩ ?_
        refine x_zreturn rfl rfl (Or.inr rfl) ?_
        rw [t_ln_w hwx (by decide), t_l0_1y rfl he1 he2 (by omega) (by omega), heq1, heq2]
        exact ⟨rfl, fun z => absurd (show (1 : Int) = 0 from z) (by decide), fun _ => ⟨ht4.1, ⟨hr4.2.1, hr4.2.2, fun z => absurd z (by show ¬ f3 = 0; omega)⟩⟩, o_F_r hFw4⟩
      · refine g_aload_n rfl rfl ?_
        refine g_iload_n rfl rfl ?_
        refine g_iload_n rfl rfl ?_
        refine g_iload rfl rfl ?_
        refine g_iV (as := [tI 3, tI (t_v T len i1), tI (t_v T len i1)]) mX5_take_ok rfl rfl rfl rfl rfl rfl (by decide) rfl rfl rfl ?_
        refine g_iload_n rfl rfl ?_
        refine g_bipush rfl ⟨by decide, by decide⟩ (by decide) ?_
        refine g_icmp_ge (tgt := 35) rfl (by decide) (fun hx => absurd hx (by omega)) (fun _ => ?_)
        refine g_aload_n rfl rfl ?_
        refine x_getF (r := 42) hG rfl rfl (by decide) (Or.inl ⟨_, rfl⟩) rfl ?_
        refine g_iload_n rfl rfl ?_
        refine g_gets rfl ?_
        refine g_iload_n rfl rfl ?_
        refine x_sald (i0 := 4) (v := 1) rfl (by decide) (by decide) (by show _ < ((21 : Nat) : Int); decide) rfl ?_
        refine g_iconst rfl ⟨by decide, by decide⟩ ?_
        refine g_icmp_ne (tgt := 24) rfl (by decide) (fun hx => absurd hx (by omega)) (fun _ => ?_)
        refine g_iload_n rfl rfl ?_
        refine g_goto (tgt := 25) rfl (by decide) ?_
        refine g_aload_n rfl rfl ?_
        refine x_geti (v := m) rfl rfl (by decide) (Or.inl rfl) (hmdw4 (by omega)) ?_
        refine g_iV (as := [tI 3, tI (t_v T len i1), tI m]) mX0_add_ok rfl rfl rfl rfl rfl rfl (by decide) rfl rfl rfl ?_
        refine g_aload_n rfl rfl ?_
        refine x_geti (v := (D 0)) rfl rfl (by decide) (Or.inl rfl) (hctw4 (by omega)).1 ?_
        refine g_if_lt (tgt := 56) rfl (by decide) (fun hx => absurd hx (by omega)) (fun _ => ?_)
        refine g_aload_n rfl rfl ?_
        refine x_geti (v := (D 0)) rfl rfl (by decide) (Or.inl rfl) (hctw4 (by omega)).1 ?_
        refine g_bipush rfl ⟨by decide, by decide⟩ (by decide) ?_
        refine g_icmp_ge (tgt := 56) rfl (by decide) (fun hx => absurd hx (by omega)) (fun _ => ?_)
        refine g_aload_n rfl rfl ?_
        refine x_getF (r := 43) hG rfl rfl (by decide) (Or.inr ⟨_, rfl⟩) rfl ?_
        refine g_aload_n rfl rfl ?_
        refine x_geti (v := (D 0)) rfl rfl (by decide) (Or.inl rfl) (hctw4 (by omega)).1 ?_
        refine g_iload_n rfl rfl ?_
        refine g_iast rfl rfl (by decide) (by omega) (by omega) ?_
        refine g_aload_n rfl rfl ?_
        refine x_getF (r := 44) hG rfl rfl (by decide) (Or.inr ⟨_, rfl⟩) rfl ?_
        refine g_aload_n rfl rfl ?_
        refine x_geti (v := (D 0)) rfl rfl (by decide) (Or.inl rfl) (hctw4 (by omega)).1 ?_
        refine g_iload_n rfl rfl ?_
        refine g_iast rfl rfl (by decide) (by omega) (by omega) ?_
        refine g_aload_n rfl rfl ?_
        refine x_getF (r := 45) hG rfl rfl (by decide) (Or.inr ⟨_, rfl⟩) rfl ?_
        refine g_aload_n rfl rfl ?_
        refine x_geti (v := (D 0)) rfl rfl (by decide) (Or.inl rfl) (hctw4 (by omega)).1 ?_
        refine g_iload_n rfl rfl ?_
        refine g_iast rfl rfl (by decide) (by omega) (by omega) ?_
        refine g_aload_n rfl rfl ?_
        refine g_dupr rfl ?_
        refine x_geti (v := (D 0)) rfl rfl (by decide) (Or.inl rfl) (hctw4 (by omega)).1 ?_
        refine g_iconst rfl ⟨by decide, by decide⟩ ?_
        refine x_iadd (z := (D 0) + 1) rfl (by omega) ⟨by omega, by omega⟩ ?_
        refine g_puti rfl rfl (by decide) rfl rfl ?_
        refine x_return rfl rfl ?_
        intro _
        refine g_goto (tgt := 158) rfl (by decide) ?_
        refine x_return rfl rfl ?_
        intro _
        refine g_iconst rfl ⟨by decide, by decide⟩ ?_
        refine x_zreturn rfl rfl (Or.inr rfl) ?_
        rw [t_ln_w hwx (by decide), t_l0_1y rfl he1 he2 (by omega) (by omega), heq1, heq2]
        exact ⟨rfl, fun z => absurd (show (1 : Int) = 0 from z) (by decide), fun _ => ⟨ht4.1, ⟨⟨hr4.2.1.1, hr4.2.1.2.1, hr4.2.1.2.2⟩, hr4.2.2, fun _ => ⟨hmdw4 (by omega), by show t_cont 0 (t_D 3 (t_rw 3 (t_v T len i1)) 0 m D) _; rw [t_D_a (by decide) (by omega), show t_rw 3 (t_v T len i1) = (t_v T len i1) from t_cl_i (by show (0 : Int) ≤ _ ∧ _ ≤ (39 : Int); omega)]; exact cont_a (hctw4 (by omega)) hD0.1 (by omega)⟩⟩⟩, (o_F_pi (by decide) (o_F_pi (by decide) (o_F_pi (by decide) (o_F_pi (by decide) (o_F_r hFw4)))))⟩
    · refine g_iconst rfl ⟨by decide, by decide⟩ ?_
      refine x_zreturn rfl rfl (Or.inl rfl) ?_
      rw [t_ln_w hwx (by decide), t_l0_1n rfl he1 he2 (by omega) (by omega)]
      exact ⟨rfl, fun _ => ht4.2.2.1, fun z => absurd (show (0 : Int) = 1 from z) (by decide), o_F_r hFw4⟩
  · refine g_iconst rfl ⟨by decide, by decide⟩ ?_
    refine x_zreturn rfl rfl (Or.inl rfl) ?_
    rw [t_ln_w hwx (by decide), t_l0_1a (by decide) he1 (by omega)]
    exact ⟨rfl, fun _ => ht2.2.2.1, fun z => absurd (show (0 : Int) = 1 from z) (by decide), o_F_r hFw2⟩
set_option maxHeartbeats 4000000 in
set_option maxRecDepth 100000 in
theorem s_rl4 {G : tp_G} {μ : tp_M} (hG : tp_Gf G = true) {T : Int → Int} {len i f p it m ft : Int} {D : Int → Int} (hT : ∀ j, 0 ≤ T j ∧ T j ≤ 255) (h0 : 0 ≤ i) (h1 : i ≤ len) (hr : rs T len f p it μ) (ht : tk9 T len i μ) (hcR : f = 0 → μ.1 41 7 = m ∧ t_cont 0 D μ) (hit : 0 ≤ it ∧ it ≤ 600) (hD0 : 0 ≤ D 0 ∧ D 0 ≤ it) (hwx : t_wx 0 T len i = 4) (hmx : f = 0 → it ≤ 40) : tp_k G mX5_readLine [tR (some 41), tI 0] μ (fun r μ' => o_P 0 (t_ln 0 T len i (f, p, it, m, ft, D)) μ r μ') := by
  refine tp_ok_of mX5_readLine_ok rfl (Nat.le_refl _) ?_
  obtain ⟨i1, he1⟩ : ∃ x, t_e T len i = x := ⟨_, rfl⟩
  obtain ⟨i2, he2⟩ : ∃ x, t_e T len i1 = x := ⟨_, rfl⟩
  obtain ⟨i3, he3⟩ : ∃ x, t_e T len i2 = x := ⟨_, rfl⟩
  have hb0 := t_s_B (T := T) h1
  have hb1 := t_e_B (T := T) h1
  have hb2 := t_e_B (T := T) (len := len) (i := i1) (by omega)
  have hbs1 := t_s_B (T := T) (len := len) (i := i1) (by omega)
  have hb3 := t_e_B (T := T) (len := len) (i := i2) (by omega)
  have hbs2 := t_s_B (T := T) (len := len) (i := i2) (by omega)
  have hwO : tp_k G mX5_wordOf [tR (some 41), tI 0] μ (fun r μ' => r = some (tI 4) ∧ μ' = μ) := by
    have q := s_wO0 hG hT hr.1 ht.2.2.1 ht.1 ht.2.1 (fun z => (t_k_1 h0 h1 z).1) (fun z => (t_k_1 h0 h1 z).2.1)
    rw [t_wx_o, hwx] at q
    exact q
  refine g_aload_n rfl rfl ?_
  refine g_iload_n rfl rfl ?_
  refine g_cV (as := [tI 0]) (hwO) rfl rfl mX5_wordOf_ok rfl rfl rfl (by decide) rfl rfl rfl ?_
  rintro _ w9 ⟨rfl, hw9⟩ _
  have hw9 := hw9.symm
  subst hw9
  refine g_istore_n rfl rfl rfl ?_
  refine g_iload_n rfl rfl ?_
  refine g_iconst rfl ⟨by decide, by decide⟩ ?_
  refine g_icmp_ne (tgt := 13) rfl (by decide) (fun _ => ?_) (fun hx => absurd hx (by omega))
  refine g_aload_n rfl rfl ?_
  refine g_iload_n rfl rfl ?_
  refine g_iload_n rfl rfl ?_
  refine g_cV (as := [tI 0, tI 4]) (s_cI0a (m := m) (ft := ft) (D := D) hG hr ht hit (by omega)) rfl rfl mX5_countItem_ok rfl rfl rfl (by decide) rfl rfl rfl ?_
  rintro _ w1 ⟨rfl, f1, p1, heq1, hz1, hr1, ht1, hFx1⟩ _
  have hz1f : f1 = 0 → f = 0 ∧ it < 40 := fun z => ⟨(hz1 z).1, (hz1 z).2⟩
  have hFw1 : rF μ w1 := rF_tr rF_rf hFx1
  have hzw1 : f1 = 0 → f = 0 := fun z => by omega
  have hmdw1 : f1 = 0 → w1.1 41 7 = m := fun z => by rw [hFw1.2.1 7 (by omega)]; exact (hcR (hzw1 z)).1
  have hctw1 : f1 = 0 → t_cont 0 D w1 := fun z => t_cont_F hFw1.1 (hcR (hzw1 z)).2
  refine g_iconst rfl ⟨by decide, by decide⟩ ?_
  refine g_istore_n rfl rfl rfl ?_
  refine g_iconst rfl ⟨by decide, by decide⟩ ?_
  refine g_istore rfl rfl rfl ?_
  refine g_iconst rfl ⟨by decide, by decide⟩ ?_
  refine g_istore rfl rfl rfl ?_
  refine g_iload rfl rfl ?_
  refine g_gets rfl ?_
  refine g_iload_n rfl rfl ?_
  refine x_sald (i0 := 4) (v := 0) rfl (by decide) (by decide) (by show _ < ((21 : Nat) : Int); decide) rfl ?_
  refine g_icmp_ge (tgt := 78) rfl (by decide) (fun _ => ?_) (fun hx => absurd hx (by omega))
  refine g_aload_n rfl rfl ?_
  refine g_cV (as := []) (s_adv9 hG hT hr1 (i := i1) (by omega) (by omega) (ht1.1.trans he1)) rfl rfl mX5_advance_ok rfl rfl rfl (by decide) rfl rfl rfl ?_
  rintro _ w2 ⟨rfl, ht2, hr2, hFx2⟩ _
  have hFw2 : rF μ w2 := rF_tr hFw1 hFx2
  have hzw2 : f1 = 0 → f = 0 := fun z => by omega
  have hmdw2 : f1 = 0 → w2.1 41 7 = m := fun z => by rw [hFw2.2.1 7 (by omega)]; exact (hcR (hzw2 z)).1
  have hctw2 : f1 = 0 → t_cont 0 D w2 := fun z => t_cont_F hFw2.1 (hcR (hzw2 z)).2
  have hkb1 := t_k_b T len i1
  refine g_aload_n rfl rfl ?_
  refine x_geti (v := (t_k T len i1)) rfl rfl (by decide) (Or.inl rfl) ht2.2.1 ?_
  refine g_iconst rfl ⟨by decide, by decide⟩ ?_
  refine g_icmp_eq (tgt := 92) rfl (by decide) (fun h1 => ?_) (fun h1 => ?_)
  · refine g_aload_n rfl rfl ?_
    refine x_geti (v := f1) rfl rfl (by decide) (Or.inl rfl) hr2.2.1.1 ?_
    refine g_if_ne (tgt := 107) rfl (by decide) (fun h2 => ?_) (fun h2 => ?_)
    · refine g_iconst rfl ⟨by decide, by decide⟩ ?_
      refine x_zreturn rfl rfl (Or.inr rfl) ?_
      rw [t_ln_w hwx (by decide), t_l0_0y rfl he1 (by omega), heq1]
      exact ⟨rfl, fun z => absurd (show (1 : Int) = 0 from z) (by decide), fun _ => ⟨ht2.1, ⟨hr2.2.1, hr2.2.2, fun z => absurd z (by show ¬ f1 = 0; omega)⟩⟩, o_F_r hFw2⟩
    · refine g_aload_n rfl rfl ?_
      refine g_iload_n rfl rfl ?_
      refine g_iload_n rfl rfl ?_
      refine g_iload rfl rfl ?_
      refine g_iV (as := [tI 4, tI 0, tI 0]) mX5_take_ok rfl rfl rfl rfl rfl rfl (by decide) rfl rfl rfl ?_
      refine g_iload_n rfl rfl ?_
      refine g_bipush rfl ⟨by decide, by decide⟩ (by decide) ?_
      refine g_icmp_ge (tgt := 35) rfl (by decide) (fun hx => absurd hx (by omega)) (fun _ => ?_)
      refine g_aload_n rfl rfl ?_
      refine x_getF (r := 42) hG rfl rfl (by decide) (Or.inl ⟨_, rfl⟩) rfl ?_
      refine g_iload_n rfl rfl ?_
      refine g_gets rfl ?_
      refine g_iload_n rfl rfl ?_
      refine x_sald (i0 := 4) (v := 0) rfl (by decide) (by decide) (by show _ < ((21 : Nat) : Int); decide) rfl ?_
      refine g_iconst rfl ⟨by decide, by decide⟩ ?_
      refine g_icmp_ne (tgt := 24) rfl (by decide) (fun _ => ?_) (fun hx => absurd hx (by omega))
      refine g_iconst rfl ⟨by decide, by decide⟩ ?_
      refine g_aload_n rfl rfl ?_
      refine x_geti (v := m) rfl rfl (by decide) (Or.inl rfl) (hmdw2 (by omega)) ?_
      refine g_iV (as := [tI 4, tI (-1), tI m]) mX0_add_ok rfl rfl rfl rfl rfl rfl (by decide) rfl rfl rfl ?_
      refine g_aload_n rfl rfl ?_
      refine x_geti (v := (D 0)) rfl rfl (by decide) (Or.inl rfl) (hctw2 (by omega)).1 ?_
      refine g_if_lt (tgt := 56) rfl (by decide) (fun hx => absurd hx (by omega)) (fun _ => ?_)
      refine g_aload_n rfl rfl ?_
      refine x_geti (v := (D 0)) rfl rfl (by decide) (Or.inl rfl) (hctw2 (by omega)).1 ?_
      refine g_bipush rfl ⟨by decide, by decide⟩ (by decide) ?_
      refine g_icmp_ge (tgt := 56) rfl (by decide) (fun hx => absurd hx (by omega)) (fun _ => ?_)
      refine g_aload_n rfl rfl ?_
      refine x_getF (r := 43) hG rfl rfl (by decide) (Or.inr ⟨_, rfl⟩) rfl ?_
      refine g_aload_n rfl rfl ?_
      refine x_geti (v := (D 0)) rfl rfl (by decide) (Or.inl rfl) (hctw2 (by omega)).1 ?_
      refine g_iload_n rfl rfl ?_
      refine g_iast rfl rfl (by decide) (by omega) (by omega) ?_
      refine g_aload_n rfl rfl ?_
      refine x_getF (r := 44) hG rfl rfl (by decide) (Or.inr ⟨_, rfl⟩) rfl ?_
      refine g_aload_n rfl rfl ?_
      refine x_geti (v := (D 0)) rfl rfl (by decide) (Or.inl rfl) (hctw2 (by omega)).1 ?_
      refine g_iload_n rfl rfl ?_
      refine g_iast rfl rfl (by decide) (by omega) (by omega) ?_
      refine g_aload_n rfl rfl ?_
      refine x_getF (r := 45) hG rfl rfl (by decide) (Or.inr ⟨_, rfl⟩) rfl ?_
      refine g_aload_n rfl rfl ?_
      refine x_geti (v := (D 0)) rfl rfl (by decide) (Or.inl rfl) (hctw2 (by omega)).1 ?_
      refine g_iload_n rfl rfl ?_
      refine g_iast rfl rfl (by decide) (by omega) (by omega) ?_
      refine g_aload_n rfl rfl ?_
      refine g_dupr rfl ?_
      refine x_geti (v := (D 0)) rfl rfl (by decide) (Or.inl rfl) (hctw2 (by omega)).1 ?_
      refine g_iconst rfl ⟨by decide, by decide⟩ ?_
      refine x_iadd (z := (D 0) + 1) rfl (by omega) ⟨by omega, by omega⟩ ?_
      refine g_puti rfl rfl (by decide) rfl rfl ?_
      refine x_return rfl rfl ?_
      intro _
      refine g_goto (tgt := 158) rfl (by decide) ?_
      refine x_return rfl rfl ?_
      intro _
      refine g_iconst rfl ⟨by decide, by decide⟩ ?_
      refine x_zreturn rfl rfl (Or.inr rfl) ?_
      rw [t_ln_w hwx (by decide), t_l0_0y rfl he1 (by omega), heq1]
      exact ⟨rfl, fun z => absurd (show (1 : Int) = 0 from z) (by decide), fun _ => ⟨ht2.1, ⟨⟨hr2.2.1.1, hr2.2.1.2.1, hr2.2.1.2.2⟩, hr2.2.2, fun _ => ⟨hmdw2 (by omega), by show t_cont 0 (t_D 4 (t_rw 4 0) 0 m D) _; rw [t_D_a (by decide) (by omega), show t_rw 4 0 = (-1) from rfl]; exact cont_a (hctw2 (by omega)) hD0.1 (by omega)⟩⟩⟩, (o_F_pi (by decide) (o_F_pi (by decide) (o_F_pi (by decide) (o_F_pi (by decide) (o_F_r hFw2)))))⟩
  · refine g_iconst rfl ⟨by decide, by decide⟩ ?_
    refine x_zreturn rfl rfl (Or.inl rfl) ?_
    rw [t_ln_w hwx (by decide), t_l0_0n rfl he1 (by omega)]
    exact ⟨rfl, fun _ => ht2.2.2.1, fun z => absurd (show (0 : Int) = 1 from z) (by decide), o_F_r hFw2⟩
set_option maxHeartbeats 4000000 in
set_option maxRecDepth 100000 in
theorem s_rl5 {G : tp_G} {μ : tp_M} (hG : tp_Gf G = true) {T : Int → Int} {len i f p it m ft : Int} {D : Int → Int} (hT : ∀ j, 0 ≤ T j ∧ T j ≤ 255) (h0 : 0 ≤ i) (h1 : i ≤ len) (hr : rs T len f p it μ) (ht : tk9 T len i μ) (hcR : f = 0 → μ.1 41 7 = m ∧ t_cont 0 D μ) (hit : 0 ≤ it ∧ it ≤ 600) (hD0 : 0 ≤ D 0 ∧ D 0 ≤ it) (hwx : t_wx 0 T len i = 5) (hmx : f = 0 → it ≤ 40) : tp_k G mX5_readLine [tR (some 41), tI 0] μ (fun r μ' => o_P 0 (t_ln 0 T len i (f, p, it, m, ft, D)) μ r μ') := by
  refine tp_ok_of mX5_readLine_ok rfl (Nat.le_refl _) ?_
  obtain ⟨i1, he1⟩ : ∃ x, t_e T len i = x := ⟨_, rfl⟩
  obtain ⟨i2, he2⟩ : ∃ x, t_e T len i1 = x := ⟨_, rfl⟩
  obtain ⟨i3, he3⟩ : ∃ x, t_e T len i2 = x := ⟨_, rfl⟩
  have hb0 := t_s_B (T := T) h1
  have hb1 := t_e_B (T := T) h1
  have hb2 := t_e_B (T := T) (len := len) (i := i1) (by omega)
  have hbs1 := t_s_B (T := T) (len := len) (i := i1) (by omega)
  have hb3 := t_e_B (T := T) (len := len) (i := i2) (by omega)
  have hbs2 := t_s_B (T := T) (len := len) (i := i2) (by omega)
  have hwO : tp_k G mX5_wordOf [tR (some 41), tI 0] μ (fun r μ' => r = some (tI 5) ∧ μ' = μ) := by
    have q := s_wO0 hG hT hr.1 ht.2.2.1 ht.1 ht.2.1 (fun z => (t_k_1 h0 h1 z).1) (fun z => (t_k_1 h0 h1 z).2.1)
    rw [t_wx_o, hwx] at q
    exact q
  refine g_aload_n rfl rfl ?_
  refine g_iload_n rfl rfl ?_
  refine g_cV (as := [tI 0]) (hwO) rfl rfl mX5_wordOf_ok rfl rfl rfl (by decide) rfl rfl rfl ?_
  rintro _ w9 ⟨rfl, hw9⟩ _
  have hw9 := hw9.symm
  subst hw9
  refine g_istore_n rfl rfl rfl ?_
  refine g_iload_n rfl rfl ?_
  refine g_iconst rfl ⟨by decide, by decide⟩ ?_
  refine g_icmp_ne (tgt := 13) rfl (by decide) (fun _ => ?_) (fun hx => absurd hx (by omega))
  refine g_aload_n rfl rfl ?_
  refine g_iload_n rfl rfl ?_
  refine g_iload_n rfl rfl ?_
  refine g_cV (as := [tI 0, tI 5]) (s_cI0a (m := m) (ft := ft) (D := D) hG hr ht hit (by omega)) rfl rfl mX5_countItem_ok rfl rfl rfl (by decide) rfl rfl rfl ?_
  rintro _ w1 ⟨rfl, f1, p1, heq1, hz1, hr1, ht1, hFx1⟩ _
  have hz1f : f1 = 0 → f = 0 ∧ it < 40 := fun z => ⟨(hz1 z).1, (hz1 z).2⟩
  have hFw1 : rF μ w1 := rF_tr rF_rf hFx1
  have hzw1 : f1 = 0 → f = 0 := fun z => by omega
  have hmdw1 : f1 = 0 → w1.1 41 7 = m := fun z => by rw [hFw1.2.1 7 (by omega)]; exact (hcR (hzw1 z)).1
  have hctw1 : f1 = 0 → t_cont 0 D w1 := fun z => t_cont_F hFw1.1 (hcR (hzw1 z)).2
  refine g_iconst rfl ⟨by decide, by decide⟩ ?_
  refine g_istore_n rfl rfl rfl ?_
  refine g_iconst rfl ⟨by decide, by decide⟩ ?_
  refine g_istore rfl rfl rfl ?_
  refine g_iconst rfl ⟨by decide, by decide⟩ ?_
  refine g_istore rfl rfl rfl ?_
  refine g_iload rfl rfl ?_
  refine g_gets rfl ?_
  refine g_iload_n rfl rfl ?_
  refine x_sald (i0 := 4) (v := 0) rfl (by decide) (by decide) (by show _ < ((21 : Nat) : Int); decide) rfl ?_
  refine g_icmp_ge (tgt := 78) rfl (by decide) (fun _ => ?_) (fun hx => absurd hx (by omega))
  refine g_aload_n rfl rfl ?_
  refine g_cV (as := []) (s_adv9 hG hT hr1 (i := i1) (by omega) (by omega) (ht1.1.trans he1)) rfl rfl mX5_advance_ok rfl rfl rfl (by decide) rfl rfl rfl ?_
  rintro _ w2 ⟨rfl, ht2, hr2, hFx2⟩ _
  have hFw2 : rF μ w2 := rF_tr hFw1 hFx2
  have hzw2 : f1 = 0 → f = 0 := fun z => by omega
  have hmdw2 : f1 = 0 → w2.1 41 7 = m := fun z => by rw [hFw2.2.1 7 (by omega)]; exact (hcR (hzw2 z)).1
  have hctw2 : f1 = 0 → t_cont 0 D w2 := fun z => t_cont_F hFw2.1 (hcR (hzw2 z)).2
  have hkb1 := t_k_b T len i1
  refine g_aload_n rfl rfl ?_
  refine x_geti (v := (t_k T len i1)) rfl rfl (by decide) (Or.inl rfl) ht2.2.1 ?_
  refine g_iconst rfl ⟨by decide, by decide⟩ ?_
  refine g_icmp_eq (tgt := 92) rfl (by decide) (fun h1 => ?_) (fun h1 => ?_)
  · refine g_aload_n rfl rfl ?_
    refine x_geti (v := f1) rfl rfl (by decide) (Or.inl rfl) hr2.2.1.1 ?_
    refine g_if_ne (tgt := 107) rfl (by decide) (fun h2 => ?_) (fun h2 => ?_)
    · refine g_iconst rfl ⟨by decide, by decide⟩ ?_
      refine x_zreturn rfl rfl (Or.inr rfl) ?_
      rw [t_ln_w hwx (by decide), t_l0_0y rfl he1 (by omega), heq1]
      exact ⟨rfl, fun z => absurd (show (1 : Int) = 0 from z) (by decide), fun _ => ⟨ht2.1, ⟨hr2.2.1, hr2.2.2, fun z => absurd z (by show ¬ f1 = 0; omega)⟩⟩, o_F_r hFw2⟩
    · refine g_aload_n rfl rfl ?_
      refine g_iload_n rfl rfl ?_
      refine g_iload_n rfl rfl ?_
      refine g_iload rfl rfl ?_
      refine g_iV (as := [tI 5, tI 0, tI 0]) mX5_take_ok rfl rfl rfl rfl rfl rfl (by decide) rfl rfl rfl ?_
      refine g_iload_n rfl rfl ?_
      refine g_bipush rfl ⟨by decide, by decide⟩ (by decide) ?_
      refine g_icmp_ge (tgt := 35) rfl (by decide) (fun hx => absurd hx (by omega)) (fun _ => ?_)
      refine g_aload_n rfl rfl ?_
      refine x_getF (r := 42) hG rfl rfl (by decide) (Or.inl ⟨_, rfl⟩) rfl ?_
      refine g_iload_n rfl rfl ?_
      refine g_gets rfl ?_
      refine g_iload_n rfl rfl ?_
      refine x_sald (i0 := 4) (v := 0) rfl (by decide) (by decide) (by show _ < ((21 : Nat) : Int); decide) rfl ?_
      refine g_iconst rfl ⟨by decide, by decide⟩ ?_
      refine g_icmp_ne (tgt := 24) rfl (by decide) (fun _ => ?_) (fun hx => absurd hx (by omega))
      refine g_iconst rfl ⟨by decide, by decide⟩ ?_
      refine g_aload_n rfl rfl ?_
      refine x_geti (v := m) rfl rfl (by decide) (Or.inl rfl) (hmdw2 (by omega)) ?_
      refine g_iV (as := [tI 5, tI (-1), tI m]) mX0_add_ok rfl rfl rfl rfl rfl rfl (by decide) rfl rfl rfl ?_
      refine g_aload_n rfl rfl ?_
      refine x_geti (v := (D 0)) rfl rfl (by decide) (Or.inl rfl) (hctw2 (by omega)).1 ?_
      refine g_if_lt (tgt := 56) rfl (by decide) (fun hx => absurd hx (by omega)) (fun _ => ?_)
      refine g_aload_n rfl rfl ?_
      refine x_geti (v := (D 0)) rfl rfl (by decide) (Or.inl rfl) (hctw2 (by omega)).1 ?_
      refine g_bipush rfl ⟨by decide, by decide⟩ (by decide) ?_
      refine g_icmp_ge (tgt := 56) rfl (by decide) (fun hx => absurd hx (by omega)) (fun _ => ?_)
      refine g_aload_n rfl rfl ?_
      refine x_getF (r := 43) hG rfl rfl (by decide) (Or.inr ⟨_, rfl⟩) rfl ?_
      refine g_aload_n rfl rfl ?_
      refine x_geti (v := (D 0)) rfl rfl (by decide) (Or.inl rfl) (hctw2 (by omega)).1 ?_
      refine g_iload_n rfl rfl ?_
      refine g_iast rfl rfl (by decide) (by omega) (by omega) ?_
      refine g_aload_n rfl rfl ?_
      refine x_getF (r := 44) hG rfl rfl (by decide) (Or.inr ⟨_, rfl⟩) rfl ?_
      refine g_aload_n rfl rfl ?_
      refine x_geti (v := (D 0)) rfl rfl (by decide) (Or.inl rfl) (hctw2 (by omega)).1 ?_
      refine g_iload_n rfl rfl ?_
      refine g_iast rfl rfl (by decide) (by omega) (by omega) ?_
      refine g_aload_n rfl rfl ?_
      refine x_getF (r := 45) hG rfl rfl (by decide) (Or.inr ⟨_, rfl⟩) rfl ?_
      refine g_aload_n rfl rfl ?_
      refine x_geti (v := (D 0)) rfl rfl (by decide) (Or.inl rfl) (hctw2 (by omega)).1 ?_
      refine g_iload_n rfl rfl ?_
      refine g_iast rfl rfl (by decide) (by omega) (by omega) ?_
      refine g_aload_n rfl rfl ?_
      refine g_dupr rfl ?_
      refine x_geti (v := (D 0)) rfl rfl (by decide) (Or.inl rfl) (hctw2 (by omega)).1 ?_
      refine g_iconst rfl ⟨by decide, by decide⟩ ?_
      refine x_iadd (z := (D 0) + 1) rfl (by omega) ⟨by omega, by omega⟩ ?_
      refine g_puti rfl rfl (by decide) rfl rfl ?_
      refine x_return rfl rfl ?_
      intro _
      refine g_goto (tgt := 158) rfl (by decide) ?_
      refine x_return rfl rfl ?_
      intro _
      refine g_iconst rfl ⟨by decide, by decide⟩ ?_
      refine x_zreturn rfl rfl (Or.inr rfl) ?_
      rw [t_ln_w hwx (by decide), t_l0_0y rfl he1 (by omega), heq1]
      exact ⟨rfl, fun z => absurd (show (1 : Int) = 0 from z) (by decide), fun _ => ⟨ht2.1, ⟨⟨hr2.2.1.1, hr2.2.1.2.1, hr2.2.1.2.2⟩, hr2.2.2, fun _ => ⟨hmdw2 (by omega), by show t_cont 0 (t_D 5 (t_rw 5 0) 0 m D) _; rw [t_D_a (by decide) (by omega), show t_rw 5 0 = (-1) from rfl]; exact cont_a (hctw2 (by omega)) hD0.1 (by omega)⟩⟩⟩, (o_F_pi (by decide) (o_F_pi (by decide) (o_F_pi (by decide) (o_F_pi (by decide) (o_F_r hFw2)))))⟩
  · refine g_iconst rfl ⟨by decide, by decide⟩ ?_
    refine x_zreturn rfl rfl (Or.inl rfl) ?_
    rw [t_ln_w hwx (by decide), t_l0_0n rfl he1 (by omega)]
    exact ⟨rfl, fun _ => ht2.2.2.1, fun z => absurd (show (0 : Int) = 1 from z) (by decide), o_F_r hFw2⟩
set_option maxHeartbeats 4000000 in
set_option maxRecDepth 100000 in
theorem s_rl6 {G : tp_G} {μ : tp_M} (hG : tp_Gf G = true) {T : Int → Int} {len i f p it m ft : Int} {D : Int → Int} (hT : ∀ j, 0 ≤ T j ∧ T j ≤ 255) (h0 : 0 ≤ i) (h1 : i ≤ len) (hr : rs T len f p it μ) (ht : tk9 T len i μ) (hcR : f = 0 → μ.1 41 7 = m ∧ t_cont 0 D μ) (hit : 0 ≤ it ∧ it ≤ 600) (hD0 : 0 ≤ D 0 ∧ D 0 ≤ it) (hwx : t_wx 0 T len i = 6) (hmx : f = 0 → it ≤ 40) : tp_k G mX5_readLine [tR (some 41), tI 0] μ (fun r μ' => o_P 0 (t_ln 0 T len i (f, p, it, m, ft, D)) μ r μ') := by
  refine tp_ok_of mX5_readLine_ok rfl (Nat.le_refl _) ?_
  obtain ⟨i1, he1⟩ : ∃ x, t_e T len i = x := ⟨_, rfl⟩
  obtain ⟨i2, he2⟩ : ∃ x, t_e T len i1 = x := ⟨_, rfl⟩
  obtain ⟨i3, he3⟩ : ∃ x, t_e T len i2 = x := ⟨_, rfl⟩
  have hb0 := t_s_B (T := T) h1
  have hb1 := t_e_B (T := T) h1
  have hb2 := t_e_B (T := T) (len := len) (i := i1) (by omega)
  have hbs1 := t_s_B (T := T) (len := len) (i := i1) (by omega)
  have hb3 := t_e_B (T := T) (len := len) (i := i2) (by omega)
  have hbs2 := t_s_B (T := T) (len := len) (i := i2) (by omega)
  have hwO : tp_k G mX5_wordOf [tR (some 41), tI 0] μ (fun r μ' => r = some (tI 6) ∧ μ' = μ) := by
    have q := s_wO0 hG hT hr.1 ht.2.2.1 ht.1 ht.2.1 (fun z => (t_k_1 h0 h1 z).1) (fun z => (t_k_1 h0 h1 z).2.1)
    rw [t_wx_o, hwx] at q
    exact q
  refine g_aload_n rfl rfl ?_
  refine g_iload_n rfl rfl ?_
  refine g_cV (as := [tI 0]) (hwO) rfl rfl mX5_wordOf_ok rfl rfl rfl (by decide) rfl rfl rfl ?_
  rintro _ w9 ⟨rfl, hw9⟩ _
  have hw9 := hw9.symm
  subst hw9
  refine g_istore_n rfl rfl rfl ?_
  refine g_iload_n rfl rfl ?_
  refine g_iconst rfl ⟨by decide, by decide⟩ ?_
  refine g_icmp_ne (tgt := 13) rfl (by decide) (fun _ => ?_) (fun hx => absurd hx (by omega))
  refine g_aload_n rfl rfl ?_
  refine g_iload_n rfl rfl ?_
  refine g_iload_n rfl rfl ?_
  refine g_cV (as := [tI 0, tI 6]) (s_cI0a (m := m) (ft := ft) (D := D) hG hr ht hit (by omega)) rfl rfl mX5_countItem_ok rfl rfl rfl (by decide) rfl rfl rfl ?_
  rintro _ w1 ⟨rfl, f1, p1, heq1, hz1, hr1, ht1, hFx1⟩ _
  have hz1f : f1 = 0 → f = 0 ∧ it < 40 := fun z => ⟨(hz1 z).1, (hz1 z).2⟩
  have hFw1 : rF μ w1 := rF_tr rF_rf hFx1
  have hzw1 : f1 = 0 → f = 0 := fun z => by omega
  have hmdw1 : f1 = 0 → w1.1 41 7 = m := fun z => by rw [hFw1.2.1 7 (by omega)]; exact (hcR (hzw1 z)).1
  have hctw1 : f1 = 0 → t_cont 0 D w1 := fun z => t_cont_F hFw1.1 (hcR (hzw1 z)).2
  refine g_iconst rfl ⟨by decide, by decide⟩ ?_
  refine g_istore_n rfl rfl rfl ?_
  refine g_iconst rfl ⟨by decide, by decide⟩ ?_
  refine g_istore rfl rfl rfl ?_
  refine g_iconst rfl ⟨by decide, by decide⟩ ?_
  refine g_istore rfl rfl rfl ?_
  refine g_iload rfl rfl ?_
  refine g_gets rfl ?_
  refine g_iload_n rfl rfl ?_
  refine x_sald (i0 := 4) (v := 0) rfl (by decide) (by decide) (by show _ < ((21 : Nat) : Int); decide) rfl ?_
  refine g_icmp_ge (tgt := 78) rfl (by decide) (fun _ => ?_) (fun hx => absurd hx (by omega))
  refine g_aload_n rfl rfl ?_
  refine g_cV (as := []) (s_adv9 hG hT hr1 (i := i1) (by omega) (by omega) (ht1.1.trans he1)) rfl rfl mX5_advance_ok rfl rfl rfl (by decide) rfl rfl rfl ?_
  rintro _ w2 ⟨rfl, ht2, hr2, hFx2⟩ _
  have hFw2 : rF μ w2 := rF_tr hFw1 hFx2
  have hzw2 : f1 = 0 → f = 0 := fun z => by omega
  have hmdw2 : f1 = 0 → w2.1 41 7 = m := fun z => by rw [hFw2.2.1 7 (by omega)]; exact (hcR (hzw2 z)).1
  have hctw2 : f1 = 0 → t_cont 0 D w2 := fun z => t_cont_F hFw2.1 (hcR (hzw2 z)).2
  have hkb1 := t_k_b T len i1
  refine g_aload_n rfl rfl ?_
  refine x_geti (v := (t_k T len i1)) rfl rfl (by decide) (Or.inl rfl) ht2.2.1 ?_
  refine g_iconst rfl ⟨by decide, by decide⟩ ?_
  refine g_icmp_eq (tgt := 92) rfl (by decide) (fun h1 => ?_) (fun h1 => ?_)
  · refine g_aload_n rfl rfl ?_
    refine x_geti (v := f1) rfl rfl (by decide) (Or.inl rfl) hr2.2.1.1 ?_
    refine g_if_ne (tgt := 107) rfl (by decide) (fun h2 => ?_) (fun h2 => ?_)
    · refine g_iconst rfl ⟨by decide, by decide⟩ ?_
      refine x_zreturn rfl rfl (Or.inr rfl) ?_
      rw [t_ln_w hwx (by decide), t_l0_0y rfl he1 (by omega), heq1]
      exact ⟨rfl, fun z => absurd (show (1 : Int) = 0 from z) (by decide), fun _ => ⟨ht2.1, ⟨hr2.2.1, hr2.2.2, fun z => absurd z (by show ¬ f1 = 0; omega)⟩⟩, o_F_r hFw2⟩
    · refine g_aload_n rfl rfl ?_
      refine g_iload_n rfl rfl ?_
      refine g_iload_n rfl rfl ?_
      refine g_iload rfl rfl ?_
      refine g_iV (as := [tI 6, tI 0, tI 0]) mX5_take_ok rfl rfl rfl rfl rfl rfl (by decide) rfl rfl rfl ?_
      refine g_iload_n rfl rfl ?_
      refine g_bipush rfl ⟨by decide, by decide⟩ (by decide) ?_
      refine g_icmp_ge (tgt := 35) rfl (by decide) (fun hx => absurd hx (by omega)) (fun _ => ?_)
      refine g_aload_n rfl rfl ?_
      refine x_getF (r := 42) hG rfl rfl (by decide) (Or.inl ⟨_, rfl⟩) rfl ?_
      refine g_iload_n rfl rfl ?_
      refine g_gets rfl ?_
      refine g_iload_n rfl rfl ?_
      refine x_sald (i0 := 4) (v := 0) rfl (by decide) (by decide) (by show _ < ((21 : Nat) : Int); decide) rfl ?_
      refine g_iconst rfl ⟨by decide, by decide⟩ ?_
      refine g_icmp_ne (tgt := 24) rfl (by decide) (fun _ => ?_) (fun hx => absurd hx (by omega))
      refine g_iconst rfl ⟨by decide, by decide⟩ ?_
      refine g_aload_n rfl rfl ?_
      refine x_geti (v := m) rfl rfl (by decide) (Or.inl rfl) (hmdw2 (by omega)) ?_
      refine g_iV (as := [tI 6, tI (-1), tI m]) mX0_add_ok rfl rfl rfl rfl rfl rfl (by decide) rfl rfl rfl ?_
      refine g_aload_n rfl rfl ?_
      refine x_geti (v := (D 0)) rfl rfl (by decide) (Or.inl rfl) (hctw2 (by omega)).1 ?_
      refine g_if_lt (tgt := 56) rfl (by decide) (fun hx => absurd hx (by omega)) (fun _ => ?_)
      refine g_aload_n rfl rfl ?_
      refine x_geti (v := (D 0)) rfl rfl (by decide) (Or.inl rfl) (hctw2 (by omega)).1 ?_
      refine g_bipush rfl ⟨by decide, by decide⟩ (by decide) ?_
      refine g_icmp_ge (tgt := 56) rfl (by decide) (fun hx => absurd hx (by omega)) (fun _ => ?_)
      refine g_aload_n rfl rfl ?_
      refine x_getF (r := 43) hG rfl rfl (by decide) (Or.inr ⟨_, rfl⟩) rfl ?_
      refine g_aload_n rfl rfl ?_
      refine x_geti (v := (D 0)) rfl rfl (by decide) (Or.inl rfl) (hctw2 (by omega)).1 ?_
      refine g_iload_n rfl rfl ?_
      refine g_iast rfl rfl (by decide) (by omega) (by omega) ?_
      refine g_aload_n rfl rfl ?_
      refine x_getF (r := 44) hG rfl rfl (by decide) (Or.inr ⟨_, rfl⟩) rfl ?_
      refine g_aload_n rfl rfl ?_
      refine x_geti (v := (D 0)) rfl rfl (by decide) (Or.inl rfl) (hctw2 (by omega)).1 ?_
      refine g_iload_n rfl rfl ?_
      refine g_iast rfl rfl (by decide) (by omega) (by omega) ?_
      refine g_aload_n rfl rfl ?_
      refine x_getF (r := 45) hG rfl rfl (by decide) (Or.inr ⟨_, rfl⟩) rfl ?_
      refine g_aload_n rfl rfl ?_
      refine x_geti (v := (D 0)) rfl rfl (by decide) (Or.inl rfl) (hctw2 (by omega)).1 ?_
      refine g_iload_n rfl rfl ?_
      refine g_iast rfl rfl (by decide) (by omega) (by omega) ?_
      refine g_aload_n rfl rfl ?_
      refine g_dupr rfl ?_
      refine x_geti (v := (D 0)) rfl rfl (by decide) (Or.inl rfl) (hctw2 (by omega)).1 ?_
      refine g_iconst rfl ⟨by decide, by decide⟩ ?_
      refine x_iadd (z := (D 0) + 1) rfl (by omega) ⟨by omega, by omega⟩ ?_
      refine g_puti rfl rfl (by decide) rfl rfl ?_
      refine x_return rfl rfl ?_
      intro _
      refine g_goto (tgt := 158) rfl (by decide) ?_
      refine x_return rfl rfl ?_
      intro _
      refine g_iconst rfl ⟨by decide, by decide⟩ ?_
      refine x_zreturn rfl rfl (Or.inr rfl) ?_
      rw [t_ln_w hwx (by decide), t_l0_0y rfl he1 (by omega), heq1]
      exact ⟨rfl, fun z => absurd (show (1 : Int) = 0 from z) (by decide), fun _ => ⟨ht2.1, ⟨⟨hr2.2.1.1, hr2.2.1.2.1, hr2.2.1.2.2⟩, hr2.2.2, fun _ => ⟨hmdw2 (by omega), by show t_cont 0 (t_D 6 (t_rw 6 0) 0 m D) _; rw [t_D_a (by decide) (by omega), show t_rw 6 0 = (-1) from rfl]; exact cont_a (hctw2 (by omega)) hD0.1 (by omega)⟩⟩⟩, (o_F_pi (by decide) (o_F_pi (by decide) (o_F_pi (by decide) (o_F_pi (by decide) (o_F_r hFw2)))))⟩
  · refine g_iconst rfl ⟨by decide, by decide⟩ ?_
    refine x_zreturn rfl rfl (Or.inl rfl) ?_
    rw [t_ln_w hwx (by decide), t_l0_0n rfl he1 (by omega)]
    exact ⟨rfl, fun _ => ht2.2.2.1, fun z => absurd (show (0 : Int) = 1 from z) (by decide), o_F_r hFw2⟩
set_option maxHeartbeats 4000000 in
set_option maxRecDepth 100000 in
theorem s_rl7 {G : tp_G} {μ : tp_M} (hG : tp_Gf G = true) {T : Int → Int} {len i f p it m ft : Int} {D : Int → Int} (hT : ∀ j, 0 ≤ T j ∧ T j ≤ 255) (h0 : 0 ≤ i) (h1 : i ≤ len) (hr : rs T len f p it μ) (ht : tk9 T len i μ) (hcR : f = 0 → μ.1 41 7 = m ∧ t_cont 0 D μ) (hit : 0 ≤ it ∧ it ≤ 600) (hD0 : 0 ≤ D 0 ∧ D 0 ≤ it) (hwx : t_wx 0 T len i = 7) (hmx : f = 0 → it ≤ 40) : tp_k G mX5_readLine [tR (some 41), tI 0] μ (fun r μ' => o_P 0 (t_ln 0 T len i (f, p, it, m, ft, D)) μ r μ') := by
  refine tp_ok_of mX5_readLine_ok rfl (Nat.le_refl _) ?_
  obtain ⟨i1, he1⟩ : ∃ x, t_e T len i = x := ⟨_, rfl⟩
  obtain ⟨i2, he2⟩ : ∃ x, t_e T len i1 = x := ⟨_, rfl⟩
  obtain ⟨i3, he3⟩ : ∃ x, t_e T len i2 = x := ⟨_, rfl⟩
  have hb0 := t_s_B (T := T) h1
  have hb1 := t_e_B (T := T) h1
  have hb2 := t_e_B (T := T) (len := len) (i := i1) (by omega)
  have hbs1 := t_s_B (T := T) (len := len) (i := i1) (by omega)
  have hb3 := t_e_B (T := T) (len := len) (i := i2) (by omega)
  have hbs2 := t_s_B (T := T) (len := len) (i := i2) (by omega)
  have hwO : tp_k G mX5_wordOf [tR (some 41), tI 0] μ (fun r μ' => r = some (tI 7) ∧ μ' = μ) := by
    have q := s_wO0 hG hT hr.1 ht.2.2.1 ht.1 ht.2.1 (fun z => (t_k_1 h0 h1 z).1) (fun z => (t_k_1 h0 h1 z).2.1)
    rw [t_wx_o, hwx] at q
    exact q
  refine g_aload_n rfl rfl ?_
  refine g_iload_n rfl rfl ?_
  refine g_cV (as := [tI 0]) (hwO) rfl rfl mX5_wordOf_ok rfl rfl rfl (by decide) rfl rfl rfl ?_
  rintro _ w9 ⟨rfl, hw9⟩ _
  have hw9 := hw9.symm
  subst hw9
  refine g_istore_n rfl rfl rfl ?_
  refine g_iload_n rfl rfl ?_
  refine g_iconst rfl ⟨by decide, by decide⟩ ?_
  refine g_icmp_ne (tgt := 13) rfl (by decide) (fun _ => ?_) (fun hx => absurd hx (by omega))
  refine g_aload_n rfl rfl ?_
  refine g_iload_n rfl rfl ?_
  refine g_iload_n rfl rfl ?_
  refine g_iV (as := [tI 0, tI 7]) mX5_countItem_ok rfl rfl rfl rfl rfl rfl (by decide) rfl rfl rfl ?_
  refine g_iload_n rfl rfl ?_
  refine g_bipush rfl ⟨by decide, by decide⟩ (by decide) ?_
  refine g_icmp_lt (tgt := 13) rfl (by decide) (fun hx => absurd hx (by omega)) (fun _ => ?_)
  refine g_iload_n rfl rfl ?_
  refine g_bipush rfl ⟨by decide, by decide⟩ (by decide) ?_
  refine g_icmp_ge (tgt := 13) rfl (by decide) (fun hx => absurd hx (by omega)) (fun _ => ?_)
  refine x_return rfl rfl ?_
  intro _
  refine g_iconst rfl ⟨by decide, by decide⟩ ?_
  refine g_istore_n rfl rfl rfl ?_
  refine g_iconst rfl ⟨by decide, by decide⟩ ?_
  refine g_istore rfl rfl rfl ?_
  refine g_iconst rfl ⟨by decide, by decide⟩ ?_
  refine g_istore rfl rfl rfl ?_
  refine g_iload rfl rfl ?_
  refine g_gets rfl ?_
  refine g_iload_n rfl rfl ?_
  refine x_sald (i0 := 4) (v := 1) rfl (by decide) (by decide) (by show _ < ((21 : Nat) : Int); decide) rfl ?_
  refine g_icmp_ge (tgt := 78) rfl (by decide) (fun hx => absurd hx (by omega)) (fun _ => ?_)
  refine g_aload_n rfl rfl ?_
  refine g_cV (as := []) (s_adv9 hG hT hr (i := i1) (by omega) (by omega) (ht.1.trans he1)) rfl rfl mX5_advance_ok rfl rfl rfl (by decide) rfl rfl rfl ?_
  rintro _ w1 ⟨rfl, ht1, hr1, hFx1⟩ _
  have hFw1 : rF μ w1 := rF_tr rF_rf hFx1
  have hzw1 : f = 0 → f = 0 := fun z => by omega
  have hmdw1 : f = 0 → w1.1 41 7 = m := fun z => by rw [hFw1.2.1 7 (by omega)]; exact (hcR (hzw1 z)).1
  have hctw1 : f = 0 → t_cont 0 D w1 := fun z => t_cont_F hFw1.1 (hcR (hzw1 z)).2
  have hkb1 := t_k_b T len i1
  refine g_aload_n rfl rfl ?_
  refine x_geti (v := (t_k T len i1)) rfl rfl (by decide) (Or.inl rfl) ht1.2.1 ?_
  refine g_iconst rfl ⟨by decide, by decide⟩ ?_
  refine g_icmp_eq (tgt := 51) rfl (by decide) (fun h1 => ?_) (fun h1 => ?_)
  · refine g_iload rfl rfl ?_
    refine g_if_ne (tgt := 66) rfl (by decide) (fun hx => absurd hx (by omega)) (fun _ => ?_)
    refine g_aload_n rfl rfl ?_
    refine x_geti (v := (t_v T len i1)) rfl rfl (by decide) (Or.inl rfl) (ht1.2.2.2 (by omega)) ?_
    refine g_istore_n rfl rfl rfl ?_
    refine g_aload_n rfl rfl ?_
    refine g_iload_n rfl rfl ?_
    refine g_cV (as := [tI 7]) (s_cN7 (R := (m, ft, D)) hG hr1 ht1 (by omega)) rfl rfl mX5_checkNumber_ok rfl rfl rfl (by decide) rfl rfl rfl ?_
    rintro _ w2 ⟨rfl, f2, p2, heq2, hz2, hr2, ht2, hFx2⟩ _
    have hz2f : f2 = 0 → f = 0 ∧ 0 ≤ t_v T len i1 ∧ t_v T len i1 ≤ 1 := fun z => ⟨(hz2 z).1, (hz2 z).2.1, (hz2 z).2.2⟩
    have hFw2 : rF μ w2 := rF_tr hFw1 hFx2
    have hzw2 : f2 = 0 → f = 0 := fun z => by omega
    have hmdw2 : f2 = 0 → w2.1 41 7 = m := fun z => by rw [hFw2.2.1 7 (by omega)]; exact (hcR (hzw2 z)).1
    have hctw2 : f2 = 0 → t_cont 0 D w2 := fun z => t_cont_F hFw2.1 (hcR (hzw2 z)).2
    refine g_aload_n rfl rfl ?_
    refine x_geti (v := (t_v T len i1)) rfl rfl (by decide) (Or.inl rfl) (ht2.2.2.2 (by omega)) ?_
    refine g_istore rfl rfl rfl ?_
    refine x_iinc (z := 1) rfl rfl (by omega) ⟨by omega, by omega⟩ rfl rfl ?_
    refine g_goto (tgt := 27) rfl (by decide) ?_
    refine g_iload rfl rfl ?_
    refine g_gets rfl ?_
    refine g_iload_n rfl rfl ?_
    refine x_sald (i0 := 4) (v := 1) rfl (by decide) (by decide) (by show _ < ((21 : Nat) : Int); decide) rfl ?_
    refine g_icmp_ge (tgt := 78) rfl (by decide) (fun _ => ?_) (fun hx => absurd hx (by omega))
    refine g_aload_n rfl rfl ?_
    refine g_cV (as := []) (s_adv9 hG hT hr2 (i := i2) (by omega) (by omega) (ht2.1.trans he2)) rfl rfl mX5_advance_ok rfl rfl rfl (by decide) rfl rfl rfl ?_
    rintro _ w3 ⟨rfl, ht3, hr3, hFx3⟩ _
    have hFw3 : rF μ w3 := rF_tr hFw2 hFx3
    have hzw3 : f2 = 0 → f = 0 := fun z => by omega
    have hmdw3 : f2 = 0 → w3.1 41 7 = m := fun z => by rw [hFw3.2.1 7 (by omega)]; exact (hcR (hzw3 z)).1
    have hctw3 : f2 = 0 → t_cont 0 D w3 := fun z => t_cont_F hFw3.1 (hcR (hzw3 z)).2
    have hkb2 := t_k_b T len i2
    refine g_aload_n rfl rfl ?_
    refine x_geti (v := (t_k T len i2)) rfl rfl (by decide) (Or.inl rfl) ht3.2.1 ?_
    refine g_iconst rfl ⟨by decide, by decide⟩ ?_
    refine g_icmp_eq (tgt := 92) rfl (by decide) (fun h2 => ?_) (fun h2 => ?_)
    · refine g_aload_n rfl rfl ?_
      refine x_geti (v := f2) rfl rfl (by decide) (Or.inl rfl) hr3.2.1.1 ?_
      refine g_if_ne (tgt := 107) rfl (by decide) (fun h3 => ?_) (fun h3 => ?_)
      · refine g_iconst rfl ⟨by decide, by decide⟩ ?_
        refine x_zreturn rfl rfl (Or.inr rfl) ?_
        rw [t_ln_w hwx (by decide), t_l0_1y rfl he1 he2 (by omega) (by omega), t_cnt_c (by decide), heq2]
        exact ⟨rfl, fun z => absurd (show (1 : Int) = 0 from z) (by decide), fun _ => ⟨ht3.1, ⟨hr3.2.1, hr3.2.2, fun z => absurd z (by show ¬ f2 = 0; omega)⟩⟩, o_F_r hFw3⟩
      · refine g_aload_n rfl rfl ?_
        refine g_iload_n rfl rfl ?_
        refine g_iload_n rfl rfl ?_
        refine g_iload rfl rfl ?_
        refine g_iV (as := [tI 7, tI (t_v T len i1), tI (t_v T len i1)]) mX5_take_ok rfl rfl rfl rfl rfl rfl (by decide) rfl rfl rfl ?_
        refine g_iload_n rfl rfl ?_
        refine g_bipush rfl ⟨by decide, by decide⟩ (by decide) ?_
        refine g_icmp_ge (tgt := 35) rfl (by decide) (fun _ => ?_) (fun hx => absurd hx (by omega))
        refine g_iload_n rfl rfl ?_
        refine g_bipush rfl ⟨by decide, by decide⟩ (by decide) ?_
        refine g_icmp_ne (tgt := 49) rfl (by decide) (fun hx => absurd hx (by omega)) (fun _ => ?_)
        refine g_aload_n rfl rfl ?_
        refine g_iload_n rfl rfl ?_
        refine g_puti rfl rfl (by decide) rfl rfl ?_
        refine g_goto (tgt := 158) rfl (by decide) ?_
        refine x_return rfl rfl ?_
        intro _
        refine g_iconst rfl ⟨by decide, by decide⟩ ?_
        refine x_zreturn rfl rfl (Or.inr rfl) ?_
        rw [t_ln_w hwx (by decide), t_l0_1y rfl he1 he2 (by omega) (by omega), t_cnt_c (by decide), heq2]
        exact ⟨rfl, fun z => absurd (show (1 : Int) = 0 from z) (by decide), fun _ => ⟨ht3.1, ⟨⟨hr3.2.1.1, hr3.2.1.2.1, hr3.2.1.2.2⟩, hr3.2.2, fun _ => ⟨(show t_v T len i1 = t_rw 7 (t_v T len i1) from (t_cl_i (by show (0 : Int) ≤ _ ∧ _ ≤ (1 : Int); omega)).symm), t_cont_F (fun c9 z => tp_pi_ne z) (hctw3 (by omega))⟩⟩⟩, (o_F_pm (o_F_r hFw3))⟩
    · refine g_iconst rfl ⟨by decide, by decide⟩ ?_
      refine x_zreturn rfl rfl (Or.inl rfl) ?_
      rw [t_ln_w hwx (by decide), t_l0_1n rfl he1 he2 (by omega) (by omega)]
      exact ⟨rfl, fun _ => ht3.2.2.1, fun z => absurd (show (0 : Int) = 1 from z) (by decide), o_F_r hFw3⟩
  · refine g_iconst rfl ⟨by decide, by decide⟩ ?_
    refine x_zreturn rfl rfl (Or.inl rfl) ?_
    rw [t_ln_w hwx (by decide), t_l0_1a (by decide) he1 (by omega)]
    exact ⟨rfl, fun _ => ht1.2.2.1, fun z => absurd (show (0 : Int) = 1 from z) (by decide), o_F_r hFw1⟩
set_option maxHeartbeats 4000000 in
set_option maxRecDepth 100000 in
theorem s_rl8 {G : tp_G} {μ : tp_M} (hG : tp_Gf G = true) {T : Int → Int} {len i f p it m ft : Int} {D : Int → Int} (hT : ∀ j, 0 ≤ T j ∧ T j ≤ 255) (h0 : 0 ≤ i) (h1 : i ≤ len) (hr : rs T len f p it μ) (ht : tk9 T len i μ) (hcR : f = 0 → μ.1 41 7 = m ∧ t_cont 0 D μ) (hit : 0 ≤ it ∧ it ≤ 600) (hD0 : 0 ≤ D 0 ∧ D 0 ≤ it) (hwx : t_wx 0 T len i = 8) (hmx : f = 0 → it ≤ 40) : tp_k G mX5_readLine [tR (some 41), tI 0] μ (fun r μ' => o_P 0 (t_ln 0 T len i (f, p, it, m, ft, D)) μ r μ') := by
  refine tp_ok_of mX5_readLine_ok rfl (Nat.le_refl _) ?_
  obtain ⟨i1, he1⟩ : ∃ x, t_e T len i = x := ⟨_, rfl⟩
  obtain ⟨i2, he2⟩ : ∃ x, t_e T len i1 = x := ⟨_, rfl⟩
  obtain ⟨i3, he3⟩ : ∃ x, t_e T len i2 = x := ⟨_, rfl⟩
  have hb0 := t_s_B (T := T) h1
  have hb1 := t_e_B (T := T) h1
  have hb2 := t_e_B (T := T) (len := len) (i := i1) (by omega)
  have hbs1 := t_s_B (T := T) (len := len) (i := i1) (by omega)
  have hb3 := t_e_B (T := T) (len := len) (i := i2) (by omega)
  have hbs2 := t_s_B (T := T) (len := len) (i := i2) (by omega)
  have hwO : tp_k G mX5_wordOf [tR (some 41), tI 0] μ (fun r μ' => r = some (tI 8) ∧ μ' = μ) := by
    have q := s_wO0 hG hT hr.1 ht.2.2.1 ht.1 ht.2.1 (fun z => (t_k_1 h0 h1 z).1) (fun z => (t_k_1 h0 h1 z).2.1)
    rw [t_wx_o, hwx] at q
    exact q
  refine g_aload_n rfl rfl ?_
  refine g_iload_n rfl rfl ?_
  refine g_cV (as := [tI 0]) (hwO) rfl rfl mX5_wordOf_ok rfl rfl rfl (by decide) rfl rfl rfl ?_
  rintro _ w9 ⟨rfl, hw9⟩ _
  have hw9 := hw9.symm
  subst hw9
  refine g_istore_n rfl rfl rfl ?_
  refine g_iload_n rfl rfl ?_
  refine g_iconst rfl ⟨by decide, by decide⟩ ?_
  refine g_icmp_ne (tgt := 13) rfl (by decide) (fun _ => ?_) (fun hx => absurd hx (by omega))
  refine g_aload_n rfl rfl ?_
  refine g_iload_n rfl rfl ?_
  refine g_iload_n rfl rfl ?_
  refine g_iV (as := [tI 0, tI 8]) mX5_countItem_ok rfl rfl rfl rfl rfl rfl (by decide) rfl rfl rfl ?_
  refine g_iload_n rfl rfl ?_
  refine g_bipush rfl ⟨by decide, by decide⟩ (by decide) ?_
  refine g_icmp_lt (tgt := 13) rfl (by decide) (fun hx => absurd hx (by omega)) (fun _ => ?_)
  refine g_iload_n rfl rfl ?_
  refine g_bipush rfl ⟨by decide, by decide⟩ (by decide) ?_
  refine g_icmp_ge (tgt := 13) rfl (by decide) (fun hx => absurd hx (by omega)) (fun _ => ?_)
  refine x_return rfl rfl ?_
  intro _
  refine g_iconst rfl ⟨by decide, by decide⟩ ?_
  refine g_istore_n rfl rfl rfl ?_
  refine g_iconst rfl ⟨by decide, by decide⟩ ?_
  refine g_istore rfl rfl rfl ?_
  refine g_iconst rfl ⟨by decide, by decide⟩ ?_
  refine g_istore rfl rfl rfl ?_
  refine g_iload rfl rfl ?_
  refine g_gets rfl ?_
  refine g_iload_n rfl rfl ?_
  refine x_sald (i0 := 4) (v := 1) rfl (by decide) (by decide) (by show _ < ((21 : Nat) : Int); decide) rfl ?_
  refine g_icmp_ge (tgt := 78) rfl (by decide) (fun hx => absurd hx (by omega)) (fun _ => ?_)
  refine g_aload_n rfl rfl ?_
  refine g_cV (as := []) (s_adv9 hG hT hr (i := i1) (by omega) (by omega) (ht.1.trans he1)) rfl rfl mX5_advance_ok rfl rfl rfl (by decide) rfl rfl rfl ?_
  rintro _ w1 ⟨rfl, ht1, hr1, hFx1⟩ _
  have hFw1 : rF μ w1 := rF_tr rF_rf hFx1
  have hzw1 : f = 0 → f = 0 := fun z => by omega
  have hmdw1 : f = 0 → w1.1 41 7 = m := fun z => by rw [hFw1.2.1 7 (by omega)]; exact (hcR (hzw1 z)).1
  have hctw1 : f = 0 → t_cont 0 D w1 := fun z => t_cont_F hFw1.1 (hcR (hzw1 z)).2
  have hkb1 := t_k_b T len i1
  refine g_aload_n rfl rfl ?_
  refine x_geti (v := (t_k T len i1)) rfl rfl (by decide) (Or.inl rfl) ht1.2.1 ?_
  refine g_iconst rfl ⟨by decide, by decide⟩ ?_
  refine g_icmp_eq (tgt := 51) rfl (by decide) (fun h1 => ?_) (fun h1 => ?_)
  · refine g_iload rfl rfl ?_
    refine g_if_ne (tgt := 66) rfl (by decide) (fun hx => absurd hx (by omega)) (fun _ => ?_)
    refine g_aload_n rfl rfl ?_
    refine x_geti (v := (t_v T len i1)) rfl rfl (by decide) (Or.inl rfl) (ht1.2.2.2 (by omega)) ?_
    refine g_istore_n rfl rfl rfl ?_
    refine g_aload_n rfl rfl ?_
    refine g_iload_n rfl rfl ?_
    refine g_cV (as := [tI 8]) (s_cN8 (R := (m, ft, D)) hG hr1 ht1 (by omega)) rfl rfl mX5_checkNumber_ok rfl rfl rfl (by decide) rfl rfl rfl ?_
    rintro _ w2 ⟨rfl, f2, p2, heq2, hz2, hr2, ht2, hFx2⟩ _
    have hz2f : f2 = 0 → f = 0 ∧ 1 ≤ t_v T len i1 ∧ t_v T len i1 ≤ 9 := fun z => ⟨(hz2 z).1, (hz2 z).2.1, (hz2 z).2.2⟩
    have hFw2 : rF μ w2 := rF_tr hFw1 hFx2
    have hzw2 : f2 = 0 → f = 0 := fun z => by omega
    have hmdw2 : f2 = 0 → w2.1 41 7 = m := fun z => by rw [hFw2.2.1 7 (by omega)]; exact (hcR (hzw2 z)).1
    have hctw2 : f2 = 0 → t_cont 0 D w2 := fun z => t_cont_F hFw2.1 (hcR (hzw2 z)).2
    refine g_aload_n rfl rfl ?_
    refine x_geti (v := (t_v T len i1)) rfl rfl (by decide) (Or.inl rfl) (ht2.2.2.2 (by omega)) ?_
    refine g_istore rfl rfl rfl ?_
    refine x_iinc (z := 1) rfl rfl (by omega) ⟨by omega, by omega⟩ rfl rfl ?_
    refine g_goto (tgt := 27) rfl (by decide) ?_
    refine g_iload rfl rfl ?_
    refine g_gets rfl ?_
    refine g_iload_n rfl rfl ?_
    refine x_sald (i0 := 4) (v := 1) rfl (by decide) (by decide) (by show _ < ((21 : Nat) : Int); decide) rfl ?_
    refine g_icmp_ge (tgt := 78) rfl (by decide) (fun _ => ?_) (fun hx => absurd hx (by omega))
    refine g_aload_n rfl rfl ?_
    refine g_cV (as := []) (s_adv9 hG hT hr2 (i := i2) (by omega) (by omega) (ht2.1.trans he2)) rfl rfl mX5_advance_ok rfl rfl rfl (by decide) rfl rfl rfl ?_
    rintro _ w3 ⟨rfl, ht3, hr3, hFx3⟩ _
    have hFw3 : rF μ w3 := rF_tr hFw2 hFx3
    have hzw3 : f2 = 0 → f = 0 := fun z => by omega
    have hmdw3 : f2 = 0 → w3.1 41 7 = m := fun z => by rw [hFw3.2.1 7 (by omega)]; exact (hcR (hzw3 z)).1
    have hctw3 : f2 = 0 → t_cont 0 D w3 := fun z => t_cont_F hFw3.1 (hcR (hzw3 z)).2
    have hkb2 := t_k_b T len i2
    refine g_aload_n rfl rfl ?_
    refine x_geti (v := (t_k T len i2)) rfl rfl (by decide) (Or.inl rfl) ht3.2.1 ?_
    refine g_iconst rfl ⟨by decide, by decide⟩ ?_
    refine g_icmp_eq (tgt := 92) rfl (by decide) (fun h2 => ?_) (fun h2 => ?_)
    · refine g_aload_n rfl rfl ?_
      refine x_geti (v := f2) rfl rfl (by decide) (Or.inl rfl) hr3.2.1.1 ?_
      refine g_if_ne (tgt := 107) rfl (by decide) (fun h3 => ?_) (fun h3 => ?_)
      · refine g_iconst rfl ⟨by decide, by decide⟩ ?_
        refine x_zreturn rfl rfl (Or.inr rfl) ?_
        rw [t_ln_w hwx (by decide), t_l0_1y rfl he1 he2 (by omega) (by omega), t_cnt_c (by decide), heq2]
        exact ⟨rfl, fun z => absurd (show (1 : Int) = 0 from z) (by decide), fun _ => ⟨ht3.1, ⟨hr3.2.1, hr3.2.2, fun z => absurd z (by show ¬ f2 = 0; omega)⟩⟩, o_F_r hFw3⟩
      · refine g_aload_n rfl rfl ?_
        refine g_iload_n rfl rfl ?_
        refine g_iload_n rfl rfl ?_
        refine g_iload rfl rfl ?_
        refine g_iV (as := [tI 8, tI (t_v T len i1), tI (t_v T len i1)]) mX5_take_ok rfl rfl rfl rfl rfl rfl (by decide) rfl rfl rfl ?_
        refine g_iload_n rfl rfl ?_
        refine g_bipush rfl ⟨by decide, by decide⟩ (by decide) ?_
        refine g_icmp_ge (tgt := 35) rfl (by decide) (fun _ => ?_) (fun hx => absurd hx (by omega))
        refine g_iload_n rfl rfl ?_
        refine g_bipush rfl ⟨by decide, by decide⟩ (by decide) ?_
        refine g_icmp_ne (tgt := 49) rfl (by decide) (fun _ => ?_) (fun hx => absurd hx (by omega))
        refine g_iload_n rfl rfl ?_
        refine g_bipush rfl ⟨by decide, by decide⟩ (by decide) ?_
        refine g_icmp_ge (tgt := 70) rfl (by decide) (fun hx => absurd hx (by omega)) (fun _ => ?_)
        refine g_aload_n rfl rfl ?_
        refine x_getF (r := 42) hG rfl rfl (by decide) (Or.inl ⟨_, rfl⟩) rfl ?_
        refine g_iload_n rfl rfl ?_
        refine g_bipush rfl ⟨by decide, by decide⟩ (by decide) ?_
        refine x_isub (z := 0) rfl (by omega) ⟨by omega, by omega⟩ ?_
        refine g_iload_n rfl rfl ?_
        refine g_iV (as := [tI 0, tI (t_v T len i1)]) mX0_setRule_ok rfl rfl rfl rfl rfl rfl (by decide) rfl rfl rfl ?_
        refine g_iload_n rfl rfl ?_
        refine g_if_lt (tgt := 17) rfl (by decide) (fun hx => absurd hx (by omega)) (fun _ => ?_)
        refine g_iload_n rfl rfl ?_
        refine g_bipush rfl ⟨by decide, by decide⟩ (by decide) ?_
        refine g_icmp_ge (tgt := 17) rfl (by decide) (fun hx => absurd hx (by omega)) (fun _ => ?_)
        refine g_aload_n rfl rfl ?_
        refine x_getF (r := 46) hG rfl rfl (by decide) (Or.inr ⟨_, rfl⟩) rfl ?_
        refine g_iload_n rfl rfl ?_
        refine g_iload_n rfl rfl ?_
        refine g_iast rfl rfl (by decide) (by decide) (by decide) ?_
        refine x_return rfl rfl ?_
        intro _
        refine g_goto (tgt := 158) rfl (by decide) ?_
        refine x_return rfl rfl ?_
        intro _
        refine g_iconst rfl ⟨by decide, by decide⟩ ?_
        refine x_zreturn rfl rfl (Or.inr rfl) ?_
        rw [t_ln_w hwx (by decide), t_l0_1y rfl he1 he2 (by omega) (by omega), t_cnt_c (by decide), heq2]
        exact ⟨rfl, fun z => absurd (show (1 : Int) = 0 from z) (by decide), fun _ => ⟨ht3.1, ⟨⟨hr3.2.1.1, hr3.2.1.2.1, hr3.2.1.2.2⟩, hr3.2.2, fun _ => ⟨hmdw3 (by omega), by show t_cont 0 (t_D 8 (t_rw 8 (t_v T len i1)) 0 m D) _; rw [t_D_r (by decide), show t_rw 8 (t_v T len i1) = (t_v T len i1) from t_cl_i (by show (1 : Int) ≤ _ ∧ _ ≤ (9 : Int); omega)]; exact cont_r (r := 1) (hctw3 (by omega)) (by decide)⟩⟩⟩, (o_F_pi (by decide) (o_F_r hFw3))⟩
    · refine g_iconst rfl ⟨by decide, by decide⟩ ?_
      refine x_zreturn rfl rfl (Or.inl rfl) ?_
      rw [t_ln_w hwx (by decide), t_l0_1n rfl he1 he2 (by omega) (by omega)]
      exact ⟨rfl, fun _ => ht3.2.2.1, fun z => absurd (show (0 : Int) = 1 from z) (by decide), o_F_r hFw3⟩
  · refine g_iconst rfl ⟨by decide, by decide⟩ ?_
    refine x_zreturn rfl rfl (Or.inl rfl) ?_
    rw [t_ln_w hwx (by decide), t_l0_1a (by decide) he1 (by omega)]
    exact ⟨rfl, fun _ => ht1.2.2.1, fun z => absurd (show (0 : Int) = 1 from z) (by decide), o_F_r hFw1⟩
set_option maxHeartbeats 4000000 in
set_option maxRecDepth 100000 in
theorem s_rl9 {G : tp_G} {μ : tp_M} (hG : tp_Gf G = true) {T : Int → Int} {len i f p it m ft : Int} {D : Int → Int} (hT : ∀ j, 0 ≤ T j ∧ T j ≤ 255) (h0 : 0 ≤ i) (h1 : i ≤ len) (hr : rs T len f p it μ) (ht : tk9 T len i μ) (hcR : f = 0 → μ.1 41 7 = m ∧ t_cont 0 D μ) (hit : 0 ≤ it ∧ it ≤ 600) (hD0 : 0 ≤ D 0 ∧ D 0 ≤ it) (hwx : t_wx 0 T len i = 9) (hmx : f = 0 → it ≤ 40) : tp_k G mX5_readLine [tR (some 41), tI 0] μ (fun r μ' => o_P 0 (t_ln 0 T len i (f, p, it, m, ft, D)) μ r μ') := by
  refine tp_ok_of mX5_readLine_ok rfl (Nat.le_refl _) ?_
  obtain ⟨i1, he1⟩ : ∃ x, t_e T len i = x := ⟨_, rfl⟩
  obtain ⟨i2, he2⟩ : ∃ x, t_e T len i1 = x := ⟨_, rfl⟩
  obtain ⟨i3, he3⟩ : ∃ x, t_e T len i2 = x := ⟨_, rfl⟩
  have hb0 := t_s_B (T := T) h1
  have hb1 := t_e_B (T := T) h1
  have hb2 := t_e_B (T := T) (len := len) (i := i1) (by omega)
  have hbs1 := t_s_B (T := T) (len := len) (i := i1) (by omega)
  have hb3 := t_e_B (T := T) (len := len) (i := i2) (by omega)
  have hbs2 := t_s_B (T := T) (len := len) (i := i2) (by omega)
  have hwO : tp_k G mX5_wordOf [tR (some 41), tI 0] μ (fun r μ' => r = some (tI 9) ∧ μ' = μ) := by
    have q := s_wO0 hG hT hr.1 ht.2.2.1 ht.1 ht.2.1 (fun z => (t_k_1 h0 h1 z).1) (fun z => (t_k_1 h0 h1 z).2.1)
    rw [t_wx_o, hwx] at q
    exact q
  refine g_aload_n rfl rfl ?_
  refine g_iload_n rfl rfl ?_
  refine g_cV (as := [tI 0]) (hwO) rfl rfl mX5_wordOf_ok rfl rfl rfl (by decide) rfl rfl rfl ?_
  rintro _ w9 ⟨rfl, hw9⟩ _
  have hw9 := hw9.symm
  subst hw9
  refine g_istore_n rfl rfl rfl ?_
  refine g_iload_n rfl rfl ?_
  refine g_iconst rfl ⟨by decide, by decide⟩ ?_
  refine g_icmp_ne (tgt := 13) rfl (by decide) (fun _ => ?_) (fun hx => absurd hx (by omega))
  refine g_aload_n rfl rfl ?_
  refine g_iload_n rfl rfl ?_
  refine g_iload_n rfl rfl ?_
  refine g_iV (as := [tI 0, tI 9]) mX5_countItem_ok rfl rfl rfl rfl rfl rfl (by decide) rfl rfl rfl ?_
  refine g_iload_n rfl rfl ?_
  refine g_bipush rfl ⟨by decide, by decide⟩ (by decide) ?_
  refine g_icmp_lt (tgt := 13) rfl (by decide) (fun hx => absurd hx (by omega)) (fun _ => ?_)
  refine g_iload_n rfl rfl ?_
  refine g_bipush rfl ⟨by decide, by decide⟩ (by decide) ?_
  refine g_icmp_ge (tgt := 13) rfl (by decide) (fun hx => absurd hx (by omega)) (fun _ => ?_)
  refine x_return rfl rfl ?_
  intro _
  refine g_iconst rfl ⟨by decide, by decide⟩ ?_
  refine g_istore_n rfl rfl rfl ?_
  refine g_iconst rfl ⟨by decide, by decide⟩ ?_
  refine g_istore rfl rfl rfl ?_
  refine g_iconst rfl ⟨by decide, by decide⟩ ?_
  refine g_istore rfl rfl rfl ?_
  refine g_iload rfl rfl ?_
  refine g_gets rfl ?_
  refine g_iload_n rfl rfl ?_
  refine x_sald (i0 := 4) (v := 1) rfl (by decide) (by decide) (by show _ < ((21 : Nat) : Int); decide) rfl ?_
  refine g_icmp_ge (tgt := 78) rfl (by decide) (fun hx => absurd hx (by omega)) (fun _ => ?_)
  refine g_aload_n rfl rfl ?_
  refine g_cV (as := []) (s_adv9 hG hT hr (i := i1) (by omega) (by omega) (ht.1.trans he1)) rfl rfl mX5_advance_ok rfl rfl rfl (by decide) rfl rfl rfl ?_
  rintro _ w1 ⟨rfl, ht1, hr1, hFx1⟩ _
  have hFw1 : rF μ w1 := rF_tr rF_rf hFx1
  have hzw1 : f = 0 → f = 0 := fun z => by omega
  have hmdw1 : f = 0 → w1.1 41 7 = m := fun z => by rw [hFw1.2.1 7 (by omega)]; exact (hcR (hzw1 z)).1
  have hctw1 : f = 0 → t_cont 0 D w1 := fun z => t_cont_F hFw1.1 (hcR (hzw1 z)).2
  have hkb1 := t_k_b T len i1
  refine g_aload_n rfl rfl ?_
  refine x_geti (v := (t_k T len i1)) rfl rfl (by decide) (Or.inl rfl) ht1.2.1 ?_
  refine g_iconst rfl ⟨by decide, by decide⟩ ?_
  refine g_icmp_eq (tgt := 51) rfl (by decide) (fun h1 => ?_) (fun h1 => ?_)
  · refine g_iload rfl rfl ?_
    refine g_if_ne (tgt := 66) rfl (by decide) (fun hx => absurd hx (by omega)) (fun _ => ?_)
    refine g_aload_n rfl rfl ?_
    refine x_geti (v := (t_v T len i1)) rfl rfl (by decide) (Or.inl rfl) (ht1.2.2.2 (by omega)) ?_
    refine g_istore_n rfl rfl rfl ?_
    refine g_aload_n rfl rfl ?_
    refine g_iload_n rfl rfl ?_
    refine g_cV (as := [tI 9]) (s_cN9 (R := (m, ft, D)) hG hr1 ht1 (by omega)) rfl rfl mX5_checkNumber_ok rfl rfl rfl (by decide) rfl rfl rfl ?_
    rintro _ w2 ⟨rfl, f2, p2, heq2, hz2, hr2, ht2, hFx2⟩ _
    have hz2f : f2 = 0 → f = 0 ∧ 0 ≤ t_v T len i1 ∧ t_v T len i1 ≤ 4 := fun z => ⟨(hz2 z).1, (hz2 z).2.1, (hz2 z).2.2⟩
    have hFw2 : rF μ w2 := rF_tr hFw1 hFx2
    have hzw2 : f2 = 0 → f = 0 := fun z => by omega
    have hmdw2 : f2 = 0 → w2.1 41 7 = m := fun z => by rw [hFw2.2.1 7 (by omega)]; exact (hcR (hzw2 z)).1
    have hctw2 : f2 = 0 → t_cont 0 D w2 := fun z => t_cont_F hFw2.1 (hcR (hzw2 z)).2
    refine g_aload_n rfl rfl ?_
    refine x_geti (v := (t_v T len i1)) rfl rfl (by decide) (Or.inl rfl) (ht2.2.2.2 (by omega)) ?_
    refine g_istore rfl rfl rfl ?_
    refine x_iinc (z := 1) rfl rfl (by omega) ⟨by omega, by omega⟩ rfl rfl ?_
    refine g_goto (tgt := 27) rfl (by decide) ?_
    refine g_iload rfl rfl ?_
    refine g_gets rfl ?_
    refine g_iload_n rfl rfl ?_
    refine x_sald (i0 := 4) (v := 1) rfl (by decide) (by decide) (by show _ < ((21 : Nat) : Int); decide) rfl ?_
    refine g_icmp_ge (tgt := 78) rfl (by decide) (fun _ => ?_) (fun hx => absurd hx (by omega))
    refine g_aload_n rfl rfl ?_
    refine g_cV (as := []) (s_adv9 hG hT hr2 (i := i2) (by omega) (by omega) (ht2.1.trans he2)) rfl rfl mX5_advance_ok rfl rfl rfl (by decide) rfl rfl rfl ?_
    rintro _ w3 ⟨rfl, ht3, hr3, hFx3⟩ _
    have hFw3 : rF μ w3 := rF_tr hFw2 hFx3
    have hzw3 : f2 = 0 → f = 0 := fun z => by omega
    have hmdw3 : f2 = 0 → w3.1 41 7 = m := fun z => by rw [hFw3.2.1 7 (by omega)]; exact (hcR (hzw3 z)).1
    have hctw3 : f2 = 0 → t_cont 0 D w3 := fun z => t_cont_F hFw3.1 (hcR (hzw3 z)).2
    have hkb2 := t_k_b T len i2
    refine g_aload_n rfl rfl ?_
    refine x_geti (v := (t_k T len i2)) rfl rfl (by decide) (Or.inl rfl) ht3.2.1 ?_
    refine g_iconst rfl ⟨by decide, by decide⟩ ?_
    refine g_icmp_eq (tgt := 92) rfl (by decide) (fun h2 => ?_) (fun h2 => ?_)
    · refine g_aload_n rfl rfl ?_
      refine x_geti (v := f2) rfl rfl (by decide) (Or.inl rfl) hr3.2.1.1 ?_
      refine g_if_ne (tgt := 107) rfl (by decide) (fun h3 => ?_) (fun h3 => ?_)
      · refine g_iconst rfl ⟨by decide, by decide⟩ ?_
        refine x_zreturn rfl rfl (Or.inr rfl) ?_
        rw [t_ln_w hwx (by decide), t_l0_1y rfl he1 he2 (by omega) (by omega), t_cnt_c (by decide), heq2]
        exact ⟨rfl, fun z => absurd (show (1 : Int) = 0 from z) (by decide), fun _ => ⟨ht3.1, ⟨hr3.2.1, hr3.2.2, fun z => absurd z (by show ¬ f2 = 0; omega)⟩⟩, o_F_r hFw3⟩
      · refine g_aload_n rfl rfl ?_
        refine g_iload_n rfl rfl ?_
        refine g_iload_n rfl rfl ?_
        refine g_iload rfl rfl ?_
        refine g_iV (as := [tI 9, tI (t_v T len i1), tI (t_v T len i1)]) mX5_take_ok rfl rfl rfl rfl rfl rfl (by decide) rfl rfl rfl ?_
        refine g_iload_n rfl rfl ?_
        refine g_bipush rfl ⟨by decide, by decide⟩ (by decide) ?_
        refine g_icmp_ge (tgt := 35) rfl (by decide) (fun _ => ?_) (fun hx => absurd hx (by omega))
        refine g_iload_n rfl rfl ?_
        refine g_bipush rfl ⟨by decide, by decide⟩ (by decide) ?_
        refine g_icmp_ne (tgt := 49) rfl (by decide) (fun _ => ?_) (fun hx => absurd hx (by omega))
        refine g_iload_n rfl rfl ?_
        refine g_bipush rfl ⟨by decide, by decide⟩ (by decide) ?_
        refine g_icmp_ge (tgt := 70) rfl (by decide) (fun hx => absurd hx (by omega)) (fun _ => ?_)
        refine g_aload_n rfl rfl ?_
        refine x_getF (r := 42) hG rfl rfl (by decide) (Or.inl ⟨_, rfl⟩) rfl ?_
        refine g_iload_n rfl rfl ?_
        refine g_bipush rfl ⟨by decide, by decide⟩ (by decide) ?_
        refine x_isub (z := 1) rfl (by omega) ⟨by omega, by omega⟩ ?_
        refine g_iload_n rfl rfl ?_
        refine g_iV (as := [tI 1, tI (t_v T len i1)]) mX0_setRule_ok rfl rfl rfl rfl rfl rfl (by decide) rfl rfl rfl ?_
        refine g_iload_n rfl rfl ?_
        refine g_if_lt (tgt := 17) rfl (by decide) (fun hx => absurd hx (by omega)) (fun _ => ?_)
        refine g_iload_n rfl rfl ?_
        refine g_bipush rfl ⟨by decide, by decide⟩ (by decide) ?_
        refine g_icmp_ge (tgt := 17) rfl (by decide) (fun hx => absurd hx (by omega)) (fun _ => ?_)
        refine g_aload_n rfl rfl ?_
        refine x_getF (r := 46) hG rfl rfl (by decide) (Or.inr ⟨_, rfl⟩) rfl ?_
        refine g_iload_n rfl rfl ?_
        refine g_iload_n rfl rfl ?_
        refine g_iast rfl rfl (by decide) (by decide) (by decide) ?_
        refine x_return rfl rfl ?_
        intro _
        refine g_goto (tgt := 158) rfl (by decide) ?_
        refine x_return rfl rfl ?_
        intro _
        refine g_iconst rfl ⟨by decide, by decide⟩ ?_
        refine x_zreturn rfl rfl (Or.inr rfl) ?_
        rw [t_ln_w hwx (by decide), t_l0_1y rfl he1 he2 (by omega) (by omega), t_cnt_c (by decide), heq2]
        exact ⟨rfl, fun z => absurd (show (1 : Int) = 0 from z) (by decide), fun _ => ⟨ht3.1, ⟨⟨hr3.2.1.1, hr3.2.1.2.1, hr3.2.1.2.2⟩, hr3.2.2, fun _ => ⟨hmdw3 (by omega), by show t_cont 0 (t_D 9 (t_rw 9 (t_v T len i1)) 0 m D) _; rw [t_D_r (by decide), show t_rw 9 (t_v T len i1) = (t_v T len i1) from t_cl_i (by show (0 : Int) ≤ _ ∧ _ ≤ (4 : Int); omega)]; exact cont_r (r := 2) (hctw3 (by omega)) (by decide)⟩⟩⟩, (o_F_pi (by decide) (o_F_r hFw3))⟩
    · refine g_iconst rfl ⟨by decide, by decide⟩ ?_
      refine x_zreturn rfl rfl (Or.inl rfl) ?_
      rw [t_ln_w hwx (by decide), t_l0_1n rfl he1 he2 (by omega) (by omega)]
      exact ⟨rfl, fun _ => ht3.2.2.1, fun z => absurd (show (0 : Int) = 1 from z) (by decide), o_F_r hFw3⟩
  · refine g_iconst rfl ⟨by decide, by decide⟩ ?_
    refine x_zreturn rfl rfl (Or.inl rfl) ?_
    rw [t_ln_w hwx (by decide), t_l0_1a (by decide) he1 (by omega)]
    exact ⟨rfl, fun _ => ht1.2.2.1, fun z => absurd (show (0 : Int) = 1 from z) (by decide), o_F_r hFw1⟩
set_option maxHeartbeats 4000000 in
set_option maxRecDepth 100000 in
theorem s_rl10 {G : tp_G} {μ : tp_M} (hG : tp_Gf G = true) {T : Int → Int} {len i f p it m ft : Int} {D : Int → Int} (hT : ∀ j, 0 ≤ T j ∧ T j ≤ 255) (h0 : 0 ≤ i) (h1 : i ≤ len) (hr : rs T len f p it μ) (ht : tk9 T len i μ) (hcR : f = 0 → μ.1 41 7 = m ∧ t_cont 0 D μ) (hit : 0 ≤ it ∧ it ≤ 600) (hD0 : 0 ≤ D 0 ∧ D 0 ≤ it) (hwx : t_wx 0 T len i = 10) (hmx : f = 0 → it ≤ 40) : tp_k G mX5_readLine [tR (some 41), tI 0] μ (fun r μ' => o_P 0 (t_ln 0 T len i (f, p, it, m, ft, D)) μ r μ') := by
  refine tp_ok_of mX5_readLine_ok rfl (Nat.le_refl _) ?_
  obtain ⟨i1, he1⟩ : ∃ x, t_e T len i = x := ⟨_, rfl⟩
  obtain ⟨i2, he2⟩ : ∃ x, t_e T len i1 = x := ⟨_, rfl⟩
  obtain ⟨i3, he3⟩ : ∃ x, t_e T len i2 = x := ⟨_, rfl⟩
  have hb0 := t_s_B (T := T) h1
  have hb1 := t_e_B (T := T) h1
  have hb2 := t_e_B (T := T) (len := len) (i := i1) (by omega)
  have hbs1 := t_s_B (T := T) (len := len) (i := i1) (by omega)
  have hb3 := t_e_B (T := T) (len := len) (i := i2) (by omega)
  have hbs2 := t_s_B (T := T) (len := len) (i := i2) (by omega)
  have hwO : tp_k G mX5_wordOf [tR (some 41), tI 0] μ (fun r μ' => r = some (tI 10) ∧ μ' = μ) := by
    have q := s_wO0 hG hT hr.1 ht.2.2.1 ht.1 ht.2.1 (fun z => (t_k_1 h0 h1 z).1) (fun z => (t_k_1 h0 h1 z).2.1)
    rw [t_wx_o, hwx] at q
    exact q
  refine g_aload_n rfl rfl ?_
  refine g_iload_n rfl rfl ?_
  refine g_cV (as := [tI 0]) (hwO) rfl rfl mX5_wordOf_ok rfl rfl rfl (by decide) rfl rfl rfl ?_
  rintro _ w9 ⟨rfl, hw9⟩ _
  have hw9 := hw9.symm
  subst hw9
  refine g_istore_n rfl rfl rfl ?_
  refine g_iload_n rfl rfl ?_
  refine g_iconst rfl ⟨by decide, by decide⟩ ?_
  refine g_icmp_ne (tgt := 13) rfl (by decide) (fun _ => ?_) (fun hx => absurd hx (by omega))
  refine g_aload_n rfl rfl ?_
  refine g_iload_n rfl rfl ?_
  refine g_iload_n rfl rfl ?_
  refine g_iV (as := [tI 0, tI 10]) mX5_countItem_ok rfl rfl rfl rfl rfl rfl (by decide) rfl rfl rfl ?_
  refine g_iload_n rfl rfl ?_
  refine g_bipush rfl ⟨by decide, by decide⟩ (by decide) ?_
  refine g_icmp_lt (tgt := 13) rfl (by decide) (fun hx => absurd hx (by omega)) (fun _ => ?_)
  refine g_iload_n rfl rfl ?_
  refine g_bipush rfl ⟨by decide, by decide⟩ (by decide) ?_
  refine g_icmp_ge (tgt := 13) rfl (by decide) (fun hx => absurd hx (by omega)) (fun _ => ?_)
  refine x_return rfl rfl ?_
  intro _
  refine g_iconst rfl ⟨by decide, by decide⟩ ?_
  refine g_istore_n rfl rfl rfl ?_
  refine g_iconst rfl ⟨by decide, by decide⟩ ?_
  refine g_istore rfl rfl rfl ?_
  refine g_iconst rfl ⟨by decide, by decide⟩ ?_
  refine g_istore rfl rfl rfl ?_
  refine g_iload rfl rfl ?_
  refine g_gets rfl ?_
  refine g_iload_n rfl rfl ?_
  refine x_sald (i0 := 4) (v := 1) rfl (by decide) (by decide) (by show _ < ((21 : Nat) : Int); decide) rfl ?_
  refine g_icmp_ge (tgt := 78) rfl (by decide) (fun hx => absurd hx (by omega)) (fun _ => ?_)
  refine g_aload_n rfl rfl ?_
  refine g_cV (as := []) (s_adv9 hG hT hr (i := i1) (by omega) (by omega) (ht.1.trans he1)) rfl rfl mX5_advance_ok rfl rfl rfl (by decide) rfl rfl rfl ?_
  rintro _ w1 ⟨rfl, ht1, hr1, hFx1⟩ _
  have hFw1 : rF μ w1 := rF_tr rF_rf hFx1
  have hzw1 : f = 0 → f = 0 := fun z => by omega
  have hmdw1 : f = 0 → w1.1 41 7 = m := fun z => by rw [hFw1.2.1 7 (by omega)]; exact (hcR (hzw1 z)).1
  have hctw1 : f = 0 → t_cont 0 D w1 := fun z => t_cont_F hFw1.1 (hcR (hzw1 z)).2
  have hkb1 := t_k_b T len i1
  refine g_aload_n rfl rfl ?_
  refine x_geti (v := (t_k T len i1)) rfl rfl (by decide) (Or.inl rfl) ht1.2.1 ?_
  refine g_iconst rfl ⟨by decide, by decide⟩ ?_
  refine g_icmp_eq (tgt := 51) rfl (by decide) (fun h1 => ?_) (fun h1 => ?_)
  · refine g_iload rfl rfl ?_
    refine g_if_ne (tgt := 66) rfl (by decide) (fun hx => absurd hx (by omega)) (fun _ => ?_)
    refine g_aload_n rfl rfl ?_
    refine x_geti (v := (t_v T len i1)) rfl rfl (by decide) (Or.inl rfl) (ht1.2.2.2 (by omega)) ?_
    refine g_istore_n rfl rfl rfl ?_
    refine g_aload_n rfl rfl ?_
    refine g_iload_n rfl rfl ?_
    refine g_cV (as := [tI 10]) (s_cN10 (R := (m, ft, D)) hG hr1 ht1 (by omega)) rfl rfl mX5_checkNumber_ok rfl rfl rfl (by decide) rfl rfl rfl ?_
    rintro _ w2 ⟨rfl, f2, p2, heq2, hz2, hr2, ht2, hFx2⟩ _
    have hz2f : f2 = 0 → f = 0 ∧ 2 ≤ t_v T len i1 ∧ t_v T len i1 ≤ 99 := fun z => ⟨(hz2 z).1, (hz2 z).2.1, (hz2 z).2.2⟩
    have hFw2 : rF μ w2 := rF_tr hFw1 hFx2
    have hzw2 : f2 = 0 → f = 0 := fun z => by omega
    have hmdw2 : f2 = 0 → w2.1 41 7 = m := fun z => by rw [hFw2.2.1 7 (by omega)]; exact (hcR (hzw2 z)).1
    have hctw2 : f2 = 0 → t_cont 0 D w2 := fun z => t_cont_F hFw2.1 (hcR (hzw2 z)).2
    refine g_aload_n rfl rfl ?_
    refine x_geti (v := (t_v T len i1)) rfl rfl (by decide) (Or.inl rfl) (ht2.2.2.2 (by omega)) ?_
    refine g_istore rfl rfl rfl ?_
    refine x_iinc (z := 1) rfl rfl (by omega) ⟨by omega, by omega⟩ rfl rfl ?_
    refine g_goto (tgt := 27) rfl (by decide) ?_
    refine g_iload rfl rfl ?_
    refine g_gets rfl ?_
    refine g_iload_n rfl rfl ?_
    refine x_sald (i0 := 4) (v := 1) rfl (by decide) (by decide) (by show _ < ((21 : Nat) : Int); decide) rfl ?_
    refine g_icmp_ge (tgt := 78) rfl (by decide) (fun _ => ?_) (fun hx => absurd hx (by omega))
    refine g_aload_n rfl rfl ?_
    refine g_cV (as := []) (s_adv9 hG hT hr2 (i := i2) (by omega) (by omega) (ht2.1.trans he2)) rfl rfl mX5_advance_ok rfl rfl rfl (by decide) rfl rfl rfl ?_
    rintro _ w3 ⟨rfl, ht3, hr3, hFx3⟩ _
    have hFw3 : rF μ w3 := rF_tr hFw2 hFx3
    have hzw3 : f2 = 0 → f = 0 := fun z => by omega
    have hmdw3 : f2 = 0 → w3.1 41 7 = m := fun z => by rw [hFw3.2.1 7 (by omega)]; exact (hcR (hzw3 z)).1
    have hctw3 : f2 = 0 → t_cont 0 D w3 := fun z => t_cont_F hFw3.1 (hcR (hzw3 z)).2
    have hkb2 := t_k_b T len i2
    refine g_aload_n rfl rfl ?_
    refine x_geti (v := (t_k T len i2)) rfl rfl (by decide) (Or.inl rfl) ht3.2.1 ?_
    refine g_iconst rfl ⟨by decide, by decide⟩ ?_
    refine g_icmp_eq (tgt := 92) rfl (by decide) (fun h2 => ?_) (fun h2 => ?_)
    · refine g_aload_n rfl rfl ?_
      refine x_geti (v := f2) rfl rfl (by decide) (Or.inl rfl) hr3.2.1.1 ?_
      refine g_if_ne (tgt := 107) rfl (by decide) (fun h3 => ?_) (fun h3 => ?_)
      · refine g_iconst rfl ⟨by decide, by decide⟩ ?_
        refine x_zreturn rfl rfl (Or.inr rfl) ?_
        rw [t_ln_w hwx (by decide), t_l0_1y rfl he1 he2 (by omega) (by omega), t_cnt_c (by decide), heq2]
        exact ⟨rfl, fun z => absurd (show (1 : Int) = 0 from z) (by decide), fun _ => ⟨ht3.1, ⟨hr3.2.1, hr3.2.2, fun z => absurd z (by show ¬ f2 = 0; omega)⟩⟩, o_F_r hFw3⟩
      · refine g_aload_n rfl rfl ?_
        refine g_iload_n rfl rfl ?_
        refine g_iload_n rfl rfl ?_
        refine g_iload rfl rfl ?_
        refine g_iV (as := [tI 10, tI (t_v T len i1), tI (t_v T len i1)]) mX5_take_ok rfl rfl rfl rfl rfl rfl (by decide) rfl rfl rfl ?_
        refine g_iload_n rfl rfl ?_
        refine g_bipush rfl ⟨by decide, by decide⟩ (by decide) ?_
        refine g_icmp_ge (tgt := 35) rfl (by decide) (fun _ => ?_) (fun hx => absurd hx (by omega))
        refine g_iload_n rfl rfl ?_
        refine g_bipush rfl ⟨by decide, by decide⟩ (by decide) ?_
        refine g_icmp_ne (tgt := 49) rfl (by decide) (fun _ => ?_) (fun hx => absurd hx (by omega))
        refine g_iload_n rfl rfl ?_
        refine g_bipush rfl ⟨by decide, by decide⟩ (by decide) ?_
        refine g_icmp_ge (tgt := 70) rfl (by decide) (fun hx => absurd hx (by omega)) (fun _ => ?_)
        refine g_aload_n rfl rfl ?_
        refine x_getF (r := 42) hG rfl rfl (by decide) (Or.inl ⟨_, rfl⟩) rfl ?_
        refine g_iload_n rfl rfl ?_
        refine g_bipush rfl ⟨by decide, by decide⟩ (by decide) ?_
        refine x_isub (z := 2) rfl (by omega) ⟨by omega, by omega⟩ ?_
        refine g_iload_n rfl rfl ?_
        refine g_iV (as := [tI 2, tI (t_v T len i1)]) mX0_setRule_ok rfl rfl rfl rfl rfl rfl (by decide) rfl rfl rfl ?_
        refine g_iload_n rfl rfl ?_
        refine g_if_lt (tgt := 17) rfl (by decide) (fun hx => absurd hx (by omega)) (fun _ => ?_)
        refine g_iload_n rfl rfl ?_
        refine g_bipush rfl ⟨by decide, by decide⟩ (by decide) ?_
        refine g_icmp_ge (tgt := 17) rfl (by decide) (fun hx => absurd hx (by omega)) (fun _ => ?_)
        refine g_aload_n rfl rfl ?_
        refine x_getF (r := 46) hG rfl rfl (by decide) (Or.inr ⟨_, rfl⟩) rfl ?_
        refine g_iload_n rfl rfl ?_
        refine g_iload_n rfl rfl ?_
        refine g_iast rfl rfl (by decide) (by decide) (by decide) ?_
        refine x_return rfl rfl ?_
        intro _
        refine g_goto (tgt := 158) rfl (by decide) ?_
        refine x_return rfl rfl ?_
        intro _
        refine g_iconst rfl ⟨by decide, by decide⟩ ?_
        refine x_zreturn rfl rfl (Or.inr rfl) ?_
        rw [t_ln_w hwx (by decide), t_l0_1y rfl he1 he2 (by omega) (by omega), t_cnt_c (by decide), heq2]
        exact ⟨rfl, fun z => absurd (show (1 : Int) = 0 from z) (by decide), fun _ => ⟨ht3.1, ⟨⟨hr3.2.1.1, hr3.2.1.2.1, hr3.2.1.2.2⟩, hr3.2.2, fun _ => ⟨hmdw3 (by omega), by show t_cont 0 (t_D 10 (t_rw 10 (t_v T len i1)) 0 m D) _; rw [t_D_r (by decide), show t_rw 10 (t_v T len i1) = (t_v T len i1) from t_cl_i (by show (2 : Int) ≤ _ ∧ _ ≤ (99 : Int); omega)]; exact cont_r (r := 3) (hctw3 (by omega)) (by decide)⟩⟩⟩, (o_F_pi (by decide) (o_F_r hFw3))⟩
    · refine g_iconst rfl ⟨by decide, by decide⟩ ?_
      refine x_zreturn rfl rfl (Or.inl rfl) ?_
      rw [t_ln_w hwx (by decide), t_l0_1n rfl he1 he2 (by omega) (by omega)]
      exact ⟨rfl, fun _ => ht3.2.2.1, fun z => absurd (show (0 : Int) = 1 from z) (by decide), o_F_r hFw3⟩
  · refine g_iconst rfl ⟨by decide, by decide⟩ ?_
    refine x_zreturn rfl rfl (Or.inl rfl) ?_
    rw [t_ln_w hwx (by decide), t_l0_1a (by decide) he1 (by omega)]
    exact ⟨rfl, fun _ => ht1.2.2.1, fun z => absurd (show (0 : Int) = 1 from z) (by decide), o_F_r hFw1⟩
set_option maxHeartbeats 4000000 in
set_option maxRecDepth 100000 in
theorem s_rl11 {G : tp_G} {μ : tp_M} (hG : tp_Gf G = true) {T : Int → Int} {len i f p it m ft : Int} {D : Int → Int} (hT : ∀ j, 0 ≤ T j ∧ T j ≤ 255) (h0 : 0 ≤ i) (h1 : i ≤ len) (hr : rs T len f p it μ) (ht : tk9 T len i μ) (hcR : f = 0 → μ.1 41 7 = m ∧ t_cont 0 D μ) (hit : 0 ≤ it ∧ it ≤ 600) (hD0 : 0 ≤ D 0 ∧ D 0 ≤ it) (hwx : t_wx 0 T len i = 11) (hmx : f = 0 → it ≤ 40) : tp_k G mX5_readLine [tR (some 41), tI 0] μ (fun r μ' => o_P 0 (t_ln 0 T len i (f, p, it, m, ft, D)) μ r μ') := by
  refine tp_ok_of mX5_readLine_ok rfl (Nat.le_refl _) ?_
  obtain ⟨i1, he1⟩ : ∃ x, t_e T len i = x := ⟨_, rfl⟩
  obtain ⟨i2, he2⟩ : ∃ x, t_e T len i1 = x := ⟨_, rfl⟩
  obtain ⟨i3, he3⟩ : ∃ x, t_e T len i2 = x := ⟨_, rfl⟩
  have hb0 := t_s_B (T := T) h1
  have hb1 := t_e_B (T := T) h1
  have hb2 := t_e_B (T := T) (len := len) (i := i1) (by omega)
  have hbs1 := t_s_B (T := T) (len := len) (i := i1) (by omega)
  have hb3 := t_e_B (T := T) (len := len) (i := i2) (by omega)
  have hbs2 := t_s_B (T := T) (len := len) (i := i2) (by omega)
  have hwO : tp_k G mX5_wordOf [tR (some 41), tI 0] μ (fun r μ' => r = some (tI 11) ∧ μ' = μ) := by
    have q := s_wO0 hG hT hr.1 ht.2.2.1 ht.1 ht.2.1 (fun z => (t_k_1 h0 h1 z).1) (fun z => (t_k_1 h0 h1 z).2.1)
    rw [t_wx_o, hwx] at q
    exact q
  refine g_aload_n rfl rfl ?_
  refine g_iload_n rfl rfl ?_
  refine g_cV (as := [tI 0]) (hwO) rfl rfl mX5_wordOf_ok rfl rfl rfl (by decide) rfl rfl rfl ?_
  rintro _ w9 ⟨rfl, hw9⟩ _
  have hw9 := hw9.symm
  subst hw9
  refine g_istore_n rfl rfl rfl ?_
  refine g_iload_n rfl rfl ?_
  refine g_iconst rfl ⟨by decide, by decide⟩ ?_
  refine g_icmp_ne (tgt := 13) rfl (by decide) (fun _ => ?_) (fun hx => absurd hx (by omega))
  refine g_aload_n rfl rfl ?_
  refine g_iload_n rfl rfl ?_
  refine g_iload_n rfl rfl ?_
  refine g_iV (as := [tI 0, tI 11]) mX5_countItem_ok rfl rfl rfl rfl rfl rfl (by decide) rfl rfl rfl ?_
  refine g_iload_n rfl rfl ?_
  refine g_bipush rfl ⟨by decide, by decide⟩ (by decide) ?_
  refine g_icmp_lt (tgt := 13) rfl (by decide) (fun hx => absurd hx (by omega)) (fun _ => ?_)
  refine g_iload_n rfl rfl ?_
  refine g_bipush rfl ⟨by decide, by decide⟩ (by decide) ?_
  refine g_icmp_ge (tgt := 13) rfl (by decide) (fun hx => absurd hx (by omega)) (fun _ => ?_)
  refine x_return rfl rfl ?_
  intro _
  refine g_iconst rfl ⟨by decide, by decide⟩ ?_
  refine g_istore_n rfl rfl rfl ?_
  refine g_iconst rfl ⟨by decide, by decide⟩ ?_
  refine g_istore rfl rfl rfl ?_
  refine g_iconst rfl ⟨by decide, by decide⟩ ?_
  refine g_istore rfl rfl rfl ?_
  refine g_iload rfl rfl ?_
  refine g_gets rfl ?_
  refine g_iload_n rfl rfl ?_
  refine x_sald (i0 := 4) (v := 1) rfl (by decide) (by decide) (by show _ < ((21 : Nat) : Int); decide) rfl ?_
  refine g_icmp_ge (tgt := 78) rfl (by decide) (fun hx => absurd hx (by omega)) (fun _ => ?_)
  refine g_aload_n rfl rfl ?_
  refine g_cV (as := []) (s_adv9 hG hT hr (i := i1) (by omega) (by omega) (ht.1.trans he1)) rfl rfl mX5_advance_ok rfl rfl rfl (by decide) rfl rfl rfl ?_
  rintro _ w1 ⟨rfl, ht1, hr1, hFx1⟩ _
  have hFw1 : rF μ w1 := rF_tr rF_rf hFx1
  have hzw1 : f = 0 → f = 0 := fun z => by omega
  have hmdw1 : f = 0 → w1.1 41 7 = m := fun z => by rw [hFw1.2.1 7 (by omega)]; exact (hcR (hzw1 z)).1
  have hctw1 : f = 0 → t_cont 0 D w1 := fun z => t_cont_F hFw1.1 (hcR (hzw1 z)).2
  have hkb1 := t_k_b T len i1
  refine g_aload_n rfl rfl ?_
  refine x_geti (v := (t_k T len i1)) rfl rfl (by decide) (Or.inl rfl) ht1.2.1 ?_
  refine g_iconst rfl ⟨by decide, by decide⟩ ?_
  refine g_icmp_eq (tgt := 51) rfl (by decide) (fun h1 => ?_) (fun h1 => ?_)
  · refine g_iload rfl rfl ?_
    refine g_if_ne (tgt := 66) rfl (by decide) (fun hx => absurd hx (by omega)) (fun _ => ?_)
    refine g_aload_n rfl rfl ?_
    refine x_geti (v := (t_v T len i1)) rfl rfl (by decide) (Or.inl rfl) (ht1.2.2.2 (by omega)) ?_
    refine g_istore_n rfl rfl rfl ?_
    refine g_aload_n rfl rfl ?_
    refine g_iload_n rfl rfl ?_
    refine g_cV (as := [tI 11]) (s_cN11 (R := (m, ft, D)) hG hr1 ht1 (by omega)) rfl rfl mX5_checkNumber_ok rfl rfl rfl (by decide) rfl rfl rfl ?_
    rintro _ w2 ⟨rfl, f2, p2, heq2, hz2, hr2, ht2, hFx2⟩ _
    have hz2f : f2 = 0 → f = 0 ∧ 0 ≤ t_v T len i1 ∧ t_v T len i1 ≤ 39 := fun z => ⟨(hz2 z).1, (hz2 z).2.1, (hz2 z).2.2⟩
    have hFw2 : rF μ w2 := rF_tr hFw1 hFx2
    have hzw2 : f2 = 0 → f = 0 := fun z => by omega
    have hmdw2 : f2 = 0 → w2.1 41 7 = m := fun z => by rw [hFw2.2.1 7 (by omega)]; exact (hcR (hzw2 z)).1
    have hctw2 : f2 = 0 → t_cont 0 D w2 := fun z => t_cont_F hFw2.1 (hcR (hzw2 z)).2
    refine g_aload_n rfl rfl ?_
    refine x_geti (v := (t_v T len i1)) rfl rfl (by decide) (Or.inl rfl) (ht2.2.2.2 (by omega)) ?_
    refine g_istore rfl rfl rfl ?_
    refine x_iinc (z := 1) rfl rfl (by omega) ⟨by omega, by omega⟩ rfl rfl ?_
    refine g_goto (tgt := 27) rfl (by decide) ?_
    refine g_iload rfl rfl ?_
    refine g_gets rfl ?_
    refine g_iload_n rfl rfl ?_
    refine x_sald (i0 := 4) (v := 1) rfl (by decide) (by decide) (by show _ < ((21 : Nat) : Int); decide) rfl ?_
    refine g_icmp_ge (tgt := 78) rfl (by decide) (fun _ => ?_) (fun hx => absurd hx (by omega))
    refine g_aload_n rfl rfl ?_
    refine g_cV (as := []) (s_adv9 hG hT hr2 (i := i2) (by omega) (by omega) (ht2.1.trans he2)) rfl rfl mX5_advance_ok rfl rfl rfl (by decide) rfl rfl rfl ?_
    rintro _ w3 ⟨rfl, ht3, hr3, hFx3⟩ _
    have hFw3 : rF μ w3 := rF_tr hFw2 hFx3
    have hzw3 : f2 = 0 → f = 0 := fun z => by omega
    have hmdw3 : f2 = 0 → w3.1 41 7 = m := fun z => by rw [hFw3.2.1 7 (by omega)]; exact (hcR (hzw3 z)).1
    have hctw3 : f2 = 0 → t_cont 0 D w3 := fun z => t_cont_F hFw3.1 (hcR (hzw3 z)).2
    have hkb2 := t_k_b T len i2
    refine g_aload_n rfl rfl ?_
    refine x_geti (v := (t_k T len i2)) rfl rfl (by decide) (Or.inl rfl) ht3.2.1 ?_
    refine g_iconst rfl ⟨by decide, by decide⟩ ?_
    refine g_icmp_eq (tgt := 92) rfl (by decide) (fun h2 => ?_) (fun h2 => ?_)
    · refine g_aload_n rfl rfl ?_
      refine x_geti (v := f2) rfl rfl (by decide) (Or.inl rfl) hr3.2.1.1 ?_
      refine g_if_ne (tgt := 107) rfl (by decide) (fun h3 => ?_) (fun h3 => ?_)
      · refine g_iconst rfl ⟨by decide, by decide⟩ ?_
        refine x_zreturn rfl rfl (Or.inr rfl) ?_
        rw [t_ln_w hwx (by decide), t_l0_1y rfl he1 he2 (by omega) (by omega), t_cnt_c (by decide), heq2]
        exact ⟨rfl, fun z => absurd (show (1 : Int) = 0 from z) (by decide), fun _ => ⟨ht3.1, ⟨hr3.2.1, hr3.2.2, fun z => absurd z (by show ¬ f2 = 0; omega)⟩⟩, o_F_r hFw3⟩
      · refine g_aload_n rfl rfl ?_
        refine g_iload_n rfl rfl ?_
        refine g_iload_n rfl rfl ?_
        refine g_iload rfl rfl ?_
        refine g_iV (as := [tI 11, tI (t_v T len i1), tI (t_v T len i1)]) mX5_take_ok rfl rfl rfl rfl rfl rfl (by decide) rfl rfl rfl ?_
        refine g_iload_n rfl rfl ?_
        refine g_bipush rfl ⟨by decide, by decide⟩ (by decide) ?_
        refine g_icmp_ge (tgt := 35) rfl (by decide) (fun _ => ?_) (fun hx => absurd hx (by omega))
        refine g_iload_n rfl rfl ?_
        refine g_bipush rfl ⟨by decide, by decide⟩ (by decide) ?_
        refine g_icmp_ne (tgt := 49) rfl (by decide) (fun _ => ?_) (fun hx => absurd hx (by omega))
        refine g_iload_n rfl rfl ?_
        refine g_bipush rfl ⟨by decide, by decide⟩ (by decide) ?_
        refine g_icmp_ge (tgt := 70) rfl (by decide) (fun hx => absurd hx (by omega)) (fun _ => ?_)
        refine g_aload_n rfl rfl ?_
        refine x_getF (r := 42) hG rfl rfl (by decide) (Or.inl ⟨_, rfl⟩) rfl ?_
        refine g_iload_n rfl rfl ?_
        refine g_bipush rfl ⟨by decide, by decide⟩ (by decide) ?_
        refine x_isub (z := 3) rfl (by omega) ⟨by omega, by omega⟩ ?_
        refine g_iload_n rfl rfl ?_
        refine g_iV (as := [tI 3, tI (t_v T len i1)]) mX0_setRule_ok rfl rfl rfl rfl rfl rfl (by decide) rfl rfl rfl ?_
        refine g_iload_n rfl rfl ?_
        refine g_if_lt (tgt := 17) rfl (by decide) (fun hx => absurd hx (by omega)) (fun _ => ?_)
        refine g_iload_n rfl rfl ?_
        refine g_bipush rfl ⟨by decide, by decide⟩ (by decide) ?_
        refine g_icmp_ge (tgt := 17) rfl (by decide) (fun hx => absurd hx (by omega)) (fun _ => ?_)
        refine g_aload_n rfl rfl ?_
        refine x_getF (r := 46) hG rfl rfl (by decide) (Or.inr ⟨_, rfl⟩) rfl ?_
        refine g_iload_n rfl rfl ?_
        refine g_iload_n rfl rfl ?_
        refine g_iast rfl rfl (by decide) (by decide) (by decide) ?_
        refine x_return rfl rfl ?_
        intro _
        refine g_goto (tgt := 158) rfl (by decide) ?_
        refine x_return rfl rfl ?_
        intro _
        refine g_iconst rfl ⟨by decide, by decide⟩ ?_
        refine x_zreturn rfl rfl (Or.inr rfl) ?_
        rw [t_ln_w hwx (by decide), t_l0_1y rfl he1 he2 (by omega) (by omega), t_cnt_c (by decide), heq2]
        exact ⟨rfl, fun z => absurd (show (1 : Int) = 0 from z) (by decide), fun _ => ⟨ht3.1, ⟨⟨hr3.2.1.1, hr3.2.1.2.1, hr3.2.1.2.2⟩, hr3.2.2, fun _ => ⟨hmdw3 (by omega), by show t_cont 0 (t_D 11 (t_rw 11 (t_v T len i1)) 0 m D) _; rw [t_D_r (by decide), show t_rw 11 (t_v T len i1) = (t_v T len i1) from t_cl_i (by show (0 : Int) ≤ _ ∧ _ ≤ (39 : Int); omega)]; exact cont_r (r := 4) (hctw3 (by omega)) (by decide)⟩⟩⟩, (o_F_pi (by decide) (o_F_r hFw3))⟩
    · refine g_iconst rfl ⟨by decide, by decide⟩ ?_
      refine x_zreturn rfl rfl (Or.inl rfl) ?_
      rw [t_ln_w hwx (by decide), t_l0_1n rfl he1 he2 (by omega) (by omega)]
      exact ⟨rfl, fun _ => ht3.2.2.1, fun z => absurd (show (0 : Int) = 1 from z) (by decide), o_F_r hFw3⟩
  · refine g_iconst rfl ⟨by decide, by decide⟩ ?_
    refine x_zreturn rfl rfl (Or.inl rfl) ?_
    rw [t_ln_w hwx (by decide), t_l0_1a (by decide) he1 (by omega)]
    exact ⟨rfl, fun _ => ht1.2.2.1, fun z => absurd (show (0 : Int) = 1 from z) (by decide), o_F_r hFw1⟩
set_option maxHeartbeats 4000000 in
set_option maxRecDepth 100000 in
theorem s_rl12 {G : tp_G} {μ : tp_M} (hG : tp_Gf G = true) {T : Int → Int} {len i f p it m ft : Int} {D : Int → Int} (hT : ∀ j, 0 ≤ T j ∧ T j ≤ 255) (h0 : 0 ≤ i) (h1 : i ≤ len) (hr : rs T len f p it μ) (ht : tk9 T len i μ) (hcR : f = 0 → μ.1 41 7 = m ∧ t_cont 0 D μ) (hit : 0 ≤ it ∧ it ≤ 600) (hD0 : 0 ≤ D 0 ∧ D 0 ≤ it) (hwx : t_wx 0 T len i = 12) (hmx : f = 0 → it ≤ 40) : tp_k G mX5_readLine [tR (some 41), tI 0] μ (fun r μ' => o_P 0 (t_ln 0 T len i (f, p, it, m, ft, D)) μ r μ') := by
  refine tp_ok_of mX5_readLine_ok rfl (Nat.le_refl _) ?_
  obtain ⟨i1, he1⟩ : ∃ x, t_e T len i = x := ⟨_, rfl⟩
  obtain ⟨i2, he2⟩ : ∃ x, t_e T len i1 = x := ⟨_, rfl⟩
  obtain ⟨i3, he3⟩ : ∃ x, t_e T len i2 = x := ⟨_, rfl⟩
  have hb0 := t_s_B (T := T) h1
  have hb1 := t_e_B (T := T) h1
  have hb2 := t_e_B (T := T) (len := len) (i := i1) (by omega)
  have hbs1 := t_s_B (T := T) (len := len) (i := i1) (by omega)
  have hb3 := t_e_B (T := T) (len := len) (i := i2) (by omega)
  have hbs2 := t_s_B (T := T) (len := len) (i := i2) (by omega)
  have hwO : tp_k G mX5_wordOf [tR (some 41), tI 0] μ (fun r μ' => r = some (tI 12) ∧ μ' = μ) := by
    have q := s_wO0 hG hT hr.1 ht.2.2.1 ht.1 ht.2.1 (fun z => (t_k_1 h0 h1 z).1) (fun z => (t_k_1 h0 h1 z).2.1)
    rw [t_wx_o, hwx] at q
    exact q
  refine g_aload_n rfl rfl ?_
  refine g_iload_n rfl rfl ?_
  refine g_cV (as := [tI 0]) (hwO) rfl rfl mX5_wordOf_ok rfl rfl rfl (by decide) rfl rfl rfl ?_
  rintro _ w9 ⟨rfl, hw9⟩ _
  have hw9 := hw9.symm
  subst hw9
  refine g_istore_n rfl rfl rfl ?_
  refine g_iload_n rfl rfl ?_
  refine g_iconst rfl ⟨by decide, by decide⟩ ?_
  refine g_icmp_ne (tgt := 13) rfl (by decide) (fun _ => ?_) (fun hx => absurd hx (by omega))
  refine g_aload_n rfl rfl ?_
  refine g_iload_n rfl rfl ?_
  refine g_iload_n rfl rfl ?_
  refine g_iV (as := [tI 0, tI 12]) mX5_countItem_ok rfl rfl rfl rfl rfl rfl (by decide) rfl rfl rfl ?_
  refine g_iload_n rfl rfl ?_
  refine g_bipush rfl ⟨by decide, by decide⟩ (by decide) ?_
  refine g_icmp_lt (tgt := 13) rfl (by decide) (fun hx => absurd hx (by omega)) (fun _ => ?_)
  refine g_iload_n rfl rfl ?_
  refine g_bipush rfl ⟨by decide, by decide⟩ (by decide) ?_
  refine g_icmp_ge (tgt := 13) rfl (by decide) (fun hx => absurd hx (by omega)) (fun _ => ?_)
  refine x_return rfl rfl ?_
  intro _
  refine g_iconst rfl ⟨by decide, by decide⟩ ?_
  refine g_istore_n rfl rfl rfl ?_
  refine g_iconst rfl ⟨by decide, by decide⟩ ?_
  refine g_istore rfl rfl rfl ?_
  refine g_iconst rfl ⟨by decide, by decide⟩ ?_
  refine g_istore rfl rfl rfl ?_
  refine g_iload rfl rfl ?_
  refine g_gets rfl ?_
  refine g_iload_n rfl rfl ?_
  refine x_sald (i0 := 4) (v := 1) rfl (by decide) (by decide) (by show _ < ((21 : Nat) : Int); decide) rfl ?_
  refine g_icmp_ge (tgt := 78) rfl (by decide) (fun hx => absurd hx (by omega)) (fun _ => ?_)
  refine g_aload_n rfl rfl ?_
  refine g_cV (as := []) (s_adv9 hG hT hr (i := i1) (by omega) (by omega) (ht.1.trans he1)) rfl rfl mX5_advance_ok rfl rfl rfl (by decide) rfl rfl rfl ?_
  rintro _ w1 ⟨rfl, ht1, hr1, hFx1⟩ _
  have hFw1 : rF μ w1 := rF_tr rF_rf hFx1
  have hzw1 : f = 0 → f = 0 := fun z => by omega
  have hmdw1 : f = 0 → w1.1 41 7 = m := fun z => by rw [hFw1.2.1 7 (by omega)]; exact (hcR (hzw1 z)).1
  have hctw1 : f = 0 → t_cont 0 D w1 := fun z => t_cont_F hFw1.1 (hcR (hzw1 z)).2
  have hkb1 := t_k_b T len i1
  refine g_aload_n rfl rfl ?_
  refine x_geti (v := (t_k T len i1)) rfl rfl (by decide) (Or.inl rfl) ht1.2.1 ?_
  refine g_iconst rfl ⟨by decide, by decide⟩ ?_
  refine g_icmp_eq (tgt := 51) rfl (by decide) (fun h1 => ?_) (fun h1 => ?_)
  · refine g_iload rfl rfl ?_
    refine g_if_ne (tgt := 66) rfl (by decide) (fun hx => absurd hx (by omega)) (fun _ => ?_)
    refine g_aload_n rfl rfl ?_
    refine x_geti (v := (t_v T len i1)) rfl rfl (by decide) (Or.inl rfl) (ht1.2.2.2 (by omega)) ?_
    refine g_istore_n rfl rfl rfl ?_
    refine g_aload_n rfl rfl ?_
    refine g_iload_n rfl rfl ?_
    refine g_cV (as := [tI 12]) (s_cN12 (R := (m, ft, D)) hG hr1 ht1 (by omega)) rfl rfl mX5_checkNumber_ok rfl rfl rfl (by decide) rfl rfl rfl ?_
    rintro _ w2 ⟨rfl, f2, p2, heq2, hz2, hr2, ht2, hFx2⟩ _
    have hz2f : f2 = 0 → f = 0 ∧ 0 ≤ t_v T len i1 ∧ t_v T len i1 ≤ 39 := fun z => ⟨(hz2 z).1, (hz2 z).2.1, (hz2 z).2.2⟩
    have hFw2 : rF μ w2 := rF_tr hFw1 hFx2
    have hzw2 : f2 = 0 → f = 0 := fun z => by omega
    have hmdw2 : f2 = 0 → w2.1 41 7 = m := fun z => by rw [hFw2.2.1 7 (by omega)]; exact (hcR (hzw2 z)).1
    have hctw2 : f2 = 0 → t_cont 0 D w2 := fun z => t_cont_F hFw2.1 (hcR (hzw2 z)).2
    refine g_aload_n rfl rfl ?_
    refine x_geti (v := (t_v T len i1)) rfl rfl (by decide) (Or.inl rfl) (ht2.2.2.2 (by omega)) ?_
    refine g_istore rfl rfl rfl ?_
    refine x_iinc (z := 1) rfl rfl (by omega) ⟨by omega, by omega⟩ rfl rfl ?_
    refine g_goto (tgt := 27) rfl (by decide) ?_
    refine g_iload rfl rfl ?_
    refine g_gets rfl ?_
    refine g_iload_n rfl rfl ?_
    refine x_sald (i0 := 4) (v := 1) rfl (by decide) (by decide) (by show _ < ((21 : Nat) : Int); decide) rfl ?_
    refine g_icmp_ge (tgt := 78) rfl (by decide) (fun _ => ?_) (fun hx => absurd hx (by omega))
    refine g_aload_n rfl rfl ?_
    refine g_cV (as := []) (s_adv9 hG hT hr2 (i := i2) (by omega) (by omega) (ht2.1.trans he2)) rfl rfl mX5_advance_ok rfl rfl rfl (by decide) rfl rfl rfl ?_
    rintro _ w3 ⟨rfl, ht3, hr3, hFx3⟩ _
    have hFw3 : rF μ w3 := rF_tr hFw2 hFx3
    have hzw3 : f2 = 0 → f = 0 := fun z => by omega
    have hmdw3 : f2 = 0 → w3.1 41 7 = m := fun z => by rw [hFw3.2.1 7 (by omega)]; exact (hcR (hzw3 z)).1
    have hctw3 : f2 = 0 → t_cont 0 D w3 := fun z => t_cont_F hFw3.1 (hcR (hzw3 z)).2
    have hkb2 := t_k_b T len i2
    refine g_aload_n rfl rfl ?_
    refine x_geti (v := (t_k T len i2)) rfl rfl (by decide) (Or.inl rfl) ht3.2.1 ?_
    refine g_iconst rfl ⟨by decide, by decide⟩ ?_
    refine g_icmp_eq (tgt := 92) rfl (by decide) (fun h2 => ?_) (fun h2 => ?_)
    · refine g_aload_n rfl rfl ?_
      refine x_geti (v := f2) rfl rfl (by decide) (Or.inl rfl) hr3.2.1.1 ?_
      refine g_if_ne (tgt := 107) rfl (by decide) (fun h3 => ?_) (fun h3 => ?_)
      · refine g_iconst rfl ⟨by decide, by decide⟩ ?_
        refine x_zreturn rfl rfl (Or.inr rfl) ?_
        rw [t_ln_w hwx (by decide), t_l0_1y rfl he1 he2 (by omega) (by omega), t_cnt_c (by decide), heq2]
        exact ⟨rfl, fun z => absurd (show (1 : Int) = 0 from z) (by decide), fun _ => ⟨ht3.1, ⟨hr3.2.1, hr3.2.2, fun z => absurd z (by show ¬ f2 = 0; omega)⟩⟩, o_F_r hFw3⟩
      · refine g_aload_n rfl rfl ?_
        refine g_iload_n rfl rfl ?_
        refine g_iload_n rfl rfl ?_
        refine g_iload rfl rfl ?_
        refine g_iV (as := [tI 12, tI (t_v T len i1), tI (t_v T len i1)]) mX5_take_ok rfl rfl rfl rfl rfl rfl (by decide) rfl rfl rfl ?_
        refine g_iload_n rfl rfl ?_
        refine g_bipush rfl ⟨by decide, by decide⟩ (by decide) ?_
        refine g_icmp_ge (tgt := 35) rfl (by decide) (fun _ => ?_) (fun hx => absurd hx (by omega))
        refine g_iload_n rfl rfl ?_
        refine g_bipush rfl ⟨by decide, by decide⟩ (by decide) ?_
        refine g_icmp_ne (tgt := 49) rfl (by decide) (fun _ => ?_) (fun hx => absurd hx (by omega))
        refine g_iload_n rfl rfl ?_
        refine g_bipush rfl ⟨by decide, by decide⟩ (by decide) ?_
        refine g_icmp_ge (tgt := 70) rfl (by decide) (fun hx => absurd hx (by omega)) (fun _ => ?_)
        refine g_aload_n rfl rfl ?_
        refine x_getF (r := 42) hG rfl rfl (by decide) (Or.inl ⟨_, rfl⟩) rfl ?_
        refine g_iload_n rfl rfl ?_
        refine g_bipush rfl ⟨by decide, by decide⟩ (by decide) ?_
        refine x_isub (z := 4) rfl (by omega) ⟨by omega, by omega⟩ ?_
        refine g_iload_n rfl rfl ?_
        refine g_iV (as := [tI 4, tI (t_v T len i1)]) mX0_setRule_ok rfl rfl rfl rfl rfl rfl (by decide) rfl rfl rfl ?_
        refine g_iload_n rfl rfl ?_
        refine g_if_lt (tgt := 17) rfl (by decide) (fun hx => absurd hx (by omega)) (fun _ => ?_)
        refine g_iload_n rfl rfl ?_
        refine g_bipush rfl ⟨by decide, by decide⟩ (by decide) ?_
        refine g_icmp_ge (tgt := 17) rfl (by decide) (fun hx => absurd hx (by omega)) (fun _ => ?_)
        refine g_aload_n rfl rfl ?_
        refine x_getF (r := 46) hG rfl rfl (by decide) (Or.inr ⟨_, rfl⟩) rfl ?_
        refine g_iload_n rfl rfl ?_
        refine g_iload_n rfl rfl ?_
        refine g_iast rfl rfl (by decide) (by decide) (by decide) ?_
        refine x_return rfl rfl ?_
        intro _
        refine g_goto (tgt := 158) rfl (by decide) ?_
        refine x_return rfl rfl ?_
        intro _
        refine g_iconst rfl ⟨by decide, by decide⟩ ?_
        refine x_zreturn rfl rfl (Or.inr rfl) ?_
        rw [t_ln_w hwx (by decide), t_l0_1y rfl he1 he2 (by omega) (by omega), t_cnt_c (by decide), heq2]
        exact ⟨rfl, fun z => absurd (show (1 : Int) = 0 from z) (by decide), fun _ => ⟨ht3.1, ⟨⟨hr3.2.1.1, hr3.2.1.2.1, hr3.2.1.2.2⟩, hr3.2.2, fun _ => ⟨hmdw3 (by omega), by show t_cont 0 (t_D 12 (t_rw 12 (t_v T len i1)) 0 m D) _; rw [t_D_r (by decide), show t_rw 12 (t_v T len i1) = (t_v T len i1) from t_cl_i (by show (0 : Int) ≤ _ ∧ _ ≤ (39 : Int); omega)]; exact cont_r (r := 5) (hctw3 (by omega)) (by decide)⟩⟩⟩, (o_F_pi (by decide) (o_F_r hFw3))⟩
    · refine g_iconst rfl ⟨by decide, by decide⟩ ?_
      refine x_zreturn rfl rfl (Or.inl rfl) ?_
      rw [t_ln_w hwx (by decide), t_l0_1n rfl he1 he2 (by omega) (by omega)]
      exact ⟨rfl, fun _ => ht3.2.2.1, fun z => absurd (show (0 : Int) = 1 from z) (by decide), o_F_r hFw3⟩
  · refine g_iconst rfl ⟨by decide, by decide⟩ ?_
    refine x_zreturn rfl rfl (Or.inl rfl) ?_
    rw [t_ln_w hwx (by decide), t_l0_1a (by decide) he1 (by omega)]
    exact ⟨rfl, fun _ => ht1.2.2.1, fun z => absurd (show (0 : Int) = 1 from z) (by decide), o_F_r hFw1⟩
set_option maxHeartbeats 4000000 in
set_option maxRecDepth 100000 in
theorem s_rl13 {G : tp_G} {μ : tp_M} (hG : tp_Gf G = true) {T : Int → Int} {len i f p it m ft : Int} {D : Int → Int} (hT : ∀ j, 0 ≤ T j ∧ T j ≤ 255) (h0 : 0 ≤ i) (h1 : i ≤ len) (hr : rs T len f p it μ) (ht : tk9 T len i μ) (hcR : f = 0 → μ.1 41 7 = m ∧ t_cont 0 D μ) (hit : 0 ≤ it ∧ it ≤ 600) (hD0 : 0 ≤ D 0 ∧ D 0 ≤ it) (hwx : t_wx 0 T len i = 13) (hmx : f = 0 → it ≤ 40) : tp_k G mX5_readLine [tR (some 41), tI 0] μ (fun r μ' => o_P 0 (t_ln 0 T len i (f, p, it, m, ft, D)) μ r μ') := by
  refine tp_ok_of mX5_readLine_ok rfl (Nat.le_refl _) ?_
  obtain ⟨i1, he1⟩ : ∃ x, t_e T len i = x := ⟨_, rfl⟩
  obtain ⟨i2, he2⟩ : ∃ x, t_e T len i1 = x := ⟨_, rfl⟩
  obtain ⟨i3, he3⟩ : ∃ x, t_e T len i2 = x := ⟨_, rfl⟩
  have hb0 := t_s_B (T := T) h1
  have hb1 := t_e_B (T := T) h1
  have hb2 := t_e_B (T := T) (len := len) (i := i1) (by omega)
  have hbs1 := t_s_B (T := T) (len := len) (i := i1) (by omega)
  have hb3 := t_e_B (T := T) (len := len) (i := i2) (by omega)
  have hbs2 := t_s_B (T := T) (len := len) (i := i2) (by omega)
  have hwO : tp_k G mX5_wordOf [tR (some 41), tI 0] μ (fun r μ' => r = some (tI 13) ∧ μ' = μ) := by
    have q := s_wO0 hG hT hr.1 ht.2.2.1 ht.1 ht.2.1 (fun z => (t_k_1 h0 h1 z).1) (fun z => (t_k_1 h0 h1 z).2.1)
    rw [t_wx_o, hwx] at q
    exact q
  refine g_aload_n rfl rfl ?_
  refine g_iload_n rfl rfl ?_
  refine g_cV (as := [tI 0]) (hwO) rfl rfl mX5_wordOf_ok rfl rfl rfl (by decide) rfl rfl rfl ?_
  rintro _ w9 ⟨rfl, hw9⟩ _
  have hw9 := hw9.symm
  subst hw9
  refine g_istore_n rfl rfl rfl ?_
  refine g_iload_n rfl rfl ?_
  refine g_iconst rfl ⟨by decide, by decide⟩ ?_
  refine g_icmp_ne (tgt := 13) rfl (by decide) (fun _ => ?_) (fun hx => absurd hx (by omega))
  refine g_aload_n rfl rfl ?_
  refine g_iload_n rfl rfl ?_
  refine g_iload_n rfl rfl ?_
  refine g_iV (as := [tI 0, tI 13]) mX5_countItem_ok rfl rfl rfl rfl rfl rfl (by decide) rfl rfl rfl ?_
  refine g_iload_n rfl rfl ?_
  refine g_bipush rfl ⟨by decide, by decide⟩ (by decide) ?_
  refine g_icmp_lt (tgt := 13) rfl (by decide) (fun hx => absurd hx (by omega)) (fun _ => ?_)
  refine g_iload_n rfl rfl ?_
  refine g_bipush rfl ⟨by decide, by decide⟩ (by decide) ?_
  refine g_icmp_ge (tgt := 13) rfl (by decide) (fun hx => absurd hx (by omega)) (fun _ => ?_)
  refine x_return rfl rfl ?_
  intro _
  refine g_iconst rfl ⟨by decide, by decide⟩ ?_
  refine g_istore_n rfl rfl rfl ?_
  refine g_iconst rfl ⟨by decide, by decide⟩ ?_
  refine g_istore rfl rfl rfl ?_
  refine g_iconst rfl ⟨by decide, by decide⟩ ?_
  refine g_istore rfl rfl rfl ?_
  refine g_iload rfl rfl ?_
  refine g_gets rfl ?_
  refine g_iload_n rfl rfl ?_
  refine x_sald (i0 := 4) (v := 1) rfl (by decide) (by decide) (by show _ < ((21 : Nat) : Int); decide) rfl ?_
  refine g_icmp_ge (tgt := 78) rfl (by decide) (fun hx => absurd hx (by omega)) (fun _ => ?_)
  refine g_aload_n rfl rfl ?_
  refine g_cV (as := []) (s_adv9 hG hT hr (i := i1) (by omega) (by omega) (ht.1.trans he1)) rfl rfl mX5_advance_ok rfl rfl rfl (by decide) rfl rfl rfl ?_
  rintro _ w1 ⟨rfl, ht1, hr1, hFx1⟩ _
  have hFw1 : rF μ w1 := rF_tr rF_rf hFx1
  have hzw1 : f = 0 → f = 0 := fun z => by omega
  have hmdw1 : f = 0 → w1.1 41 7 = m := fun z => by rw [hFw1.2.1 7 (by omega)]; exact (hcR (hzw1 z)).1
  have hctw1 : f = 0 → t_cont 0 D w1 := fun z => t_cont_F hFw1.1 (hcR (hzw1 z)).2
  have hkb1 := t_k_b T len i1
  refine g_aload_n rfl rfl ?_
  refine x_geti (v := (t_k T len i1)) rfl rfl (by decide) (Or.inl rfl) ht1.2.1 ?_
  refine g_iconst rfl ⟨by decide, by decide⟩ ?_
  refine g_icmp_eq (tgt := 51) rfl (by decide) (fun h1 => ?_) (fun h1 => ?_)
  · refine g_iload rfl rfl ?_
    refine g_if_ne (tgt := 66) rfl (by decide) (fun hx => absurd hx (by omega)) (fun _ => ?_)
    refine g_aload_n rfl rfl ?_
    refine x_geti (v := (t_v T len i1)) rfl rfl (by decide) (Or.inl rfl) (ht1.2.2.2 (by omega)) ?_
    refine g_istore_n rfl rfl rfl ?_
    refine g_aload_n rfl rfl ?_
    refine g_iload_n rfl rfl ?_
    refine g_cV (as := [tI 13]) (s_cN13 (R := (m, ft, D)) hG hr1 ht1 (by omega)) rfl rfl mX5_checkNumber_ok rfl rfl rfl (by decide) rfl rfl rfl ?_
    rintro _ w2 ⟨rfl, f2, p2, heq2, hz2, hr2, ht2, hFx2⟩ _
    have hz2f : f2 = 0 → f = 0 ∧ 0 ≤ t_v T len i1 ∧ t_v T len i1 ≤ 2 := fun z => ⟨(hz2 z).1, (hz2 z).2.1, (hz2 z).2.2⟩
    have hFw2 : rF μ w2 := rF_tr hFw1 hFx2
    have hzw2 : f2 = 0 → f = 0 := fun z => by omega
    have hmdw2 : f2 = 0 → w2.1 41 7 = m := fun z => by rw [hFw2.2.1 7 (by omega)]; exact (hcR (hzw2 z)).1
    have hctw2 : f2 = 0 → t_cont 0 D w2 := fun z => t_cont_F hFw2.1 (hcR (hzw2 z)).2
    refine g_aload_n rfl rfl ?_
    refine x_geti (v := (t_v T len i1)) rfl rfl (by decide) (Or.inl rfl) (ht2.2.2.2 (by omega)) ?_
    refine g_istore rfl rfl rfl ?_
    refine x_iinc (z := 1) rfl rfl (by omega) ⟨by omega, by omega⟩ rfl rfl ?_
    refine g_goto (tgt := 27) rfl (by decide) ?_
    refine g_iload rfl rfl ?_
    refine g_gets rfl ?_
    refine g_iload_n rfl rfl ?_
    refine x_sald (i0 := 4) (v := 1) rfl (by decide) (by decide) (by show _ < ((21 : Nat) : Int); decide) rfl ?_
    refine g_icmp_ge (tgt := 78) rfl (by decide) (fun _ => ?_) (fun hx => absurd hx (by omega))
    refine g_aload_n rfl rfl ?_
    refine g_cV (as := []) (s_adv9 hG hT hr2 (i := i2) (by omega) (by omega) (ht2.1.trans he2)) rfl rfl mX5_advance_ok rfl rfl rfl (by decide) rfl rfl rfl ?_
    rintro _ w3 ⟨rfl, ht3, hr3, hFx3⟩ _
    have hFw3 : rF μ w3 := rF_tr hFw2 hFx3
    have hzw3 : f2 = 0 → f = 0 := fun z => by omega
    have hmdw3 : f2 = 0 → w3.1 41 7 = m := fun z => by rw [hFw3.2.1 7 (by omega)]; exact (hcR (hzw3 z)).1
    have hctw3 : f2 = 0 → t_cont 0 D w3 := fun z => t_cont_F hFw3.1 (hcR (hzw3 z)).2
    have hkb2 := t_k_b T len i2
    refine g_aload_n rfl rfl ?_
    refine x_geti (v := (t_k T len i2)) rfl rfl (by decide) (Or.inl rfl) ht3.2.1 ?_
    refine g_iconst rfl ⟨by decide, by decide⟩ ?_
    refine g_icmp_eq (tgt := 92) rfl (by decide) (fun h2 => ?_) (fun h2 => ?_)
    · refine g_aload_n rfl rfl ?_
      refine x_geti (v := f2) rfl rfl (by decide) (Or.inl rfl) hr3.2.1.1 ?_
      refine g_if_ne (tgt := 107) rfl (by decide) (fun h3 => ?_) (fun h3 => ?_)
      · refine g_iconst rfl ⟨by decide, by decide⟩ ?_
        refine x_zreturn rfl rfl (Or.inr rfl) ?_
        rw [t_ln_w hwx (by decide), t_l0_1y rfl he1 he2 (by omega) (by omega), t_cnt_c (by decide), heq2]
        exact ⟨rfl, fun z => absurd (show (1 : Int) = 0 from z) (by decide), fun _ => ⟨ht3.1, ⟨hr3.2.1, hr3.2.2, fun z => absurd z (by show ¬ f2 = 0; omega)⟩⟩, o_F_r hFw3⟩
      · refine g_aload_n rfl rfl ?_
        refine g_iload_n rfl rfl ?_
        refine g_iload_n rfl rfl ?_
        refine g_iload rfl rfl ?_
        refine g_iV (as := [tI 13, tI (t_v T len i1), tI (t_v T len i1)]) mX5_take_ok rfl rfl rfl rfl rfl rfl (by decide) rfl rfl rfl ?_
        refine g_iload_n rfl rfl ?_
        refine g_bipush rfl ⟨by decide, by decide⟩ (by decide) ?_
        refine g_icmp_ge (tgt := 35) rfl (by decide) (fun _ => ?_) (fun hx => absurd hx (by omega))
        refine g_iload_n rfl rfl ?_
        refine g_bipush rfl ⟨by decide, by decide⟩ (by decide) ?_
        refine g_icmp_ne (tgt := 49) rfl (by decide) (fun _ => ?_) (fun hx => absurd hx (by omega))
        refine g_iload_n rfl rfl ?_
        refine g_bipush rfl ⟨by decide, by decide⟩ (by decide) ?_
        refine g_icmp_ge (tgt := 70) rfl (by decide) (fun hx => absurd hx (by omega)) (fun _ => ?_)
        refine g_aload_n rfl rfl ?_
        refine x_getF (r := 42) hG rfl rfl (by decide) (Or.inl ⟨_, rfl⟩) rfl ?_
        refine g_iload_n rfl rfl ?_
        refine g_bipush rfl ⟨by decide, by decide⟩ (by decide) ?_
        refine x_isub (z := 5) rfl (by omega) ⟨by omega, by omega⟩ ?_
        refine g_iload_n rfl rfl ?_
        refine g_iV (as := [tI 5, tI (t_v T len i1)]) mX0_setRule_ok rfl rfl rfl rfl rfl rfl (by decide) rfl rfl rfl ?_
        refine g_iload_n rfl rfl ?_
        refine g_if_lt (tgt := 17) rfl (by decide) (fun hx => absurd hx (by omega)) (fun _ => ?_)
        refine g_iload_n rfl rfl ?_
        refine g_bipush rfl ⟨by decide, by decide⟩ (by decide) ?_
        refine g_icmp_ge (tgt := 17) rfl (by decide) (fun hx => absurd hx (by omega)) (fun _ => ?_)
        refine g_aload_n rfl rfl ?_
        refine x_getF (r := 46) hG rfl rfl (by decide) (Or.inr ⟨_, rfl⟩) rfl ?_
        refine g_iload_n rfl rfl ?_
        refine g_iload_n rfl rfl ?_
        refine g_iast rfl rfl (by decide) (by decide) (by decide) ?_
        refine x_return rfl rfl ?_
        intro _
        refine g_goto (tgt := 158) rfl (by decide) ?_
        refine x_return rfl rfl ?_
        intro _
        refine g_iconst rfl ⟨by decide, by decide⟩ ?_
        refine x_zreturn rfl rfl (Or.inr rfl) ?_
        rw [t_ln_w hwx (by decide), t_l0_1y rfl he1 he2 (by omega) (by omega), t_cnt_c (by decide), heq2]
        exact ⟨rfl, fun z => absurd (show (1 : Int) = 0 from z) (by decide), fun _ => ⟨ht3.1, ⟨⟨hr3.2.1.1, hr3.2.1.2.1, hr3.2.1.2.2⟩, hr3.2.2, fun _ => ⟨hmdw3 (by omega), by show t_cont 0 (t_D 13 (t_rw 13 (t_v T len i1)) 0 m D) _; rw [t_D_r (by decide), show t_rw 13 (t_v T len i1) = (t_v T len i1) from t_cl_i (by show (0 : Int) ≤ _ ∧ _ ≤ (2 : Int); omega)]; exact cont_r (r := 6) (hctw3 (by omega)) (by decide)⟩⟩⟩, (o_F_pi (by decide) (o_F_r hFw3))⟩
    · refine g_iconst rfl ⟨by decide, by decide⟩ ?_
      refine x_zreturn rfl rfl (Or.inl rfl) ?_
      rw [t_ln_w hwx (by decide), t_l0_1n rfl he1 he2 (by omega) (by omega)]
      exact ⟨rfl, fun _ => ht3.2.2.1, fun z => absurd (show (0 : Int) = 1 from z) (by decide), o_F_r hFw3⟩
  · refine g_iconst rfl ⟨by decide, by decide⟩ ?_
    refine x_zreturn rfl rfl (Or.inl rfl) ?_
    rw [t_ln_w hwx (by decide), t_l0_1a (by decide) he1 (by omega)]
    exact ⟨rfl, fun _ => ht1.2.2.1, fun z => absurd (show (0 : Int) = 1 from z) (by decide), o_F_r hFw1⟩
set_option maxHeartbeats 4000000 in
set_option maxRecDepth 100000 in
theorem s_rl14 {G : tp_G} {μ : tp_M} (hG : tp_Gf G = true) {T : Int → Int} {len i f p it m ft : Int} {D : Int → Int} (hT : ∀ j, 0 ≤ T j ∧ T j ≤ 255) (h0 : 0 ≤ i) (h1 : i ≤ len) (hr : rs T len f p it μ) (ht : tk9 T len i μ) (hcR : f = 0 → μ.1 41 7 = m ∧ t_cont 0 D μ) (hit : 0 ≤ it ∧ it ≤ 600) (hD0 : 0 ≤ D 0 ∧ D 0 ≤ it) (hwx : t_wx 0 T len i = 14) (hmx : f = 0 → it ≤ 40) : tp_k G mX5_readLine [tR (some 41), tI 0] μ (fun r μ' => o_P 0 (t_ln 0 T len i (f, p, it, m, ft, D)) μ r μ') := by
  refine tp_ok_of mX5_readLine_ok rfl (Nat.le_refl _) ?_
  obtain ⟨i1, he1⟩ : ∃ x, t_e T len i = x := ⟨_, rfl⟩
  obtain ⟨i2, he2⟩ : ∃ x, t_e T len i1 = x := ⟨_, rfl⟩
  obtain ⟨i3, he3⟩ : ∃ x, t_e T len i2 = x := ⟨_, rfl⟩
  have hb0 := t_s_B (T := T) h1
  have hb1 := t_e_B (T := T) h1
  have hb2 := t_e_B (T := T) (len := len) (i := i1) (by omega)
  have hbs1 := t_s_B (T := T) (len := len) (i := i1) (by omega)
  have hb3 := t_e_B (T := T) (len := len) (i := i2) (by omega)
  have hbs2 := t_s_B (T := T) (len := len) (i := i2) (by omega)
  have hwO : tp_k G mX5_wordOf [tR (some 41), tI 0] μ (fun r μ' => r = some (tI 14) ∧ μ' = μ) := by
    have q := s_wO0 hG hT hr.1 ht.2.2.1 ht.1 ht.2.1 (fun z => (t_k_1 h0 h1 z).1) (fun z => (t_k_1 h0 h1 z).2.1)
    rw [t_wx_o, hwx] at q
    exact q
  refine g_aload_n rfl rfl ?_
  refine g_iload_n rfl rfl ?_
  refine g_cV (as := [tI 0]) (hwO) rfl rfl mX5_wordOf_ok rfl rfl rfl (by decide) rfl rfl rfl ?_
  rintro _ w9 ⟨rfl, hw9⟩ _
  have hw9 := hw9.symm
  subst hw9
  refine g_istore_n rfl rfl rfl ?_
  refine g_iload_n rfl rfl ?_
  refine g_iconst rfl ⟨by decide, by decide⟩ ?_
  refine g_icmp_ne (tgt := 13) rfl (by decide) (fun _ => ?_) (fun hx => absurd hx (by omega))
  refine g_aload_n rfl rfl ?_
  refine g_iload_n rfl rfl ?_
  refine g_iload_n rfl rfl ?_
  refine g_iV (as := [tI 0, tI 14]) mX5_countItem_ok rfl rfl rfl rfl rfl rfl (by decide) rfl rfl rfl ?_
  refine g_iload_n rfl rfl ?_
  refine g_bipush rfl ⟨by decide, by decide⟩ (by decide) ?_
  refine g_icmp_lt (tgt := 13) rfl (by decide) (fun hx => absurd hx (by omega)) (fun _ => ?_)
  refine g_iload_n rfl rfl ?_
  refine g_bipush rfl ⟨by decide, by decide⟩ (by decide) ?_
  refine g_icmp_ge (tgt := 13) rfl (by decide) (fun hx => absurd hx (by omega)) (fun _ => ?_)
  refine x_return rfl rfl ?_
  intro _
  refine g_iconst rfl ⟨by decide, by decide⟩ ?_
  refine g_istore_n rfl rfl rfl ?_
  refine g_iconst rfl ⟨by decide, by decide⟩ ?_
  refine g_istore rfl rfl rfl ?_
  refine g_iconst rfl ⟨by decide, by decide⟩ ?_
  refine g_istore rfl rfl rfl ?_
  refine g_iload rfl rfl ?_
  refine g_gets rfl ?_
  refine g_iload_n rfl rfl ?_
  refine x_sald (i0 := 4) (v := 1) rfl (by decide) (by decide) (by show _ < ((21 : Nat) : Int); decide) rfl ?_
  refine g_icmp_ge (tgt := 78) rfl (by decide) (fun hx => absurd hx (by omega)) (fun _ => ?_)
  refine g_aload_n rfl rfl ?_
  refine g_cV (as := []) (s_adv9 hG hT hr (i := i1) (by omega) (by omega) (ht.1.trans he1)) rfl rfl mX5_advance_ok rfl rfl rfl (by decide) rfl rfl rfl ?_
  rintro _ w1 ⟨rfl, ht1, hr1, hFx1⟩ _
  have hFw1 : rF μ w1 := rF_tr rF_rf hFx1
  have hzw1 : f = 0 → f = 0 := fun z => by omega
  have hmdw1 : f = 0 → w1.1 41 7 = m := fun z => by rw [hFw1.2.1 7 (by omega)]; exact (hcR (hzw1 z)).1
  have hctw1 : f = 0 → t_cont 0 D w1 := fun z => t_cont_F hFw1.1 (hcR (hzw1 z)).2
  have hkb1 := t_k_b T len i1
  refine g_aload_n rfl rfl ?_
  refine x_geti (v := (t_k T len i1)) rfl rfl (by decide) (Or.inl rfl) ht1.2.1 ?_
  refine g_iconst rfl ⟨by decide, by decide⟩ ?_
  refine g_icmp_eq (tgt := 51) rfl (by decide) (fun h1 => ?_) (fun h1 => ?_)
  · refine g_iload rfl rfl ?_
    refine g_if_ne (tgt := 66) rfl (by decide) (fun hx => absurd hx (by omega)) (fun _ => ?_)
    refine g_aload_n rfl rfl ?_
    refine x_geti (v := (t_v T len i1)) rfl rfl (by decide) (Or.inl rfl) (ht1.2.2.2 (by omega)) ?_
    refine g_istore_n rfl rfl rfl ?_
    refine g_aload_n rfl rfl ?_
    refine g_iload_n rfl rfl ?_
    refine g_cV (as := [tI 14]) (s_cN14 (R := (m, ft, D)) hG hr1 ht1 (by omega)) rfl rfl mX5_checkNumber_ok rfl rfl rfl (by decide) rfl rfl rfl ?_
    rintro _ w2 ⟨rfl, f2, p2, heq2, hz2, hr2, ht2, hFx2⟩ _
    have hz2f : f2 = 0 → f = 0 ∧ 3 ≤ t_v T len i1 ∧ t_v T len i1 ≤ 9 := fun z => ⟨(hz2 z).1, (hz2 z).2.1, (hz2 z).2.2⟩
    have hFw2 : rF μ w2 := rF_tr hFw1 hFx2
    have hzw2 : f2 = 0 → f = 0 := fun z => by omega
    have hmdw2 : f2 = 0 → w2.1 41 7 = m := fun z => by rw [hFw2.2.1 7 (by omega)]; exact (hcR (hzw2 z)).1
    have hctw2 : f2 = 0 → t_cont 0 D w2 := fun z => t_cont_F hFw2.1 (hcR (hzw2 z)).2
    refine g_aload_n rfl rfl ?_
    refine x_geti (v := (t_v T len i1)) rfl rfl (by decide) (Or.inl rfl) (ht2.2.2.2 (by omega)) ?_
    refine g_istore rfl rfl rfl ?_
    refine x_iinc (z := 1) rfl rfl (by omega) ⟨by omega, by omega⟩ rfl rfl ?_
    refine g_goto (tgt := 27) rfl (by decide) ?_
    refine g_iload rfl rfl ?_
    refine g_gets rfl ?_
    refine g_iload_n rfl rfl ?_
    refine x_sald (i0 := 4) (v := 1) rfl (by decide) (by decide) (by show _ < ((21 : Nat) : Int); decide) rfl ?_
    refine g_icmp_ge (tgt := 78) rfl (by decide) (fun _ => ?_) (fun hx => absurd hx (by omega))
    refine g_aload_n rfl rfl ?_
    refine g_cV (as := []) (s_adv9 hG hT hr2 (i := i2) (by omega) (by omega) (ht2.1.trans he2)) rfl rfl mX5_advance_ok rfl rfl rfl (by decide) rfl rfl rfl ?_
    rintro _ w3 ⟨rfl, ht3, hr3, hFx3⟩ _
    have hFw3 : rF μ w3 := rF_tr hFw2 hFx3
    have hzw3 : f2 = 0 → f = 0 := fun z => by omega
    have hmdw3 : f2 = 0 → w3.1 41 7 = m := fun z => by rw [hFw3.2.1 7 (by omega)]; exact (hcR (hzw3 z)).1
    have hctw3 : f2 = 0 → t_cont 0 D w3 := fun z => t_cont_F hFw3.1 (hcR (hzw3 z)).2
    have hkb2 := t_k_b T len i2
    refine g_aload_n rfl rfl ?_
    refine x_geti (v := (t_k T len i2)) rfl rfl (by decide) (Or.inl rfl) ht3.2.1 ?_
    refine g_iconst rfl ⟨by decide, by decide⟩ ?_
    refine g_icmp_eq (tgt := 92) rfl (by decide) (fun h2 => ?_) (fun h2 => ?_)
    · refine g_aload_n rfl rfl ?_
      refine x_geti (v := f2) rfl rfl (by decide) (Or.inl rfl) hr3.2.1.1 ?_
      refine g_if_ne (tgt := 107) rfl (by decide) (fun h3 => ?_) (fun h3 => ?_)
      · refine g_iconst rfl ⟨by decide, by decide⟩ ?_
        refine x_zreturn rfl rfl (Or.inr rfl) ?_
        rw [t_ln_w hwx (by decide), t_l0_1y rfl he1 he2 (by omega) (by omega), t_cnt_c (by decide), heq2]
        exact ⟨rfl, fun z => absurd (show (1 : Int) = 0 from z) (by decide), fun _ => ⟨ht3.1, ⟨hr3.2.1, hr3.2.2, fun z => absurd z (by show ¬ f2 = 0; omega)⟩⟩, o_F_r hFw3⟩
      · refine g_aload_n rfl rfl ?_
        refine g_iload_n rfl rfl ?_
        refine g_iload_n rfl rfl ?_
        refine g_iload rfl rfl ?_
        refine g_iV (as := [tI 14, tI (t_v T len i1), tI (t_v T len i1)]) mX5_take_ok rfl rfl rfl rfl rfl rfl (by decide) rfl rfl rfl ?_
        refine g_iload_n rfl rfl ?_
        refine g_bipush rfl ⟨by decide, by decide⟩ (by decide) ?_
        refine g_icmp_ge (tgt := 35) rfl (by decide) (fun _ => ?_) (fun hx => absurd hx (by omega))
        refine g_iload_n rfl rfl ?_
        refine g_bipush rfl ⟨by decide, by decide⟩ (by decide) ?_
        refine g_icmp_ne (tgt := 49) rfl (by decide) (fun _ => ?_) (fun hx => absurd hx (by omega))
        refine g_iload_n rfl rfl ?_
        refine g_bipush rfl ⟨by decide, by decide⟩ (by decide) ?_
        refine g_icmp_ge (tgt := 70) rfl (by decide) (fun hx => absurd hx (by omega)) (fun _ => ?_)
        refine g_aload_n rfl rfl ?_
        refine x_getF (r := 42) hG rfl rfl (by decide) (Or.inl ⟨_, rfl⟩) rfl ?_
        refine g_iload_n rfl rfl ?_
        refine g_bipush rfl ⟨by decide, by decide⟩ (by decide) ?_
        refine x_isub (z := 6) rfl (by omega) ⟨by omega, by omega⟩ ?_
        refine g_iload_n rfl rfl ?_
        refine g_iV (as := [tI 6, tI (t_v T len i1)]) mX0_setRule_ok rfl rfl rfl rfl rfl rfl (by decide) rfl rfl rfl ?_
        refine g_iload_n rfl rfl ?_
        refine g_if_lt (tgt := 17) rfl (by decide) (fun hx => absurd hx (by omega)) (fun _ => ?_)
        refine g_iload_n rfl rfl ?_
        refine g_bipush rfl ⟨by decide, by decide⟩ (by decide) ?_
        refine g_icmp_ge (tgt := 17) rfl (by decide) (fun hx => absurd hx (by omega)) (fun _ => ?_)
        refine g_aload_n rfl rfl ?_
        refine x_getF (r := 46) hG rfl rfl (by decide) (Or.inr ⟨_, rfl⟩) rfl ?_
        refine g_iload_n rfl rfl ?_
        refine g_iload_n rfl rfl ?_
        refine g_iast rfl rfl (by decide) (by decide) (by decide) ?_
        refine x_return rfl rfl ?_
        intro _
        refine g_goto (tgt := 158) rfl (by decide) ?_
        refine x_return rfl rfl ?_
        intro _
        refine g_iconst rfl ⟨by decide, by decide⟩ ?_
        refine x_zreturn rfl rfl (Or.inr rfl) ?_
        rw [t_ln_w hwx (by decide), t_l0_1y rfl he1 he2 (by omega) (by omega), t_cnt_c (by decide), heq2]
        exact ⟨rfl, fun z => absurd (show (1 : Int) = 0 from z) (by decide), fun _ => ⟨ht3.1, ⟨⟨hr3.2.1.1, hr3.2.1.2.1, hr3.2.1.2.2⟩, hr3.2.2, fun _ => ⟨hmdw3 (by omega), by show t_cont 0 (t_D 14 (t_rw 14 (t_v T len i1)) 0 m D) _; rw [t_D_r (by decide), show t_rw 14 (t_v T len i1) = (t_v T len i1) from t_cl_i (by show (3 : Int) ≤ _ ∧ _ ≤ (9 : Int); omega)]; exact cont_r (r := 7) (hctw3 (by omega)) (by decide)⟩⟩⟩, (o_F_pi (by decide) (o_F_r hFw3))⟩
    · refine g_iconst rfl ⟨by decide, by decide⟩ ?_
      refine x_zreturn rfl rfl (Or.inl rfl) ?_
      rw [t_ln_w hwx (by decide), t_l0_1n rfl he1 he2 (by omega) (by omega)]
      exact ⟨rfl, fun _ => ht3.2.2.1, fun z => absurd (show (0 : Int) = 1 from z) (by decide), o_F_r hFw3⟩
  · refine g_iconst rfl ⟨by decide, by decide⟩ ?_
    refine x_zreturn rfl rfl (Or.inl rfl) ?_
    rw [t_ln_w hwx (by decide), t_l0_1a (by decide) he1 (by omega)]
    exact ⟨rfl, fun _ => ht1.2.2.1, fun z => absurd (show (0 : Int) = 1 from z) (by decide), o_F_r hFw1⟩
set_option maxHeartbeats 4000000 in
set_option maxRecDepth 100000 in
theorem s_rl15 {G : tp_G} {μ : tp_M} (hG : tp_Gf G = true) {T : Int → Int} {len i f p it m ft : Int} {D : Int → Int} (hT : ∀ j, 0 ≤ T j ∧ T j ≤ 255) (h0 : 0 ≤ i) (h1 : i ≤ len) (hr : rs T len f p it μ) (ht : tk9 T len i μ) (hcR : f = 0 → μ.1 41 7 = m ∧ t_cont 0 D μ) (hit : 0 ≤ it ∧ it ≤ 600) (hD0 : 0 ≤ D 0 ∧ D 0 ≤ it) (hwx : t_wx 0 T len i = 15) (hmx : f = 0 → it ≤ 40) : tp_k G mX5_readLine [tR (some 41), tI 0] μ (fun r μ' => o_P 0 (t_ln 0 T len i (f, p, it, m, ft, D)) μ r μ') := by
  refine tp_ok_of mX5_readLine_ok rfl (Nat.le_refl _) ?_
  obtain ⟨i1, he1⟩ : ∃ x, t_e T len i = x := ⟨_, rfl⟩
  obtain ⟨i2, he2⟩ : ∃ x, t_e T len i1 = x := ⟨_, rfl⟩
  obtain ⟨i3, he3⟩ : ∃ x, t_e T len i2 = x := ⟨_, rfl⟩
  have hb0 := t_s_B (T := T) h1
  have hb1 := t_e_B (T := T) h1
  have hb2 := t_e_B (T := T) (len := len) (i := i1) (by omega)
  have hbs1 := t_s_B (T := T) (len := len) (i := i1) (by omega)
  have hb3 := t_e_B (T := T) (len := len) (i := i2) (by omega)
  have hbs2 := t_s_B (T := T) (len := len) (i := i2) (by omega)
  have hwO : tp_k G mX5_wordOf [tR (some 41), tI 0] μ (fun r μ' => r = some (tI 15) ∧ μ' = μ) := by
    have q := s_wO0 hG hT hr.1 ht.2.2.1 ht.1 ht.2.1 (fun z => (t_k_1 h0 h1 z).1) (fun z => (t_k_1 h0 h1 z).2.1)
    rw [t_wx_o, hwx] at q
    exact q
  refine g_aload_n rfl rfl ?_
  refine g_iload_n rfl rfl ?_
  refine g_cV (as := [tI 0]) (hwO) rfl rfl mX5_wordOf_ok rfl rfl rfl (by decide) rfl rfl rfl ?_
  rintro _ w9 ⟨rfl, hw9⟩ _
  have hw9 := hw9.symm
  subst hw9
  refine g_istore_n rfl rfl rfl ?_
  refine g_iload_n rfl rfl ?_
  refine g_iconst rfl ⟨by decide, by decide⟩ ?_
  refine g_icmp_ne (tgt := 13) rfl (by decide) (fun _ => ?_) (fun hx => absurd hx (by omega))
  refine g_aload_n rfl rfl ?_
  refine g_iload_n rfl rfl ?_
  refine g_iload_n rfl rfl ?_
  refine g_iV (as := [tI 0, tI 15]) mX5_countItem_ok rfl rfl rfl rfl rfl rfl (by decide) rfl rfl rfl ?_
  refine g_iload_n rfl rfl ?_
  refine g_bipush rfl ⟨by decide, by decide⟩ (by decide) ?_
  refine g_icmp_lt (tgt := 13) rfl (by decide) (fun hx => absurd hx (by omega)) (fun _ => ?_)
  refine g_iload_n rfl rfl ?_
  refine g_bipush rfl ⟨by decide, by decide⟩ (by decide) ?_
  refine g_icmp_ge (tgt := 13) rfl (by decide) (fun hx => absurd hx (by omega)) (fun _ => ?_)
  refine x_return rfl rfl ?_
  intro _
  refine g_iconst rfl ⟨by decide, by decide⟩ ?_
  refine g_istore_n rfl rfl rfl ?_
  refine g_iconst rfl ⟨by decide, by decide⟩ ?_
  refine g_istore rfl rfl rfl ?_
  refine g_iconst rfl ⟨by decide, by decide⟩ ?_
  refine g_istore rfl rfl rfl ?_
  refine g_iload rfl rfl ?_
  refine g_gets rfl ?_
  refine g_iload_n rfl rfl ?_
  refine x_sald (i0 := 4) (v := 1) rfl (by decide) (by decide) (by show _ < ((21 : Nat) : Int); decide) rfl ?_
  refine g_icmp_ge (tgt := 78) rfl (by decide) (fun hx => absurd hx (by omega)) (fun _ => ?_)
  refine g_aload_n rfl rfl ?_
  refine g_cV (as := []) (s_adv9 hG hT hr (i := i1) (by omega) (by omega) (ht.1.trans he1)) rfl rfl mX5_advance_ok rfl rfl rfl (by decide) rfl rfl rfl ?_
  rintro _ w1 ⟨rfl, ht1, hr1, hFx1⟩ _
  have hFw1 : rF μ w1 := rF_tr rF_rf hFx1
  have hzw1 : f = 0 → f = 0 := fun z => by omega
  have hmdw1 : f = 0 → w1.1 41 7 = m := fun z => by rw [hFw1.2.1 7 (by omega)]; exact (hcR (hzw1 z)).1
  have hctw1 : f = 0 → t_cont 0 D w1 := fun z => t_cont_F hFw1.1 (hcR (hzw1 z)).2
  have hkb1 := t_k_b T len i1
  refine g_aload_n rfl rfl ?_
  refine x_geti (v := (t_k T len i1)) rfl rfl (by decide) (Or.inl rfl) ht1.2.1 ?_
  refine g_iconst rfl ⟨by decide, by decide⟩ ?_
  refine g_icmp_eq (tgt := 51) rfl (by decide) (fun h1 => ?_) (fun h1 => ?_)
  · refine g_iload rfl rfl ?_
    refine g_if_ne (tgt := 66) rfl (by decide) (fun hx => absurd hx (by omega)) (fun _ => ?_)
    refine g_aload_n rfl rfl ?_
    refine x_geti (v := (t_v T len i1)) rfl rfl (by decide) (Or.inl rfl) (ht1.2.2.2 (by omega)) ?_
    refine g_istore_n rfl rfl rfl ?_
    refine g_aload_n rfl rfl ?_
    refine g_iload_n rfl rfl ?_
    refine g_cV (as := [tI 15]) (s_cN15 (R := (m, ft, D)) hG hr1 ht1 (by omega)) rfl rfl mX5_checkNumber_ok rfl rfl rfl (by decide) rfl rfl rfl ?_
    rintro _ w2 ⟨rfl, f2, p2, heq2, hz2, hr2, ht2, hFx2⟩ _
    have hz2f : f2 = 0 → f = 0 ∧ 1 ≤ t_v T len i1 ∧ t_v T len i1 ≤ 9 := fun z => ⟨(hz2 z).1, (hz2 z).2.1, (hz2 z).2.2⟩
    have hFw2 : rF μ w2 := rF_tr hFw1 hFx2
    have hzw2 : f2 = 0 → f = 0 := fun z => by omega
    have hmdw2 : f2 = 0 → w2.1 41 7 = m := fun z => by rw [hFw2.2.1 7 (by omega)]; exact (hcR (hzw2 z)).1
    have hctw2 : f2 = 0 → t_cont 0 D w2 := fun z => t_cont_F hFw2.1 (hcR (hzw2 z)).2
    refine g_aload_n rfl rfl ?_
    refine x_geti (v := (t_v T len i1)) rfl rfl (by decide) (Or.inl rfl) (ht2.2.2.2 (by omega)) ?_
    refine g_istore rfl rfl rfl ?_
    refine x_iinc (z := 1) rfl rfl (by omega) ⟨by omega, by omega⟩ rfl rfl ?_
    refine g_goto (tgt := 27) rfl (by decide) ?_
    refine g_iload rfl rfl ?_
    refine g_gets rfl ?_
    refine g_iload_n rfl rfl ?_
    refine x_sald (i0 := 4) (v := 1) rfl (by decide) (by decide) (by show _ < ((21 : Nat) : Int); decide) rfl ?_
    refine g_icmp_ge (tgt := 78) rfl (by decide) (fun _ => ?_) (fun hx => absurd hx (by omega))
    refine g_aload_n rfl rfl ?_
    refine g_cV (as := []) (s_adv9 hG hT hr2 (i := i2) (by omega) (by omega) (ht2.1.trans he2)) rfl rfl mX5_advance_ok rfl rfl rfl (by decide) rfl rfl rfl ?_
    rintro _ w3 ⟨rfl, ht3, hr3, hFx3⟩ _
    have hFw3 : rF μ w3 := rF_tr hFw2 hFx3
    have hzw3 : f2 = 0 → f = 0 := fun z => by omega
    have hmdw3 : f2 = 0 → w3.1 41 7 = m := fun z => by rw [hFw3.2.1 7 (by omega)]; exact (hcR (hzw3 z)).1
    have hctw3 : f2 = 0 → t_cont 0 D w3 := fun z => t_cont_F hFw3.1 (hcR (hzw3 z)).2
    have hkb2 := t_k_b T len i2
    refine g_aload_n rfl rfl ?_
    refine x_geti (v := (t_k T len i2)) rfl rfl (by decide) (Or.inl rfl) ht3.2.1 ?_
    refine g_iconst rfl ⟨by decide, by decide⟩ ?_
    refine g_icmp_eq (tgt := 92) rfl (by decide) (fun h2 => ?_) (fun h2 => ?_)
    · refine g_aload_n rfl rfl ?_
      refine x_geti (v := f2) rfl rfl (by decide) (Or.inl rfl) hr3.2.1.1 ?_
      refine g_if_ne (tgt := 107) rfl (by decide) (fun h3 => ?_) (fun h3 => ?_)
      · refine g_iconst rfl ⟨by decide, by decide⟩ ?_
        refine x_zreturn rfl rfl (Or.inr rfl) ?_
        rw [t_ln_w hwx (by decide), t_l0_1y rfl he1 he2 (by omega) (by omega), t_cnt_c (by decide), heq2]
        exact ⟨rfl, fun z => absurd (show (1 : Int) = 0 from z) (by decide), fun _ => ⟨ht3.1, ⟨hr3.2.1, hr3.2.2, fun z => absurd z (by show ¬ f2 = 0; omega)⟩⟩, o_F_r hFw3⟩
      · refine g_aload_n rfl rfl ?_
        refine g_iload_n rfl rfl ?_
        refine g_iload_n rfl rfl ?_
        refine g_iload rfl rfl ?_
        refine g_iV (as := [tI 15, tI (t_v T len i1), tI (t_v T len i1)]) mX5_take_ok rfl rfl rfl rfl rfl rfl (by decide) rfl rfl rfl ?_
        refine g_iload_n rfl rfl ?_
        refine g_bipush rfl ⟨by decide, by decide⟩ (by decide) ?_
        refine g_icmp_ge (tgt := 35) rfl (by decide) (fun _ => ?_) (fun hx => absurd hx (by omega))
        refine g_iload_n rfl rfl ?_
        refine g_bipush rfl ⟨by decide, by decide⟩ (by decide) ?_
        refine g_icmp_ne (tgt := 49) rfl (by decide) (fun _ => ?_) (fun hx => absurd hx (by omega))
        refine g_iload_n rfl rfl ?_
        refine g_bipush rfl ⟨by decide, by decide⟩ (by decide) ?_
        refine g_icmp_ge (tgt := 70) rfl (by decide) (fun hx => absurd hx (by omega)) (fun _ => ?_)
        refine g_aload_n rfl rfl ?_
        refine x_getF (r := 42) hG rfl rfl (by decide) (Or.inl ⟨_, rfl⟩) rfl ?_
        refine g_iload_n rfl rfl ?_
        refine g_bipush rfl ⟨by decide, by decide⟩ (by decide) ?_
        refine x_isub (z := 7) rfl (by omega) ⟨by omega, by omega⟩ ?_
        refine g_iload_n rfl rfl ?_
        refine g_iV (as := [tI 7, tI (t_v T len i1)]) mX0_setRule_ok rfl rfl rfl rfl rfl rfl (by decide) rfl rfl rfl ?_
        refine g_iload_n rfl rfl ?_
        refine g_if_lt (tgt := 17) rfl (by decide) (fun hx => absurd hx (by omega)) (fun _ => ?_)
        refine g_iload_n rfl rfl ?_
        refine g_bipush rfl ⟨by decide, by decide⟩ (by decide) ?_
        refine g_icmp_ge (tgt := 17) rfl (by decide) (fun hx => absurd hx (by omega)) (fun _ => ?_)
        refine g_aload_n rfl rfl ?_
        refine x_getF (r := 46) hG rfl rfl (by decide) (Or.inr ⟨_, rfl⟩) rfl ?_
        refine g_iload_n rfl rfl ?_
        refine g_iload_n rfl rfl ?_
        refine g_iast rfl rfl (by decide) (by decide) (by decide) ?_
        refine x_return rfl rfl ?_
        intro _
        refine g_goto (tgt := 158) rfl (by decide) ?_
        refine x_return rfl rfl ?_
        intro _
        refine g_iconst rfl ⟨by decide, by decide⟩ ?_
        refine x_zreturn rfl rfl (Or.inr rfl) ?_
        rw [t_ln_w hwx (by decide), t_l0_1y rfl he1 he2 (by omega) (by omega), t_cnt_c (by decide), heq2]
        exact ⟨rfl, fun z => absurd (show (1 : Int) = 0 from z) (by decide), fun _ => ⟨ht3.1, ⟨⟨hr3.2.1.1, hr3.2.1.2.1, hr3.2.1.2.2⟩, hr3.2.2, fun _ => ⟨hmdw3 (by omega), by show t_cont 0 (t_D 15 (t_rw 15 (t_v T len i1)) 0 m D) _; rw [t_D_r (by decide), show t_rw 15 (t_v T len i1) = (t_v T len i1) from t_cl_i (by show (1 : Int) ≤ _ ∧ _ ≤ (9 : Int); omega)]; exact cont_r (r := 8) (hctw3 (by omega)) (by decide)⟩⟩⟩, (o_F_pi (by decide) (o_F_r hFw3))⟩
    · refine g_iconst rfl ⟨by decide, by decide⟩ ?_
      refine x_zreturn rfl rfl (Or.inl rfl) ?_
      rw [t_ln_w hwx (by decide), t_l0_1n rfl he1 he2 (by omega) (by omega)]
      exact ⟨rfl, fun _ => ht3.2.2.1, fun z => absurd (show (0 : Int) = 1 from z) (by decide), o_F_r hFw3⟩
  · refine g_iconst rfl ⟨by decide, by decide⟩ ?_
    refine x_zreturn rfl rfl (Or.inl rfl) ?_
    rw [t_ln_w hwx (by decide), t_l0_1a (by decide) he1 (by omega)]
    exact ⟨rfl, fun _ => ht1.2.2.1, fun z => absurd (show (0 : Int) = 1 from z) (by decide), o_F_r hFw1⟩
set_option maxHeartbeats 4000000 in
set_option maxRecDepth 100000 in
theorem s_rl16 {G : tp_G} {μ : tp_M} (hG : tp_Gf G = true) {T : Int → Int} {len i f p it m ft : Int} {D : Int → Int} (hT : ∀ j, 0 ≤ T j ∧ T j ≤ 255) (h0 : 0 ≤ i) (h1 : i ≤ len) (hr : rs T len f p it μ) (ht : tk9 T len i μ) (hcR : f = 0 → μ.1 41 7 = m ∧ t_cont 1 D μ) (hit : 0 ≤ it ∧ it ≤ 600) (hD0 : 0 ≤ D 0 ∧ D 0 ≤ it) (hwx : t_wx 1 T len i = 16) (hmx : f = 0 → it ≤ 60) : tp_k G mX5_readLine [tR (some 41), tI 1] μ (fun r μ' => o_P 1 (t_ln 1 T len i (f, p, it, m, ft, D)) μ r μ') := by
  refine tp_ok_of mX5_readLine_ok rfl (Nat.le_refl _) ?_
  obtain ⟨i1, he1⟩ : ∃ x, t_e T len i = x := ⟨_, rfl⟩
  obtain ⟨i2, he2⟩ : ∃ x, t_e T len i1 = x := ⟨_, rfl⟩
  obtain ⟨i3, he3⟩ : ∃ x, t_e T len i2 = x := ⟨_, rfl⟩
  have hb0 := t_s_B (T := T) h1
  have hb1 := t_e_B (T := T) h1
  have hb2 := t_e_B (T := T) (len := len) (i := i1) (by omega)
  have hbs1 := t_s_B (T := T) (len := len) (i := i1) (by omega)
  have hb3 := t_e_B (T := T) (len := len) (i := i2) (by omega)
  have hbs2 := t_s_B (T := T) (len := len) (i := i2) (by omega)
  have hwO : tp_k G mX5_wordOf [tR (some 41), tI 1] μ (fun r μ' => r = some (tI 16) ∧ μ' = μ) := by
    have q := s_wO1 hG hT hr.1 ht.2.2.1 ht.1 ht.2.1 (fun z => (t_k_1 h0 h1 z).1) (fun z => (t_k_1 h0 h1 z).2.1)
    rw [t_wx_o, hwx] at q
    exact q
  refine g_aload_n rfl rfl ?_
  refine g_iload_n rfl rfl ?_
  refine g_cV (as := [tI 1]) (hwO) rfl rfl mX5_wordOf_ok rfl rfl rfl (by decide) rfl rfl rfl ?_
  rintro _ w9 ⟨rfl, hw9⟩ _
  have hw9 := hw9.symm
  subst hw9
  refine g_istore_n rfl rfl rfl ?_
  refine g_iload_n rfl rfl ?_
  refine g_iconst rfl ⟨by decide, by decide⟩ ?_
  refine g_icmp_ne (tgt := 13) rfl (by decide) (fun _ => ?_) (fun hx => absurd hx (by omega))
  refine g_aload_n rfl rfl ?_
  refine g_iload_n rfl rfl ?_
  refine g_iload_n rfl rfl ?_
  refine g_cV (as := [tI 1, tI 16]) (s_cI1b (m := m) (ft := ft) (D := D) hG hr ht hit (by omega)) rfl rfl mX5_countItem_ok rfl rfl rfl (by decide) rfl rfl rfl ?_
  rintro _ w1 ⟨rfl, f1, p1, heq1, hz1, hr1, ht1, hFx1⟩ _
  have hz1f : f1 = 0 → f = 0 ∧ it < 60 := fun z => ⟨(hz1 z).1, (hz1 z).2⟩
  have hFw1 : rF μ w1 := rF_tr rF_rf hFx1
  have hzw1 : f1 = 0 → f = 0 := fun z => by omega
  have hmdw1 : f1 = 0 → w1.1 41 7 = m := fun z => by rw [hFw1.2.1 7 (by omega)]; exact (hcR (hzw1 z)).1
  have hctw1 : f1 = 0 → t_cont 1 D w1 := fun z => t_cont_F hFw1.1 (hcR (hzw1 z)).2
  refine g_iconst rfl ⟨by decide, by decide⟩ ?_
  refine g_istore_n rfl rfl rfl ?_
  refine g_iconst rfl ⟨by decide, by decide⟩ ?_
  refine g_istore rfl rfl rfl ?_
  refine g_iconst rfl ⟨by decide, by decide⟩ ?_
  refine g_istore rfl rfl rfl ?_
  refine g_iload rfl rfl ?_
  refine g_gets rfl ?_
  refine g_iload_n rfl rfl ?_
  refine x_sald (i0 := 4) (v := 0) rfl (by decide) (by decide) (by show _ < ((21 : Nat) : Int); decide) rfl ?_
  refine g_icmp_ge (tgt := 78) rfl (by decide) (fun _ => ?_) (fun hx => absurd hx (by omega))
  refine g_aload_n rfl rfl ?_
  refine g_cV (as := []) (s_adv9 hG hT hr1 (i := i1) (by omega) (by omega) (ht1.1.trans he1)) rfl rfl mX5_advance_ok rfl rfl rfl (by decide) rfl rfl rfl ?_
  rintro _ w2 ⟨rfl, ht2, hr2, hFx2⟩ _
  have hFw2 : rF μ w2 := rF_tr hFw1 hFx2
  have hzw2 : f1 = 0 → f = 0 := fun z => by omega
  have hmdw2 : f1 = 0 → w2.1 41 7 = m := fun z => by rw [hFw2.2.1 7 (by omega)]; exact (hcR (hzw2 z)).1
  have hctw2 : f1 = 0 → t_cont 1 D w2 := fun z => t_cont_F hFw2.1 (hcR (hzw2 z)).2
  have hkb1 := t_k_b T len i1
  refine g_aload_n rfl rfl ?_
  refine x_geti (v := (t_k T len i1)) rfl rfl (by decide) (Or.inl rfl) ht2.2.1 ?_
  refine g_iconst rfl ⟨by decide, by decide⟩ ?_
  refine g_icmp_eq (tgt := 92) rfl (by decide) (fun h1 => ?_) (fun h1 => ?_)
  · refine g_aload_n rfl rfl ?_
    refine x_geti (v := f1) rfl rfl (by decide) (Or.inl rfl) hr2.2.1.1 ?_
    refine g_if_ne (tgt := 107) rfl (by decide) (fun h2 => ?_) (fun h2 => ?_)
    · refine g_iconst rfl ⟨by decide, by decide⟩ ?_
      refine x_zreturn rfl rfl (Or.inr rfl) ?_
      rw [t_ln_w hwx (by decide), t_l0_0y rfl he1 (by omega), heq1]
      exact ⟨rfl, fun z => absurd (show (1 : Int) = 0 from z) (by decide), fun _ => ⟨ht2.1, ⟨hr2.2.1, hr2.2.2, fun z => absurd z (by show ¬ f1 = 0; omega)⟩⟩, o_F_r hFw2⟩
    · refine g_aload_n rfl rfl ?_
      refine g_iload_n rfl rfl ?_
      refine g_iload_n rfl rfl ?_
      refine g_iload rfl rfl ?_
      refine g_iV (as := [tI 16, tI 0, tI 0]) mX5_take_ok rfl rfl rfl rfl rfl rfl (by decide) rfl rfl rfl ?_
      refine g_iload_n rfl rfl ?_
      refine g_bipush rfl ⟨by decide, by decide⟩ (by decide) ?_
      refine g_icmp_ge (tgt := 35) rfl (by decide) (fun _ => ?_) (fun hx => absurd hx (by omega))
      refine g_iload_n rfl rfl ?_
      refine g_bipush rfl ⟨by decide, by decide⟩ (by decide) ?_
      refine g_icmp_ne (tgt := 49) rfl (by decide) (fun _ => ?_) (fun hx => absurd hx (by omega))
      refine g_iload_n rfl rfl ?_
      refine g_bipush rfl ⟨by decide, by decide⟩ (by decide) ?_
      refine g_icmp_ge (tgt := 70) rfl (by decide) (fun _ => ?_) (fun hx => absurd hx (by omega))
      refine g_iload_n rfl rfl ?_
      refine g_bipush rfl ⟨by decide, by decide⟩ (by decide) ?_
      refine g_icmp_ne (tgt := 89) rfl (by decide) (fun hx => absurd hx (by omega)) (fun _ => ?_)
      refine g_aload_n rfl rfl ?_
      refine x_getF (r := 47) hG rfl rfl (by decide) (Or.inl ⟨_, rfl⟩) rfl ?_
      refine g_bipush rfl ⟨by decide, by decide⟩ (by decide) ?_
      refine g_iconst rfl ⟨by decide, by decide⟩ ?_
      refine g_iV (as := [tI 100, tI 0]) mX6_add_ok rfl rfl rfl rfl rfl rfl (by decide) rfl rfl rfl ?_
      refine g_aload_n rfl rfl ?_
      refine x_geti (v := (D 0)) rfl rfl (by decide) (Or.inl rfl) (hctw2 (by omega)).1 ?_
      refine g_if_lt (tgt := 61) rfl (by decide) (fun hx => absurd hx (by omega)) (fun _ => ?_)
      refine g_aload_n rfl rfl ?_
      refine x_geti (v := (D 0)) rfl rfl (by decide) (Or.inl rfl) (hctw2 (by omega)).1 ?_
      refine g_aload_n rfl rfl ?_
      refine x_getF (r := 48) hG rfl rfl (by decide) (Or.inr ⟨_, rfl⟩) rfl ?_
      refine g_alen (t0 := 0) rfl rfl rfl (by decide) ⟨by decide, by decide⟩ ?_
      refine g_icmp_ge (tgt := 61) rfl (by decide) (fun hx => absurd hx (by omega)) (fun _ => ?_)
      refine g_aload_n rfl rfl ?_
      refine x_geti (v := (D 0)) rfl rfl (by decide) (Or.inl rfl) (hctw2 (by omega)).1 ?_
      refine g_aload_n rfl rfl ?_
      refine x_getF (r := 49) hG rfl rfl (by decide) (Or.inr ⟨_, rfl⟩) rfl ?_
      refine g_alen (t0 := 0) rfl rfl rfl (by decide) ⟨by decide, by decide⟩ ?_
      refine g_icmp_ge (tgt := 61) rfl (by decide) (fun hx => absurd hx (by omega)) (fun _ => ?_)
      refine g_aload_n rfl rfl ?_
      refine x_getF (r := 48) hG rfl rfl (by decide) (Or.inr ⟨_, rfl⟩) rfl ?_
      refine g_aload_n rfl rfl ?_
      refine x_geti (v := (D 0)) rfl rfl (by decide) (Or.inl rfl) (hctw2 (by omega)).1 ?_
      refine g_iload_n rfl rfl ?_
      refine g_iast rfl rfl (by decide) (by omega) (by omega) ?_
      refine g_aload_n rfl rfl ?_
      refine x_getF (r := 49) hG rfl rfl (by decide) (Or.inr ⟨_, rfl⟩) rfl ?_
      refine g_aload_n rfl rfl ?_
      refine x_geti (v := (D 0)) rfl rfl (by decide) (Or.inl rfl) (hctw2 (by omega)).1 ?_
      refine g_iload_n rfl rfl ?_
      refine g_iast rfl rfl (by decide) (by omega) (by omega) ?_
      refine g_aload_n rfl rfl ?_
      refine g_dupr rfl ?_
      refine x_geti (v := (D 0)) rfl rfl (by decide) (Or.inl rfl) (hctw2 (by omega)).1 ?_
      refine g_iconst rfl ⟨by decide, by decide⟩ ?_
      refine x_iadd (z := (D 0) + 1) rfl (by omega) ⟨by omega, by omega⟩ ?_
      refine g_puti rfl rfl (by decide) rfl rfl ?_
      refine x_return rfl rfl ?_
      intro _
      refine g_goto (tgt := 158) rfl (by decide) ?_
      refine x_return rfl rfl ?_
      intro _
      refine g_iconst rfl ⟨by decide, by decide⟩ ?_
      refine x_zreturn rfl rfl (Or.inr rfl) ?_
      rw [t_ln_w hwx (by decide), t_l0_0y rfl he1 (by omega), heq1]
      exact ⟨rfl, fun z => absurd (show (1 : Int) = 0 from z) (by decide), fun _ => ⟨ht2.1, ⟨⟨hr2.2.1.1, hr2.2.1.2.1, hr2.2.1.2.2⟩, hr2.2.2, fun _ => ⟨hmdw2 (by omega), by show t_cont 1 (t_D 16 (t_rw 16 0) 0 m D) _; rw [t_D_d (by decide) (by omega), show t_rw 16 0 = 100 from rfl]; exact cont_d (hctw2 (by omega)) hD0.1⟩⟩⟩, (o_F_pi (by decide) (o_F_pi (by decide) (o_F_pi (by decide) (o_F_r hFw2))))⟩
  · refine g_iconst rfl ⟨by decide, by decide⟩ ?_
    refine x_zreturn rfl rfl (Or.inl rfl) ?_
    rw [t_ln_w hwx (by decide), t_l0_0n rfl he1 (by omega)]
    exact ⟨rfl, fun _ => ht2.2.2.1, fun z => absurd (show (0 : Int) = 1 from z) (by decide), o_F_r hFw2⟩
set_option maxHeartbeats 4000000 in
set_option maxRecDepth 100000 in
theorem s_rl17 {G : tp_G} {μ : tp_M} (hG : tp_Gf G = true) {T : Int → Int} {len i f p it m ft : Int} {D : Int → Int} (hT : ∀ j, 0 ≤ T j ∧ T j ≤ 255) (h0 : 0 ≤ i) (h1 : i ≤ len) (hr : rs T len f p it μ) (ht : tk9 T len i μ) (hcR : f = 0 → μ.1 41 7 = m ∧ t_cont 1 D μ) (hit : 0 ≤ it ∧ it ≤ 600) (hD0 : 0 ≤ D 0 ∧ D 0 ≤ it) (hwx : t_wx 1 T len i = 17) (hmx : f = 0 → it ≤ 60) : tp_k G mX5_readLine [tR (some 41), tI 1] μ (fun r μ' => o_P 1 (t_ln 1 T len i (f, p, it, m, ft, D)) μ r μ') := by
  refine tp_ok_of mX5_readLine_ok rfl (Nat.le_refl _) ?_
  obtain ⟨i1, he1⟩ : ∃ x, t_e T len i = x := ⟨_, rfl⟩
  obtain ⟨i2, he2⟩ : ∃ x, t_e T len i1 = x := ⟨_, rfl⟩
  obtain ⟨i3, he3⟩ : ∃ x, t_e T len i2 = x := ⟨_, rfl⟩
  have hb0 := t_s_B (T := T) h1
  have hb1 := t_e_B (T := T) h1
  have hb2 := t_e_B (T := T) (len := len) (i := i1) (by omega)
  have hbs1 := t_s_B (T := T) (len := len) (i := i1) (by omega)
  have hb3 := t_e_B (T := T) (len := len) (i := i2) (by omega)
  have hbs2 := t_s_B (T := T) (len := len) (i := i2) (by omega)
  have hwO : tp_k G mX5_wordOf [tR (some 41), tI 1] μ (fun r μ' => r = some (tI 17) ∧ μ' = μ) := by
    have q := s_wO1 hG hT hr.1 ht.2.2.1 ht.1 ht.2.1 (fun z => (t_k_1 h0 h1 z).1) (fun z => (t_k_1 h0 h1 z).2.1)
    rw [t_wx_o, hwx] at q
    exact q
  refine g_aload_n rfl rfl ?_
  refine g_iload_n rfl rfl ?_
  refine g_cV (as := [tI 1]) (hwO) rfl rfl mX5_wordOf_ok rfl rfl rfl (by decide) rfl rfl rfl ?_
  rintro _ w9 ⟨rfl, hw9⟩ _
  have hw9 := hw9.symm
  subst hw9
  refine g_istore_n rfl rfl rfl ?_
  refine g_iload_n rfl rfl ?_
  refine g_iconst rfl ⟨by decide, by decide⟩ ?_
  refine g_icmp_ne (tgt := 13) rfl (by decide) (fun _ => ?_) (fun hx => absurd hx (by omega))
  refine g_aload_n rfl rfl ?_
  refine g_iload_n rfl rfl ?_
  refine g_iload_n rfl rfl ?_
  refine g_cV (as := [tI 1, tI 17]) (s_cI1b (m := m) (ft := ft) (D := D) hG hr ht hit (by omega)) rfl rfl mX5_countItem_ok rfl rfl rfl (by decide) rfl rfl rfl ?_
  rintro _ w1 ⟨rfl, f1, p1, heq1, hz1, hr1, ht1, hFx1⟩ _
  have hz1f : f1 = 0 → f = 0 ∧ it < 60 := fun z => ⟨(hz1 z).1, (hz1 z).2⟩
  have hFw1 : rF μ w1 := rF_tr rF_rf hFx1
  have hzw1 : f1 = 0 → f = 0 := fun z => by omega
  have hmdw1 : f1 = 0 → w1.1 41 7 = m := fun z => by rw [hFw1.2.1 7 (by omega)]; exact (hcR (hzw1 z)).1
  have hctw1 : f1 = 0 → t_cont 1 D w1 := fun z => t_cont_F hFw1.1 (hcR (hzw1 z)).2
  refine g_iconst rfl ⟨by decide, by decide⟩ ?_
  refine g_istore_n rfl rfl rfl ?_
  refine g_iconst rfl ⟨by decide, by decide⟩ ?_
  refine g_istore rfl rfl rfl ?_
  refine g_iconst rfl ⟨by decide, by decide⟩ ?_
  refine g_istore rfl rfl rfl ?_
  refine g_iload rfl rfl ?_
  refine g_gets rfl ?_
  refine g_iload_n rfl rfl ?_
  refine x_sald (i0 := 4) (v := 0) rfl (by decide) (by decide) (by show _ < ((21 : Nat) : Int); decide) rfl ?_
  refine g_icmp_ge (tgt := 78) rfl (by decide) (fun _ => ?_) (fun hx => absurd hx (by omega))
  refine g_aload_n rfl rfl ?_
  refine g_cV (as := []) (s_adv9 hG hT hr1 (i := i1) (by omega) (by omega) (ht1.1.trans he1)) rfl rfl mX5_advance_ok rfl rfl rfl (by decide) rfl rfl rfl ?_
  rintro _ w2 ⟨rfl, ht2, hr2, hFx2⟩ _
  have hFw2 : rF μ w2 := rF_tr hFw1 hFx2
  have hzw2 : f1 = 0 → f = 0 := fun z => by omega
  have hmdw2 : f1 = 0 → w2.1 41 7 = m := fun z => by rw [hFw2.2.1 7 (by omega)]; exact (hcR (hzw2 z)).1
  have hctw2 : f1 = 0 → t_cont 1 D w2 := fun z => t_cont_F hFw2.1 (hcR (hzw2 z)).2
  have hkb1 := t_k_b T len i1
  refine g_aload_n rfl rfl ?_
  refine x_geti (v := (t_k T len i1)) rfl rfl (by decide) (Or.inl rfl) ht2.2.1 ?_
  refine g_iconst rfl ⟨by decide, by decide⟩ ?_
  refine g_icmp_eq (tgt := 92) rfl (by decide) (fun h1 => ?_) (fun h1 => ?_)
  · refine g_aload_n rfl rfl ?_
    refine x_geti (v := f1) rfl rfl (by decide) (Or.inl rfl) hr2.2.1.1 ?_
    refine g_if_ne (tgt := 107) rfl (by decide) (fun h2 => ?_) (fun h2 => ?_)
    · refine g_iconst rfl ⟨by decide, by decide⟩ ?_
      refine x_zreturn rfl rfl (Or.inr rfl) ?_
      rw [t_ln_w hwx (by decide), t_l0_0y rfl he1 (by omega), heq1]
      exact ⟨rfl, fun z => absurd (show (1 : Int) = 0 from z) (by decide), fun _ => ⟨ht2.1, ⟨hr2.2.1, hr2.2.2, fun z => absurd z (by show ¬ f1 = 0; omega)⟩⟩, o_F_r hFw2⟩
    · refine g_aload_n rfl rfl ?_
      refine g_iload_n rfl rfl ?_
      refine g_iload_n rfl rfl ?_
      refine g_iload rfl rfl ?_
      refine g_iV (as := [tI 17, tI 0, tI 0]) mX5_take_ok rfl rfl rfl rfl rfl rfl (by decide) rfl rfl rfl ?_
      refine g_iload_n rfl rfl ?_
      refine g_bipush rfl ⟨by decide, by decide⟩ (by decide) ?_
      refine g_icmp_ge (tgt := 35) rfl (by decide) (fun _ => ?_) (fun hx => absurd hx (by omega))
      refine g_iload_n rfl rfl ?_
      refine g_bipush rfl ⟨by decide, by decide⟩ (by decide) ?_
      refine g_icmp_ne (tgt := 49) rfl (by decide) (fun _ => ?_) (fun hx => absurd hx (by omega))
      refine g_iload_n rfl rfl ?_
      refine g_bipush rfl ⟨by decide, by decide⟩ (by decide) ?_
      refine g_icmp_ge (tgt := 70) rfl (by decide) (fun _ => ?_) (fun hx => absurd hx (by omega))
      refine g_iload_n rfl rfl ?_
      refine g_bipush rfl ⟨by decide, by decide⟩ (by decide) ?_
      refine g_icmp_ne (tgt := 89) rfl (by decide) (fun _ => ?_) (fun hx => absurd hx (by omega))
      refine g_iload_n rfl rfl ?_
      refine g_bipush rfl ⟨by decide, by decide⟩ (by decide) ?_
      refine g_icmp_ne (tgt := 108) rfl (by decide) (fun hx => absurd hx (by omega)) (fun _ => ?_)
      refine g_aload_n rfl rfl ?_
      refine x_getF (r := 47) hG rfl rfl (by decide) (Or.inl ⟨_, rfl⟩) rfl ?_
      refine g_bipush rfl ⟨by decide, by decide⟩ (by decide) ?_
      refine g_iconst rfl ⟨by decide, by decide⟩ ?_
      refine g_iV (as := [tI 101, tI 0]) mX6_add_ok rfl rfl rfl rfl rfl rfl (by decide) rfl rfl rfl ?_
      refine g_aload_n rfl rfl ?_
      refine x_geti (v := (D 0)) rfl rfl (by decide) (Or.inl rfl) (hctw2 (by omega)).1 ?_
      refine g_if_lt (tgt := 61) rfl (by decide) (fun hx => absurd hx (by omega)) (fun _ => ?_)
      refine g_aload_n rfl rfl ?_
      refine x_geti (v := (D 0)) rfl rfl (by decide) (Or.inl rfl) (hctw2 (by omega)).1 ?_
      refine g_aload_n rfl rfl ?_
      refine x_getF (r := 48) hG rfl rfl (by decide) (Or.inr ⟨_, rfl⟩) rfl ?_
      refine g_alen (t0 := 0) rfl rfl rfl (by decide) ⟨by decide, by decide⟩ ?_
      refine g_icmp_ge (tgt := 61) rfl (by decide) (fun hx => absurd hx (by omega)) (fun _ => ?_)
      refine g_aload_n rfl rfl ?_
      refine x_geti (v := (D 0)) rfl rfl (by decide) (Or.inl rfl) (hctw2 (by omega)).1 ?_
      refine g_aload_n rfl rfl ?_
      refine x_getF (r := 49) hG rfl rfl (by decide) (Or.inr ⟨_, rfl⟩) rfl ?_
      refine g_alen (t0 := 0) rfl rfl rfl (by decide) ⟨by decide, by decide⟩ ?_
      refine g_icmp_ge (tgt := 61) rfl (by decide) (fun hx => absurd hx (by omega)) (fun _ => ?_)
      refine g_aload_n rfl rfl ?_
      refine x_getF (r := 48) hG rfl rfl (by decide) (Or.inr ⟨_, rfl⟩) rfl ?_
      refine g_aload_n rfl rfl ?_
      refine x_geti (v := (D 0)) rfl rfl (by decide) (Or.inl rfl) (hctw2 (by omega)).1 ?_
      refine g_iload_n rfl rfl ?_
      refine g_iast rfl rfl (by decide) (by omega) (by omega) ?_
      refine g_aload_n rfl rfl ?_
      refine x_getF (r := 49) hG rfl rfl (by decide) (Or.inr ⟨_, rfl⟩) rfl ?_
      refine g_aload_n rfl rfl ?_
      refine x_geti (v := (D 0)) rfl rfl (by decide) (Or.inl rfl) (hctw2 (by omega)).1 ?_
      refine g_iload_n rfl rfl ?_
      refine g_iast rfl rfl (by decide) (by omega) (by omega) ?_
      refine g_aload_n rfl rfl ?_
      refine g_dupr rfl ?_
      refine x_geti (v := (D 0)) rfl rfl (by decide) (Or.inl rfl) (hctw2 (by omega)).1 ?_
      refine g_iconst rfl ⟨by decide, by decide⟩ ?_
      refine x_iadd (z := (D 0) + 1) rfl (by omega) ⟨by omega, by omega⟩ ?_
      refine g_puti rfl rfl (by decide) rfl rfl ?_
      refine x_return rfl rfl ?_
      intro _
      refine g_goto (tgt := 158) rfl (by decide) ?_
      refine x_return rfl rfl ?_
      intro _
      refine g_iconst rfl ⟨by decide, by decide⟩ ?_
      refine x_zreturn rfl rfl (Or.inr rfl) ?_
      rw [t_ln_w hwx (by decide), t_l0_0y rfl he1 (by omega), heq1]
      exact ⟨rfl, fun z => absurd (show (1 : Int) = 0 from z) (by decide), fun _ => ⟨ht2.1, ⟨⟨hr2.2.1.1, hr2.2.1.2.1, hr2.2.1.2.2⟩, hr2.2.2, fun _ => ⟨hmdw2 (by omega), by show t_cont 1 (t_D 17 (t_rw 17 0) 0 m D) _; rw [t_D_d (by decide) (by omega), show t_rw 17 0 = 101 from rfl]; exact cont_d (hctw2 (by omega)) hD0.1⟩⟩⟩, (o_F_pi (by decide) (o_F_pi (by decide) (o_F_pi (by decide) (o_F_r hFw2))))⟩
  · refine g_iconst rfl ⟨by decide, by decide⟩ ?_
    refine x_zreturn rfl rfl (Or.inl rfl) ?_
    rw [t_ln_w hwx (by decide), t_l0_0n rfl he1 (by omega)]
    exact ⟨rfl, fun _ => ht2.2.2.1, fun z => absurd (show (0 : Int) = 1 from z) (by decide), o_F_r hFw2⟩
set_option maxHeartbeats 4000000 in
set_option maxRecDepth 100000 in
theorem s_rl18 {G : tp_G} {μ : tp_M} (hG : tp_Gf G = true) {T : Int → Int} {len i f p it m ft : Int} {D : Int → Int} (hT : ∀ j, 0 ≤ T j ∧ T j ≤ 255) (h0 : 0 ≤ i) (h1 : i ≤ len) (hr : rs T len f p it μ) (ht : tk9 T len i μ) (hcR : f = 0 → μ.1 41 7 = m ∧ t_cont 1 D μ) (hit : 0 ≤ it ∧ it ≤ 600) (hD0 : 0 ≤ D 0 ∧ D 0 ≤ it) (hwx : t_wx 1 T len i = 18) (hmx : f = 0 → it ≤ 60) : tp_k G mX5_readLine [tR (some 41), tI 1] μ (fun r μ' => o_P 1 (t_ln 1 T len i (f, p, it, m, ft, D)) μ r μ') := by
  refine tp_ok_of mX5_readLine_ok rfl (Nat.le_refl _) ?_
  obtain ⟨i1, he1⟩ : ∃ x, t_e T len i = x := ⟨_, rfl⟩
  obtain ⟨i2, he2⟩ : ∃ x, t_e T len i1 = x := ⟨_, rfl⟩
  obtain ⟨i3, he3⟩ : ∃ x, t_e T len i2 = x := ⟨_, rfl⟩
  have hb0 := t_s_B (T := T) h1
  have hb1 := t_e_B (T := T) h1
  have hb2 := t_e_B (T := T) (len := len) (i := i1) (by omega)
  have hbs1 := t_s_B (T := T) (len := len) (i := i1) (by omega)
  have hb3 := t_e_B (T := T) (len := len) (i := i2) (by omega)
  have hbs2 := t_s_B (T := T) (len := len) (i := i2) (by omega)
  have hwO : tp_k G mX5_wordOf [tR (some 41), tI 1] μ (fun r μ' => r = some (tI 18) ∧ μ' = μ) := by
    have q := s_wO1 hG hT hr.1 ht.2.2.1 ht.1 ht.2.1 (fun z => (t_k_1 h0 h1 z).1) (fun z => (t_k_1 h0 h1 z).2.1)
    rw [t_wx_o, hwx] at q
    exact q
  refine g_aload_n rfl rfl ?_
  refine g_iload_n rfl rfl ?_
  refine g_cV (as := [tI 1]) (hwO) rfl rfl mX5_wordOf_ok rfl rfl rfl (by decide) rfl rfl rfl ?_
  rintro _ w9 ⟨rfl, hw9⟩ _
  have hw9 := hw9.symm
  subst hw9
  refine g_istore_n rfl rfl rfl ?_
  refine g_iload_n rfl rfl ?_
  refine g_iconst rfl ⟨by decide, by decide⟩ ?_
  refine g_icmp_ne (tgt := 13) rfl (by decide) (fun _ => ?_) (fun hx => absurd hx (by omega))
  refine g_aload_n rfl rfl ?_
  refine g_iload_n rfl rfl ?_
  refine g_iload_n rfl rfl ?_
  refine g_cV (as := [tI 1, tI 18]) (s_cI1b (m := m) (ft := ft) (D := D) hG hr ht hit (by omega)) rfl rfl mX5_countItem_ok rfl rfl rfl (by decide) rfl rfl rfl ?_
  rintro _ w1 ⟨rfl, f1, p1, heq1, hz1, hr1, ht1, hFx1⟩ _
  have hz1f : f1 = 0 → f = 0 ∧ it < 60 := fun z => ⟨(hz1 z).1, (hz1 z).2⟩
  have hFw1 : rF μ w1 := rF_tr rF_rf hFx1
  have hzw1 : f1 = 0 → f = 0 := fun z => by omega
  have hmdw1 : f1 = 0 → w1.1 41 7 = m := fun z => by rw [hFw1.2.1 7 (by omega)]; exact (hcR (hzw1 z)).1
  have hctw1 : f1 = 0 → t_cont 1 D w1 := fun z => t_cont_F hFw1.1 (hcR (hzw1 z)).2
  refine g_iconst rfl ⟨by decide, by decide⟩ ?_
  refine g_istore_n rfl rfl rfl ?_
  refine g_iconst rfl ⟨by decide, by decide⟩ ?_
  refine g_istore rfl rfl rfl ?_
  refine g_iconst rfl ⟨by decide, by decide⟩ ?_
  refine g_istore rfl rfl rfl ?_
  refine g_iload rfl rfl ?_
  refine g_gets rfl ?_
  refine g_iload_n rfl rfl ?_
  refine x_sald (i0 := 4) (v := 1) rfl (by decide) (by decide) (by show _ < ((21 : Nat) : Int); decide) rfl ?_
  refine g_icmp_ge (tgt := 78) rfl (by decide) (fun hx => absurd hx (by omega)) (fun _ => ?_)
  refine g_aload_n rfl rfl ?_
  refine g_cV (as := []) (s_adv9 hG hT hr1 (i := i1) (by omega) (by omega) (ht1.1.trans he1)) rfl rfl mX5_advance_ok rfl rfl rfl (by decide) rfl rfl rfl ?_
  rintro _ w2 ⟨rfl, ht2, hr2, hFx2⟩ _
  have hFw2 : rF μ w2 := rF_tr hFw1 hFx2
  have hzw2 : f1 = 0 → f = 0 := fun z => by omega
  have hmdw2 : f1 = 0 → w2.1 41 7 = m := fun z => by rw [hFw2.2.1 7 (by omega)]; exact (hcR (hzw2 z)).1
  have hctw2 : f1 = 0 → t_cont 1 D w2 := fun z => t_cont_F hFw2.1 (hcR (hzw2 z)).2
  have hkb1 := t_k_b T len i1
  refine g_aload_n rfl rfl ?_
  refine x_geti (v := (t_k T len i1)) rfl rfl (by decide) (Or.inl rfl) ht2.2.1 ?_
  refine g_iconst rfl ⟨by decide, by decide⟩ ?_
  refine g_icmp_eq (tgt := 51) rfl (by decide) (fun h1 => ?_) (fun h1 => ?_)
  · refine g_iload rfl rfl ?_
    refine g_if_ne (tgt := 66) rfl (by decide) (fun hx => absurd hx (by omega)) (fun _ => ?_)
    refine g_aload_n rfl rfl ?_
    refine x_geti (v := (t_v T len i1)) rfl rfl (by decide) (Or.inl rfl) (ht2.2.2.2 (by omega)) ?_
    refine g_istore_n rfl rfl rfl ?_
    refine g_aload_n rfl rfl ?_
    refine g_iload_n rfl rfl ?_
    refine g_cV (as := [tI 18]) (s_cN18 (R := (m, ft, D)) hG hr2 ht2 (by omega)) rfl rfl mX5_checkNumber_ok rfl rfl rfl (by decide) rfl rfl rfl ?_
    rintro _ w3 ⟨rfl, f3, p3, heq2, hz2, hr3, ht3, hFx3⟩ _
    have hz2f : f3 = 0 → f1 = 0 ∧ 0 ≤ t_v T len i1 ∧ t_v T len i1 ≤ 39 := fun z => ⟨(hz2 z).1, (hz2 z).2.1, (hz2 z).2.2⟩
    have hFw3 : rF μ w3 := rF_tr hFw2 hFx3
    have hzw3 : f3 = 0 → f = 0 := fun z => by omega
    have hmdw3 : f3 = 0 → w3.1 41 7 = m := fun z => by rw [hFw3.2.1 7 (by omega)]; exact (hcR (hzw3 z)).1
    have hctw3 : f3 = 0 → t_cont 1 D w3 := fun z => t_cont_F hFw3.1 (hcR (hzw3 z)).2
    refine g_aload_n rfl rfl ?_
    refine x_geti (v := (t_v T len i1)) rfl rfl (by decide) (Or.inl rfl) (ht3.2.2.2 (by omega)) ?_
    refine g_istore rfl rfl rfl ?_
    refine x_iinc (z := 1) rfl rfl (by omega) ⟨by omega, by omega⟩ rfl rfl ?_
    refine g_goto (tgt := 27) rfl (by decide) ?_
    refine g_iload rfl rfl ?_
    refine g_gets rfl ?_
    refine g_iload_n rfl rfl ?_
    refine x_sald (i0 := 4) (v := 1) rfl (by decide) (by decide) (by show _ < ((21 : Nat) : Int); decide) rfl ?_
    refine g_icmp_ge (tgt := 78) rfl (by decide) (fun _ => ?_) (fun hx => absurd hx (by omega))
    refine g_aload_n rfl rfl ?_
    refine g_cV (as := []) (s_adv9 hG hT hr3 (i := i2) (by omega) (by omega) (ht3.1.trans he2)) rfl rfl mX5_advance_ok rfl rfl rfl (by decide) rfl rfl rfl ?_
    rintro _ w4 ⟨rfl, ht4, hr4, hFx4⟩ _
    have hFw4 : rF μ w4 := rF_tr hFw3 hFx4
    have hzw4 : f3 = 0 → f = 0 := fun z => by omega
    have hmdw4 : f3 = 0 → w4.1 41 7 = m := fun z => by rw [hFw4.2.1 7 (by omega)]; exact (hcR (hzw4 z)).1
    have hctw4 : f3 = 0 → t_cont 1 D w4 := fun z => t_cont_F hFw4.1 (hcR (hzw4 z)).2
    have hkb2 := t_k_b T len i2
    refine g_aload_n rfl rfl ?_
    refine x_geti (v := (t_k T len i2)) rfl rfl (by decide) (Or.inl rfl) ht4.2.1 ?_
    refine g_iconst rfl ⟨by decide, by decide⟩ ?_
    refine g_icmp_eq (tgt := 92) rfl (by decide) (fun h2 => ?_) (fun h2 => ?_)
    · refine g_aload_n rfl rfl ?_
      refine x_geti (v := f3) rfl rfl (by decide) (Or.inl rfl) hr4.2.1.1 ?_
      refine g_if_ne (tgt := 107) rfl (by decide) (fun h3 => ?_) (fun h3 => ?_)
      · refine g_iconst rfl ⟨by decide, by decide⟩ ?_
        refine x_zreturn rfl rfl (Or.inr rfl) ?_
        rw [t_ln_w hwx (by decide), t_l0_1y rfl he1 he2 (by omega) (by omega), heq1, heq2]
        exact ⟨rfl, fun z => absurd (show (1 : Int) = 0 from z) (by decide), fun _ => ⟨ht4.1, ⟨hr4.2.1, hr4.2.2, fun z => absurd z (by show ¬ f3 = 0; omega)⟩⟩, o_F_r hFw4⟩
      · refine g_aload_n rfl rfl ?_
        refine g_iload_n rfl rfl ?_
        refine g_iload_n rfl rfl ?_
        refine g_iload rfl rfl ?_
        refine g_iV (as := [tI 18, tI (t_v T len i1), tI (t_v T len i1)]) mX5_take_ok rfl rfl rfl rfl rfl rfl (by decide) rfl rfl rfl ?_
        refine g_iload_n rfl rfl ?_
        refine g_bipush rfl ⟨by decide, by decide⟩ (by decide) ?_
        refine g_icmp_ge (tgt := 35) rfl (by decide) (fun _ => ?_) (fun hx => absurd hx (by omega))
        refine g_iload_n rfl rfl ?_
        refine g_bipush rfl ⟨by decide, by decide⟩ (by decide) ?_
        refine g_icmp_ne (tgt := 49) rfl (by decide) (fun _ => ?_) (fun hx => absurd hx (by omega))
        refine g_iload_n rfl rfl ?_
        refine g_bipush rfl ⟨by decide, by decide⟩ (by decide) ?_
        refine g_icmp_ge (tgt := 70) rfl (by decide) (fun _ => ?_) (fun hx => absurd hx (by omega))
        refine g_iload_n rfl rfl ?_
        refine g_bipush rfl ⟨by decide, by decide⟩ (by decide) ?_
        refine g_icmp_ne (tgt := 89) rfl (by decide) (fun _ => ?_) (fun hx => absurd hx (by omega))
        refine g_iload_n rfl rfl ?_
        refine g_bipush rfl ⟨by decide, by decide⟩ (by decide) ?_
        refine g_icmp_ne (tgt := 108) rfl (by decide) (fun _ => ?_) (fun hx => absurd hx (by omega))
        refine g_iload_n rfl rfl ?_
        refine g_bipush rfl ⟨by decide, by decide⟩ (by decide) ?_
        refine g_icmp_ne (tgt := 126) rfl (by decide) (fun hx => absurd hx (by omega)) (fun _ => ?_)
        refine g_aload_n rfl rfl ?_
        refine x_getF (r := 47) hG rfl rfl (by decide) (Or.inl ⟨_, rfl⟩) rfl ?_
        refine g_iload_n rfl rfl ?_
        refine g_iconst rfl ⟨by decide, by decide⟩ ?_
        refine g_iV (as := [tI (t_v T len i1), tI 0]) mX6_add_ok rfl rfl rfl rfl rfl rfl (by decide) rfl rfl rfl ?_
        refine g_aload_n rfl rfl ?_
        refine x_geti (v := (D 0)) rfl rfl (by decide) (Or.inl rfl) (hctw4 (by omega)).1 ?_
        refine g_if_lt (tgt := 61) rfl (by decide) (fun hx => absurd hx (by omega)) (fun _ => ?_)
        refine g_aload_n rfl rfl ?_
        refine x_geti (v := (D 0)) rfl rfl (by decide) (Or.inl rfl) (hctw4 (by omega)).1 ?_
        refine g_aload_n rfl rfl ?_
        refine x_getF (r := 48) hG rfl rfl (by decide) (Or.inr ⟨_, rfl⟩) rfl ?_
        refine g_alen (t0 := 0) rfl rfl rfl (by decide) ⟨by decide, by decide⟩ ?_
        refine g_icmp_ge (tgt := 61) rfl (by decide) (fun hx => absurd hx (by omega)) (fun _ => ?_)
        refine g_aload_n rfl rfl ?_
        refine x_geti (v := (D 0)) rfl rfl (by decide) (Or.inl rfl) (hctw4 (by omega)).1 ?_
        refine g_aload_n rfl rfl ?_
        refine x_getF (r := 49) hG rfl rfl (by decide) (Or.inr ⟨_, rfl⟩) rfl ?_
        refine g_alen (t0 := 0) rfl rfl rfl (by decide) ⟨by decide, by decide⟩ ?_
        refine g_icmp_ge (tgt := 61) rfl (by decide) (fun hx => absurd hx (by omega)) (fun _ => ?_)
        refine g_aload_n rfl rfl ?_
        refine x_getF (r := 48) hG rfl rfl (by decide) (Or.inr ⟨_, rfl⟩) rfl ?_
        refine g_aload_n rfl rfl ?_
        refine x_geti (v := (D 0)) rfl rfl (by decide) (Or.inl rfl) (hctw4 (by omega)).1 ?_
        refine g_iload_n rfl rfl ?_
        refine g_iast rfl rfl (by decide) (by omega) (by omega) ?_
        refine g_aload_n rfl rfl ?_
        refine x_getF (r := 49) hG rfl rfl (by decide) (Or.inr ⟨_, rfl⟩) rfl ?_
        refine g_aload_n rfl rfl ?_
        refine x_geti (v := (D 0)) rfl rfl (by decide) (Or.inl rfl) (hctw4 (by omega)).1 ?_
        refine g_iload_n rfl rfl ?_
        refine g_iast rfl rfl (by decide) (by omega) (by omega) ?_
        refine g_aload_n rfl rfl ?_
        refine g_dupr rfl ?_
        refine x_geti (v := (D 0)) rfl rfl (by decide) (Or.inl rfl) (hctw4 (by omega)).1 ?_
        refine g_iconst rfl ⟨by decide, by decide⟩ ?_
        refine x_iadd (z := (D 0) + 1) rfl (by omega) ⟨by omega, by omega⟩ ?_
        refine g_puti rfl rfl (by decide) rfl rfl ?_
        refine x_return rfl rfl ?_
        intro _
        refine g_goto (tgt := 158) rfl (by decide) ?_
        refine x_return rfl rfl ?_
        intro _
        refine g_iconst rfl ⟨by decide, by decide⟩ ?_
        refine x_zreturn rfl rfl (Or.inr rfl) ?_
        rw [t_ln_w hwx (by decide), t_l0_1y rfl he1 he2 (by omega) (by omega), heq1, heq2]
        exact ⟨rfl, fun z => absurd (show (1 : Int) = 0 from z) (by decide), fun _ => ⟨ht4.1, ⟨⟨hr4.2.1.1, hr4.2.1.2.1, hr4.2.1.2.2⟩, hr4.2.2, fun _ => ⟨hmdw4 (by omega), by show t_cont 1 (t_D 18 (t_rw 18 (t_v T len i1)) 0 m D) _; rw [t_D_d (by decide) (by omega), show t_rw 18 (t_v T len i1) = (t_v T len i1) from t_cl_i (by show (0 : Int) ≤ _ ∧ _ ≤ (39 : Int); omega)]; exact cont_d (hctw4 (by omega)) hD0.1⟩⟩⟩, (o_F_pi (by decide) (o_F_pi (by decide) (o_F_pi (by decide) (o_F_r hFw4))))⟩
    · refine g_iconst rfl ⟨by decide, by decide⟩ ?_
      refine x_zreturn rfl rfl (Or.inl rfl) ?_
      rw [t_ln_w hwx (by decide), t_l0_1n rfl he1 he2 (by omega) (by omega)]
      exact ⟨rfl, fun _ => ht4.2.2.1, fun z => absurd (show (0 : Int) = 1 from z) (by decide), o_F_r hFw4⟩
  · refine g_iconst rfl ⟨by decide, by decide⟩ ?_
    refine x_zreturn rfl rfl (Or.inl rfl) ?_
    rw [t_ln_w hwx (by decide), t_l0_1a (by decide) he1 (by omega)]
    exact ⟨rfl, fun _ => ht2.2.2.1, fun z => absurd (show (0 : Int) = 1 from z) (by decide), o_F_r hFw2⟩
set_option maxHeartbeats 4000000 in
set_option maxRecDepth 100000 in
theorem s_rl19 {G : tp_G} {μ : tp_M} (hG : tp_Gf G = true) {T : Int → Int} {len i f p it m ft : Int} {D : Int → Int} (hT : ∀ j, 0 ≤ T j ∧ T j ≤ 255) (h0 : 0 ≤ i) (h1 : i ≤ len) (hr : rs T len f p it μ) (ht : tk9 T len i μ) (hcR : f = 0 → μ.1 41 7 = m ∧ t_cont 2 D μ) (hit : 0 ≤ it ∧ it ≤ 600) (hD0 : 0 ≤ D 0 ∧ D 0 ≤ it) (hwx : t_wx 2 T len i = 19) (hmx : f = 0 → it ≤ 12) : tp_k G mX5_readLine [tR (some 41), tI 2] μ (fun r μ' => o_P 2 (t_ln 2 T len i (f, p, it, m, ft, D)) μ r μ') := by
  refine tp_ok_of mX5_readLine_ok rfl (Nat.le_refl _) ?_
  obtain ⟨i1, he1⟩ : ∃ x, t_e T len i = x := ⟨_, rfl⟩
  obtain ⟨i2, he2⟩ : ∃ x, t_e T len i1 = x := ⟨_, rfl⟩
  obtain ⟨i3, he3⟩ : ∃ x, t_e T len i2 = x := ⟨_, rfl⟩
  have hb0 := t_s_B (T := T) h1
  have hb1 := t_e_B (T := T) h1
  have hb2 := t_e_B (T := T) (len := len) (i := i1) (by omega)
  have hbs1 := t_s_B (T := T) (len := len) (i := i1) (by omega)
  have hb3 := t_e_B (T := T) (len := len) (i := i2) (by omega)
  have hbs2 := t_s_B (T := T) (len := len) (i := i2) (by omega)
  have hwO : tp_k G mX5_wordOf [tR (some 41), tI 2] μ (fun r μ' => r = some (tI 19) ∧ μ' = μ) := by
    have q := s_wO2 hG hT hr.1 ht.2.2.1 ht.1 ht.2.1 (fun z => (t_k_1 h0 h1 z).1) (fun z => (t_k_1 h0 h1 z).2.1)
    rw [t_wx_o, hwx] at q
    exact q
  refine g_aload_n rfl rfl ?_
  refine g_iload_n rfl rfl ?_
  refine g_cV (as := [tI 2]) (hwO) rfl rfl mX5_wordOf_ok rfl rfl rfl (by decide) rfl rfl rfl ?_
  rintro _ w9 ⟨rfl, hw9⟩ _
  have hw9 := hw9.symm
  subst hw9
  refine g_istore_n rfl rfl rfl ?_
  refine g_iload_n rfl rfl ?_
  refine g_iconst rfl ⟨by decide, by decide⟩ ?_
  refine g_icmp_ne (tgt := 13) rfl (by decide) (fun _ => ?_) (fun hx => absurd hx (by omega))
  refine g_aload_n rfl rfl ?_
  refine g_iload_n rfl rfl ?_
  refine g_iload_n rfl rfl ?_
  refine g_cV (as := [tI 2, tI 19]) (s_cI2b (m := m) (ft := ft) (D := D) hG hr ht hit (by omega)) rfl rfl mX5_countItem_ok rfl rfl rfl (by decide) rfl rfl rfl ?_
  rintro _ w1 ⟨rfl, f1, p1, heq1, hz1, hr1, ht1, hFx1⟩ _
  have hz1f : f1 = 0 → f = 0 ∧ it < 12 := fun z => ⟨(hz1 z).1, (hz1 z).2⟩
  have hFw1 : rF μ w1 := rF_tr rF_rf hFx1
  have hzw1 : f1 = 0 → f = 0 := fun z => by omega
  have hmdw1 : f1 = 0 → w1.1 41 7 = m := fun z => by rw [hFw1.2.1 7 (by omega)]; exact (hcR (hzw1 z)).1
  have hctw1 : f1 = 0 → t_cont 2 D w1 := fun z => t_cont_F hFw1.1 (hcR (hzw1 z)).2
  refine g_iconst rfl ⟨by decide, by decide⟩ ?_
  refine g_istore_n rfl rfl rfl ?_
  refine g_iconst rfl ⟨by decide, by decide⟩ ?_
  refine g_istore rfl rfl rfl ?_
  refine g_iconst rfl ⟨by decide, by decide⟩ ?_
  refine g_istore rfl rfl rfl ?_
  refine g_iload rfl rfl ?_
  refine g_gets rfl ?_
  refine g_iload_n rfl rfl ?_
  refine x_sald (i0 := 4) (v := 1) rfl (by decide) (by decide) (by show _ < ((21 : Nat) : Int); decide) rfl ?_
  refine g_icmp_ge (tgt := 78) rfl (by decide) (fun hx => absurd hx (by omega)) (fun _ => ?_)
  refine g_aload_n rfl rfl ?_
  refine g_cV (as := []) (s_adv9 hG hT hr1 (i := i1) (by omega) (by omega) (ht1.1.trans he1)) rfl rfl mX5_advance_ok rfl rfl rfl (by decide) rfl rfl rfl ?_
  rintro _ w2 ⟨rfl, ht2, hr2, hFx2⟩ _
  have hFw2 : rF μ w2 := rF_tr hFw1 hFx2
  have hzw2 : f1 = 0 → f = 0 := fun z => by omega
  have hmdw2 : f1 = 0 → w2.1 41 7 = m := fun z => by rw [hFw2.2.1 7 (by omega)]; exact (hcR (hzw2 z)).1
  have hctw2 : f1 = 0 → t_cont 2 D w2 := fun z => t_cont_F hFw2.1 (hcR (hzw2 z)).2
  have hkb1 := t_k_b T len i1
  refine g_aload_n rfl rfl ?_
  refine x_geti (v := (t_k T len i1)) rfl rfl (by decide) (Or.inl rfl) ht2.2.1 ?_
  refine g_iconst rfl ⟨by decide, by decide⟩ ?_
  refine g_icmp_eq (tgt := 51) rfl (by decide) (fun h1 => ?_) (fun h1 => ?_)
  · refine g_iload rfl rfl ?_
    refine g_if_ne (tgt := 66) rfl (by decide) (fun hx => absurd hx (by omega)) (fun _ => ?_)
    refine g_aload_n rfl rfl ?_
    refine x_geti (v := (t_v T len i1)) rfl rfl (by decide) (Or.inl rfl) (ht2.2.2.2 (by omega)) ?_
    refine g_istore_n rfl rfl rfl ?_
    refine g_aload_n rfl rfl ?_
    refine g_iload_n rfl rfl ?_
    refine g_cV (as := [tI 19]) (s_cN19 (R := (m, ft, D)) hG hr2 ht2 (by omega)) rfl rfl mX5_checkNumber_ok rfl rfl rfl (by decide) rfl rfl rfl ?_
    rintro _ w3 ⟨rfl, f3, p3, heq2, hz2, hr3, ht3, hFx3⟩ _
    have hz2f : f3 = 0 → f1 = 0 ∧ 0 ≤ t_v T len i1 ∧ t_v T len i1 ≤ 99 := fun z => ⟨(hz2 z).1, (hz2 z).2.1, (hz2 z).2.2⟩
    have hFw3 : rF μ w3 := rF_tr hFw2 hFx3
    have hzw3 : f3 = 0 → f = 0 := fun z => by omega
    have hmdw3 : f3 = 0 → w3.1 41 7 = m := fun z => by rw [hFw3.2.1 7 (by omega)]; exact (hcR (hzw3 z)).1
    have hctw3 : f3 = 0 → t_cont 2 D w3 := fun z => t_cont_F hFw3.1 (hcR (hzw3 z)).2
    refine g_aload_n rfl rfl ?_
    refine x_geti (v := (t_v T len i1)) rfl rfl (by decide) (Or.inl rfl) (ht3.2.2.2 (by omega)) ?_
    refine g_istore rfl rfl rfl ?_
    refine x_iinc (z := 1) rfl rfl (by omega) ⟨by omega, by omega⟩ rfl rfl ?_
    refine g_goto (tgt := 27) rfl (by decide) ?_
    refine g_iload rfl rfl ?_
    refine g_gets rfl ?_
    refine g_iload_n rfl rfl ?_
    refine x_sald (i0 := 4) (v := 1) rfl (by decide) (by decide) (by show _ < ((21 : Nat) : Int); decide) rfl ?_
    refine g_icmp_ge (tgt := 78) rfl (by decide) (fun _ => ?_) (fun hx => absurd hx (by omega))
    refine g_aload_n rfl rfl ?_
    refine g_cV (as := []) (s_adv9 hG hT hr3 (i := i2) (by omega) (by omega) (ht3.1.trans he2)) rfl rfl mX5_advance_ok rfl rfl rfl (by decide) rfl rfl rfl ?_
    rintro _ w4 ⟨rfl, ht4, hr4, hFx4⟩ _
    have hFw4 : rF μ w4 := rF_tr hFw3 hFx4
    have hzw4 : f3 = 0 → f = 0 := fun z => by omega
    have hmdw4 : f3 = 0 → w4.1 41 7 = m := fun z => by rw [hFw4.2.1 7 (by omega)]; exact (hcR (hzw4 z)).1
    have hctw4 : f3 = 0 → t_cont 2 D w4 := fun z => t_cont_F hFw4.1 (hcR (hzw4 z)).2
    have hkb2 := t_k_b T len i2
    refine g_aload_n rfl rfl ?_
    refine x_geti (v := (t_k T len i2)) rfl rfl (by decide) (Or.inl rfl) ht4.2.1 ?_
    refine g_iconst rfl ⟨by decide, by decide⟩ ?_
    refine g_icmp_eq (tgt := 92) rfl (by decide) (fun h2 => ?_) (fun h2 => ?_)
    · refine g_aload_n rfl rfl ?_
      refine x_geti (v := f3) rfl rfl (by decide) (Or.inl rfl) hr4.2.1.1 ?_
      refine g_if_ne (tgt := 107) rfl (by decide) (fun h3 => ?_) (fun h3 => ?_)
      · refine g_iconst rfl ⟨by decide, by decide⟩ ?_
        refine x_zreturn rfl rfl (Or.inr rfl) ?_
        rw [t_ln_w hwx (by decide), t_l0_1y rfl he1 he2 (by omega) (by omega), heq1, heq2]
        exact ⟨rfl, fun z => absurd (show (1 : Int) = 0 from z) (by decide), fun _ => ⟨ht4.1, ⟨hr4.2.1, hr4.2.2, fun z => absurd z (by show ¬ f3 = 0; omega)⟩⟩, o_F_r hFw4⟩
      · refine g_aload_n rfl rfl ?_
        refine g_iload_n rfl rfl ?_
        refine g_iload_n rfl rfl ?_
        refine g_iload rfl rfl ?_
        refine g_iV (as := [tI 19, tI (t_v T len i1), tI (t_v T len i1)]) mX5_take_ok rfl rfl rfl rfl rfl rfl (by decide) rfl rfl rfl ?_
        refine g_iload_n rfl rfl ?_
        refine g_bipush rfl ⟨by decide, by decide⟩ (by decide) ?_
        refine g_icmp_ge (tgt := 35) rfl (by decide) (fun _ => ?_) (fun hx => absurd hx (by omega))
        refine g_iload_n rfl rfl ?_
        refine g_bipush rfl ⟨by decide, by decide⟩ (by decide) ?_
        refine g_icmp_ne (tgt := 49) rfl (by decide) (fun _ => ?_) (fun hx => absurd hx (by omega))
        refine g_iload_n rfl rfl ?_
        refine g_bipush rfl ⟨by decide, by decide⟩ (by decide) ?_
        refine g_icmp_ge (tgt := 70) rfl (by decide) (fun _ => ?_) (fun hx => absurd hx (by omega))
        refine g_iload_n rfl rfl ?_
        refine g_bipush rfl ⟨by decide, by decide⟩ (by decide) ?_
        refine g_icmp_ne (tgt := 89) rfl (by decide) (fun _ => ?_) (fun hx => absurd hx (by omega))
        refine g_iload_n rfl rfl ?_
        refine g_bipush rfl ⟨by decide, by decide⟩ (by decide) ?_
        refine g_icmp_ne (tgt := 108) rfl (by decide) (fun _ => ?_) (fun hx => absurd hx (by omega))
        refine g_iload_n rfl rfl ?_
        refine g_bipush rfl ⟨by decide, by decide⟩ (by decide) ?_
        refine g_icmp_ne (tgt := 126) rfl (by decide) (fun _ => ?_) (fun hx => absurd hx (by omega))
        refine g_iload_n rfl rfl ?_
        refine g_bipush rfl ⟨by decide, by decide⟩ (by decide) ?_
        refine g_icmp_ne (tgt := 143) rfl (by decide) (fun hx => absurd hx (by omega)) (fun _ => ?_)
        refine g_aload_n rfl rfl ?_
        refine x_getF (r := 47) hG rfl rfl (by decide) (Or.inl ⟨_, rfl⟩) rfl ?_
        refine g_iload_n rfl rfl ?_
        refine g_cV (as := [tI (t_v T len i1)]) (s_ris (D := D) hG (hctw4 (by omega)) (by omega) (by omega)) rfl rfl mX6_addRising_ok rfl rfl rfl (by decide) rfl rfl rfl ?_
        rintro _ w9 ⟨rfl, hLo9, hF9, hR9⟩ _
        refine g_goto (tgt := 158) rfl (by decide) ?_
        refine x_return rfl rfl ?_
        intro _
        refine g_iconst rfl ⟨by decide, by decide⟩ ?_
        refine x_zreturn rfl rfl (Or.inr rfl) ?_
        rw [t_ln_w hwx (by decide), t_l0_1y rfl he1 he2 (by omega) (by omega), heq1, heq2]
        exact ⟨rfl, fun z => absurd (show (1 : Int) = 0 from z) (by decide), fun _ => ⟨(by rw [hF9 41 (by omega) (by omega)]; exact ht4.1), ⟨by unfold c_f; rw [hF9 41 (by omega) (by omega)]; exact hr4.2.1, by rw [hF9 41 (by omega) (by omega)]; exact hr4.2.2, fun _ => ⟨by rw [hF9 41 (by omega) (by omega)]; exact hmdw4 (by omega), by show tp_Lo w9.1 47 (t_D 19 (t_rw 19 (t_v T len i1)) 0 m D); rw [t_D_l, show t_rw 19 (t_v T len i1) = (t_v T len i1) from t_cl_i (by show (0 : Int) ≤ _ ∧ _ ≤ (99 : Int); omega)]; exact hLo9⟩⟩⟩, (o_F_tr (o_F_r hFw4) ⟨fun c9 z => hF9 c9 (by omega) (by omega), fun j z => by rw [hF9 41 (by omega) (by omega)], hR9⟩)⟩
    · refine g_iconst rfl ⟨by decide, by decide⟩ ?_
      refine x_zreturn rfl rfl (Or.inl rfl) ?_
      rw [t_ln_w hwx (by decide), t_l0_1n rfl he1 he2 (by omega) (by omega)]
      exact ⟨rfl, fun _ => ht4.2.2.1, fun z => absurd (show (0 : Int) = 1 from z) (by decide), o_F_r hFw4⟩
  · refine g_iconst rfl ⟨by decide, by decide⟩ ?_
    refine x_zreturn rfl rfl (Or.inl rfl) ?_
    rw [t_ln_w hwx (by decide), t_l0_1a (by decide) he1 (by omega)]
    exact ⟨rfl, fun _ => ht2.2.2.1, fun z => absurd (show (0 : Int) = 1 from z) (by decide), o_F_r hFw2⟩
set_option maxHeartbeats 4000000 in
set_option maxRecDepth 100000 in
theorem s_rl20 {G : tp_G} {μ : tp_M} (hG : tp_Gf G = true) {T : Int → Int} {len i f p it m ft : Int} {D : Int → Int} (hT : ∀ j, 0 ≤ T j ∧ T j ≤ 255) (h0 : 0 ≤ i) (h1 : i ≤ len) (hr : rs T len f p it μ) (ht : tk9 T len i μ) (hcR : f = 0 → μ.1 41 7 = m ∧ t_cont 3 D μ) (hit : 0 ≤ it ∧ it ≤ 600) (hD0 : 0 ≤ D 0 ∧ D 0 ≤ it) (hwx : t_wx 3 T len i = 20) (hmx : f = 0 → it ≤ 8) : tp_k G mX5_readLine [tR (some 41), tI 3] μ (fun r μ' => o_P 3 (t_ln 3 T len i (f, p, it, m, ft, D)) μ r μ') := by
  refine tp_ok_of mX5_readLine_ok rfl (Nat.le_refl _) ?_
  obtain ⟨i1, he1⟩ : ∃ x, t_e T len i = x := ⟨_, rfl⟩
  obtain ⟨i2, he2⟩ : ∃ x, t_e T len i1 = x := ⟨_, rfl⟩
  obtain ⟨i3, he3⟩ : ∃ x, t_e T len i2 = x := ⟨_, rfl⟩
  have hb0 := t_s_B (T := T) h1
  have hb1 := t_e_B (T := T) h1
  have hb2 := t_e_B (T := T) (len := len) (i := i1) (by omega)
  have hbs1 := t_s_B (T := T) (len := len) (i := i1) (by omega)
  have hb3 := t_e_B (T := T) (len := len) (i := i2) (by omega)
  have hbs2 := t_s_B (T := T) (len := len) (i := i2) (by omega)
  have hwO : tp_k G mX5_wordOf [tR (some 41), tI 3] μ (fun r μ' => r = some (tI 20) ∧ μ' = μ) := by
    have q := s_wO3 hG hT hr.1 ht.2.2.1 ht.1 ht.2.1 (fun z => (t_k_1 h0 h1 z).1) (fun z => (t_k_1 h0 h1 z).2.1)
    rw [t_wx_o, hwx] at q
    exact q
  refine g_aload_n rfl rfl ?_
  refine g_iload_n rfl rfl ?_
  refine g_cV (as := [tI 3]) (hwO) rfl rfl mX5_wordOf_ok rfl rfl rfl (by decide) rfl rfl rfl ?_
  rintro _ w9 ⟨rfl, hw9⟩ _
  have hw9 := hw9.symm
  subst hw9
  refine g_istore_n rfl rfl rfl ?_
  refine g_iload_n rfl rfl ?_
  refine g_iconst rfl ⟨by decide, by decide⟩ ?_
  refine g_icmp_ne (tgt := 13) rfl (by decide) (fun _ => ?_) (fun hx => absurd hx (by omega))
  refine g_aload_n rfl rfl ?_
  refine g_iload_n rfl rfl ?_
  refine g_iload_n rfl rfl ?_
  refine g_cV (as := [tI 3, tI 20]) (s_cI3b (m := m) (ft := ft) (D := D) hG hr ht hit (by omega)) rfl rfl mX5_countItem_ok rfl rfl rfl (by decide) rfl rfl rfl ?_
  rintro _ w1 ⟨rfl, f1, p1, heq1, hz1, hr1, ht1, hFx1⟩ _
  have hz1f : f1 = 0 → f = 0 ∧ it < 8 := fun z => ⟨(hz1 z).1, (hz1 z).2⟩
  have hFw1 : rF μ w1 := rF_tr rF_rf hFx1
  have hzw1 : f1 = 0 → f = 0 := fun z => by omega
  have hmdw1 : f1 = 0 → w1.1 41 7 = m := fun z => by rw [hFw1.2.1 7 (by omega)]; exact (hcR (hzw1 z)).1
  have hctw1 : f1 = 0 → t_cont 3 D w1 := fun z => t_cont_F hFw1.1 (hcR (hzw1 z)).2
  refine g_iconst rfl ⟨by decide, by decide⟩ ?_
  refine g_istore_n rfl rfl rfl ?_
  refine g_iconst rfl ⟨by decide, by decide⟩ ?_
  refine g_istore rfl rfl rfl ?_
  refine g_iconst rfl ⟨by decide, by decide⟩ ?_
  refine g_istore rfl rfl rfl ?_
  refine g_iload rfl rfl ?_
  refine g_gets rfl ?_
  refine g_iload_n rfl rfl ?_
  refine x_sald (i0 := 4) (v := 2) rfl (by decide) (by decide) (by show _ < ((21 : Nat) : Int); decide) rfl ?_
  refine g_icmp_ge (tgt := 78) rfl (by decide) (fun hx => absurd hx (by omega)) (fun _ => ?_)
  refine g_aload_n rfl rfl ?_
  refine g_cV (as := []) (s_adv9 hG hT hr1 (i := i1) (by omega) (by omega) (ht1.1.trans he1)) rfl rfl mX5_advance_ok rfl rfl rfl (by decide) rfl rfl rfl ?_
  rintro _ w2 ⟨rfl, ht2, hr2, hFx2⟩ _
  have hFw2 : rF μ w2 := rF_tr hFw1 hFx2
  have hzw2 : f1 = 0 → f = 0 := fun z => by omega
  have hmdw2 : f1 = 0 → w2.1 41 7 = m := fun z => by rw [hFw2.2.1 7 (by omega)]; exact (hcR (hzw2 z)).1
  have hctw2 : f1 = 0 → t_cont 3 D w2 := fun z => t_cont_F hFw2.1 (hcR (hzw2 z)).2
  have hkb1 := t_k_b T len i1
  refine g_aload_n rfl rfl ?_
  refine x_geti (v := (t_k T len i1)) rfl rfl (by decide) (Or.inl rfl) ht2.2.1 ?_
  refine g_iconst rfl ⟨by decide, by decide⟩ ?_
  refine g_icmp_eq (tgt := 51) rfl (by decide) (fun h1 => ?_) (fun h1 => ?_)
  · refine g_iload rfl rfl ?_
    refine g_if_ne (tgt := 66) rfl (by decide) (fun hx => absurd hx (by omega)) (fun _ => ?_)
    refine g_aload_n rfl rfl ?_
    refine x_geti (v := (t_v T len i1)) rfl rfl (by decide) (Or.inl rfl) (ht2.2.2.2 (by omega)) ?_
    refine g_istore_n rfl rfl rfl ?_
    refine g_aload_n rfl rfl ?_
    refine g_iload_n rfl rfl ?_
    refine g_cV (as := [tI 20]) (s_cN20 (R := (m, ft, D)) hG hr2 ht2 (by omega)) rfl rfl mX5_checkNumber_ok rfl rfl rfl (by decide) rfl rfl rfl ?_
    rintro _ w3 ⟨rfl, f3, p3, heq2, hz2, hr3, ht3, hFx3⟩ _
    have hz2f : f3 = 0 → f1 = 0 ∧ 0 ≤ t_v T len i1 ∧ t_v T len i1 ≤ 39 := fun z => ⟨(hz2 z).1, (hz2 z).2.1, (hz2 z).2.2⟩
    have hFw3 : rF μ w3 := rF_tr hFw2 hFx3
    have hzw3 : f3 = 0 → f = 0 := fun z => by omega
    have hmdw3 : f3 = 0 → w3.1 41 7 = m := fun z => by rw [hFw3.2.1 7 (by omega)]; exact (hcR (hzw3 z)).1
    have hctw3 : f3 = 0 → t_cont 3 D w3 := fun z => t_cont_F hFw3.1 (hcR (hzw3 z)).2
    refine g_aload_n rfl rfl ?_
    refine x_geti (v := (t_v T len i1)) rfl rfl (by decide) (Or.inl rfl) (ht3.2.2.2 (by omega)) ?_
    refine g_istore rfl rfl rfl ?_
    refine x_iinc (z := 1) rfl rfl (by omega) ⟨by omega, by omega⟩ rfl rfl ?_
    refine g_goto (tgt := 27) rfl (by decide) ?_
    refine g_iload rfl rfl ?_
    refine g_gets rfl ?_
    refine g_iload_n rfl rfl ?_
    refine x_sald (i0 := 4) (v := 2) rfl (by decide) (by decide) (by show _ < ((21 : Nat) : Int); decide) rfl ?_
    refine g_icmp_ge (tgt := 78) rfl (by decide) (fun hx => absurd hx (by omega)) (fun _ => ?_)
    refine g_aload_n rfl rfl ?_
    refine g_cV (as := []) (s_adv9 hG hT hr3 (i := i2) (by omega) (by omega) (ht3.1.trans he2)) rfl rfl mX5_advance_ok rfl rfl rfl (by decide) rfl rfl rfl ?_
    rintro _ w4 ⟨rfl, ht4, hr4, hFx4⟩ _
    have hFw4 : rF μ w4 := rF_tr hFw3 hFx4
    have hzw4 : f3 = 0 → f = 0 := fun z => by omega
    have hmdw4 : f3 = 0 → w4.1 41 7 = m := fun z => by rw [hFw4.2.1 7 (by omega)]; exact (hcR (hzw4 z)).1
    have hctw4 : f3 = 0 → t_cont 3 D w4 := fun z => t_cont_F hFw4.1 (hcR (hzw4 z)).2
    have hkb2 := t_k_b T len i2
    refine g_aload_n rfl rfl ?_
    refine x_geti (v := (t_k T len i2)) rfl rfl (by decide) (Or.inl rfl) ht4.2.1 ?_
    refine g_iconst rfl ⟨by decide, by decide⟩ ?_
    refine g_icmp_eq (tgt := 51) rfl (by decide) (fun h2 => ?_) (fun h2 => ?_)
    · refine g_iload rfl rfl ?_
      refine g_if_ne (tgt := 66) rfl (by decide) (fun _ => ?_) (fun hx => absurd hx (by omega))
      refine g_aload_n rfl rfl ?_
      refine x_geti (v := (t_v T len i2)) rfl rfl (by decide) (Or.inl rfl) (ht4.2.2.2 (by omega)) ?_
      refine g_istore rfl rfl rfl ?_
      refine x_iinc (z := 2) rfl rfl (by omega) ⟨by omega, by omega⟩ rfl rfl ?_
      refine g_goto (tgt := 27) rfl (by decide) ?_
      refine g_iload rfl rfl ?_
      refine g_gets rfl ?_
      refine g_iload_n rfl rfl ?_
      refine x_sald (i0 := 4) (v := 2) rfl (by decide) (by decide) (by show _ < ((21 : Nat) : Int); decide) rfl ?_
      refine g_icmp_ge (tgt := 78) rfl (by decide) (fun _ => ?_) (fun hx => absurd hx (by omega))
      refine g_aload_n rfl rfl ?_
      refine g_cV (as := []) (s_adv9 hG hT hr4 (i := i3) (by omega) (by omega) (ht4.1.trans he3)) rfl rfl mX5_advance_ok rfl rfl rfl (by decide) rfl rfl rfl ?_
      rintro _ w5 ⟨rfl, ht5, hr5, hFx5⟩ _
      have hFw5 : rF μ w5 := rF_tr hFw4 hFx5
      have hzw5 : f3 = 0 → f = 0 := fun z => by omega
      have hmdw5 : f3 = 0 → w5.1 41 7 = m := fun z => by rw [hFw5.2.1 7 (by omega)]; exact (hcR (hzw5 z)).1
      have hctw5 : f3 = 0 → t_cont 3 D w5 := fun z => t_cont_F hFw5.1 (hcR (hzw5 z)).2
      have hkb3 := t_k_b T len i3
      refine g_aload_n rfl rfl ?_
      refine x_geti (v := (t_k T len i3)) rfl rfl (by decide) (Or.inl rfl) ht5.2.1 ?_
      refine g_iconst rfl ⟨by decide, by decide⟩ ?_
      refine g_icmp_eq (tgt := 92) rfl (by decide) (fun h3 => ?_) (fun h3 => ?_)
      · refine g_aload_n rfl rfl ?_
        refine x_geti (v := f3) rfl rfl (by decide) (Or.inl rfl) hr5.2.1.1 ?_
        refine g_if_ne (tgt := 107) rfl (by decide) (fun h4 => ?_) (fun h4 => ?_)
        · refine g_iconst rfl ⟨by decide, by decide⟩ ?_
          refine x_zreturn rfl rfl (Or.inr rfl) ?_
          rw [t_ln_w hwx (by decide), t_l0_2y rfl he1 he2 he3 (by omega) (by omega) (by omega), heq1, heq2]
          exact ⟨rfl, fun z => absurd (show (1 : Int) = 0 from z) (by decide), fun _ => ⟨ht5.1, ⟨hr5.2.1, hr5.2.2, fun z => absurd z (by show ¬ f3 = 0; omega)⟩⟩, o_F_r hFw5⟩
        · refine g_aload_n rfl rfl ?_
          refine g_iload_n rfl rfl ?_
          refine g_iload_n rfl rfl ?_
          refine g_iload rfl rfl ?_
          refine g_iV (as := [tI 20, tI (t_v T len i1), tI (t_v T len i2)]) mX5_take_ok rfl rfl rfl rfl rfl rfl (by decide) rfl rfl rfl ?_
          refine g_iload_n rfl rfl ?_
          refine g_bipush rfl ⟨by decide, by decide⟩ (by decide) ?_
          refine g_icmp_ge (tgt := 35) rfl (by decide) (fun _ => ?_) (fun hx => absurd hx (by omega))
          refine g_iload_n rfl rfl ?_
          refine g_bipush rfl ⟨by decide, by decide⟩ (by decide) ?_
          refine g_icmp_ne (tgt := 49) rfl (by decide) (fun _ => ?_) (fun hx => absurd hx (by omega))
          refine g_iload_n rfl rfl ?_
          refine g_bipush rfl ⟨by decide, by decide⟩ (by decide) ?_
          refine g_icmp_ge (tgt := 70) rfl (by decide) (fun _ => ?_) (fun hx => absurd hx (by omega))
          refine g_iload_n rfl rfl ?_
          refine g_bipush rfl ⟨by decide, by decide⟩ (by decide) ?_
          refine g_icmp_ne (tgt := 89) rfl (by decide) (fun _ => ?_) (fun hx => absurd hx (by omega))
          refine g_iload_n rfl rfl ?_
          refine g_bipush rfl ⟨by decide, by decide⟩ (by decide) ?_
          refine g_icmp_ne (tgt := 108) rfl (by decide) (fun _ => ?_) (fun hx => absurd hx (by omega))
          refine g_iload_n rfl rfl ?_
          refine g_bipush rfl ⟨by decide, by decide⟩ (by decide) ?_
          refine g_icmp_ne (tgt := 126) rfl (by decide) (fun _ => ?_) (fun hx => absurd hx (by omega))
          refine g_iload_n rfl rfl ?_
          refine g_bipush rfl ⟨by decide, by decide⟩ (by decide) ?_
          refine g_icmp_ne (tgt := 143) rfl (by decide) (fun _ => ?_) (fun hx => absurd hx (by omega))
          refine g_iload_n rfl rfl ?_
          refine g_bipush rfl ⟨by decide, by decide⟩ (by decide) ?_
          refine g_icmp_ne (tgt := 158) rfl (by decide) (fun hx => absurd hx (by omega)) (fun _ => ?_)
          refine g_aload_n rfl rfl ?_
          refine x_getF (r := 47) hG rfl rfl (by decide) (Or.inl ⟨_, rfl⟩) rfl ?_
          refine g_iload_n rfl rfl ?_
          refine g_iload_n rfl rfl ?_
          refine g_iV (as := [tI (t_v T len i1), tI (t_v T len i2)]) mX6_add_ok rfl rfl rfl rfl rfl rfl (by decide) rfl rfl rfl ?_
          refine g_aload_n rfl rfl ?_
          refine x_geti (v := (D 0)) rfl rfl (by decide) (Or.inl rfl) (hctw5 (by omega)).1 ?_
          refine g_if_lt (tgt := 61) rfl (by decide) (fun hx => absurd hx (by omega)) (fun _ => ?_)
          refine g_aload_n rfl rfl ?_
          refine x_geti (v := (D 0)) rfl rfl (by decide) (Or.inl rfl) (hctw5 (by omega)).1 ?_
          refine g_aload_n rfl rfl ?_
          refine x_getF (r := 48) hG rfl rfl (by decide) (Or.inr ⟨_, rfl⟩) rfl ?_
          refine g_alen (t0 := 0) rfl rfl rfl (by decide) ⟨by decide, by decide⟩ ?_
          refine g_icmp_ge (tgt := 61) rfl (by decide) (fun hx => absurd hx (by omega)) (fun _ => ?_)
          refine g_aload_n rfl rfl ?_
          refine x_geti (v := (D 0)) rfl rfl (by decide) (Or.inl rfl) (hctw5 (by omega)).1 ?_
          refine g_aload_n rfl rfl ?_
          refine x_getF (r := 49) hG rfl rfl (by decide) (Or.inr ⟨_, rfl⟩) rfl ?_
          refine g_alen (t0 := 0) rfl rfl rfl (by decide) ⟨by decide, by decide⟩ ?_
          refine g_icmp_ge (tgt := 61) rfl (by decide) (fun hx => absurd hx (by omega)) (fun _ => ?_)
          refine g_aload_n rfl rfl ?_
          refine x_getF (r := 48) hG rfl rfl (by decide) (Or.inr ⟨_, rfl⟩) rfl ?_
          refine g_aload_n rfl rfl ?_
          refine x_geti (v := (D 0)) rfl rfl (by decide) (Or.inl rfl) (hctw5 (by omega)).1 ?_
          refine g_iload_n rfl rfl ?_
          refine g_iast rfl rfl (by decide) (by omega) (by omega) ?_
          refine g_aload_n rfl rfl ?_
          refine x_getF (r := 49) hG rfl rfl (by decide) (Or.inr ⟨_, rfl⟩) rfl ?_
          refine g_aload_n rfl rfl ?_
          refine x_geti (v := (D 0)) rfl rfl (by decide) (Or.inl rfl) (hctw5 (by omega)).1 ?_
          refine g_iload_n rfl rfl ?_
          refine g_iast rfl rfl (by decide) (by omega) (by omega) ?_
          refine g_aload_n rfl rfl ?_
          refine g_dupr rfl ?_
          refine x_geti (v := (D 0)) rfl rfl (by decide) (Or.inl rfl) (hctw5 (by omega)).1 ?_
          refine g_iconst rfl ⟨by decide, by decide⟩ ?_
          refine x_iadd (z := (D 0) + 1) rfl (by omega) ⟨by omega, by omega⟩ ?_
          refine g_puti rfl rfl (by decide) rfl rfl ?_
          refine x_return rfl rfl ?_
          intro _
          refine x_return rfl rfl ?_
          intro _
          refine g_iconst rfl ⟨by decide, by decide⟩ ?_
          refine x_zreturn rfl rfl (Or.inr rfl) ?_
          rw [t_ln_w hwx (by decide), t_l0_2y rfl he1 he2 he3 (by omega) (by omega) (by omega), heq1, heq2]
          exact ⟨rfl, fun z => absurd (show (1 : Int) = 0 from z) (by decide), fun _ => ⟨ht5.1, ⟨⟨hr5.2.1.1, hr5.2.1.2.1, hr5.2.1.2.2⟩, hr5.2.2, fun _ => ⟨hmdw5 (by omega), by show t_cont 3 (t_D 20 (t_rw 20 (t_v T len i1)) (t_v T len i2) m D) _; rw [t_D_s (by omega), show t_rw 20 (t_v T len i1) = (t_v T len i1) from t_cl_i (by show (0 : Int) ≤ _ ∧ _ ≤ (39 : Int); omega)]; exact cont_s (hctw5 (by omega)) hD0.1⟩⟩⟩, (o_F_pi (by decide) (o_F_pi (by decide) (o_F_pi (by decide) (o_F_r hFw5))))⟩
      · refine g_iconst rfl ⟨by decide, by decide⟩ ?_
        refine x_zreturn rfl rfl (Or.inl rfl) ?_
        rw [t_ln_w hwx (by decide), t_l0_2n rfl he1 he2 he3 (by omega) (by omega) (by omega)]
        exact ⟨rfl, fun _ => ht5.2.2.1, fun z => absurd (show (0 : Int) = 1 from z) (by decide), o_F_r hFw5⟩
    · refine g_iconst rfl ⟨by decide, by decide⟩ ?_
      refine x_zreturn rfl rfl (Or.inl rfl) ?_
      rw [t_ln_w hwx (by decide), t_l0_2a rfl he1 he2 (by omega) (by omega)]
      exact ⟨rfl, fun _ => ht4.2.2.1, fun z => absurd (show (0 : Int) = 1 from z) (by decide), o_F_r hFw4⟩
  · refine g_iconst rfl ⟨by decide, by decide⟩ ?_
    refine x_zreturn rfl rfl (Or.inl rfl) ?_
    rw [t_ln_w hwx (by decide), t_l0_1a (by decide) he1 (by omega)]
    exact ⟨rfl, fun _ => ht2.2.2.1, fun z => absurd (show (0 : Int) = 1 from z) (by decide), o_F_r hFw2⟩
