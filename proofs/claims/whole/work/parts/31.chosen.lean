theorem r_dr_in {g : Int → Int} {u s : Int} {b : Bool} (h1 : u < g 0) (h2 : 100 ≤ g (1 + u) ↔ b = true) : (r_dr g u s b).1 = g (1 + u) := if_pos ⟨h1, h2⟩
theorem r_dr_out {g : Int → Int} {u s : Int} {b : Bool} (h : ¬ (u < g 0 ∧ (100 ≤ g (1 + u) ↔ b = true))) : (r_dr g u s b).1 = -1 := if_neg h
def tp_cho (μ : tp_M) (p : Nat) (v : Int) : tp_M := if v = -1 then tp_pi μ p 11 2 else tp_pi μ p 13 (μ.1 p 13 + 1)
set_option maxHeartbeats 4000000 in
set_option maxRecDepth 100000 in
theorem s_cho50_1 {G : tp_G} {μ : tp_M} (hG : tp_Gf G = true) {d : Nat} {g : Int → Int} {s : Int} (hd : tp_SH d = .inl 6) (hdn : d < 39) (hdr : μ.2 50 7 = some d) (hg0 : μ.1 d 2 = g 0) (hgv : ∀ i, 0 ≤ i → i < g 0 → μ.1 (d + 1) i = g (1 + i)) (hgw : tp_Dw g) (hln : g 0 ≤ (tp_ln (d + 1) : Int)) (hu : 0 ≤ μ.1 50 13) (hu2 : μ.1 50 13 < 1000) : tp_k G mX7_chosen [tR (some 50), tI 1] μ (fun r μ' => r = some (tI (r_dr g (μ.1 50 13) s true).1) ∧ μ' = tp_cho μ 50 (r_dr g (μ.1 50 13) s true).1) := by
  have hdn : d < 234 := by omega
  have hw0 := hgw.1
  refine tp_ok_of mX7_chosen_ok rfl (Nat.le_refl _) ?_
  by_cases hq : μ.1 50 13 < g 0
  · have hv := hgv _ hu hq
    rcases hgw.2 _ hu hq with hz | hz | hz
    · refine g_aload_n rfl rfl ?_
      refine x_getM (v := (some d)) hG rfl rfl (by decide) (Or.inl ⟨_, rfl⟩) rfl hdr ?_
      refine g_ifnonnull (tgt := 15) rfl (by decide) (fun _ _ => ?_) (fun hx => by cases hx)
      refine g_aload_n rfl rfl ?_
      refine x_getM (v := (some d)) hG rfl rfl (by decide) (Or.inl ⟨_, rfl⟩) rfl hdr ?_
      refine g_aload_n rfl rfl ?_
      refine x_geti (v := (μ.1 50 13)) rfl rfl (by decide) (Or.inl rfl) rfl ?_
      refine g_cV (as := [tI (μ.1 50 13)]) (s_value hG hd hdn (by omega) (by omega) (by omega)) rfl rfl mX6_value_ok rfl hd rfl hdn rfl rfl rfl ?_
      rintro _ w9 ⟨rfl, hw9⟩ _
      have hw9 := hw9.symm
      subst hw9
      refine g_istore_n rfl rfl rfl ?_
      refine g_iload_n rfl rfl ?_
      refine g_bipush rfl ⟨by decide, by decide⟩ (by decide) ?_
      refine g_icmp_eq (tgt := 39) rfl (by decide) (fun hx => absurd hx (by omega)) (fun _ => ?_)
      refine g_iload_n rfl rfl ?_
      refine g_bipush rfl ⟨by decide, by decide⟩ (by decide) ?_
      refine g_icmp_ne (tgt := 43) rfl (by decide) (fun _ => ?_) (fun hx => absurd hx (by omega))
      refine g_iconst rfl ⟨by decide, by decide⟩ ?_
      refine g_istore_n rfl rfl rfl ?_
      refine g_iload_n rfl rfl ?_
      refine g_iconst rfl ⟨by decide, by decide⟩ ?_
      refine g_icmp_eq (tgt := 55) rfl (by decide) (fun hx => absurd hx (by omega)) (fun _ => ?_)
      refine g_iload_n rfl rfl ?_
      refine g_iload_n rfl rfl ?_
      refine g_icmp_eq (tgt := 61) rfl (by decide) (fun hx => absurd hx (by omega)) (fun _ => ?_)
      refine g_aload_n rfl rfl ?_
      refine g_iconst rfl ⟨by decide, by decide⟩ ?_
      refine g_iV (as := [tI 2]) mX7_endBy_ok rfl rfl rfl rfl rfl rfl (by decide) rfl rfl rfl ?_
      refine g_aload_n rfl rfl ?_
      refine g_iload_n rfl rfl ?_
      refine g_puti rfl rfl (by decide) rfl rfl ?_
      refine g_iconst rfl ⟨by decide, by decide⟩ ?_
      refine x_ireturn rfl rfl ?_
      intro _
      refine x_ireturn rfl rfl ?_
      exact ⟨by rw [r_dr_out (fun z => by simp at z; omega)], by rw [r_dr_out (fun z => by simp at z; omega), tp_cho, if_pos rfl]; rfl⟩
    · refine g_aload_n rfl rfl ?_
      refine x_getM (v := (some d)) hG rfl rfl (by decide) (Or.inl ⟨_, rfl⟩) rfl hdr ?_
      refine g_ifnonnull (tgt := 15) rfl (by decide) (fun _ _ => ?_) (fun hx => by cases hx)
      refine g_aload_n rfl rfl ?_
      refine x_getM (v := (some d)) hG rfl rfl (by decide) (Or.inl ⟨_, rfl⟩) rfl hdr ?_
      refine g_aload_n rfl rfl ?_
      refine x_geti (v := (μ.1 50 13)) rfl rfl (by decide) (Or.inl rfl) rfl ?_
      refine g_cV (as := [tI (μ.1 50 13)]) (s_value hG hd hdn (by omega) (by omega) (by omega)) rfl rfl mX6_value_ok rfl hd rfl hdn rfl rfl rfl ?_
      rintro _ w9 ⟨rfl, hw9⟩ _
      have hw9 := hw9.symm
      subst hw9
      refine g_istore_n rfl rfl rfl ?_
      refine g_iload_n rfl rfl ?_
      refine g_bipush rfl ⟨by decide, by decide⟩ (by decide) ?_
      refine g_icmp_eq (tgt := 39) rfl (by decide) (fun _ => ?_) (fun hx => absurd hx (by omega))
      refine g_iconst rfl ⟨by decide, by decide⟩ ?_
      refine g_goto (tgt := 44) rfl (by decide) ?_
      refine g_istore_n rfl rfl rfl ?_
      refine g_iload_n rfl rfl ?_
      refine g_iconst rfl ⟨by decide, by decide⟩ ?_
      refine g_icmp_eq (tgt := 55) rfl (by decide) (fun hx => absurd hx (by omega)) (fun _ => ?_)
      refine g_iload_n rfl rfl ?_
      refine g_iload_n rfl rfl ?_
      refine g_icmp_eq (tgt := 61) rfl (by decide) (fun _ => ?_) (fun hx => absurd hx (by omega))
      refine g_aload_n rfl rfl ?_
      refine g_dupr rfl ?_
      refine x_geti (v := (μ.1 50 13)) rfl rfl (by decide) (Or.inl rfl) rfl ?_
      refine g_iconst rfl ⟨by decide, by decide⟩ ?_
      refine x_iadd (z := (μ.1 50 13) + 1) rfl (by omega) ⟨by omega, by omega⟩ ?_
      refine g_puti rfl rfl (by decide) rfl rfl ?_
      refine g_iload_n rfl rfl ?_
      refine x_ireturn rfl rfl ?_
      exact ⟨by rw [r_dr_in hq (by simp; omega), ← hv], by rw [r_dr_in hq (by simp; omega), tp_cho, if_neg (by omega)]; rfl⟩
    · refine g_aload_n rfl rfl ?_
      refine x_getM (v := (some d)) hG rfl rfl (by decide) (Or.inl ⟨_, rfl⟩) rfl hdr ?_
      refine g_ifnonnull (tgt := 15) rfl (by decide) (fun _ _ => ?_) (fun hx => by cases hx)
      refine g_aload_n rfl rfl ?_
      refine x_getM (v := (some d)) hG rfl rfl (by decide) (Or.inl ⟨_, rfl⟩) rfl hdr ?_
      refine g_aload_n rfl rfl ?_
      refine x_geti (v := (μ.1 50 13)) rfl rfl (by decide) (Or.inl rfl) rfl ?_
      refine g_cV (as := [tI (μ.1 50 13)]) (s_value hG hd hdn (by omega) (by omega) (by omega)) rfl rfl mX6_value_ok rfl hd rfl hdn rfl rfl rfl ?_
      rintro _ w9 ⟨rfl, hw9⟩ _
      have hw9 := hw9.symm
      subst hw9
      refine g_istore_n rfl rfl rfl ?_
      refine g_iload_n rfl rfl ?_
      refine g_bipush rfl ⟨by decide, by decide⟩ (by decide) ?_
      refine g_icmp_eq (tgt := 39) rfl (by decide) (fun hx => absurd hx (by omega)) (fun _ => ?_)
      refine g_iload_n rfl rfl ?_
      refine g_bipush rfl ⟨by decide, by decide⟩ (by decide) ?_
      refine g_icmp_ne (tgt := 43) rfl (by decide) (fun hx => absurd hx (by omega)) (fun _ => ?_)
      refine g_iconst rfl ⟨by decide, by decide⟩ ?_
      refine g_goto (tgt := 44) rfl (by decide) ?_
      refine g_istore_n rfl rfl rfl ?_
      refine g_iload_n rfl rfl ?_
      refine g_iconst rfl ⟨by decide, by decide⟩ ?_
      refine g_icmp_eq (tgt := 55) rfl (by decide) (fun hx => absurd hx (by omega)) (fun _ => ?_)
      refine g_iload_n rfl rfl ?_
      refine g_iload_n rfl rfl ?_
      refine g_icmp_eq (tgt := 61) rfl (by decide) (fun _ => ?_) (fun hx => absurd hx (by omega))
      refine g_aload_n rfl rfl ?_
      refine g_dupr rfl ?_
      refine x_geti (v := (μ.1 50 13)) rfl rfl (by decide) (Or.inl rfl) rfl ?_
      refine g_iconst rfl ⟨by decide, by decide⟩ ?_
      refine x_iadd (z := (μ.1 50 13) + 1) rfl (by omega) ⟨by omega, by omega⟩ ?_
      refine g_puti rfl rfl (by decide) rfl rfl ?_
      refine g_iload_n rfl rfl ?_
      refine x_ireturn rfl rfl ?_
      exact ⟨by rw [r_dr_in hq (by simp; omega), ← hv], by rw [r_dr_in hq (by simp; omega), tp_cho, if_neg (by omega)]; rfl⟩
  · refine g_aload_n rfl rfl ?_
    refine x_getM (v := (some d)) hG rfl rfl (by decide) (Or.inl ⟨_, rfl⟩) rfl hdr ?_
    refine g_ifnonnull (tgt := 15) rfl (by decide) (fun _ _ => ?_) (fun hx => by cases hx)
    refine g_aload_n rfl rfl ?_
    refine x_getM (v := (some d)) hG rfl rfl (by decide) (Or.inl ⟨_, rfl⟩) rfl hdr ?_
    refine g_aload_n rfl rfl ?_
    refine x_geti (v := (μ.1 50 13)) rfl rfl (by decide) (Or.inl rfl) rfl ?_
    refine g_cV (as := [tI (μ.1 50 13)]) (s_valueo hG hd hdn (by omega)) rfl rfl mX6_value_ok rfl hd rfl hdn rfl rfl rfl ?_
    rintro _ w9 ⟨rfl, hw9⟩ _
    have hw9 := hw9.symm
    subst hw9
    refine g_istore_n rfl rfl rfl ?_
    refine g_iload_n rfl rfl ?_
    refine g_bipush rfl ⟨by decide, by decide⟩ (by decide) ?_
    refine g_icmp_eq (tgt := 39) rfl (by decide) (fun hx => absurd hx (by omega)) (fun _ => ?_)
    refine g_iload_n rfl rfl ?_
    refine g_bipush rfl ⟨by decide, by decide⟩ (by decide) ?_
    refine g_icmp_ne (tgt := 43) rfl (by decide) (fun _ => ?_) (fun hx => absurd hx (by omega))
    refine g_iconst rfl ⟨by decide, by decide⟩ ?_
    refine g_istore_n rfl rfl rfl ?_
    refine g_iload_n rfl rfl ?_
    refine g_iconst rfl ⟨by decide, by decide⟩ ?_
    refine g_icmp_eq (tgt := 55) rfl (by decide) (fun _ => ?_) (fun hx => absurd hx (by omega))
    refine g_aload_n rfl rfl ?_
    refine g_iconst rfl ⟨by decide, by decide⟩ ?_
    refine g_iV (as := [tI 2]) mX7_endBy_ok rfl rfl rfl rfl rfl rfl (by decide) rfl rfl rfl ?_
    refine g_aload_n rfl rfl ?_
    refine g_iload_n rfl rfl ?_
    refine g_puti rfl rfl (by decide) rfl rfl ?_
    refine g_iconst rfl ⟨by decide, by decide⟩ ?_
    refine x_ireturn rfl rfl ?_
    intro _
    refine x_ireturn rfl rfl ?_
    exact ⟨by rw [r_dr_out (fun z => by simp at z; omega)], by rw [r_dr_out (fun z => by simp at z; omega), tp_cho, if_pos rfl]; rfl⟩
set_option maxHeartbeats 4000000 in
set_option maxRecDepth 100000 in
theorem s_cho50_0 {G : tp_G} {μ : tp_M} (hG : tp_Gf G = true) {d : Nat} {g : Int → Int} {s : Int} (hd : tp_SH d = .inl 6) (hdn : d < 39) (hdr : μ.2 50 7 = some d) (hg0 : μ.1 d 2 = g 0) (hgv : ∀ i, 0 ≤ i → i < g 0 → μ.1 (d + 1) i = g (1 + i)) (hgw : tp_Dw g) (hln : g 0 ≤ (tp_ln (d + 1) : Int)) (hu : 0 ≤ μ.1 50 13) (hu2 : μ.1 50 13 < 1000) : tp_k G mX7_chosen [tR (some 50), tI 0] μ (fun r μ' => r = some (tI (r_dr g (μ.1 50 13) s false).1) ∧ μ' = tp_cho μ 50 (r_dr g (μ.1 50 13) s false).1) := by
  have hdn : d < 234 := by omega
  have hw0 := hgw.1
  refine tp_ok_of mX7_chosen_ok rfl (Nat.le_refl _) ?_
  by_cases hq : μ.1 50 13 < g 0
  · have hv := hgv _ hu hq
    rcases hgw.2 _ hu hq with hz | hz | hz
    · refine g_aload_n rfl rfl ?_
      refine x_getM (v := (some d)) hG rfl rfl (by decide) (Or.inl ⟨_, rfl⟩) rfl hdr ?_
      refine g_ifnonnull (tgt := 15) rfl (by decide) (fun _ _ => ?_) (fun hx => by cases hx)
      refine g_aload_n rfl rfl ?_
      refine x_getM (v := (some d)) hG rfl rfl (by decide) (Or.inl ⟨_, rfl⟩) rfl hdr ?_
      refine g_aload_n rfl rfl ?_
      refine x_geti (v := (μ.1 50 13)) rfl rfl (by decide) (Or.inl rfl) rfl ?_
      refine g_cV (as := [tI (μ.1 50 13)]) (s_value hG hd hdn (by omega) (by omega) (by omega)) rfl rfl mX6_value_ok rfl hd rfl hdn rfl rfl rfl ?_
      rintro _ w9 ⟨rfl, hw9⟩ _
      have hw9 := hw9.symm
      subst hw9
      refine g_istore_n rfl rfl rfl ?_
      refine g_iload_n rfl rfl ?_
      refine g_bipush rfl ⟨by decide, by decide⟩ (by decide) ?_
      refine g_icmp_eq (tgt := 39) rfl (by decide) (fun hx => absurd hx (by omega)) (fun _ => ?_)
      refine g_iload_n rfl rfl ?_
      refine g_bipush rfl ⟨by decide, by decide⟩ (by decide) ?_
      refine g_icmp_ne (tgt := 43) rfl (by decide) (fun _ => ?_) (fun hx => absurd hx (by omega))
      refine g_iconst rfl ⟨by decide, by decide⟩ ?_
      refine g_istore_n rfl rfl rfl ?_
      refine g_iload_n rfl rfl ?_
      refine g_iconst rfl ⟨by decide, by decide⟩ ?_
      refine g_icmp_eq (tgt := 55) rfl (by decide) (fun hx => absurd hx (by omega)) (fun _ => ?_)
      refine g_iload_n rfl rfl ?_
      refine g_iload_n rfl rfl ?_
      refine g_icmp_eq (tgt := 61) rfl (by decide) (fun _ => ?_) (fun hx => absurd hx (by omega))
      refine g_aload_n rfl rfl ?_
      refine g_dupr rfl ?_
      refine x_geti (v := (μ.1 50 13)) rfl rfl (by decide) (Or.inl rfl) rfl ?_
      refine g_iconst rfl ⟨by decide, by decide⟩ ?_
      refine x_iadd (z := (μ.1 50 13) + 1) rfl (by omega) ⟨by omega, by omega⟩ ?_
      refine g_puti rfl rfl (by decide) rfl rfl ?_
      refine g_iload_n rfl rfl ?_
      refine x_ireturn rfl rfl ?_
      exact ⟨by rw [r_dr_in hq (by simp; omega), ← hv], by rw [r_dr_in hq (by simp; omega), tp_cho, if_neg (by omega)]; rfl⟩
    · refine g_aload_n rfl rfl ?_
      refine x_getM (v := (some d)) hG rfl rfl (by decide) (Or.inl ⟨_, rfl⟩) rfl hdr ?_
      refine g_ifnonnull (tgt := 15) rfl (by decide) (fun _ _ => ?_) (fun hx => by cases hx)
      refine g_aload_n rfl rfl ?_
      refine x_getM (v := (some d)) hG rfl rfl (by decide) (Or.inl ⟨_, rfl⟩) rfl hdr ?_
      refine g_aload_n rfl rfl ?_
      refine x_geti (v := (μ.1 50 13)) rfl rfl (by decide) (Or.inl rfl) rfl ?_
      refine g_cV (as := [tI (μ.1 50 13)]) (s_value hG hd hdn (by omega) (by omega) (by omega)) rfl rfl mX6_value_ok rfl hd rfl hdn rfl rfl rfl ?_
      rintro _ w9 ⟨rfl, hw9⟩ _
      have hw9 := hw9.symm
      subst hw9
      refine g_istore_n rfl rfl rfl ?_
      refine g_iload_n rfl rfl ?_
      refine g_bipush rfl ⟨by decide, by decide⟩ (by decide) ?_
      refine g_icmp_eq (tgt := 39) rfl (by decide) (fun _ => ?_) (fun hx => absurd hx (by omega))
      refine g_iconst rfl ⟨by decide, by decide⟩ ?_
      refine g_goto (tgt := 44) rfl (by decide) ?_
      refine g_istore_n rfl rfl rfl ?_
      refine g_iload_n rfl rfl ?_
      refine g_iconst rfl ⟨by decide, by decide⟩ ?_
      refine g_icmp_eq (tgt := 55) rfl (by decide) (fun hx => absurd hx (by omega)) (fun _ => ?_)
      refine g_iload_n rfl rfl ?_
      refine g_iload_n rfl rfl ?_
      refine g_icmp_eq (tgt := 61) rfl (by decide) (fun hx => absurd hx (by omega)) (fun _ => ?_)
      refine g_aload_n rfl rfl ?_
      refine g_iconst rfl ⟨by decide, by decide⟩ ?_
      refine g_iV (as := [tI 2]) mX7_endBy_ok rfl rfl rfl rfl rfl rfl (by decide) rfl rfl rfl ?_
      refine g_aload_n rfl rfl ?_
      refine g_iload_n rfl rfl ?_
      refine g_puti rfl rfl (by decide) rfl rfl ?_
      refine g_iconst rfl ⟨by decide, by decide⟩ ?_
      refine x_ireturn rfl rfl ?_
      intro _
      refine x_ireturn rfl rfl ?_
      exact ⟨by rw [r_dr_out (fun z => by simp at z; omega)], by rw [r_dr_out (fun z => by simp at z; omega), tp_cho, if_pos rfl]; rfl⟩
    · refine g_aload_n rfl rfl ?_
      refine x_getM (v := (some d)) hG rfl rfl (by decide) (Or.inl ⟨_, rfl⟩) rfl hdr ?_
      refine g_ifnonnull (tgt := 15) rfl (by decide) (fun _ _ => ?_) (fun hx => by cases hx)
      refine g_aload_n rfl rfl ?_
      refine x_getM (v := (some d)) hG rfl rfl (by decide) (Or.inl ⟨_, rfl⟩) rfl hdr ?_
      refine g_aload_n rfl rfl ?_
      refine x_geti (v := (μ.1 50 13)) rfl rfl (by decide) (Or.inl rfl) rfl ?_
      refine g_cV (as := [tI (μ.1 50 13)]) (s_value hG hd hdn (by omega) (by omega) (by omega)) rfl rfl mX6_value_ok rfl hd rfl hdn rfl rfl rfl ?_
      rintro _ w9 ⟨rfl, hw9⟩ _
      have hw9 := hw9.symm
      subst hw9
      refine g_istore_n rfl rfl rfl ?_
      refine g_iload_n rfl rfl ?_
      refine g_bipush rfl ⟨by decide, by decide⟩ (by decide) ?_
      refine g_icmp_eq (tgt := 39) rfl (by decide) (fun hx => absurd hx (by omega)) (fun _ => ?_)
      refine g_iload_n rfl rfl ?_
      refine g_bipush rfl ⟨by decide, by decide⟩ (by decide) ?_
      refine g_icmp_ne (tgt := 43) rfl (by decide) (fun hx => absurd hx (by omega)) (fun _ => ?_)
      refine g_iconst rfl ⟨by decide, by decide⟩ ?_
      refine g_goto (tgt := 44) rfl (by decide) ?_
      refine g_istore_n rfl rfl rfl ?_
      refine g_iload_n rfl rfl ?_
      refine g_iconst rfl ⟨by decide, by decide⟩ ?_
      refine g_icmp_eq (tgt := 55) rfl (by decide) (fun hx => absurd hx (by omega)) (fun _ => ?_)
      refine g_iload_n rfl rfl ?_
      refine g_iload_n rfl rfl ?_
      refine g_icmp_eq (tgt := 61) rfl (by decide) (fun hx => absurd hx (by omega)) (fun _ => ?_)
      refine g_aload_n rfl rfl ?_
      refine g_iconst rfl ⟨by decide, by decide⟩ ?_
      refine g_iV (as := [tI 2]) mX7_endBy_ok rfl rfl rfl rfl rfl rfl (by decide) rfl rfl rfl ?_
      refine g_aload_n rfl rfl ?_
      refine g_iload_n rfl rfl ?_
      refine g_puti rfl rfl (by decide) rfl rfl ?_
      refine g_iconst rfl ⟨by decide, by decide⟩ ?_
      refine x_ireturn rfl rfl ?_
      intro _
      refine x_ireturn rfl rfl ?_
      exact ⟨by rw [r_dr_out (fun z => by simp at z; omega)], by rw [r_dr_out (fun z => by simp at z; omega), tp_cho, if_pos rfl]; rfl⟩
  · refine g_aload_n rfl rfl ?_
    refine x_getM (v := (some d)) hG rfl rfl (by decide) (Or.inl ⟨_, rfl⟩) rfl hdr ?_
    refine g_ifnonnull (tgt := 15) rfl (by decide) (fun _ _ => ?_) (fun hx => by cases hx)
    refine g_aload_n rfl rfl ?_
    refine x_getM (v := (some d)) hG rfl rfl (by decide) (Or.inl ⟨_, rfl⟩) rfl hdr ?_
    refine g_aload_n rfl rfl ?_
    refine x_geti (v := (μ.1 50 13)) rfl rfl (by decide) (Or.inl rfl) rfl ?_
    refine g_cV (as := [tI (μ.1 50 13)]) (s_valueo hG hd hdn (by omega)) rfl rfl mX6_value_ok rfl hd rfl hdn rfl rfl rfl ?_
    rintro _ w9 ⟨rfl, hw9⟩ _
    have hw9 := hw9.symm
    subst hw9
    refine g_istore_n rfl rfl rfl ?_
    refine g_iload_n rfl rfl ?_
    refine g_bipush rfl ⟨by decide, by decide⟩ (by decide) ?_
    refine g_icmp_eq (tgt := 39) rfl (by decide) (fun hx => absurd hx (by omega)) (fun _ => ?_)
    refine g_iload_n rfl rfl ?_
    refine g_bipush rfl ⟨by decide, by decide⟩ (by decide) ?_
    refine g_icmp_ne (tgt := 43) rfl (by decide) (fun _ => ?_) (fun hx => absurd hx (by omega))
    refine g_iconst rfl ⟨by decide, by decide⟩ ?_
    refine g_istore_n rfl rfl rfl ?_
    refine g_iload_n rfl rfl ?_
    refine g_iconst rfl ⟨by decide, by decide⟩ ?_
    refine g_icmp_eq (tgt := 55) rfl (by decide) (fun _ => ?_) (fun hx => absurd hx (by omega))
    refine g_aload_n rfl rfl ?_
    refine g_iconst rfl ⟨by decide, by decide⟩ ?_
    refine g_iV (as := [tI 2]) mX7_endBy_ok rfl rfl rfl rfl rfl rfl (by decide) rfl rfl rfl ?_
    refine g_aload_n rfl rfl ?_
    refine g_iload_n rfl rfl ?_
    refine g_puti rfl rfl (by decide) rfl rfl ?_
    refine g_iconst rfl ⟨by decide, by decide⟩ ?_
    refine x_ireturn rfl rfl ?_
    intro _
    refine x_ireturn rfl rfl ?_
    exact ⟨by rw [r_dr_out (fun z => by simp at z; omega)], by rw [r_dr_out (fun z => by simp at z; omega), tp_cho, if_pos rfl]; rfl⟩
set_option maxHeartbeats 4000000 in
set_option maxRecDepth 100000 in
theorem s_cho56_1 {G : tp_G} {μ : tp_M} (hG : tp_Gf G = true) {d : Nat} {g : Int → Int} {s : Int} (hd : tp_SH d = .inl 6) (hdn : d < 39) (hdr : μ.2 56 7 = some d) (hg0 : μ.1 d 2 = g 0) (hgv : ∀ i, 0 ≤ i → i < g 0 → μ.1 (d + 1) i = g (1 + i)) (hgw : tp_Dw g) (hln : g 0 ≤ (tp_ln (d + 1) : Int)) (hu : 0 ≤ μ.1 56 13) (hu2 : μ.1 56 13 < 1000) : tp_k G mX7_chosen [tR (some 56), tI 1] μ (fun r μ' => r = some (tI (r_dr g (μ.1 56 13) s true).1) ∧ μ' = tp_cho μ 56 (r_dr g (μ.1 56 13) s true).1) := by
  have hdn : d < 234 := by omega
  have hw0 := hgw.1
  refine tp_ok_of mX7_chosen_ok rfl (Nat.le_refl _) ?_
  by_cases hq : μ.1 56 13 < g 0
  · have hv := hgv _ hu hq
    rcases hgw.2 _ hu hq with hz | hz | hz
    · refine g_aload_n rfl rfl ?_
      refine x_getM (v := (some d)) hG rfl rfl (by decide) (Or.inl ⟨_, rfl⟩) rfl hdr ?_
      refine g_ifnonnull (tgt := 15) rfl (by decide) (fun _ _ => ?_) (fun hx => by cases hx)
      refine g_aload_n rfl rfl ?_
      refine x_getM (v := (some d)) hG rfl rfl (by decide) (Or.inl ⟨_, rfl⟩) rfl hdr ?_
      refine g_aload_n rfl rfl ?_
      refine x_geti (v := (μ.1 56 13)) rfl rfl (by decide) (Or.inl rfl) rfl ?_
      refine g_cV (as := [tI (μ.1 56 13)]) (s_value hG hd hdn (by omega) (by omega) (by omega)) rfl rfl mX6_value_ok rfl hd rfl hdn rfl rfl rfl ?_
      rintro _ w9 ⟨rfl, hw9⟩ _
      have hw9 := hw9.symm
      subst hw9
      refine g_istore_n rfl rfl rfl ?_
      refine g_iload_n rfl rfl ?_
      refine g_bipush rfl ⟨by decide, by decide⟩ (by decide) ?_
      refine g_icmp_eq (tgt := 39) rfl (by decide) (fun hx => absurd hx (by omega)) (fun _ => ?_)
      refine g_iload_n rfl rfl ?_
      refine g_bipush rfl ⟨by decide, by decide⟩ (by decide) ?_
      refine g_icmp_ne (tgt := 43) rfl (by decide) (fun _ => ?_) (fun hx => absurd hx (by omega))
      refine g_iconst rfl ⟨by decide, by decide⟩ ?_
      refine g_istore_n rfl rfl rfl ?_
      refine g_iload_n rfl rfl ?_
      refine g_iconst rfl ⟨by decide, by decide⟩ ?_
      refine g_icmp_eq (tgt := 55) rfl (by decide) (fun hx => absurd hx (by omega)) (fun _ => ?_)
      refine g_iload_n rfl rfl ?_
      refine g_iload_n rfl rfl ?_
      refine g_icmp_eq (tgt := 61) rfl (by decide) (fun hx => absurd hx (by omega)) (fun _ => ?_)
      refine g_aload_n rfl rfl ?_
      refine g_iconst rfl ⟨by decide, by decide⟩ ?_
      refine g_iV (as := [tI 2]) mX7_endBy_ok rfl rfl rfl rfl rfl rfl (by decide) rfl rfl rfl ?_
      refine g_aload_n rfl rfl ?_
      refine g_iload_n rfl rfl ?_
      refine g_puti rfl rfl (by decide) rfl rfl ?_
      refine g_iconst rfl ⟨by decide, by decide⟩ ?_
      refine x_ireturn rfl rfl ?_
      intro _
      refine x_ireturn rfl rfl ?_
      exact ⟨by rw [r_dr_out (fun z => by simp at z; omega)], by rw [r_dr_out (fun z => by simp at z; omega), tp_cho, if_pos rfl]; rfl⟩
    · refine g_aload_n rfl rfl ?_
      refine x_getM (v := (some d)) hG rfl rfl (by decide) (Or.inl ⟨_, rfl⟩) rfl hdr ?_
      refine g_ifnonnull (tgt := 15) rfl (by decide) (fun _ _ => ?_) (fun hx => by cases hx)
      refine g_aload_n rfl rfl ?_
      refine x_getM (v := (some d)) hG rfl rfl (by decide) (Or.inl ⟨_, rfl⟩) rfl hdr ?_
      refine g_aload_n rfl rfl ?_
      refine x_geti (v := (μ.1 56 13)) rfl rfl (by decide) (Or.inl rfl) rfl ?_
      refine g_cV (as := [tI (μ.1 56 13)]) (s_value hG hd hdn (by omega) (by omega) (by omega)) rfl rfl mX6_value_ok rfl hd rfl hdn rfl rfl rfl ?_
      rintro _ w9 ⟨rfl, hw9⟩ _
      have hw9 := hw9.symm
      subst hw9
      refine g_istore_n rfl rfl rfl ?_
      refine g_iload_n rfl rfl ?_
      refine g_bipush rfl ⟨by decide, by decide⟩ (by decide) ?_
      refine g_icmp_eq (tgt := 39) rfl (by decide) (fun _ => ?_) (fun hx => absurd hx (by omega))
      refine g_iconst rfl ⟨by decide, by decide⟩ ?_
      refine g_goto (tgt := 44) rfl (by decide) ?_
      refine g_istore_n rfl rfl rfl ?_
      refine g_iload_n rfl rfl ?_
      refine g_iconst rfl ⟨by decide, by decide⟩ ?_
      refine g_icmp_eq (tgt := 55) rfl (by decide) (fun hx => absurd hx (by omega)) (fun _ => ?_)
      refine g_iload_n rfl rfl ?_
      refine g_iload_n rfl rfl ?_
      refine g_icmp_eq (tgt := 61) rfl (by decide) (fun _ => ?_) (fun hx => absurd hx (by omega))
      refine g_aload_n rfl rfl ?_
      refine g_dupr rfl ?_
      refine x_geti (v := (μ.1 56 13)) rfl rfl (by decide) (Or.inl rfl) rfl ?_
      refine g_iconst rfl ⟨by decide, by decide⟩ ?_
      refine x_iadd (z := (μ.1 56 13) + 1) rfl (by omega) ⟨by omega, by omega⟩ ?_
      refine g_puti rfl rfl (by decide) rfl rfl ?_
      refine g_iload_n rfl rfl ?_
      refine x_ireturn rfl rfl ?_
      exact ⟨by rw [r_dr_in hq (by simp; omega), ← hv], by rw [r_dr_in hq (by simp; omega), tp_cho, if_neg (by omega)]; rfl⟩
    · refine g_aload_n rfl rfl ?_
      refine x_getM (v := (some d)) hG rfl rfl (by decide) (Or.inl ⟨_, rfl⟩) rfl hdr ?_
      refine g_ifnonnull (tgt := 15) rfl (by decide) (fun _ _ => ?_) (fun hx => by cases hx)
      refine g_aload_n rfl rfl ?_
      refine x_getM (v := (some d)) hG rfl rfl (by decide) (Or.inl ⟨_, rfl⟩) rfl hdr ?_
      refine g_aload_n rfl rfl ?_
      refine x_geti (v := (μ.1 56 13)) rfl rfl (by decide) (Or.inl rfl) rfl ?_
      refine g_cV (as := [tI (μ.1 56 13)]) (s_value hG hd hdn (by omega) (by omega) (by omega)) rfl rfl mX6_value_ok rfl hd rfl hdn rfl rfl rfl ?_
      rintro _ w9 ⟨rfl, hw9⟩ _
      have hw9 := hw9.symm
      subst hw9
      refine g_istore_n rfl rfl rfl ?_
      refine g_iload_n rfl rfl ?_
      refine g_bipush rfl ⟨by decide, by decide⟩ (by decide) ?_
      refine g_icmp_eq (tgt := 39) rfl (by decide) (fun hx => absurd hx (by omega)) (fun _ => ?_)
      refine g_iload_n rfl rfl ?_
      refine g_bipush rfl ⟨by decide, by decide⟩ (by decide) ?_
      refine g_icmp_ne (tgt := 43) rfl (by decide) (fun hx => absurd hx (by omega)) (fun _ => ?_)
      refine g_iconst rfl ⟨by decide, by decide⟩ ?_
      refine g_goto (tgt := 44) rfl (by decide) ?_
      refine g_istore_n rfl rfl rfl ?_
      refine g_iload_n rfl rfl ?_
      refine g_iconst rfl ⟨by decide, by decide⟩ ?_
      refine g_icmp_eq (tgt := 55) rfl (by decide) (fun hx => absurd hx (by omega)) (fun _ => ?_)
      refine g_iload_n rfl rfl ?_
      refine g_iload_n rfl rfl ?_
      refine g_icmp_eq (tgt := 61) rfl (by decide) (fun _ => ?_) (fun hx => absurd hx (by omega))
      refine g_aload_n rfl rfl ?_
      refine g_dupr rfl ?_
      refine x_geti (v := (μ.1 56 13)) rfl rfl (by decide) (Or.inl rfl) rfl ?_
      refine g_iconst rfl ⟨by decide, by decide⟩ ?_
      refine x_iadd (z := (μ.1 56 13) + 1) rfl (by omega) ⟨by omega, by omega⟩ ?_
      refine g_puti rfl rfl (by decide) rfl rfl ?_
      refine g_iload_n rfl rfl ?_
      refine x_ireturn rfl rfl ?_
      exact ⟨by rw [r_dr_in hq (by simp; omega), ← hv], by rw [r_dr_in hq (by simp; omega), tp_cho, if_neg (by omega)]; rfl⟩
  · refine g_aload_n rfl rfl ?_
    refine x_getM (v := (some d)) hG rfl rfl (by decide) (Or.inl ⟨_, rfl⟩) rfl hdr ?_
    refine g_ifnonnull (tgt := 15) rfl (by decide) (fun _ _ => ?_) (fun hx => by cases hx)
    refine g_aload_n rfl rfl ?_
    refine x_getM (v := (some d)) hG rfl rfl (by decide) (Or.inl ⟨_, rfl⟩) rfl hdr ?_
    refine g_aload_n rfl rfl ?_
    refine x_geti (v := (μ.1 56 13)) rfl rfl (by decide) (Or.inl rfl) rfl ?_
    refine g_cV (as := [tI (μ.1 56 13)]) (s_valueo hG hd hdn (by omega)) rfl rfl mX6_value_ok rfl hd rfl hdn rfl rfl rfl ?_
    rintro _ w9 ⟨rfl, hw9⟩ _
    have hw9 := hw9.symm
    subst hw9
    refine g_istore_n rfl rfl rfl ?_
    refine g_iload_n rfl rfl ?_
    refine g_bipush rfl ⟨by decide, by decide⟩ (by decide) ?_
    refine g_icmp_eq (tgt := 39) rfl (by decide) (fun hx => absurd hx (by omega)) (fun _ => ?_)
    refine g_iload_n rfl rfl ?_
    refine g_bipush rfl ⟨by decide, by decide⟩ (by decide) ?_
    refine g_icmp_ne (tgt := 43) rfl (by decide) (fun _ => ?_) (fun hx => absurd hx (by omega))
    refine g_iconst rfl ⟨by decide, by decide⟩ ?_
    refine g_istore_n rfl rfl rfl ?_
    refine g_iload_n rfl rfl ?_
    refine g_iconst rfl ⟨by decide, by decide⟩ ?_
    refine g_icmp_eq (tgt := 55) rfl (by decide) (fun _ => ?_) (fun hx => absurd hx (by omega))
    refine g_aload_n rfl rfl ?_
    refine g_iconst rfl ⟨by decide, by decide⟩ ?_
    refine g_iV (as := [tI 2]) mX7_endBy_ok rfl rfl rfl rfl rfl rfl (by decide) rfl rfl rfl ?_
    refine g_aload_n rfl rfl ?_
    refine g_iload_n rfl rfl ?_
    refine g_puti rfl rfl (by decide) rfl rfl ?_
    refine g_iconst rfl ⟨by decide, by decide⟩ ?_
    refine x_ireturn rfl rfl ?_
    intro _
    refine x_ireturn rfl rfl ?_
    exact ⟨by rw [r_dr_out (fun z => by simp at z; omega)], by rw [r_dr_out (fun z => by simp at z; omega), tp_cho, if_pos rfl]; rfl⟩
set_option maxHeartbeats 4000000 in
set_option maxRecDepth 100000 in
theorem s_cho56_0 {G : tp_G} {μ : tp_M} (hG : tp_Gf G = true) {d : Nat} {g : Int → Int} {s : Int} (hd : tp_SH d = .inl 6) (hdn : d < 39) (hdr : μ.2 56 7 = some d) (hg0 : μ.1 d 2 = g 0) (hgv : ∀ i, 0 ≤ i → i < g 0 → μ.1 (d + 1) i = g (1 + i)) (hgw : tp_Dw g) (hln : g 0 ≤ (tp_ln (d + 1) : Int)) (hu : 0 ≤ μ.1 56 13) (hu2 : μ.1 56 13 < 1000) : tp_k G mX7_chosen [tR (some 56), tI 0] μ (fun r μ' => r = some (tI (r_dr g (μ.1 56 13) s false).1) ∧ μ' = tp_cho μ 56 (r_dr g (μ.1 56 13) s false).1) := by
  have hdn : d < 234 := by omega
  have hw0 := hgw.1
  refine tp_ok_of mX7_chosen_ok rfl (Nat.le_refl _) ?_
  by_cases hq : μ.1 56 13 < g 0
  · have hv := hgv _ hu hq
    rcases hgw.2 _ hu hq with hz | hz | hz
    · refine g_aload_n rfl rfl ?_
      refine x_getM (v := (some d)) hG rfl rfl (by decide) (Or.inl ⟨_, rfl⟩) rfl hdr ?_
      refine g_ifnonnull (tgt := 15) rfl (by decide) (fun _ _ => ?_) (fun hx => by cases hx)
      refine g_aload_n rfl rfl ?_
      refine x_getM (v := (some d)) hG rfl rfl (by decide) (Or.inl ⟨_, rfl⟩) rfl hdr ?_
      refine g_aload_n rfl rfl ?_
      refine x_geti (v := (μ.1 56 13)) rfl rfl (by decide) (Or.inl rfl) rfl ?_
      refine g_cV (as := [tI (μ.1 56 13)]) (s_value hG hd hdn (by omega) (by omega) (by omega)) rfl rfl mX6_value_ok rfl hd rfl hdn rfl rfl rfl ?_
      rintro _ w9 ⟨rfl, hw9⟩ _
      have hw9 := hw9.symm
      subst hw9
      refine g_istore_n rfl rfl rfl ?_
      refine g_iload_n rfl rfl ?_
      refine g_bipush rfl ⟨by decide, by decide⟩ (by decide) ?_
      refine g_icmp_eq (tgt := 39) rfl (by decide) (fun hx => absurd hx (by omega)) (fun _ => ?_)
      refine g_iload_n rfl rfl ?_
      refine g_bipush rfl ⟨by decide, by decide⟩ (by decide) ?_
      refine g_icmp_ne (tgt := 43) rfl (by decide) (fun _ => ?_) (fun hx => absurd hx (by omega))
      refine g_iconst rfl ⟨by decide, by decide⟩ ?_
      refine g_istore_n rfl rfl rfl ?_
      refine g_iload_n rfl rfl ?_
      refine g_iconst rfl ⟨by decide, by decide⟩ ?_
      refine g_icmp_eq (tgt := 55) rfl (by decide) (fun hx => absurd hx (by omega)) (fun _ => ?_)
      refine g_iload_n rfl rfl ?_
      refine g_iload_n rfl rfl ?_
      refine g_icmp_eq (tgt := 61) rfl (by decide) (fun _ => ?_) (fun hx => absurd hx (by omega))
      refine g_aload_n rfl rfl ?_
      refine g_dupr rfl ?_
      refine x_geti (v := (μ.1 56 13)) rfl rfl (by decide) (Or.inl rfl) rfl ?_
      refine g_iconst rfl ⟨by decide, by decide⟩ ?_
      refine x_iadd (z := (μ.1 56 13) + 1) rfl (by omega) ⟨by omega, by omega⟩ ?_
      refine g_puti rfl rfl (by decide) rfl rfl ?_
      refine g_iload_n rfl rfl ?_
      refine x_ireturn rfl rfl ?_
      exact ⟨by rw [r_dr_in hq (by simp; omega), ← hv], by rw [r_dr_in hq (by simp; omega), tp_cho, if_neg (by omega)]; rfl⟩
    · refine g_aload_n rfl rfl ?_
      refine x_getM (v := (some d)) hG rfl rfl (by decide) (Or.inl ⟨_, rfl⟩) rfl hdr ?_
      refine g_ifnonnull (tgt := 15) rfl (by decide) (fun _ _ => ?_) (fun hx => by cases hx)
      refine g_aload_n rfl rfl ?_
      refine x_getM (v := (some d)) hG rfl rfl (by decide) (Or.inl ⟨_, rfl⟩) rfl hdr ?_
      refine g_aload_n rfl rfl ?_
      refine x_geti (v := (μ.1 56 13)) rfl rfl (by decide) (Or.inl rfl) rfl ?_
      refine g_cV (as := [tI (μ.1 56 13)]) (s_value hG hd hdn (by omega) (by omega) (by omega)) rfl rfl mX6_value_ok rfl hd rfl hdn rfl rfl rfl ?_
      rintro _ w9 ⟨rfl, hw9⟩ _
      have hw9 := hw9.symm
      subst hw9
      refine g_istore_n rfl rfl rfl ?_
      refine g_iload_n rfl rfl ?_
      refine g_bipush rfl ⟨by decide, by decide⟩ (by decide) ?_
      refine g_icmp_eq (tgt := 39) rfl (by decide) (fun _ => ?_) (fun hx => absurd hx (by omega))
      refine g_iconst rfl ⟨by decide, by decide⟩ ?_
      refine g_goto (tgt := 44) rfl (by decide) ?_
      refine g_istore_n rfl rfl rfl ?_
      refine g_iload_n rfl rfl ?_
      refine g_iconst rfl ⟨by decide, by decide⟩ ?_
      refine g_icmp_eq (tgt := 55) rfl (by decide) (fun hx => absurd hx (by omega)) (fun _ => ?_)
      refine g_iload_n rfl rfl ?_
      refine g_iload_n rfl rfl ?_
      refine g_icmp_eq (tgt := 61) rfl (by decide) (fun hx => absurd hx (by omega)) (fun _ => ?_)
      refine g_aload_n rfl rfl ?_
      refine g_iconst rfl ⟨by decide, by decide⟩ ?_
      refine g_iV (as := [tI 2]) mX7_endBy_ok rfl rfl rfl rfl rfl rfl (by decide) rfl rfl rfl ?_
      refine g_aload_n rfl rfl ?_
      refine g_iload_n rfl rfl ?_
      refine g_puti rfl rfl (by decide) rfl rfl ?_
      refine g_iconst rfl ⟨by decide, by decide⟩ ?_
      refine x_ireturn rfl rfl ?_
      intro _
      refine x_ireturn rfl rfl ?_
      exact ⟨by rw [r_dr_out (fun z => by simp at z; omega)], by rw [r_dr_out (fun z => by simp at z; omega), tp_cho, if_pos rfl]; rfl⟩
    · refine g_aload_n rfl rfl ?_
      refine x_getM (v := (some d)) hG rfl rfl (by decide) (Or.inl ⟨_, rfl⟩) rfl hdr ?_
      refine g_ifnonnull (tgt := 15) rfl (by decide) (fun _ _ => ?_) (fun hx => by cases hx)
      refine g_aload_n rfl rfl ?_
      refine x_getM (v := (some d)) hG rfl rfl (by decide) (Or.inl ⟨_, rfl⟩) rfl hdr ?_
      refine g_aload_n rfl rfl ?_
      refine x_geti (v := (μ.1 56 13)) rfl rfl (by decide) (Or.inl rfl) rfl ?_
      refine g_cV (as := [tI (μ.1 56 13)]) (s_value hG hd hdn (by omega) (by omega) (by omega)) rfl rfl mX6_value_ok rfl hd rfl hdn rfl rfl rfl ?_
      rintro _ w9 ⟨rfl, hw9⟩ _
      have hw9 := hw9.symm
      subst hw9
      refine g_istore_n rfl rfl rfl ?_
      refine g_iload_n rfl rfl ?_
      refine g_bipush rfl ⟨by decide, by decide⟩ (by decide) ?_
      refine g_icmp_eq (tgt := 39) rfl (by decide) (fun hx => absurd hx (by omega)) (fun _ => ?_)
      refine g_iload_n rfl rfl ?_
      refine g_bipush rfl ⟨by decide, by decide⟩ (by decide) ?_
      refine g_icmp_ne (tgt := 43) rfl (by decide) (fun hx => absurd hx (by omega)) (fun _ => ?_)
      refine g_iconst rfl ⟨by decide, by decide⟩ ?_
      refine g_goto (tgt := 44) rfl (by decide) ?_
      refine g_istore_n rfl rfl rfl ?_
      refine g_iload_n rfl rfl ?_
      refine g_iconst rfl ⟨by decide, by decide⟩ ?_
      refine g_icmp_eq (tgt := 55) rfl (by decide) (fun hx => absurd hx (by omega)) (fun _ => ?_)
      refine g_iload_n rfl rfl ?_
      refine g_iload_n rfl rfl ?_
      refine g_icmp_eq (tgt := 61) rfl (by decide) (fun hx => absurd hx (by omega)) (fun _ => ?_)
      refine g_aload_n rfl rfl ?_
      refine g_iconst rfl ⟨by decide, by decide⟩ ?_
      refine g_iV (as := [tI 2]) mX7_endBy_ok rfl rfl rfl rfl rfl rfl (by decide) rfl rfl rfl ?_
      refine g_aload_n rfl rfl ?_
      refine g_iload_n rfl rfl ?_
      refine g_puti rfl rfl (by decide) rfl rfl ?_
      refine g_iconst rfl ⟨by decide, by decide⟩ ?_
      refine x_ireturn rfl rfl ?_
      intro _
      refine x_ireturn rfl rfl ?_
      exact ⟨by rw [r_dr_out (fun z => by simp at z; omega)], by rw [r_dr_out (fun z => by simp at z; omega), tp_cho, if_pos rfl]; rfl⟩
  · refine g_aload_n rfl rfl ?_
    refine x_getM (v := (some d)) hG rfl rfl (by decide) (Or.inl ⟨_, rfl⟩) rfl hdr ?_
    refine g_ifnonnull (tgt := 15) rfl (by decide) (fun _ _ => ?_) (fun hx => by cases hx)
    refine g_aload_n rfl rfl ?_
    refine x_getM (v := (some d)) hG rfl rfl (by decide) (Or.inl ⟨_, rfl⟩) rfl hdr ?_
    refine g_aload_n rfl rfl ?_
    refine x_geti (v := (μ.1 56 13)) rfl rfl (by decide) (Or.inl rfl) rfl ?_
    refine g_cV (as := [tI (μ.1 56 13)]) (s_valueo hG hd hdn (by omega)) rfl rfl mX6_value_ok rfl hd rfl hdn rfl rfl rfl ?_
    rintro _ w9 ⟨rfl, hw9⟩ _
    have hw9 := hw9.symm
    subst hw9
    refine g_istore_n rfl rfl rfl ?_
    refine g_iload_n rfl rfl ?_
    refine g_bipush rfl ⟨by decide, by decide⟩ (by decide) ?_
    refine g_icmp_eq (tgt := 39) rfl (by decide) (fun hx => absurd hx (by omega)) (fun _ => ?_)
    refine g_iload_n rfl rfl ?_
    refine g_bipush rfl ⟨by decide, by decide⟩ (by decide) ?_
    refine g_icmp_ne (tgt := 43) rfl (by decide) (fun _ => ?_) (fun hx => absurd hx (by omega))
    refine g_iconst rfl ⟨by decide, by decide⟩ ?_
    refine g_istore_n rfl rfl rfl ?_
    refine g_iload_n rfl rfl ?_
    refine g_iconst rfl ⟨by decide, by decide⟩ ?_
    refine g_icmp_eq (tgt := 55) rfl (by decide) (fun _ => ?_) (fun hx => absurd hx (by omega))
    refine g_aload_n rfl rfl ?_
    refine g_iconst rfl ⟨by decide, by decide⟩ ?_
    refine g_iV (as := [tI 2]) mX7_endBy_ok rfl rfl rfl rfl rfl rfl (by decide) rfl rfl rfl ?_
    refine g_aload_n rfl rfl ?_
    refine g_iload_n rfl rfl ?_
    refine g_puti rfl rfl (by decide) rfl rfl ?_
    refine g_iconst rfl ⟨by decide, by decide⟩ ?_
    refine x_ireturn rfl rfl ?_
    intro _
    refine x_ireturn rfl rfl ?_
    exact ⟨by rw [r_dr_out (fun z => by simp at z; omega)], by rw [r_dr_out (fun z => by simp at z; omega), tp_cho, if_pos rfl]; rfl⟩
