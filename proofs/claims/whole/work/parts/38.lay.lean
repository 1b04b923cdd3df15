theorem m_Hc_dr {G : tp_G} (hG : tp_Gf G = true) {d : Int} {g : Int → Int} {μ0 : tp_M} (hd : 0 ≤ d ∧ d ≤ 1) (hdr : μ0.1 201 25 = d) (hdm : μ0.1 201 37 < 0) (hgv : ∀ i, 0 ≤ i → i < 61 → μ0.1 208 (61 * d + i) = g i) (hgw : tp_Dw g) : m_Hc G (r_dr g) μ0 := by
  intro μ a dp us sd stk hF hM hu hu2 b
  have h1 : μ.1 201 25 = d := by rw [hF.2.1 25 (by omega) (by omega)]; exact hdr
  have h2 : μ.1 201 37 < 0 := by rw [hF.2.1 37 (by omega) (by omega)]; exact hdm
  have h3 : ∀ i, 0 ≤ i → i < 61 → μ.1 208 (61 * d + i) = g i := by rw [hF.1 208 (by omega) (by omega)]; exact hgv
  have e13 : μ.1 201 31 = us := hM.2.2.1
  have e8 : μ.1 201 38 = sd := hM.2.2.2
  have e : tp_pi μ 201 38 sd = μ := by rw [← e8]; exact tp_pi_self
  subst e13
  cases b with
  | true =>
    have q := s_choM_1 (s := sd) hG hd h1 h2 h3 hgw (by omega) (by omega)
    show tp_k G mX12_choose [tR (some 201), tI 1] μ (fun r μ' => r = some (tI (r_dr g (μ.1 201 31) sd true).1) ∧ μ' = m_cho (tp_pi μ 201 38 sd) (r_dr g (μ.1 201 31) sd true).1)
    rw [e]
    exact q
  | false =>
    have q := s_choM_0 (s := sd) hG hd h1 h2 h3 hgw (by omega) (by omega)
    show tp_k G mX12_choose [tR (some 201), tI 0] μ (fun r μ' => r = some (tI (r_dr g (μ.1 201 31) sd false).1) ∧ μ' = m_cho (tp_pi μ 201 38 sd) (r_dr g (μ.1 201 31) sd false).1)
    rw [e]
    exact q
def m_D (f g : Int → Int) (n : Nat) (μ : tp_M) : Prop := m_T n (r_A f (r_dr g) 0) (r_B f (r_dr g) 0) (r_Y f (r_dr g) 0) (r_E f (r_dr g) 0 n) (r_dp f (r_dr g) 0 n) ((r_at f (r_dr g) 0 n).2.2.2.1) (r_rt f (r_dr g) 0 n) μ
theorem m_D_of {f g : Int → Int} {s : Int} {n m : Nat} {μ : tp_M} (hn : r_N f (r_dr g) 0 n) (hm : r_N f (r_dr g) s m) (h : m_T m (r_A f (r_dr g) s) (r_B f (r_dr g) s) (r_Y f (r_dr g) s) (r_E f (r_dr g) s m) (r_dp f (r_dr g) s m) ((r_at f (r_dr g) s m).2.2.2.1) (r_rt f (r_dr g) s m) μ) : m_D f g n μ := by
  have e : m = n := r_N_uniq (r_N_s.mp hm) hn
  subst e
  rw [r_A_s, r_B_s, r_Y_s, r_E_s, r_dp_s, r_U_s, r_rt_s] at h
  exact h
/-- the reference's cells that lay changes -/
def m_G (μ μ' : tp_M) : Prop := (∀ c', c' ≠ 201 → (c' < 212 ∨ 215 < c') → μ'.1 c' = μ.1 c') ∧ (∀ j, (j < 24 ∨ 38 < j) → μ'.1 201 j = μ.1 201 j)
theorem m_G_kp {μ μ1 μ2 : tp_M} (h : tp_kp μ μ1) (q : m_G μ1 μ2) : tp_kp μ μ2 := fun k hk => (q.1 k (by unfold tp_tl at hk; omega) (by unfold tp_tl at hk; omega)).trans (h k hk)
theorem tp_Mc_fr2 {k : Int} {f : Int → Int} {μ μ' : tp_M} (h : m_F μ μ') (q : tp_Mc k f μ) : tp_Mc k f μ' := tp_Mc_fr ⟨h.2.1 24 (by omega) (by omega), h.2.1 26 (by omega) (by omega)⟩ (h.1 207 (by omega) (by omega)) q
set_option maxHeartbeats 4000000 in
set_option maxRecDepth 100000 in
theorem s_lay {G : tp_G} {μ : tp_M} (hG : tp_Gf G = true) {k d : Int} (hk : 0 ≤ k ∧ k ≤ 1) (hd : 0 ≤ d ∧ d ≤ 1) (hk1 : k < μ.1 206 0 ∧ μ.1 206 0 ≤ 2) (hd1 : d < μ.1 206 1 ∧ μ.1 206 1 ≤ 2) {f g : Int → Int} (ef : f = tp_cf μ k) (eg : g = tp_df μ d) (hw : tp_Cw f) (hgw : tp_Dw g) {n : Nat} (hn : r_N f (r_dr g) 0 n) : tp_k G mX12_lay [tR (some 201), tI k, tI d] μ (fun r μ' => r = some (tI 1) ∧ m_D f g n μ' ∧ tp_Mc k f μ' ∧ m_G μ μ' ∧ μ'.1 201 25 = d ∧ μ'.1 201 37 < 0) := by
  refine tp_ok_of mX12_lay_ok rfl (Nat.le_refl _) ?_
  refine g_aload_n rfl rfl ?_
  refine g_iload_n rfl rfl ?_
  refine g_iV (as := [tI k]) mX12_hasCode_ok rfl rfl rfl rfl rfl rfl (by decide) rfl rfl rfl ?_
  refine g_aload_n rfl rfl ?_
  refine g_iload_n rfl rfl ?_
  refine g_puti rfl rfl (by decide) rfl rfl ?_
  refine g_aload_n rfl rfl ?_
  refine g_iconst rfl ⟨by decide, by decide⟩ ?_
  refine g_iload_n rfl rfl ?_
  refine g_iV (as := [tI 0, tI k]) mX12_is_ok rfl rfl rfl rfl rfl rfl (by decide) rfl rfl rfl ?_
  refine g_iload_n rfl rfl ?_
  refine g_iconst rfl ⟨by decide, by decide⟩ ?_
  refine g_aload_n rfl rfl ?_
  refine x_getF (r := 206) hG rfl rfl (by decide) (Or.inr ⟨_, rfl⟩) rfl ?_
  refine g_iload_n rfl rfl ?_
  refine x_iald (v := (μ.1 206 0)) rfl rfl (by decide) (by decide) (by decide) rfl ?_
  refine g_iconst rfl ⟨by decide, by decide⟩ ?_
  refine x_isub (z := (μ.1 206 0) - 1) rfl (by omega) ⟨by omega, by omega⟩ ?_
  refine g_iS (as := [tI k, tI 0, tI ((μ.1 206 0) - 1)]) mX12_in_ok rfl rfl rfl rfl rfl rfl rfl ?_
  refine g_iload_n rfl rfl ?_
  refine g_iload_n rfl rfl ?_
  refine g_icmp_lt (tgt := 14) rfl (by decide) (fun hx => absurd hx (by omega)) (fun _ => ?_)
  refine g_iload_n rfl rfl ?_
  refine g_iload_n rfl rfl ?_
  refine g_icmp_gt (tgt := 14) rfl (by decide) (fun hx => absurd hx (by omega)) (fun _ => ?_)
  refine g_iconst rfl ⟨by decide, by decide⟩ ?_
  refine g_goto (tgt := 15) rfl (by decide) ?_
  refine x_zreturn rfl rfl (Or.inr rfl) ?_
  intro _
  refine x_zreturn rfl rfl (Or.inr rfl) ?_
  intro _
  refine g_if_ne (tgt := 16) rfl (by decide) (fun _ => ?_) (fun hx => absurd hx (by omega))
  refine g_aload_n rfl rfl ?_
  refine g_aload_n rfl rfl ?_
  refine g_iconst rfl ⟨by decide, by decide⟩ ?_
  refine g_iV (as := [tI 0]) mX12_of_ok rfl rfl rfl rfl rfl rfl (by decide) rfl rfl rfl ?_
  refine g_aload_n rfl rfl ?_
  refine x_getF (r := 207) hG rfl rfl (by decide) (Or.inr ⟨_, rfl⟩) rfl ?_
  refine g_sipush rfl ⟨by decide, by decide⟩ (by decide) ?_
  refine g_aload_n rfl rfl ?_
  refine x_geti (v := k) rfl rfl (by decide) (Or.inl rfl) rfl ?_
  refine x_imul (z := 129 * k) rfl (by omega) ⟨by omega, by omega⟩ ?_
  refine g_iload_n rfl rfl ?_
  refine x_iadd (z := 129 * k) rfl (by omega) ⟨by omega, by omega⟩ ?_
  refine x_iald (v := (μ.1 207 (129 * k))) rfl rfl (by decide) (by omega) (by omega) rfl ?_
  refine x_ireturn rfl rfl ?_
  intro _
  refine g_puti rfl rfl (by decide) rfl rfl ?_
  refine g_iconst rfl ⟨by decide, by decide⟩ ?_
  refine x_zreturn rfl rfl (Or.inr rfl) ?_
  intro _
  refine g_if_eq (tgt := 17) rfl (by decide) (fun hx => absurd hx (by omega)) (fun _ => ?_)
  refine g_aload_n rfl rfl ?_
  refine g_iconst rfl ⟨by decide, by decide⟩ ?_
  refine g_iload_n rfl rfl ?_
  refine g_iV (as := [tI 1, tI d]) mX12_is_ok rfl rfl rfl rfl rfl rfl (by decide) rfl rfl rfl ?_
  refine g_iload_n rfl rfl ?_
  refine g_iconst rfl ⟨by decide, by decide⟩ ?_
  refine g_aload_n rfl rfl ?_
  refine x_getF (r := 206) hG rfl rfl (by decide) (Or.inr ⟨_, rfl⟩) rfl ?_
  refine g_iload_n rfl rfl ?_
  refine x_iald (v := (μ.1 206 1)) rfl rfl (by decide) (by decide) (by decide) rfl ?_
  refine g_iconst rfl ⟨by decide, by decide⟩ ?_
  refine x_isub (z := (μ.1 206 1) - 1) rfl (by omega) ⟨by omega, by omega⟩ ?_
  refine g_iS (as := [tI d, tI 0, tI ((μ.1 206 1) - 1)]) mX12_in_ok rfl rfl rfl rfl rfl rfl rfl ?_
  refine g_iload_n rfl rfl ?_
  refine g_iload_n rfl rfl ?_
  refine g_icmp_lt (tgt := 14) rfl (by decide) (fun hx => absurd hx (by omega)) (fun _ => ?_)
  refine g_iload_n rfl rfl ?_
  refine g_iload_n rfl rfl ?_
  refine g_icmp_gt (tgt := 14) rfl (by decide) (fun hx => absurd hx (by omega)) (fun _ => ?_)
  refine g_iconst rfl ⟨by decide, by decide⟩ ?_
  refine g_goto (tgt := 15) rfl (by decide) ?_
  refine x_zreturn rfl rfl (Or.inr rfl) ?_
  intro _
  refine x_zreturn rfl rfl (Or.inr rfl) ?_
  intro _
  refine g_if_ne (tgt := 19) rfl (by decide) (fun _ => ?_) (fun hx => absurd hx (by omega))
  refine g_aload_n rfl rfl ?_
  refine g_iload_n rfl rfl ?_
  refine g_puti rfl rfl (by decide) rfl rfl ?_
  refine g_aload_n rfl rfl ?_
  refine g_iconst rfl ⟨by decide, by decide⟩ ?_
  refine g_puti rfl rfl (by decide) rfl rfl ?_
  refine g_aload_n rfl rfl ?_
  refine g_cV (as := []) (s_runs (ck := k) (f := f) (ch := r_dr g) hG ⟨hk, rfl, by show (μ.1 207 (129 * k)) = f 0; rw [ef]; exact congrArg (μ.1 207) (by omega), fun i g1 g2 => by rw [ef]; rfl⟩ hw (r_src_dr hgw) (m_Hc_dr (d := d) hG hd rfl (by show (-1 : Int) < 0; decide) (fun i g1 g2 => by rw [eg]; rfl) hgw)) rfl rfl mX12_runs_ok rfl rfl rfl (by decide) rfl rfl rfl ?_
  rintro _ w1 ⟨rfl, ⟨m, hm1, hm2, hm3⟩, hF⟩ _
  refine g_iconst rfl ⟨by decide, by decide⟩ ?_
  refine x_zreturn rfl rfl (Or.inr rfl) ?_
  exact ⟨rfl, m_D_of hn hm2 hm3, tp_Mc_fr2 hF ⟨hk, rfl, by show (μ.1 207 (129 * k)) = f 0; rw [ef]; exact congrArg (μ.1 207) (by omega), fun i g1 g2 => by rw [ef]; rfl⟩, ⟨fun c' c1 c2 => by rw [hF.1 c' c1 c2, tp_pi_ne c1, tp_pi_ne c1, tp_pi_ne c1, tp_pi_ne c1], fun j j1 => by rw [hF.2.1 j (by omega) (by omega), tp_pi_no (by omega), tp_pi_no (by omega), tp_pi_no (by omega), tp_pi_no (by omega)]⟩, hF.2.1 25 (by omega) (by omega), by rw [hF.2.1 37 (by omega) (by omega)]; show (-1 : Int) < 0; decide⟩
set_option maxHeartbeats 4000000 in
set_option maxRecDepth 100000 in
theorem s_layo {G : tp_G} {μ : tp_M} (hG : tp_Gf G = true) {k d : Int} (h0 : 0 ≤ μ.1 206 0 ∧ μ.1 206 0 ≤ 2) (h1 : 0 ≤ μ.1 206 1 ∧ μ.1 206 1 ≤ 2) (h : (k < 0 ∨ μ.1 206 0 ≤ k) ∨ (d < 0 ∨ μ.1 206 1 ≤ d)) : tp_k G mX12_lay [tR (some 201), tI k, tI d] μ (fun r μ' => r = some (tI 0) ∧ m_G μ μ') := by
  refine tp_ok_of mX12_lay_ok rfl (Nat.le_refl _) ?_
  refine g_aload_n rfl rfl ?_
  refine g_iload_n rfl rfl ?_
  refine g_iV (as := [tI k]) mX12_hasCode_ok rfl rfl rfl rfl rfl rfl (by decide) rfl rfl rfl ?_
  refine g_aload_n rfl rfl ?_
  refine g_iload_n rfl rfl ?_
  refine g_puti rfl rfl (by decide) rfl rfl ?_
  refine g_aload_n rfl rfl ?_
  refine g_iconst rfl ⟨by decide, by decide⟩ ?_
  refine g_iload_n rfl rfl ?_
  refine g_iV (as := [tI 0, tI k]) mX12_is_ok rfl rfl rfl rfl rfl rfl (by decide) rfl rfl rfl ?_
  refine g_iload_n rfl rfl ?_
  refine g_iconst rfl ⟨by decide, by decide⟩ ?_
  refine g_aload_n rfl rfl ?_
  refine x_getF (r := 206) hG rfl rfl (by decide) (Or.inr ⟨_, rfl⟩) rfl ?_
  refine g_iload_n rfl rfl ?_
  refine x_iald (v := (μ.1 206 0)) rfl rfl (by decide) (by decide) (by decide) rfl ?_
  refine g_iconst rfl ⟨by decide, by decide⟩ ?_
  refine x_isub (z := (μ.1 206 0) - 1) rfl (by omega) ⟨by omega, by omega⟩ ?_
  refine g_iS (as := [tI k, tI 0, tI ((μ.1 206 0) - 1)]) mX12_in_ok rfl rfl rfl rfl rfl rfl rfl ?_
  refine g_iload_n rfl rfl ?_
  refine g_iload_n rfl rfl ?_
  refine g_icmp_lt (tgt := 14) rfl (by decide) (fun h1 => ?_) (fun h1 => ?_)
  · refine g_iconst rfl ⟨by decide, by decide⟩ ?_
    refine x_zreturn rfl rfl (Or.inl rfl) ?_
    intro _
    refine x_zreturn rfl rfl (Or.inl rfl) ?_
    intro _
    refine g_if_ne (tgt := 16) rfl (by decide) (fun hx => absurd hx (by omega)) (fun _ => ?_)
    refine g_iconst rfl ⟨by decide, by decide⟩ ?_
    refine x_zreturn rfl rfl (Or.inl rfl) ?_
    intro _
    refine g_if_eq (tgt := 17) rfl (by decide) (fun _ => ?_) (fun hx => absurd hx (by omega))
    refine g_iconst rfl ⟨by decide, by decide⟩ ?_
    refine x_zreturn rfl rfl (Or.inl rfl) ?_
    exact ⟨rfl, ⟨fun c' c1 c2 => by first | rfl | rw [tp_pi_ne c1], fun j j1 => by first | rfl | rw [tp_pi_no (by omega)]⟩⟩
  · refine g_iload_n rfl rfl ?_
    refine g_iload_n rfl rfl ?_
    refine g_icmp_gt (tgt := 14) rfl (by decide) (fun h2 => ?_) (fun h2 => ?_)
    · refine g_iconst rfl ⟨by decide, by decide⟩ ?_
      refine x_zreturn rfl rfl (Or.inl rfl) ?_
      intro _
      refine x_zreturn rfl rfl (Or.inl rfl) ?_
      intro _
      refine g_if_ne (tgt := 16) rfl (by decide) (fun hx => absurd hx (by omega)) (fun _ => ?_)
      refine g_iconst rfl ⟨by decide, by decide⟩ ?_
      refine x_zreturn rfl rfl (Or.inl rfl) ?_
      intro _
      refine g_if_eq (tgt := 17) rfl (by decide) (fun _ => ?_) (fun hx => absurd hx (by omega))
      refine g_iconst rfl ⟨by decide, by decide⟩ ?_
      refine x_zreturn rfl rfl (Or.inl rfl) ?_
      exact ⟨rfl, ⟨fun c' c1 c2 => by first | rfl | rw [tp_pi_ne c1], fun j j1 => by first | rfl | rw [tp_pi_no (by omega)]⟩⟩
    · refine g_iconst rfl ⟨by decide, by decide⟩ ?_
      refine g_goto (tgt := 15) rfl (by decide) ?_
      refine x_zreturn rfl rfl (Or.inr rfl) ?_
      intro _
      refine x_zreturn rfl rfl (Or.inr rfl) ?_
      intro _
      refine g_if_ne (tgt := 16) rfl (by decide) (fun _ => ?_) (fun hx => absurd hx (by omega))
      refine g_aload_n rfl rfl ?_
      refine g_aload_n rfl rfl ?_
      refine g_iconst rfl ⟨by decide, by decide⟩ ?_
      refine g_iV (as := [tI 0]) mX12_of_ok rfl rfl rfl rfl rfl rfl (by decide) rfl rfl rfl ?_
      refine g_aload_n rfl rfl ?_
      refine x_getF (r := 207) hG rfl rfl (by decide) (Or.inr ⟨_, rfl⟩) rfl ?_
      refine g_sipush rfl ⟨by decide, by decide⟩ (by decide) ?_
      refine g_aload_n rfl rfl ?_
      refine x_geti (v := k) rfl rfl (by decide) (Or.inl rfl) rfl ?_
      refine x_imul (z := 129 * k) rfl (by omega) ⟨by omega, by omega⟩ ?_
      refine g_iload_n rfl rfl ?_
      refine x_iadd (z := 129 * k) rfl (by omega) ⟨by omega, by omega⟩ ?_
      refine x_iald (v := (μ.1 207 (129 * k))) rfl rfl (by decide) (by omega) (by omega) rfl ?_
      refine x_ireturn rfl rfl ?_
      intro _
      refine g_puti rfl rfl (by decide) rfl rfl ?_
      refine g_iconst rfl ⟨by decide, by decide⟩ ?_
      refine x_zreturn rfl rfl (Or.inr rfl) ?_
      intro _
      refine g_if_eq (tgt := 17) rfl (by decide) (fun hx => absurd hx (by omega)) (fun _ => ?_)
      refine g_aload_n rfl rfl ?_
      refine g_iconst rfl ⟨by decide, by decide⟩ ?_
      refine g_iload_n rfl rfl ?_
      refine g_iV (as := [tI 1, tI d]) mX12_is_ok rfl rfl rfl rfl rfl rfl (by decide) rfl rfl rfl ?_
      refine g_iload_n rfl rfl ?_
      refine g_iconst rfl ⟨by decide, by decide⟩ ?_
      refine g_aload_n rfl rfl ?_
      refine x_getF (r := 206) hG rfl rfl (by decide) (Or.inr ⟨_, rfl⟩) rfl ?_
      refine g_iload_n rfl rfl ?_
      refine x_iald (v := (μ.1 206 1)) rfl rfl (by decide) (by decide) (by decide) rfl ?_
      refine g_iconst rfl ⟨by decide, by decide⟩ ?_
      refine x_isub (z := (μ.1 206 1) - 1) rfl (by omega) ⟨by omega, by omega⟩ ?_
      refine g_iS (as := [tI d, tI 0, tI ((μ.1 206 1) - 1)]) mX12_in_ok rfl rfl rfl rfl rfl rfl rfl ?_
      refine g_iload_n rfl rfl ?_
      refine g_iload_n rfl rfl ?_
      refine g_icmp_lt (tgt := 14) rfl (by decide) (fun h3 => ?_) (fun h3 => ?_)
      · refine g_iconst rfl ⟨by decide, by decide⟩ ?_
        refine x_zreturn rfl rfl (Or.inl rfl) ?_
        intro _
        refine x_zreturn rfl rfl (Or.inl rfl) ?_
        intro _
        refine g_if_ne (tgt := 19) rfl (by decide) (fun hx => absurd hx (by omega)) (fun _ => ?_)
        refine g_iconst rfl ⟨by decide, by decide⟩ ?_
        refine x_zreturn rfl rfl (Or.inl rfl) ?_
        exact ⟨rfl, ⟨fun c' c1 c2 => by first | rfl | rw [tp_pi_ne c1, tp_pi_ne c1], fun j j1 => by first | rfl | rw [tp_pi_no (by omega), tp_pi_no (by omega)]⟩⟩
      · refine g_iload_n rfl rfl ?_
        refine g_iload_n rfl rfl ?_
        refine g_icmp_gt (tgt := 14) rfl (by decide) (fun h4 => ?_) (fun h4 => ?_)
        · refine g_iconst rfl ⟨by decide, by decide⟩ ?_
          refine x_zreturn rfl rfl (Or.inl rfl) ?_
          intro _
          refine x_zreturn rfl rfl (Or.inl rfl) ?_
          intro _
          refine g_if_ne (tgt := 19) rfl (by decide) (fun hx => absurd hx (by omega)) (fun _ => ?_)
          refine g_iconst rfl ⟨by decide, by decide⟩ ?_
          refine x_zreturn rfl rfl (Or.inl rfl) ?_
          exact ⟨rfl, ⟨fun c' c1 c2 => by first | rfl | rw [tp_pi_ne c1, tp_pi_ne c1], fun j j1 => by first | rfl | rw [tp_pi_no (by omega), tp_pi_no (by omega)]⟩⟩
        · refine g_iconst rfl ⟨by decide, by decide⟩ ?_
          refine g_goto (tgt := 15) rfl (by decide) ?_
          refine x_zreturn rfl rfl (Or.inr rfl) ?_
          intro _
          refine x_zreturn rfl rfl (Or.inr rfl) ?_
          intro _
          refine g_if_ne (tgt := 19) rfl (by decide) (fun _ => ?_) (fun hx => absurd hx (by omega))
          refine g_aload_n rfl rfl ?_
          refine g_iload_n rfl rfl ?_
          refine g_puti rfl rfl (by decide) rfl rfl ?_
          refine g_aload_n rfl rfl ?_
          refine g_iconst rfl ⟨by decide, by decide⟩ ?_
          refine g_puti rfl rfl (by decide) rfl rfl ?_
          refine g_aload_n rfl rfl ?_
          refine g_cV (as := []) (s_runs (ck := k) (f := tp_cf μ k) (ch := r_dr (tp_df μ d)) hG (by omega) (by omega) (by omega) (by omega)) rfl rfl mX12_runs_ok rfl rfl rfl (by decide) rfl rfl rfl ?_
          rintro _ w1 ⟨rfl, hF⟩ _
          refine g_iconst rfl ⟨by decide, by decide⟩ ?_
          refine x_zreturn rfl rfl (Or.inr rfl) ?_
          omega
/-- class and reference make one run of a code by a drive -/
def t_L (G : tp_G) (μ : tp_M) (k d : Nat) (f : Int → Int) (n : Int) (A B Y H : Int → Int) (E D U T : Int) : Prop :=
  r_W f n A B Y H ∧ tp_Cw f ∧ tp_Cd (6 + 5 * k) f μ ∧
  tp_k G mX11_follow [tR (some 0), tI k, tI d] μ (fun r μ' => r = some (tI 1) ∧ c_T 50 n A B Y E D U T μ' ∧ μ'.2 50 5 = some (6 + 5 * k) ∧ (∀ c', (c' < 50 ∨ 54 < c') → μ'.1 c' = μ.1 c')) ∧
  ∀ μ2, tp_kp μ μ2 → tp_k G mX12_lay [tR (some 201), tI k, tI d] μ2 (fun r μ' => r = some (tI 1) ∧ m_T n A B Y E D U T μ' ∧ tp_Mc k f μ' ∧ m_G μ2 μ' ∧ μ'.1 201 25 = d ∧ μ'.1 201 37 < 0)
theorem tp_lay {G : tp_G} (hG : tp_Gf G = true) {μ : tp_M} (hR : tp_R μ) {k d : Nat} (hk : k < 2) (hd : d < 2) (hk1 : (k : Int) < μ.1 5 0) (hd1 : (d : Int) < μ.1 5 1) : ∃ (n : Int) (A B Y H : Int → Int) (E D U T : Int), t_L G μ k d (tp_cf μ k) n A B Y H E D U T := by
  obtain ⟨n, hn2, hn⟩ := r_N_ex (tp_cf μ k) (r_dr (tp_df μ d)) 0
  have hC := tp_Cd_R hR hk hk1
  have hD := (tp_R_drive hR d hd hd1).2.2
  have hm0 := tp_R_many hR 0 (by decide) (by decide)
  have hm1 := tp_R_many hR 1 (by decide) (by decide)
  refine ⟨_, _, _, _, _, _, _, _, _, r_W_of hC.2 (r_src_dr hD) hn2 hn, hC.2, hC.1, s_follow hG hR hk hd hk1 hd1 rfl rfl hn, fun μ2 hkp => ?_⟩
  have e6 : μ2.1 206 = μ.1 206 := hkp 206 (by unfold tp_tl; omega)
  have e7 : μ2.1 207 = μ.1 207 := hkp 207 (by unfold tp_tl; omega)
  have e8 : μ2.1 208 = μ.1 208 := hkp 208 (by unfold tp_tl; omega)
  exact s_lay hG (by omega) (by omega) (by rw [e6]; omega) (by rw [e6]; omega) (by unfold tp_cf; rw [e7]) (by unfold tp_df; rw [e8]) hC.2 hD hn
theorem tp_layo {G : tp_G} (hG : tp_Gf G = true) {μ : tp_M} (hR : tp_R μ) {k d : Int} (h : (k < 0 ∨ μ.1 5 0 ≤ k) ∨ (d < 0 ∨ μ.1 5 1 ≤ d)) : tp_k G mX11_follow [tR (some 0), tI k, tI d] μ (fun r μ' => r = some (tI 0) ∧ μ' = μ) ∧ ∀ μ2, tp_kp μ μ2 → tp_k G mX12_lay [tR (some 201), tI k, tI d] μ2 (fun r μ' => r = some (tI 0) ∧ m_G μ2 μ') := by
  have hm0 := tp_R_many hR 0 (by decide) (by decide)
  have hm1 := tp_R_many hR 1 (by decide) (by decide)
  refine ⟨s_followo hG hm0.2 hm1.2 h, fun μ2 hkp => ?_⟩
  have e6 : μ2.1 206 = μ.1 206 := hkp 206 (by unfold tp_tl; omega)
  exact s_layo hG (by rw [e6]; omega) (by rw [e6]; omega) (by rw [e6]; omega)
