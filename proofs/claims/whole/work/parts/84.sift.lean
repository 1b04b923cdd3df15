set_option maxHeartbeats 4000000 in
set_option maxRecDepth 100000 in
theorem l_holds0 {G : tp_G} {μ : tp_M} (hG : tp_Gf G = true) {g : Int → Int} {v : Int} (hL : tp_Lo μ.1 28 g) (hv : 0 ≤ v) : ∀ k, k ≤ g 0 → 0 ≤ k → (∀ i, 0 ≤ i → i < k → μ.1 29 i ≠ v) → tp_g G mX6_holds 2 [some (tR (some 28)), some (tI v), some (tI k)] [] μ (fun r μ' => r = some (tI (v_2 g v)) ∧ μ' = μ) := by
  refine tp_ind _ ?_
  intro k hkN ih  h0 hb
  have hL0 := hL.1
  have hL1 := hL.2.1
  have hLv : ∀ i, 0 ≤ i → i < g 0 → 0 ≤ μ.1 29 i ∧ μ.1 29 i < 100 ∧ g (1 + μ.1 29 i) = 1 := hL.2.2.2.1
  have hLm : ∀ p, 0 ≤ p → p < 100 → g (1 + p) = 0 ∨ (g (1 + p) = 1 ∧ ∃ i, 0 ≤ i ∧ i < g 0 ∧ μ.1 29 i = p) := hL.2.2.2.2
  refine g_iload_n rfl rfl ?_
  refine g_aload_n rfl rfl ?_
  refine x_geti (v := (μ.1 28 2)) rfl rfl (by decide) (Or.inl rfl) rfl ?_
  refine g_icmp_ge (tgt := 37) rfl (by decide) (fun h1 => ?_) (fun h1 => ?_)
  · refine g_iconst rfl ⟨by decide, by decide⟩ ?_
    refine x_zreturn rfl rfl (Or.inl rfl) ?_
    have hz0 : v_2 g v = 0 := by
      refine if_neg (fun z => ?_)
      rcases hLm v hv z.1 with t | ⟨t, i, i0, i1, i2⟩
      · omega
      · exact hb i i0 (by omega) i2
    exact ⟨by rw [hz0], rfl⟩
  · refine g_iload_n rfl rfl ?_
    refine g_aload_n rfl rfl ?_
    refine x_getF (r := 29) hG rfl rfl (by decide) (Or.inr ⟨_, rfl⟩) rfl ?_
    refine g_alen (t0 := 0) rfl rfl rfl (by decide) ⟨by decide, by decide⟩ ?_
    refine g_icmp_ge (tgt := 31) rfl (by decide) (fun hx => absurd hx (by omega)) (fun _ => ?_)
    refine g_aload_n rfl rfl ?_
    refine x_getF (r := 29) hG rfl rfl (by decide) (Or.inr ⟨_, rfl⟩) rfl ?_
    refine g_iload_n rfl rfl ?_
    refine x_iald (v := (μ.1 29 k)) rfl rfl (by decide) (by omega) (by omega) rfl ?_
    refine g_iload_n rfl rfl ?_
    refine g_icmp_ne (tgt := 31) rfl (by decide) (fun h2 => ?_) (fun h2 => ?_)
    · refine x_iinc (z := k + 1) rfl rfl (by omega) ⟨by omega, by omega⟩ rfl rfl ?_
      refine g_goto (tgt := 2) rfl (by decide) ?_
      exact ih (by omega) (by omega) (fun i i0 i1 => by rcases (show i < k ∨ i = k by omega) with u | u; (exact hb i i0 u); (rw [u]; omega))
    · refine g_iconst rfl ⟨by decide, by decide⟩ ?_
      refine x_zreturn rfl rfl (Or.inr rfl) ?_
      have q1 := hLv k h0 (by omega)
      exact ⟨by rw [show v_2 g v = 1 from if_pos ⟨by omega, by rw [show v = μ.1 29 k by omega]; exact q1.2.2⟩], rfl⟩
set_option maxHeartbeats 4000000 in
set_option maxRecDepth 100000 in
theorem s_holds0 {G : tp_G} {μ : tp_M} (hG : tp_Gf G = true) {g : Int → Int} {v : Int} (hL : tp_Lo μ.1 28 g) (hv : 0 ≤ v) : tp_k G mX6_holds [tR (some 28), tI v] μ (fun r μ' => r = some (tI (v_2 g v)) ∧ μ' = μ) := by
  refine tp_ok_of mX6_holds_ok rfl (Nat.le_refl _) ?_
  refine g_iconst rfl ⟨by decide, by decide⟩ ?_
  refine g_istore_n rfl rfl rfl ?_
  exact l_holds0 hG hL hv 0 hL.2.1.1 (by omega) (fun i i0 i1 => by omega)
set_option maxHeartbeats 4000000 in
set_option maxRecDepth 100000 in
theorem l_holds1 {G : tp_G} {μ : tp_M} (hG : tp_Gf G = true) {g : Int → Int} {v : Int} (hL : tp_Lo μ.1 31 g) (hv : 0 ≤ v) : ∀ k, k ≤ g 0 → 0 ≤ k → (∀ i, 0 ≤ i → i < k → μ.1 32 i ≠ v) → tp_g G mX6_holds 2 [some (tR (some 31)), some (tI v), some (tI k)] [] μ (fun r μ' => r = some (tI (v_2 g v)) ∧ μ' = μ) := by
  refine tp_ind _ ?_
  intro k hkN ih  h0 hb
  have hL0 := hL.1
  have hL1 := hL.2.1
  have hLv : ∀ i, 0 ≤ i → i < g 0 → 0 ≤ μ.1 32 i ∧ μ.1 32 i < 100 ∧ g (1 + μ.1 32 i) = 1 := hL.2.2.2.1
  have hLm : ∀ p, 0 ≤ p → p < 100 → g (1 + p) = 0 ∨ (g (1 + p) = 1 ∧ ∃ i, 0 ≤ i ∧ i < g 0 ∧ μ.1 32 i = p) := hL.2.2.2.2
  refine g_iload_n rfl rfl ?_
  refine g_aload_n rfl rfl ?_
  refine x_geti (v := (μ.1 31 2)) rfl rfl (by decide) (Or.inl rfl) rfl ?_
  refine g_icmp_ge (tgt := 37) rfl (by decide) (fun h1 => ?_) (fun h1 => ?_)
  · refine g_iconst rfl ⟨by decide, by decide⟩ ?_
    refine x_zreturn rfl rfl (Or.inl rfl) ?_
    have hz0 : v_2 g v = 0 := by
      refine if_neg (fun z => ?_)
      rcases hLm v hv z.1 with t | ⟨t, i, i0, i1, i2⟩
      · omega
      · exact hb i i0 (by omega) i2
    exact ⟨by rw [hz0], rfl⟩
  · refine g_iload_n rfl rfl ?_
    refine g_aload_n rfl rfl ?_
    refine x_getF (r := 32) hG rfl rfl (by decide) (Or.inr ⟨_, rfl⟩) rfl ?_
    refine g_alen (t0 := 0) rfl rfl rfl (by decide) ⟨by decide, by decide⟩ ?_
    refine g_icmp_ge (tgt := 31) rfl (by decide) (fun hx => absurd hx (by omega)) (fun _ => ?_)
    refine g_aload_n rfl rfl ?_
    refine x_getF (r := 32) hG rfl rfl (by decide) (Or.inr ⟨_, rfl⟩) rfl ?_
    refine g_iload_n rfl rfl ?_
    refine x_iald (v := (μ.1 32 k)) rfl rfl (by decide) (by omega) (by omega) rfl ?_
    refine g_iload_n rfl rfl ?_
    refine g_icmp_ne (tgt := 31) rfl (by decide) (fun h2 => ?_) (fun h2 => ?_)
    · refine x_iinc (z := k + 1) rfl rfl (by omega) ⟨by omega, by omega⟩ rfl rfl ?_
      refine g_goto (tgt := 2) rfl (by decide) ?_
      exact ih (by omega) (by omega) (fun i i0 i1 => by rcases (show i < k ∨ i = k by omega) with u | u; (exact hb i i0 u); (rw [u]; omega))
    · refine g_iconst rfl ⟨by decide, by decide⟩ ?_
      refine x_zreturn rfl rfl (Or.inr rfl) ?_
      have q1 := hLv k h0 (by omega)
      exact ⟨by rw [show v_2 g v = 1 from if_pos ⟨by omega, by rw [show v = μ.1 32 k by omega]; exact q1.2.2⟩], rfl⟩
set_option maxHeartbeats 4000000 in
set_option maxRecDepth 100000 in
theorem s_holds1 {G : tp_G} {μ : tp_M} (hG : tp_Gf G = true) {g : Int → Int} {v : Int} (hL : tp_Lo μ.1 31 g) (hv : 0 ≤ v) : tp_k G mX6_holds [tR (some 31), tI v] μ (fun r μ' => r = some (tI (v_2 g v)) ∧ μ' = μ) := by
  refine tp_ok_of mX6_holds_ok rfl (Nat.le_refl _) ?_
  refine g_iconst rfl ⟨by decide, by decide⟩ ?_
  refine g_istore_n rfl rfl rfl ?_
  exact l_holds1 hG hL hv 0 hL.2.1.1 (by omega) (fun i i0 i1 => by omega)
/-- only the class's pieces have changed -/
def p_F (μ0 μ : tp_M) : Prop := (∀ c, c ≠ 76 → c ≠ 77 → c ≠ 78 → μ.1 c = μ0.1 c) ∧ μ.2 = μ0.2
theorem p_F_rf {μ : tp_M} : p_F μ μ := ⟨fun _ _ _ _ => rfl, rfl⟩
theorem v_1_i (a i : Int) : v_1 a i = 1 ↔ i = a := by unfold v_1; split <;> omega
theorem v_2_h {g : Int → Int} {A : Nat → Int → Int} {c : Nat} (h : tp_Lo A c g) : 0 ≤ g 0 ∧ g 0 ≤ 12 := h.2.1
set_option maxHeartbeats 4000000 in
set_option maxRecDepth 100000 in
theorem l_siftN {G : tp_G} (hG : tp_Gf G = true) {f A B Y : Int → Int} {n : Int} {μ0 σ : tp_M} (hsz0 : μ0.1 63 4 = σ.1 0 9) (hB0 : c_B σ μ0) (hp : 0 ≤ σ.1 0 9 ∧ σ.1 0 9 ≤ 209) (hn : n ≤ 200) (HH : ∀ p, 0 ≤ p → p < σ.1 0 9 → s_H f A B Y (f 2) n σ p) (hQ0 : w_Q f A B n σ (σ.1 0 9) μ0) {a : Int} : ∀ k, k ≤ σ.1 0 9 → ∀ (μ : tp_M) (kn : Int) (s : v_T) (x7 : Option tp_V), 0 ≤ k → s = v_S (v_1 a) σ k → kn = s.1 → p_M A s μ → p_F μ0 μ → tp_g G mX4_sift 28 [some (tR (some 76)), some (tR (some 70)), some (tR none), some (tI a), some (tR (some 63)), some (tI kn), some (tI k), x7] [] μ (fun r μ' => r = none ∧ p_M A (v_S (v_1 a) σ (σ.1 0 9)) μ' ∧ p_F μ0 μ') := by
  refine tp_ind _ ?_
  intro k hkN ih μ kn s x7 h0 hs hkn hM hF
  have hI := v_I_all (l := (v_1 a)) HH h0 hkN
  rw [← hs] at hI
  obtain ⟨i1, i2, i3, i4, i5, i6⟩ := hI
  have hsz : μ.1 63 4 = σ.1 0 9 := by rw [hF.1 63 (by omega) (by omega) (by omega)]; exact hsz0
  have hB : c_B σ μ := fun i z0 z1 => by rw [hF.1 64 (by omega) (by omega) (by omega), hF.1 65 (by omega) (by omega) (by omega), hF.1 66 (by omega) (by omega) (by omega), hF.1 67 (by omega) (by omega) (by omega)]; exact hB0 i z0 z1
  have hm1 := hM.1
  have hli := v_1_i a k
  have hlb := v_1_b a k
  by_cases hend : σ.1 0 9 ≤ k
  case pos =>
    refine g_iload rfl rfl ?_
    refine g_aload rfl rfl ?_
    refine x_geti (v := (μ.1 63 4)) rfl rfl (by decide) (Or.inl rfl) rfl ?_
    refine g_icmp_ge (tgt := 163) rfl (by decide) (fun _ => ?_) (fun hx => absurd hx (by omega))
    refine x_return rfl rfl ?_
    have hkP : k = σ.1 0 9 := by omega
    rw [hkP] at hs
    rw [hs] at hM
    exact ⟨rfl, hM, hF⟩
  have hHk := HH k h0 (by omega)
  have hkd := hHk.1
  have h6b := hHk.2.1
  have h6m := hHk.2.2.1
  rcases i1 with z1 | z1
  · have hk0 : kn = 0 := by omega
    subst hk0
    clear i3 i4 i5 i6
    refine g_iload rfl rfl ?_
    refine g_aload rfl rfl ?_
    refine x_geti (v := (μ.1 63 4)) rfl rfl (by decide) (Or.inl rfl) rfl ?_
    refine g_icmp_ge (tgt := 163) rfl (by decide) (fun hx => absurd hx (by omega)) (fun _ => ?_)
    refine g_iload rfl rfl ?_
    refine g_sipush rfl ⟨by decide, by decide⟩ (by decide) ?_
    refine g_icmp_ge (tgt := 163) rfl (by decide) (fun hx => absurd hx (by omega)) (fun _ => ?_)
    refine g_aload rfl rfl ?_
    refine g_iload rfl rfl ?_
    refine g_cV (as := [tI k]) (s_pk hG hsz hB hp.2 (by omega) (by omega)) rfl rfl mX3_kind_ok rfl rfl rfl (by decide) rfl rfl rfl ?_
    rintro _ w9 ⟨rfl, hw9⟩ _
    have hw9 := hw9.symm
    subst hw9
    refine g_istore rfl rfl rfl ?_
    refine g_iload rfl rfl ?_
    refine g_iload_n rfl rfl ?_
    refine g_icmp_eq (tgt := 74) rfl (by decide) (fun h1 => ?_) (fun h1 => ?_)
    · refine g_iconst rfl ⟨by decide, by decide⟩ ?_
      refine g_istore rfl rfl rfl ?_
      refine g_goto (tgt := 157) rfl (by decide) ?_
      refine x_iinc (z := k + 1) rfl rfl (by omega) ⟨by omega, by omega⟩ rfl rfl ?_
      refine g_goto (tgt := 28) rfl (by decide) ?_
      by_cases q5 : σ.1 2 k = 5
      · exact ih (by omega) _ _ (0, s.2) _ (by omega) (by rw [v_S_s h0, ← hs, v_n_l (by omega)]) rfl hM hF
      · first
        | exact ih (by omega) _ _ (0, s.2) _ (by omega) (by rw [v_S_s h0, ← hs, v_n_l (by omega)]) rfl hM hF
        | exact ih (by omega) _ _ s _ (by omega) (by rw [v_S_s h0, ← hs, v_n_o (by omega) (by omega) (by omega)]) (by omega) hM hF
    · refine g_aload_n rfl rfl ?_
      refine g_ifnull (tgt := 80) rfl (by decide) (fun _ => ?_) (fun _ hx => by cases hx)
      refine g_iload rfl rfl ?_
      refine g_if_ne (tgt := 100) rfl (by decide) (fun h2 => ?_) (fun h2 => ?_)
      · refine g_iload rfl rfl ?_
        refine g_if_eq (tgt := 157) rfl (by decide) (fun _ => ?_) (fun hx => absurd hx (by omega))
        refine x_iinc (z := k + 1) rfl rfl (by omega) ⟨by omega, by omega⟩ rfl rfl ?_
        refine g_goto (tgt := 28) rfl (by decide) ?_
        by_cases q5 : σ.1 2 k = 5
        · exact ih (by omega) _ _ (0, s.2) _ (by omega) (by rw [v_S_s h0, ← hs, v_n_l (by omega)]) rfl hM hF
        · first
          | exact ih (by omega) _ _ (0, s.2) _ (by omega) (by rw [v_S_s h0, ← hs, v_n_l (by omega)]) rfl hM hF
          | exact ih (by omega) _ _ s _ (by omega) (by rw [v_S_s h0, ← hs, v_n_o (by omega) (by omega) (by omega)]) (by omega) hM hF
      · refine g_iload rfl rfl ?_
        refine g_if_ne (tgt := 100) rfl (by decide) (fun hx => absurd hx (by omega)) (fun _ => ?_)
        refine g_aload_n rfl rfl ?_
        refine g_iV (as := []) mX4_begin_ok rfl rfl rfl rfl rfl rfl (by decide) rfl rfl rfl ?_
        refine g_aload_n rfl rfl ?_
        refine x_geti (v := (μ.1 76 3)) rfl rfl (by decide) (Or.inl rfl) rfl ?_
        refine g_if_lt (tgt := 37) rfl (by decide) (fun hx => absurd hx (by omega)) (fun _ => ?_)
        refine g_aload_n rfl rfl ?_
        refine x_geti (v := (μ.1 76 3)) rfl rfl (by decide) (Or.inl rfl) rfl ?_
        refine g_sipush rfl ⟨by decide, by decide⟩ (by decide) ?_
        refine g_icmp_ge (tgt := 37) rfl (by decide) (fun hx => absurd hx (by omega)) (fun _ => ?_)
        refine g_aload_n rfl rfl ?_
        refine x_getF (r := 78) hG rfl rfl (by decide) (Or.inr ⟨_, rfl⟩) rfl ?_
        refine g_aload_n rfl rfl ?_
        refine x_geti (v := (μ.1 76 3)) rfl rfl (by decide) (Or.inl rfl) rfl ?_
        refine g_iconst rfl ⟨by decide, by decide⟩ ?_
        refine g_iast rfl rfl (by decide) (by omega) (by omega) ?_
        refine g_aload_n rfl rfl ?_
        refine g_dupr rfl ?_
        refine x_geti (v := (μ.1 76 3)) rfl rfl (by decide) (Or.inl rfl) rfl ?_
        refine g_iconst rfl ⟨by decide, by decide⟩ ?_
        refine x_iadd (z := (μ.1 76 3) + 1) rfl (by omega) ⟨by omega, by omega⟩ ?_
        refine g_puti rfl rfl (by decide) rfl rfl ?_
        refine x_return rfl rfl ?_
        intro _
        refine g_iconst rfl ⟨by decide, by decide⟩ ?_
        refine g_istore rfl rfl rfl ?_
        refine g_goto (tgt := 157) rfl (by decide) ?_
        refine x_iinc (z := k + 1) rfl rfl (by omega) ⟨by omega, by omega⟩ rfl rfl ?_
        refine g_goto (tgt := 28) rfl (by decide) ?_
        have g78 : ∀ i, ((tp_pi (tp_pi μ 78 (μ.1 76 3) 0) 76 3 ((μ.1 76 3) + 1))).1 78 i = if i = s.2.1 then 0 else μ.1 78 i := fun i => by
          rw [tp_pi_ne (by omega)]
          by_cases q : i = s.2.1
          · rw [if_pos q, q, ← hm1, tp_pi_at]
          · rw [if_neg q, tp_pi_ix (by omega)]
        exact ih (by omega) _ _ (1, s.2.1 + 1, v_u s.2.2.1 s.2.1 (σ.1 5 k), v_u s.2.2.2 s.2.1 0) _ (by omega) (by rw [v_S_s h0, ← hs, v_n_b (by omega) (by omega)]) rfl (p_M_b hM i2.1 (by show μ.1 76 3 + 1 = s.2.1 + 1; omega) rfl g78 rfl) ⟨fun c9 z1 z2 z3 => by rw [tp_pi_ne (by omega), tp_pi_ne (by omega)]; exact hF.1 c9 z1 z2 z3, hF.2⟩
  · have hk0 : kn = 1 := by omega
    subst hk0
    obtain ⟨hnp1, hskn, hlast⟩ := i3 z1
    have hk1 := hskn.1
    have hvk : v_K σ k = σ.1 6 (k - 1) := if_pos hk1
    have h6m1 := h6m hk1
    have hpos : ∀ i, 0 ≤ i → i < s.2.1 → 0 ≤ s.2.2.2 i := fun i i0 i1 => (i4 i i0 i1).2.1
    have hq71 := hQ0.2.2.2 k h0 (by omega)
    have hu1 : μ.1 73 k = w_U σ (k + 1) := by rw [hF.1 73 (by omega) (by omega) (by omega)]; exact hq71.1
    have hu0 : μ.1 73 (k - 1) = w_U σ k := by
      rw [hF.1 73 (by omega) (by omega) (by omega), (hQ0.2.2.2 (k - 1) (by omega) (by omega)).1, show k - 1 + 1 = k by omega]
    have hw71 : ∀ i, μ.1 73 (k - 1) ≤ i → i < μ.1 73 k → μ.1 71 i = A (σ.1 6 (k - 1) + (i - μ.1 73 (k - 1))) := fun i i0 i1 => by
      rw [hF.1 71 (by omega) (by omega) (by omega), hu0]
      exact (hq71.2 i (by omega) (by omega)).1
    have hU0 := (w_U_b HH k.toNat (by omega)).1
    rw [show ((k.toNat : Nat) : Int) = k by omega] at hU0
    have hfr0 : 0 ≤ μ.1 73 (k - 1) := by omega
    have hfto : μ.1 73 (k - 1) ≤ μ.1 73 k := by rw [hu0, hu1]; exact w_U_m HH h0 (by omega) (by omega)
    have h706 : μ.1 70 6 = w_U σ (σ.1 0 9) := by rw [hF.1 70 (by omega) (by omega) (by omega)]; exact hQ0.1
    have hUe := (w_U_b HH (σ.1 0 9).toNat (by omega)).2 (by omega)
    rw [show (((σ.1 0 9).toNat : Nat) : Int) = σ.1 0 9 by omega] at hUe
    have hle6 := (HH (σ.1 0 9 - 1) (by omega) (by omega)).2.1
    have hto9 : μ.1 73 k ≤ μ.1 70 6 ∧ μ.1 70 6 ≤ 200 := ⟨by rw [hu1, h706]; exact w_U_m HH (by omega) (by omega) (by omega), by omega⟩
    have hz0 : 0 ≤ q_s s.2.2.2 s.2.1 := by
      have := q_s_mono2 (C := s.2.2.2) (m := 0) (n := s.2.1) (by omega) (by omega) hpos
      rw [show q_s s.2.2.2 0 = 0 from rfl] at this
      exact this
    have hdd : μ.1 73 k - μ.1 73 (k - 1) ≤ σ.1 6 k - σ.1 6 (k - 1) := by
      rw [hu1, hu0, w_U_s h0]
      by_cases q5 : σ.1 2 k = 5
      · rw [w_d_n (Or.inr q5)]; omega
      · rw [w_d_y hskn q5]; omega
    have hz9 : 0 ≤ q_s s.2.2.2 s.2.1 ∧ q_s s.2.2.2 s.2.1 + (μ.1 73 k - μ.1 73 (k - 1)) ≤ 200 := ⟨hz0, by omega⟩
    have hnp9 : 1 ≤ s.2.1 ∧ s.2.1 ≤ 209 := by omega
    have hi4 := i4 (s.2.1 - 1) (by omega) (by omega)
    have hm9 : 0 ≤ s.2.2.2 (s.2.1 - 1) ∧ s.2.2.2 (s.2.1 - 1) ≤ 200 := by omega
    clear i3 i4 i5 i6
    refine g_iload rfl rfl ?_
    refine g_aload rfl rfl ?_
    refine x_geti (v := (μ.1 63 4)) rfl rfl (by decide) (Or.inl rfl) rfl ?_
    refine g_icmp_ge (tgt := 163) rfl (by decide) (fun hx => absurd hx (by omega)) (fun _ => ?_)
    refine g_iload rfl rfl ?_
    refine g_sipush rfl ⟨by decide, by decide⟩ (by decide) ?_
    refine g_icmp_ge (tgt := 163) rfl (by decide) (fun hx => absurd hx (by omega)) (fun _ => ?_)
    refine g_aload rfl rfl ?_
    refine g_iload rfl rfl ?_
    refine g_cV (as := [tI k]) (s_pk hG hsz hB hp.2 (by omega) (by omega)) rfl rfl mX3_kind_ok rfl rfl rfl (by decide) rfl rfl rfl ?_
    rintro _ w9 ⟨rfl, hw9⟩ _
    have hw9 := hw9.symm
    subst hw9
    refine g_istore rfl rfl rfl ?_
    refine g_iload rfl rfl ?_
    refine g_iload_n rfl rfl ?_
    refine g_icmp_eq (tgt := 74) rfl (by decide) (fun h1 => ?_) (fun h1 => ?_)
    · refine g_iconst rfl ⟨by decide, by decide⟩ ?_
      refine g_istore rfl rfl rfl ?_
      refine g_goto (tgt := 157) rfl (by decide) ?_
      refine x_iinc (z := k + 1) rfl rfl (by omega) ⟨by omega, by omega⟩ rfl rfl ?_
      refine g_goto (tgt := 28) rfl (by decide) ?_
      exact ih (by omega) _ _ (0, s.2) _ (by omega) (by rw [v_S_s h0, ← hs, v_n_l (by omega)]) rfl hM hF
    · refine g_aload_n rfl rfl ?_
      refine g_ifnull (tgt := 80) rfl (by decide) (fun _ => ?_) (fun _ hx => by cases hx)
      refine g_iload rfl rfl ?_
      refine g_if_ne (tgt := 100) rfl (by decide) (fun h2 => ?_) (fun h2 => ?_)
      · refine g_iload rfl rfl ?_
        refine g_if_eq (tgt := 157) rfl (by decide) (fun hx => absurd hx (by omega)) (fun _ => ?_)
        refine g_aload_n rfl rfl ?_
        refine g_aload_n rfl rfl ?_
        refine g_iload rfl rfl ?_
        refine g_if_ne (tgt := 116) rfl (by decide) (fun _ => ?_) (fun hx => absurd hx (by omega))
        refine g_aload_n rfl rfl ?_
        refine g_iload rfl rfl ?_
        refine g_iconst rfl ⟨by decide, by decide⟩ ?_
        refine x_isub (z := k - 1) rfl (by omega) ⟨by omega, by omega⟩ ?_
        refine g_iV (as := [tI (k - 1)]) mX10_upTo_ok rfl rfl rfl rfl rfl rfl (by decide) rfl rfl rfl ?_
        refine g_iload_n rfl rfl ?_
        refine g_if_lt (tgt := 11) rfl (by decide) (fun hx => absurd hx (by omega)) (fun _ => ?_)
        refine g_iload_n rfl rfl ?_
        refine g_sipush rfl ⟨by decide, by decide⟩ (by decide) ?_
        refine g_icmp_lt (tgt := 15) rfl (by decide) (fun _ => ?_) (fun hx => absurd hx (by omega))
        refine g_aload_n rfl rfl ?_
        refine x_getF (r := 73) hG rfl rfl (by decide) (Or.inr ⟨_, rfl⟩) rfl ?_
        refine g_iload_n rfl rfl ?_
        refine x_iald (v := (μ.1 73 (k - 1))) rfl rfl (by decide) (by omega) (by omega) rfl ?_
        refine x_ireturn rfl rfl ?_
        intro _
        refine g_aload_n rfl rfl ?_
        refine g_iload rfl rfl ?_
        refine g_iV (as := [tI k]) mX10_upTo_ok rfl rfl rfl rfl rfl rfl (by decide) rfl rfl rfl ?_
        refine g_iload_n rfl rfl ?_
        refine g_if_lt (tgt := 11) rfl (by decide) (fun hx => absurd hx (by omega)) (fun _ => ?_)
        refine g_iload_n rfl rfl ?_
        refine g_sipush rfl ⟨by decide, by decide⟩ (by decide) ?_
        refine g_icmp_lt (tgt := 15) rfl (by decide) (fun _ => ?_) (fun hx => absurd hx (by omega))
        refine g_aload_n rfl rfl ?_
        refine x_getF (r := 73) hG rfl rfl (by decide) (Or.inr ⟨_, rfl⟩) rfl ?_
        refine g_iload_n rfl rfl ?_
        refine x_iald (v := (μ.1 73 k)) rfl rfl (by decide) (by omega) (by omega) rfl ?_
        refine x_ireturn rfl rfl ?_
        intro _
        refine g_cV (as := [tR (some 70), tI (μ.1 73 (k - 1)), tI (μ.1 73 k)]) (s_take hG (np := s.2.1) (z0 := q_s s.2.2.2 s.2.1) (m0 := s.2.2.2 (s.2.1 - 1)) (fr := μ.1 73 (k - 1)) (to := μ.1 73 k) hfr0 hfto hto9 hz9 hnp9 hm9 hM.2.1 hM.1 (hM.2.2.1 _ (by omega) (by omega))) rfl rfl mX4_take_ok rfl rfl rfl (by decide) rfl rfl rfl ?_
        rintro _ w1 ⟨rfl, hp1⟩ _
        refine g_iload rfl rfl ?_
        refine g_if_eq (tgt := 150) rfl (by decide) (fun hx => absurd hx (by omega)) (fun _ => ?_)
        refine g_iload rfl rfl ?_
        refine g_iconst rfl ⟨by decide, by decide⟩ ?_
        refine g_icmp_eq (tgt := 150) rfl (by decide) (fun h3 => ?_) (fun h3 => ?_)
        · refine g_iconst rfl ⟨by decide, by decide⟩ ?_
          refine g_goto (tgt := 155) rfl (by decide) ?_
          refine g_istore rfl rfl rfl ?_
          refine x_iinc (z := k + 1) rfl rfl (by omega) ⟨by omega, by omega⟩ rfl rfl ?_
          refine g_goto (tgt := 28) rfl (by decide) ?_
          first
            | exact ih (by omega) _ _ (0, s.2) _ (by omega) (by rw [v_S_s h0, ← hs, v_n_l (by omega)]) (by first | rfl | omega) (p_M_0 (fr := μ.1 73 (k - 1)) hM hnp1 hpos (by rw [show μ.1 73 k = μ.1 73 (k - 1) by rw [hu1, hu0, w_U_s h0, w_d_n (Or.inr (by omega))]; omega] at hp1; exact hp1)) ⟨fun c9 z1 z2 z3 => (hp1.2.2.2.2.2.2.1 c9 z1 z2 z3).trans (hF.1 c9 z1 z2 z3), hp1.2.2.2.2.2.2.2.trans hF.2⟩
            | exact ih (by omega) _ _ (if σ.1 2 k = 3 ∨ σ.1 2 k = 4 then 0 else 1, s.2.1, s.2.2.1, v_u s.2.2.2 (s.2.1 - 1) (σ.1 6 k - s.2.2.1 (s.2.1 - 1))) _ (by omega) (by rw [v_S_s h0, ← hs, v_n_t (by omega) (by omega)]) (by show _ = (if σ.1 2 k = 3 ∨ σ.1 2 k = 4 then (0 : Int) else 1); rw [if_neg (by omega)]) (p_M_t hM hnp1 hpos hfto (by rw [hu1, hu0, w_U_s h0, w_d_y hskn (by omega)]; omega) hlast hw71 hp1) ⟨fun c9 z1 z2 z3 => (hp1.2.2.2.2.2.2.1 c9 z1 z2 z3).trans (hF.1 c9 z1 z2 z3), hp1.2.2.2.2.2.2.2.trans hF.2⟩
        · refine g_iload rfl rfl ?_
          refine g_iconst rfl ⟨by decide, by decide⟩ ?_
          refine g_icmp_ne (tgt := 154) rfl (by decide) (fun h4 => ?_) (fun h4 => ?_)
          · refine g_iconst rfl ⟨by decide, by decide⟩ ?_
            refine g_istore rfl rfl rfl ?_
            refine x_iinc (z := k + 1) rfl rfl (by omega) ⟨by omega, by omega⟩ rfl rfl ?_
            refine g_goto (tgt := 28) rfl (by decide) ?_
            by_cases q5 : σ.1 2 k = 5 <;> first
              | exact ih (by omega) _ _ (0, s.2) _ (by omega) (by rw [v_S_s h0, ← hs, v_n_l (by omega)]) (by first | rfl | omega) (p_M_0 (fr := μ.1 73 (k - 1)) hM hnp1 hpos (by rw [show μ.1 73 k = μ.1 73 (k - 1) by rw [hu1, hu0, w_U_s h0, w_d_n (Or.inr (by omega))]; omega] at hp1; exact hp1)) ⟨fun c9 z1 z2 z3 => (hp1.2.2.2.2.2.2.1 c9 z1 z2 z3).trans (hF.1 c9 z1 z2 z3), hp1.2.2.2.2.2.2.2.trans hF.2⟩
              | exact ih (by omega) _ _ (if σ.1 2 k = 3 ∨ σ.1 2 k = 4 then 0 else 1, s.2.1, s.2.2.1, v_u s.2.2.2 (s.2.1 - 1) (σ.1 6 k - s.2.2.1 (s.2.1 - 1))) _ (by omega) (by rw [v_S_s h0, ← hs, v_n_t (by omega) (by omega)]) (by show _ = (if σ.1 2 k = 3 ∨ σ.1 2 k = 4 then (0 : Int) else 1); rw [if_pos (by omega)]) (p_M_t hM hnp1 hpos hfto (by rw [hu1, hu0, w_U_s h0, w_d_y hskn (by omega)]; omega) hlast hw71 hp1) ⟨fun c9 z1 z2 z3 => (hp1.2.2.2.2.2.2.1 c9 z1 z2 z3).trans (hF.1 c9 z1 z2 z3), hp1.2.2.2.2.2.2.2.trans hF.2⟩
          · refine g_iconst rfl ⟨by decide, by decide⟩ ?_
            refine g_goto (tgt := 155) rfl (by decide) ?_
            refine g_istore rfl rfl rfl ?_
            refine x_iinc (z := k + 1) rfl rfl (by omega) ⟨by omega, by omega⟩ rfl rfl ?_
            refine g_goto (tgt := 28) rfl (by decide) ?_
            first
              | exact ih (by omega) _ _ (0, s.2) _ (by omega) (by rw [v_S_s h0, ← hs, v_n_l (by omega)]) (by first | rfl | omega) (p_M_0 (fr := μ.1 73 (k - 1)) hM hnp1 hpos (by rw [show μ.1 73 k = μ.1 73 (k - 1) by rw [hu1, hu0, w_U_s h0, w_d_n (Or.inr (by omega))]; omega] at hp1; exact hp1)) ⟨fun c9 z1 z2 z3 => (hp1.2.2.2.2.2.2.1 c9 z1 z2 z3).trans (hF.1 c9 z1 z2 z3), hp1.2.2.2.2.2.2.2.trans hF.2⟩
              | exact ih (by omega) _ _ (if σ.1 2 k = 3 ∨ σ.1 2 k = 4 then 0 else 1, s.2.1, s.2.2.1, v_u s.2.2.2 (s.2.1 - 1) (σ.1 6 k - s.2.2.1 (s.2.1 - 1))) _ (by omega) (by rw [v_S_s h0, ← hs, v_n_t (by omega) (by omega)]) (by show _ = (if σ.1 2 k = 3 ∨ σ.1 2 k = 4 then (0 : Int) else 1); rw [if_neg (by omega)]) (p_M_t hM hnp1 hpos hfto (by rw [hu1, hu0, w_U_s h0, w_d_y hskn (by omega)]; omega) hlast hw71 hp1) ⟨fun c9 z1 z2 z3 => (hp1.2.2.2.2.2.2.1 c9 z1 z2 z3).trans (hF.1 c9 z1 z2 z3), hp1.2.2.2.2.2.2.2.trans hF.2⟩
      · refine g_iload rfl rfl ?_
        refine g_if_ne (tgt := 100) rfl (by decide) (fun _ => ?_) (fun hx => absurd hx (by omega))
        refine g_iload rfl rfl ?_
        refine g_if_eq (tgt := 157) rfl (by decide) (fun hx => absurd hx (by omega)) (fun _ => ?_)
        refine g_aload_n rfl rfl ?_
        refine g_aload_n rfl rfl ?_
        refine g_iload rfl rfl ?_
        refine g_if_ne (tgt := 116) rfl (by decide) (fun _ => ?_) (fun hx => absurd hx (by omega))
        refine g_aload_n rfl rfl ?_
        refine g_iload rfl rfl ?_
        refine g_iconst rfl ⟨by decide, by decide⟩ ?_
        refine x_isub (z := k - 1) rfl (by omega) ⟨by omega, by omega⟩ ?_
        refine g_iV (as := [tI (k - 1)]) mX10_upTo_ok rfl rfl rfl rfl rfl rfl (by decide) rfl rfl rfl ?_
        refine g_iload_n rfl rfl ?_
        refine g_if_lt (tgt := 11) rfl (by decide) (fun hx => absurd hx (by omega)) (fun _ => ?_)
        refine g_iload_n rfl rfl ?_
        refine g_sipush rfl ⟨by decide, by decide⟩ (by decide) ?_
        refine g_icmp_lt (tgt := 15) rfl (by decide) (fun _ => ?_) (fun hx => absurd hx (by omega))
        refine g_aload_n rfl rfl ?_
        refine x_getF (r := 73) hG rfl rfl (by decide) (Or.inr ⟨_, rfl⟩) rfl ?_
        refine g_iload_n rfl rfl ?_
        refine x_iald (v := (μ.1 73 (k - 1))) rfl rfl (by decide) (by omega) (by omega) rfl ?_
        refine x_ireturn rfl rfl ?_
        intro _
        refine g_aload_n rfl rfl ?_
        refine g_iload rfl rfl ?_
        refine g_iV (as := [tI k]) mX10_upTo_ok rfl rfl rfl rfl rfl rfl (by decide) rfl rfl rfl ?_
        refine g_iload_n rfl rfl ?_
        refine g_if_lt (tgt := 11) rfl (by decide) (fun hx => absurd hx (by omega)) (fun _ => ?_)
        refine g_iload_n rfl rfl ?_
        refine g_sipush rfl ⟨by decide, by decide⟩ (by decide) ?_
        refine g_icmp_lt (tgt := 15) rfl (by decide) (fun _ => ?_) (fun hx => absurd hx (by omega))
        refine g_aload_n rfl rfl ?_
        refine x_getF (r := 73) hG rfl rfl (by decide) (Or.inr ⟨_, rfl⟩) rfl ?_
        refine g_iload_n rfl rfl ?_
        refine x_iald (v := (μ.1 73 k)) rfl rfl (by decide) (by omega) (by omega) rfl ?_
        refine x_ireturn rfl rfl ?_
        intro _
        refine g_cV (as := [tR (some 70), tI (μ.1 73 (k - 1)), tI (μ.1 73 k)]) (s_take hG (np := s.2.1) (z0 := q_s s.2.2.2 s.2.1) (m0 := s.2.2.2 (s.2.1 - 1)) (fr := μ.1 73 (k - 1)) (to := μ.1 73 k) hfr0 hfto hto9 hz9 hnp9 hm9 hM.2.1 hM.1 (hM.2.2.1 _ (by omega) (by omega))) rfl rfl mX4_take_ok rfl rfl rfl (by decide) rfl rfl rfl ?_
        rintro _ w1 ⟨rfl, hp1⟩ _
        refine g_iload rfl rfl ?_
        refine g_if_eq (tgt := 150) rfl (by decide) (fun _ => ?_) (fun hx => absurd hx (by omega))
        refine g_iconst rfl ⟨by decide, by decide⟩ ?_
        refine g_goto (tgt := 155) rfl (by decide) ?_
        refine g_istore rfl rfl rfl ?_
        refine x_iinc (z := k + 1) rfl rfl (by omega) ⟨by omega, by omega⟩ rfl rfl ?_
        refine g_goto (tgt := 28) rfl (by decide) ?_
        first
          | exact ih (by omega) _ _ (0, s.2) _ (by omega) (by rw [v_S_s h0, ← hs, v_n_l (by omega)]) (by first | rfl | omega) (p_M_0 (fr := μ.1 73 (k - 1)) hM hnp1 hpos (by rw [show μ.1 73 k = μ.1 73 (k - 1) by rw [hu1, hu0, w_U_s h0, w_d_n (Or.inr (by omega))]; omega] at hp1; exact hp1)) ⟨fun c9 z1 z2 z3 => (hp1.2.2.2.2.2.2.1 c9 z1 z2 z3).trans (hF.1 c9 z1 z2 z3), hp1.2.2.2.2.2.2.2.trans hF.2⟩
          | exact ih (by omega) _ _ (if σ.1 2 k = 3 ∨ σ.1 2 k = 4 then 0 else 1, s.2.1, s.2.2.1, v_u s.2.2.2 (s.2.1 - 1) (σ.1 6 k - s.2.2.1 (s.2.1 - 1))) _ (by omega) (by rw [v_S_s h0, ← hs, v_n_t (by omega) (by omega)]) (by show _ = (if σ.1 2 k = 3 ∨ σ.1 2 k = 4 then (0 : Int) else 1); rw [if_neg (by omega)]) (p_M_t hM hnp1 hpos hfto (by rw [hu1, hu0, w_U_s h0, w_d_y hskn (by omega)]; omega) hlast hw71 hp1) ⟨fun c9 z1 z2 z3 => (hp1.2.2.2.2.2.2.1 c9 z1 z2 z3).trans (hF.1 c9 z1 z2 z3), hp1.2.2.2.2.2.2.2.trans hF.2⟩
set_option maxHeartbeats 4000000 in
set_option maxRecDepth 100000 in
theorem s_siftN {G : tp_G} {μ : tp_M} (hG : tp_Gf G = true) {f A B Y : Int → Int} {n : Int} {σ : tp_M} (hsz : μ.1 63 4 = σ.1 0 9) (hB : c_B σ μ) (hp : 0 ≤ σ.1 0 9 ∧ σ.1 0 9 ≤ 209) (hn : n ≤ 200) (HH : ∀ p, 0 ≤ p → p < σ.1 0 9 → s_H f A B Y (f 2) n σ p) (hQ : w_Q f A B n σ (σ.1 0 9) μ) (hpk : μ.2 70 5 = some 63) {a : Int} : tp_k G mX4_sift [tR (some 76), tR (some 70), tR none, tI a] μ (fun r μ' => r = none ∧ p_M A (v_S (v_1 a) σ (σ.1 0 9)) μ' ∧ p_F μ μ') := by
  refine tp_ok_of mX4_sift_ok rfl (Nat.le_refl _) ?_
  refine g_aload_n rfl rfl ?_
  refine g_iconst rfl ⟨by decide, by decide⟩ ?_
  refine g_puti rfl rfl (by decide) rfl rfl ?_
  refine g_aload_n rfl rfl ?_
  refine g_iconst rfl ⟨by decide, by decide⟩ ?_
  refine g_puti rfl rfl (by decide) rfl rfl ?_
  refine g_aload_n rfl rfl ?_
  refine x_getM (v := (some 63)) hG rfl rfl (by decide) (Or.inl ⟨_, rfl⟩) rfl hpk ?_
  refine g_astore rfl rfl rfl ?_
  refine g_aload rfl rfl ?_
  refine g_ifnonnull (tgt := 22) rfl (by decide) (fun _ _ => ?_) (fun hx => by cases hx)
  refine g_iconst rfl ⟨by decide, by decide⟩ ?_
  refine g_istore rfl rfl rfl ?_
  refine g_iconst rfl ⟨by decide, by decide⟩ ?_
  refine g_istore rfl rfl rfl ?_
  exact l_siftN (μ0 := μ) hG hsz hB hp hn HH hQ 0 (by omega) _ 0 (0, 0, fun _ => 0, fun _ => 0) _ (by omega) rfl rfl ⟨rfl, rfl, fun i i0 i1 => by have i1 : i < 0 := i1; omega, fun i i0 i1 => by have i1 : i < 0 := i1; omega⟩ ⟨fun c9 z1 z2 z3 => by rw [tp_pi_ne (by omega), tp_pi_ne (by omega)], rfl⟩
set_option maxHeartbeats 4000000 in
set_option maxRecDepth 100000 in
theorem l_sift0 {G : tp_G} (hG : tp_Gf G = true) {f A B Y : Int → Int} {n : Int} {μ0 σ : tp_M} (hsz0 : μ0.1 63 4 = σ.1 0 9) (hB0 : c_B σ μ0) (hp : 0 ≤ σ.1 0 9 ∧ σ.1 0 9 ≤ 209) (hn : n ≤ 200) (HH : ∀ p, 0 ≤ p → p < σ.1 0 9 → s_H f A B Y (f 2) n σ p) (hQ0 : w_Q f A B n σ (σ.1 0 9) μ0) {g : Int → Int} (hL0 : tp_Lo μ0.1 28 g) : ∀ k, k ≤ σ.1 0 9 → ∀ (μ : tp_M) (kn : Int) (s : v_T) (x7 : Option tp_V), 0 ≤ k → s = v_S (v_2 g) σ k → kn = s.1 → p_M A s μ → p_F μ0 μ → tp_g G mX4_sift 28 [some (tR (some 76)), some (tR (some 70)), some (tR (some 28)), some (tI (-1)), some (tR (some 63)), some (tI kn), some (tI k), x7] [] μ (fun r μ' => r = none ∧ p_M A (v_S (v_2 g) σ (σ.1 0 9)) μ' ∧ p_F μ0 μ') := by
  refine tp_ind _ ?_
  intro k hkN ih μ kn s x7 h0 hs hkn hM hF
  have hI := v_I_all (l := (v_2 g)) HH h0 hkN
  rw [← hs] at hI
  obtain ⟨i1, i2, i3, i4, i5, i6⟩ := hI
  have hsz : μ.1 63 4 = σ.1 0 9 := by rw [hF.1 63 (by omega) (by omega) (by omega)]; exact hsz0
  have hB : c_B σ μ := fun i z0 z1 => by rw [hF.1 64 (by omega) (by omega) (by omega), hF.1 65 (by omega) (by omega) (by omega), hF.1 66 (by omega) (by omega) (by omega), hF.1 67 (by omega) (by omega) (by omega)]; exact hB0 i z0 z1
  have hm1 := hM.1
  have hlb := v_2_b g k
  have hLm : tp_Lo μ.1 28 g := by
    unfold tp_Lo at hL0 ⊢
    rw [hF.1 28 (by omega) (by omega) (by omega), hF.1 (28 + 1) (by omega) (by omega) (by omega)]
    exact hL0
  by_cases hend : σ.1 0 9 ≤ k
  case pos =>
    refine g_iload rfl rfl ?_
    refine g_aload rfl rfl ?_
    refine x_geti (v := (μ.1 63 4)) rfl rfl (by decide) (Or.inl rfl) rfl ?_
    refine g_icmp_ge (tgt := 163) rfl (by decide) (fun _ => ?_) (fun hx => absurd hx (by omega))
    refine x_return rfl rfl ?_
    have hkP : k = σ.1 0 9 := by omega
    rw [hkP] at hs
    rw [hs] at hM
    exact ⟨rfl, hM, hF⟩
  have hHk := HH k h0 (by omega)
  have hkd := hHk.1
  have h6b := hHk.2.1
  have h6m := hHk.2.2.1
  rcases i1 with z1 | z1
  · have hk0 : kn = 0 := by omega
    subst hk0
    clear i3 i4 i5 i6
    refine g_iload rfl rfl ?_
    refine g_aload rfl rfl ?_
    refine x_geti (v := (μ.1 63 4)) rfl rfl (by decide) (Or.inl rfl) rfl ?_
    refine g_icmp_ge (tgt := 163) rfl (by decide) (fun hx => absurd hx (by omega)) (fun _ => ?_)
    refine g_iload rfl rfl ?_
    refine g_sipush rfl ⟨by decide, by decide⟩ (by decide) ?_
    refine g_icmp_ge (tgt := 163) rfl (by decide) (fun hx => absurd hx (by omega)) (fun _ => ?_)
    refine g_aload rfl rfl ?_
    refine g_iload rfl rfl ?_
    refine g_cV (as := [tI k]) (s_pk hG hsz hB hp.2 (by omega) (by omega)) rfl rfl mX3_kind_ok rfl rfl rfl (by decide) rfl rfl rfl ?_
    rintro _ w9 ⟨rfl, hw9⟩ _
    have hw9 := hw9.symm
    subst hw9
    refine g_istore rfl rfl rfl ?_
    refine g_iload rfl rfl ?_
    refine g_iload_n rfl rfl ?_
    refine g_icmp_eq (tgt := 74) rfl (by decide) (fun hx => absurd hx (by omega)) (fun _ => ?_)
    refine g_aload_n rfl rfl ?_
    refine g_ifnull (tgt := 80) rfl (by decide) (fun hx => by cases hx) (fun _ _ => ?_)
    refine g_aload_n rfl rfl ?_
    refine g_iload rfl rfl ?_
    refine g_cV (as := [tI k]) (s_holds0 hG hLm (by omega)) rfl rfl mX6_holds_ok rfl rfl rfl (by decide) rfl rfl rfl ?_
    rintro _ w9 ⟨rfl, hw9⟩ _
    have hw9 := hw9.symm
    subst hw9
    refine g_if_eq (tgt := 80) rfl (by decide) (fun h1 => ?_) (fun h1 => ?_)
    · refine g_iload rfl rfl ?_
      refine g_if_ne (tgt := 100) rfl (by decide) (fun h2 => ?_) (fun h2 => ?_)
      · refine g_iload rfl rfl ?_
        refine g_if_eq (tgt := 157) rfl (by decide) (fun _ => ?_) (fun hx => absurd hx (by omega))
        refine x_iinc (z := k + 1) rfl rfl (by omega) ⟨by omega, by omega⟩ rfl rfl ?_
        refine g_goto (tgt := 28) rfl (by decide) ?_
        by_cases q5 : σ.1 2 k = 5
        · exact ih (by omega) _ _ (0, s.2) _ (by omega) (by rw [v_S_s h0, ← hs, v_n_l (by omega)]) rfl hM hF
        · first
          | exact ih (by omega) _ _ (0, s.2) _ (by omega) (by rw [v_S_s h0, ← hs, v_n_l (by omega)]) rfl hM hF
          | exact ih (by omega) _ _ s _ (by omega) (by rw [v_S_s h0, ← hs, v_n_o (by omega) (by omega) (by omega)]) (by omega) hM hF
      · refine g_iload rfl rfl ?_
        refine g_if_ne (tgt := 100) rfl (by decide) (fun hx => absurd hx (by omega)) (fun _ => ?_)
        refine g_aload_n rfl rfl ?_
        refine g_iV (as := []) mX4_begin_ok rfl rfl rfl rfl rfl rfl (by decide) rfl rfl rfl ?_
        refine g_aload_n rfl rfl ?_
        refine x_geti (v := (μ.1 76 3)) rfl rfl (by decide) (Or.inl rfl) rfl ?_
        refine g_if_lt (tgt := 37) rfl (by decide) (fun hx => absurd hx (by omega)) (fun _ => ?_)
        refine g_aload_n rfl rfl ?_
        refine x_geti (v := (μ.1 76 3)) rfl rfl (by decide) (Or.inl rfl) rfl ?_
        refine g_sipush rfl ⟨by decide, by decide⟩ (by decide) ?_
        refine g_icmp_ge (tgt := 37) rfl (by decide) (fun hx => absurd hx (by omega)) (fun _ => ?_)
        refine g_aload_n rfl rfl ?_
        refine x_getF (r := 78) hG rfl rfl (by decide) (Or.inr ⟨_, rfl⟩) rfl ?_
        refine g_aload_n rfl rfl ?_
        refine x_geti (v := (μ.1 76 3)) rfl rfl (by decide) (Or.inl rfl) rfl ?_
        refine g_iconst rfl ⟨by decide, by decide⟩ ?_
        refine g_iast rfl rfl (by decide) (by omega) (by omega) ?_
        refine g_aload_n rfl rfl ?_
        refine g_dupr rfl ?_
        refine x_geti (v := (μ.1 76 3)) rfl rfl (by decide) (Or.inl rfl) rfl ?_
        refine g_iconst rfl ⟨by decide, by decide⟩ ?_
        refine x_iadd (z := (μ.1 76 3) + 1) rfl (by omega) ⟨by omega, by omega⟩ ?_
        refine g_puti rfl rfl (by decide) rfl rfl ?_
        refine x_return rfl rfl ?_
        intro _
        refine g_iconst rfl ⟨by decide, by decide⟩ ?_
        refine g_istore rfl rfl rfl ?_
        refine g_goto (tgt := 157) rfl (by decide) ?_
        refine x_iinc (z := k + 1) rfl rfl (by omega) ⟨by omega, by omega⟩ rfl rfl ?_
        refine g_goto (tgt := 28) rfl (by decide) ?_
        have g78 : ∀ i, ((tp_pi (tp_pi μ 78 (μ.1 76 3) 0) 76 3 ((μ.1 76 3) + 1))).1 78 i = if i = s.2.1 then 0 else μ.1 78 i := fun i => by
          rw [tp_pi_ne (by omega)]
          by_cases q : i = s.2.1
          · rw [if_pos q, q, ← hm1, tp_pi_at]
          · rw [if_neg q, tp_pi_ix (by omega)]
        exact ih (by omega) _ _ (1, s.2.1 + 1, v_u s.2.2.1 s.2.1 (σ.1 5 k), v_u s.2.2.2 s.2.1 0) _ (by omega) (by rw [v_S_s h0, ← hs, v_n_b (by omega) (by omega)]) rfl (p_M_b hM i2.1 (by show μ.1 76 3 + 1 = s.2.1 + 1; omega) rfl g78 rfl) ⟨fun c9 z1 z2 z3 => by rw [tp_pi_ne (by omega), tp_pi_ne (by omega)]; exact hF.1 c9 z1 z2 z3, hF.2⟩
    · refine g_iconst rfl ⟨by decide, by decide⟩ ?_
      refine g_istore rfl rfl rfl ?_
      refine g_goto (tgt := 157) rfl (by decide) ?_
      refine x_iinc (z := k + 1) rfl rfl (by omega) ⟨by omega, by omega⟩ rfl rfl ?_
      refine g_goto (tgt := 28) rfl (by decide) ?_
      by_cases q5 : σ.1 2 k = 5
      · exact ih (by omega) _ _ (0, s.2) _ (by omega) (by rw [v_S_s h0, ← hs, v_n_l (by omega)]) rfl hM hF
      · first
        | exact ih (by omega) _ _ (0, s.2) _ (by omega) (by rw [v_S_s h0, ← hs, v_n_l (by omega)]) rfl hM hF
        | exact ih (by omega) _ _ s _ (by omega) (by rw [v_S_s h0, ← hs, v_n_o (by omega) (by omega) (by omega)]) (by omega) hM hF
  · have hk0 : kn = 1 := by omega
    subst hk0
    obtain ⟨hnp1, hskn, hlast⟩ := i3 z1
    have hk1 := hskn.1
    have hvk : v_K σ k = σ.1 6 (k - 1) := if_pos hk1
    have h6m1 := h6m hk1
    have hpos : ∀ i, 0 ≤ i → i < s.2.1 → 0 ≤ s.2.2.2 i := fun i i0 i1 => (i4 i i0 i1).2.1
    have hq71 := hQ0.2.2.2 k h0 (by omega)
    have hu1 : μ.1 73 k = w_U σ (k + 1) := by rw [hF.1 73 (by omega) (by omega) (by omega)]; exact hq71.1
    have hu0 : μ.1 73 (k - 1) = w_U σ k := by
      rw [hF.1 73 (by omega) (by omega) (by omega), (hQ0.2.2.2 (k - 1) (by omega) (by omega)).1, show k - 1 + 1 = k by omega]
    have hw71 : ∀ i, μ.1 73 (k - 1) ≤ i → i < μ.1 73 k → μ.1 71 i = A (σ.1 6 (k - 1) + (i - μ.1 73 (k - 1))) := fun i i0 i1 => by
      rw [hF.1 71 (by omega) (by omega) (by omega), hu0]
      exact (hq71.2 i (by omega) (by omega)).1
    have hU0 := (w_U_b HH k.toNat (by omega)).1
    rw [show ((k.toNat : Nat) : Int) = k by omega] at hU0
    have hfr0 : 0 ≤ μ.1 73 (k - 1) := by omega
    have hfto : μ.1 73 (k - 1) ≤ μ.1 73 k := by rw [hu0, hu1]; exact w_U_m HH h0 (by omega) (by omega)
    have h706 : μ.1 70 6 = w_U σ (σ.1 0 9) := by rw [hF.1 70 (by omega) (by omega) (by omega)]; exact hQ0.1
    have hUe := (w_U_b HH (σ.1 0 9).toNat (by omega)).2 (by omega)
    rw [show (((σ.1 0 9).toNat : Nat) : Int) = σ.1 0 9 by omega] at hUe
    have hle6 := (HH (σ.1 0 9 - 1) (by omega) (by omega)).2.1
    have hto9 : μ.1 73 k ≤ μ.1 70 6 ∧ μ.1 70 6 ≤ 200 := ⟨by rw [hu1, h706]; exact w_U_m HH (by omega) (by omega) (by omega), by omega⟩
    have hz0 : 0 ≤ q_s s.2.2.2 s.2.1 := by
      have := q_s_mono2 (C := s.2.2.2) (m := 0) (n := s.2.1) (by omega) (by omega) hpos
      rw [show q_s s.2.2.2 0 = 0 from rfl] at this
      exact this
    have hdd : μ.1 73 k - μ.1 73 (k - 1) ≤ σ.1 6 k - σ.1 6 (k - 1) := by
      rw [hu1, hu0, w_U_s h0]
      by_cases q5 : σ.1 2 k = 5
      · rw [w_d_n (Or.inr q5)]; omega
      · rw [w_d_y hskn q5]; omega
    have hz9 : 0 ≤ q_s s.2.2.2 s.2.1 ∧ q_s s.2.2.2 s.2.1 + (μ.1 73 k - μ.1 73 (k - 1)) ≤ 200 := ⟨hz0, by omega⟩
    have hnp9 : 1 ≤ s.2.1 ∧ s.2.1 ≤ 209 := by omega
    have hi4 := i4 (s.2.1 - 1) (by omega) (by omega)
    have hm9 : 0 ≤ s.2.2.2 (s.2.1 - 1) ∧ s.2.2.2 (s.2.1 - 1) ≤ 200 := by omega
    clear i3 i4 i5 i6
    refine g_iload rfl rfl ?_
    refine g_aload rfl rfl ?_
    refine x_geti (v := (μ.1 63 4)) rfl rfl (by decide) (Or.inl rfl) rfl ?_
    refine g_icmp_ge (tgt := 163) rfl (by decide) (fun hx => absurd hx (by omega)) (fun _ => ?_)
    refine g_iload rfl rfl ?_
    refine g_sipush rfl ⟨by decide, by decide⟩ (by decide) ?_
    refine g_icmp_ge (tgt := 163) rfl (by decide) (fun hx => absurd hx (by omega)) (fun _ => ?_)
    refine g_aload rfl rfl ?_
    refine g_iload rfl rfl ?_
    refine g_cV (as := [tI k]) (s_pk hG hsz hB hp.2 (by omega) (by omega)) rfl rfl mX3_kind_ok rfl rfl rfl (by decide) rfl rfl rfl ?_
    rintro _ w9 ⟨rfl, hw9⟩ _
    have hw9 := hw9.symm
    subst hw9
    refine g_istore rfl rfl rfl ?_
    refine g_iload rfl rfl ?_
    refine g_iload_n rfl rfl ?_
    refine g_icmp_eq (tgt := 74) rfl (by decide) (fun hx => absurd hx (by omega)) (fun _ => ?_)
    refine g_aload_n rfl rfl ?_
    refine g_ifnull (tgt := 80) rfl (by decide) (fun hx => by cases hx) (fun _ _ => ?_)
    refine g_aload_n rfl rfl ?_
    refine g_iload rfl rfl ?_
    refine g_cV (as := [tI k]) (s_holds0 hG hLm (by omega)) rfl rfl mX6_holds_ok rfl rfl rfl (by decide) rfl rfl rfl ?_
    rintro _ w9 ⟨rfl, hw9⟩ _
    have hw9 := hw9.symm
    subst hw9
    refine g_if_eq (tgt := 80) rfl (by decide) (fun h1 => ?_) (fun h1 => ?_)
    · refine g_iload rfl rfl ?_
      refine g_if_ne (tgt := 100) rfl (by decide) (fun h2 => ?_) (fun h2 => ?_)
      · refine g_iload rfl rfl ?_
        refine g_if_eq (tgt := 157) rfl (by decide) (fun hx => absurd hx (by omega)) (fun _ => ?_)
        refine g_aload_n rfl rfl ?_
        refine g_aload_n rfl rfl ?_
        refine g_iload rfl rfl ?_
        refine g_if_ne (tgt := 116) rfl (by decide) (fun _ => ?_) (fun hx => absurd hx (by omega))
        refine g_aload_n rfl rfl ?_
        refine g_iload rfl rfl ?_
        refine g_iconst rfl ⟨by decide, by decide⟩ ?_
        refine x_isub (z := k - 1) rfl (by omega) ⟨by omega, by omega⟩ ?_
        refine g_iV (as := [tI (k - 1)]) mX10_upTo_ok rfl rfl rfl rfl rfl rfl (by decide) rfl rfl rfl ?_
        refine g_iload_n rfl rfl ?_
        refine g_if_lt (tgt := 11) rfl (by decide) (fun hx => absurd hx (by omega)) (fun _ => ?_)
        refine g_iload_n rfl rfl ?_
        refine g_sipush rfl ⟨by decide, by decide⟩ (by decide) ?_
        refine g_icmp_lt (tgt := 15) rfl (by decide) (fun _ => ?_) (fun hx => absurd hx (by omega))
        refine g_aload_n rfl rfl ?_
        refine x_getF (r := 73) hG rfl rfl (by decide) (Or.inr ⟨_, rfl⟩) rfl ?_
        refine g_iload_n rfl rfl ?_
        refine x_iald (v := (μ.1 73 (k - 1))) rfl rfl (by decide) (by omega) (by omega) rfl ?_
        refine x_ireturn rfl rfl ?_
        intro _
        refine g_aload_n rfl rfl ?_
        refine g_iload rfl rfl ?_
        refine g_iV (as := [tI k]) mX10_upTo_ok rfl rfl rfl rfl rfl rfl (by decide) rfl rfl rfl ?_
        refine g_iload_n rfl rfl ?_
        refine g_if_lt (tgt := 11) rfl (by decide) (fun hx => absurd hx (by omega)) (fun _ => ?_)
        refine g_iload_n rfl rfl ?_
        refine g_sipush rfl ⟨by decide, by decide⟩ (by decide) ?_
        refine g_icmp_lt (tgt := 15) rfl (by decide) (fun _ => ?_) (fun hx => absurd hx (by omega))
        refine g_aload_n rfl rfl ?_
        refine x_getF (r := 73) hG rfl rfl (by decide) (Or.inr ⟨_, rfl⟩) rfl ?_
        refine g_iload_n rfl rfl ?_
        refine x_iald (v := (μ.1 73 k)) rfl rfl (by decide) (by omega) (by omega) rfl ?_
        refine x_ireturn rfl rfl ?_
        intro _
        refine g_cV (as := [tR (some 70), tI (μ.1 73 (k - 1)), tI (μ.1 73 k)]) (s_take hG (np := s.2.1) (z0 := q_s s.2.2.2 s.2.1) (m0 := s.2.2.2 (s.2.1 - 1)) (fr := μ.1 73 (k - 1)) (to := μ.1 73 k) hfr0 hfto hto9 hz9 hnp9 hm9 hM.2.1 hM.1 (hM.2.2.1 _ (by omega) (by omega))) rfl rfl mX4_take_ok rfl rfl rfl (by decide) rfl rfl rfl ?_
        rintro _ w1 ⟨rfl, hp1⟩ _
        refine g_iload rfl rfl ?_
        refine g_if_eq (tgt := 150) rfl (by decide) (fun hx => absurd hx (by omega)) (fun _ => ?_)
        refine g_iload rfl rfl ?_
        refine g_iconst rfl ⟨by decide, by decide⟩ ?_
        refine g_icmp_eq (tgt := 150) rfl (by decide) (fun h3 => ?_) (fun h3 => ?_)
        · refine g_iconst rfl ⟨by decide, by decide⟩ ?_
          refine g_goto (tgt := 155) rfl (by decide) ?_
          refine g_istore rfl rfl rfl ?_
          refine x_iinc (z := k + 1) rfl rfl (by omega) ⟨by omega, by omega⟩ rfl rfl ?_
          refine g_goto (tgt := 28) rfl (by decide) ?_
          first
            | exact ih (by omega) _ _ (0, s.2) _ (by omega) (by rw [v_S_s h0, ← hs, v_n_l (by omega)]) (by first | rfl | omega) (p_M_0 (fr := μ.1 73 (k - 1)) hM hnp1 hpos (by rw [show μ.1 73 k = μ.1 73 (k - 1) by rw [hu1, hu0, w_U_s h0, w_d_n (Or.inr (by omega))]; omega] at hp1; exact hp1)) ⟨fun c9 z1 z2 z3 => (hp1.2.2.2.2.2.2.1 c9 z1 z2 z3).trans (hF.1 c9 z1 z2 z3), hp1.2.2.2.2.2.2.2.trans hF.2⟩
            | exact ih (by omega) _ _ (if σ.1 2 k = 3 ∨ σ.1 2 k = 4 then 0 else 1, s.2.1, s.2.2.1, v_u s.2.2.2 (s.2.1 - 1) (σ.1 6 k - s.2.2.1 (s.2.1 - 1))) _ (by omega) (by rw [v_S_s h0, ← hs, v_n_t (by omega) (by omega)]) (by show _ = (if σ.1 2 k = 3 ∨ σ.1 2 k = 4 then (0 : Int) else 1); rw [if_neg (by omega)]) (p_M_t hM hnp1 hpos hfto (by rw [hu1, hu0, w_U_s h0, w_d_y hskn (by omega)]; omega) hlast hw71 hp1) ⟨fun c9 z1 z2 z3 => (hp1.2.2.2.2.2.2.1 c9 z1 z2 z3).trans (hF.1 c9 z1 z2 z3), hp1.2.2.2.2.2.2.2.trans hF.2⟩
        · refine g_iload rfl rfl ?_
          refine g_iconst rfl ⟨by decide, by decide⟩ ?_
          refine g_icmp_ne (tgt := 154) rfl (by decide) (fun h4 => ?_) (fun h4 => ?_)
          · refine g_iconst rfl ⟨by decide, by decide⟩ ?_
            refine g_istore rfl rfl rfl ?_
            refine x_iinc (z := k + 1) rfl rfl (by omega) ⟨by omega, by omega⟩ rfl rfl ?_
            refine g_goto (tgt := 28) rfl (by decide) ?_
            by_cases q5 : σ.1 2 k = 5 <;> first
              | exact ih (by omega) _ _ (0, s.2) _ (by omega) (by rw [v_S_s h0, ← hs, v_n_l (by omega)]) (by first | rfl | omega) (p_M_0 (fr := μ.1 73 (k - 1)) hM hnp1 hpos (by rw [show μ.1 73 k = μ.1 73 (k - 1) by rw [hu1, hu0, w_U_s h0, w_d_n (Or.inr (by omega))]; omega] at hp1; exact hp1)) ⟨fun c9 z1 z2 z3 => (hp1.2.2.2.2.2.2.1 c9 z1 z2 z3).trans (hF.1 c9 z1 z2 z3), hp1.2.2.2.2.2.2.2.trans hF.2⟩
              | exact ih (by omega) _ _ (if σ.1 2 k = 3 ∨ σ.1 2 k = 4 then 0 else 1, s.2.1, s.2.2.1, v_u s.2.2.2 (s.2.1 - 1) (σ.1 6 k - s.2.2.1 (s.2.1 - 1))) _ (by omega) (by rw [v_S_s h0, ← hs, v_n_t (by omega) (by omega)]) (by show _ = (if σ.1 2 k = 3 ∨ σ.1 2 k = 4 then (0 : Int) else 1); rw [if_pos (by omega)]) (p_M_t hM hnp1 hpos hfto (by rw [hu1, hu0, w_U_s h0, w_d_y hskn (by omega)]; omega) hlast hw71 hp1) ⟨fun c9 z1 z2 z3 => (hp1.2.2.2.2.2.2.1 c9 z1 z2 z3).trans (hF.1 c9 z1 z2 z3), hp1.2.2.2.2.2.2.2.trans hF.2⟩
          · refine g_iconst rfl ⟨by decide, by decide⟩ ?_
            refine g_goto (tgt := 155) rfl (by decide) ?_
            refine g_istore rfl rfl rfl ?_
            refine x_iinc (z := k + 1) rfl rfl (by omega) ⟨by omega, by omega⟩ rfl rfl ?_
            refine g_goto (tgt := 28) rfl (by decide) ?_
            first
              | exact ih (by omega) _ _ (0, s.2) _ (by omega) (by rw [v_S_s h0, ← hs, v_n_l (by omega)]) (by first | rfl | omega) (p_M_0 (fr := μ.1 73 (k - 1)) hM hnp1 hpos (by rw [show μ.1 73 k = μ.1 73 (k - 1) by rw [hu1, hu0, w_U_s h0, w_d_n (Or.inr (by omega))]; omega] at hp1; exact hp1)) ⟨fun c9 z1 z2 z3 => (hp1.2.2.2.2.2.2.1 c9 z1 z2 z3).trans (hF.1 c9 z1 z2 z3), hp1.2.2.2.2.2.2.2.trans hF.2⟩
              | exact ih (by omega) _ _ (if σ.1 2 k = 3 ∨ σ.1 2 k = 4 then 0 else 1, s.2.1, s.2.2.1, v_u s.2.2.2 (s.2.1 - 1) (σ.1 6 k - s.2.2.1 (s.2.1 - 1))) _ (by omega) (by rw [v_S_s h0, ← hs, v_n_t (by omega) (by omega)]) (by show _ = (if σ.1 2 k = 3 ∨ σ.1 2 k = 4 then (0 : Int) else 1); rw [if_neg (by omega)]) (p_M_t hM hnp1 hpos hfto (by rw [hu1, hu0, w_U_s h0, w_d_y hskn (by omega)]; omega) hlast hw71 hp1) ⟨fun c9 z1 z2 z3 => (hp1.2.2.2.2.2.2.1 c9 z1 z2 z3).trans (hF.1 c9 z1 z2 z3), hp1.2.2.2.2.2.2.2.trans hF.2⟩
      · refine g_iload rfl rfl ?_
        refine g_if_ne (tgt := 100) rfl (by decide) (fun _ => ?_) (fun hx => absurd hx (by omega))
        refine g_iload rfl rfl ?_
        refine g_if_eq (tgt := 157) rfl (by decide) (fun hx => absurd hx (by omega)) (fun _ => ?_)
        refine g_aload_n rfl rfl ?_
        refine g_aload_n rfl rfl ?_
        refine g_iload rfl rfl ?_
        refine g_if_ne (tgt := 116) rfl (by decide) (fun _ => ?_) (fun hx => absurd hx (by omega))
        refine g_aload_n rfl rfl ?_
        refine g_iload rfl rfl ?_
        refine g_iconst rfl ⟨by decide, by decide⟩ ?_
        refine x_isub (z := k - 1) rfl (by omega) ⟨by omega, by omega⟩ ?_
        refine g_iV (as := [tI (k - 1)]) mX10_upTo_ok rfl rfl rfl rfl rfl rfl (by decide) rfl rfl rfl ?_
        refine g_iload_n rfl rfl ?_
        refine g_if_lt (tgt := 11) rfl (by decide) (fun hx => absurd hx (by omega)) (fun _ => ?_)
        refine g_iload_n rfl rfl ?_
        refine g_sipush rfl ⟨by decide, by decide⟩ (by decide) ?_
        refine g_icmp_lt (tgt := 15) rfl (by decide) (fun _ => ?_) (fun hx => absurd hx (by omega))
        refine g_aload_n rfl rfl ?_
        refine x_getF (r := 73) hG rfl rfl (by decide) (Or.inr ⟨_, rfl⟩) rfl ?_
        refine g_iload_n rfl rfl ?_
        refine x_iald (v := (μ.1 73 (k - 1))) rfl rfl (by decide) (by omega) (by omega) rfl ?_
        refine x_ireturn rfl rfl ?_
        intro _
        refine g_aload_n rfl rfl ?_
        refine g_iload rfl rfl ?_
        refine g_iV (as := [tI k]) mX10_upTo_ok rfl rfl rfl rfl rfl rfl (by decide) rfl rfl rfl ?_
        refine g_iload_n rfl rfl ?_
        refine g_if_lt (tgt := 11) rfl (by decide) (fun hx => absurd hx (by omega)) (fun _ => ?_)
        refine g_iload_n rfl rfl ?_
        refine g_sipush rfl ⟨by decide, by decide⟩ (by decide) ?_
        refine g_icmp_lt (tgt := 15) rfl (by decide) (fun _ => ?_) (fun hx => absurd hx (by omega))
        refine g_aload_n rfl rfl ?_
        refine x_getF (r := 73) hG rfl rfl (by decide) (Or.inr ⟨_, rfl⟩) rfl ?_
        refine g_iload_n rfl rfl ?_
        refine x_iald (v := (μ.1 73 k)) rfl rfl (by decide) (by omega) (by omega) rfl ?_
        refine x_ireturn rfl rfl ?_
        intro _
        refine g_cV (as := [tR (some 70), tI (μ.1 73 (k - 1)), tI (μ.1 73 k)]) (s_take hG (np := s.2.1) (z0 := q_s s.2.2.2 s.2.1) (m0 := s.2.2.2 (s.2.1 - 1)) (fr := μ.1 73 (k - 1)) (to := μ.1 73 k) hfr0 hfto hto9 hz9 hnp9 hm9 hM.2.1 hM.1 (hM.2.2.1 _ (by omega) (by omega))) rfl rfl mX4_take_ok rfl rfl rfl (by decide) rfl rfl rfl ?_
        rintro _ w1 ⟨rfl, hp1⟩ _
        refine g_iload rfl rfl ?_
        refine g_if_eq (tgt := 150) rfl (by decide) (fun _ => ?_) (fun hx => absurd hx (by omega))
        refine g_iconst rfl ⟨by decide, by decide⟩ ?_
        refine g_goto (tgt := 155) rfl (by decide) ?_
        refine g_istore rfl rfl rfl ?_
        refine x_iinc (z := k + 1) rfl rfl (by omega) ⟨by omega, by omega⟩ rfl rfl ?_
        refine g_goto (tgt := 28) rfl (by decide) ?_
        first
          | exact ih (by omega) _ _ (0, s.2) _ (by omega) (by rw [v_S_s h0, ← hs, v_n_l (by omega)]) (by first | rfl | omega) (p_M_0 (fr := μ.1 73 (k - 1)) hM hnp1 hpos (by rw [show μ.1 73 k = μ.1 73 (k - 1) by rw [hu1, hu0, w_U_s h0, w_d_n (Or.inr (by omega))]; omega] at hp1; exact hp1)) ⟨fun c9 z1 z2 z3 => (hp1.2.2.2.2.2.2.1 c9 z1 z2 z3).trans (hF.1 c9 z1 z2 z3), hp1.2.2.2.2.2.2.2.trans hF.2⟩
          | exact ih (by omega) _ _ (if σ.1 2 k = 3 ∨ σ.1 2 k = 4 then 0 else 1, s.2.1, s.2.2.1, v_u s.2.2.2 (s.2.1 - 1) (σ.1 6 k - s.2.2.1 (s.2.1 - 1))) _ (by omega) (by rw [v_S_s h0, ← hs, v_n_t (by omega) (by omega)]) (by show _ = (if σ.1 2 k = 3 ∨ σ.1 2 k = 4 then (0 : Int) else 1); rw [if_neg (by omega)]) (p_M_t hM hnp1 hpos hfto (by rw [hu1, hu0, w_U_s h0, w_d_y hskn (by omega)]; omega) hlast hw71 hp1) ⟨fun c9 z1 z2 z3 => (hp1.2.2.2.2.2.2.1 c9 z1 z2 z3).trans (hF.1 c9 z1 z2 z3), hp1.2.2.2.2.2.2.2.trans hF.2⟩
    · refine g_iconst rfl ⟨by decide, by decide⟩ ?_
      refine g_istore rfl rfl rfl ?_
      refine g_goto (tgt := 157) rfl (by decide) ?_
      refine x_iinc (z := k + 1) rfl rfl (by omega) ⟨by omega, by omega⟩ rfl rfl ?_
      refine g_goto (tgt := 28) rfl (by decide) ?_
      exact ih (by omega) _ _ (0, s.2) _ (by omega) (by rw [v_S_s h0, ← hs, v_n_l (by omega)]) rfl hM hF
set_option maxHeartbeats 4000000 in
set_option maxRecDepth 100000 in
theorem s_sift0 {G : tp_G} {μ : tp_M} (hG : tp_Gf G = true) {f A B Y : Int → Int} {n : Int} {σ : tp_M} (hsz : μ.1 63 4 = σ.1 0 9) (hB : c_B σ μ) (hp : 0 ≤ σ.1 0 9 ∧ σ.1 0 9 ≤ 209) (hn : n ≤ 200) (HH : ∀ p, 0 ≤ p → p < σ.1 0 9 → s_H f A B Y (f 2) n σ p) (hQ : w_Q f A B n σ (σ.1 0 9) μ) (hpk : μ.2 70 5 = some 63) {g : Int → Int} (hL0 : tp_Lo μ.1 28 g) : tp_k G mX4_sift [tR (some 76), tR (some 70), tR (some 28), tI (-1)] μ (fun r μ' => r = none ∧ p_M A (v_S (v_2 g) σ (σ.1 0 9)) μ' ∧ p_F μ μ') := by
  refine tp_ok_of mX4_sift_ok rfl (Nat.le_refl _) ?_
  refine g_aload_n rfl rfl ?_
  refine g_iconst rfl ⟨by decide, by decide⟩ ?_
  refine g_puti rfl rfl (by decide) rfl rfl ?_
  refine g_aload_n rfl rfl ?_
  refine g_iconst rfl ⟨by decide, by decide⟩ ?_
  refine g_puti rfl rfl (by decide) rfl rfl ?_
  refine g_aload_n rfl rfl ?_
  refine x_getM (v := (some 63)) hG rfl rfl (by decide) (Or.inl ⟨_, rfl⟩) rfl hpk ?_
  refine g_astore rfl rfl rfl ?_
  refine g_aload rfl rfl ?_
  refine g_ifnonnull (tgt := 22) rfl (by decide) (fun _ _ => ?_) (fun hx => by cases hx)
  refine g_iconst rfl ⟨by decide, by decide⟩ ?_
  refine g_istore rfl rfl rfl ?_
  refine g_iconst rfl ⟨by decide, by decide⟩ ?_
  refine g_istore rfl rfl rfl ?_
  exact l_sift0 (μ0 := μ) hG hsz hB hp hn HH hQ hL0 0 (by omega) _ 0 (0, 0, fun _ => 0, fun _ => 0) _ (by omega) rfl rfl ⟨rfl, rfl, fun i i0 i1 => by have i1 : i < 0 := i1; omega, fun i i0 i1 => by have i1 : i < 0 := i1; omega⟩ ⟨fun c9 z1 z2 z3 => by rw [tp_pi_ne (by omega), tp_pi_ne (by omega)], rfl⟩
set_option maxHeartbeats 4000000 in
set_option maxRecDepth 100000 in
theorem l_sift1 {G : tp_G} (hG : tp_Gf G = true) {f A B Y : Int → Int} {n : Int} {μ0 σ : tp_M} (hsz0 : μ0.1 63 4 = σ.1 0 9) (hB0 : c_B σ μ0) (hp : 0 ≤ σ.1 0 9 ∧ σ.1 0 9 ≤ 209) (hn : n ≤ 200) (HH : ∀ p, 0 ≤ p → p < σ.1 0 9 → s_H f A B Y (f 2) n σ p) (hQ0 : w_Q f A B n σ (σ.1 0 9) μ0) {g : Int → Int} (hL0 : tp_Lo μ0.1 31 g) : ∀ k, k ≤ σ.1 0 9 → ∀ (μ : tp_M) (kn : Int) (s : v_T) (x7 : Option tp_V), 0 ≤ k → s = v_S (v_2 g) σ k → kn = s.1 → p_M A s μ → p_F μ0 μ → tp_g G mX4_sift 28 [some (tR (some 76)), some (tR (some 70)), some (tR (some 31)), some (tI (-1)), some (tR (some 63)), some (tI kn), some (tI k), x7] [] μ (fun r μ' => r = none ∧ p_M A (v_S (v_2 g) σ (σ.1 0 9)) μ' ∧ p_F μ0 μ') := by
  refine tp_ind _ ?_
  intro k hkN ih μ kn s x7 h0 hs hkn hM hF
  have hI := v_I_all (l := (v_2 g)) HH h0 hkN
  rw [← hs] at hI
  obtain ⟨i1, i2, i3, i4, i5, i6⟩ := hI
  have hsz : μ.1 63 4 = σ.1 0 9 := by rw [hF.1 63 (by omega) (by omega) (by omega)]; exact hsz0
  have hB : c_B σ μ := fun i z0 z1 => by rw [hF.1 64 (by omega) (by omega) (by omega), hF.1 65 (by omega) (by omega) (by omega), hF.1 66 (by omega) (by omega) (by omega), hF.1 67 (by omega) (by omega) (by omega)]; exact hB0 i z0 z1
  have hm1 := hM.1
  have hlb := v_2_b g k
  have hLm : tp_Lo μ.1 31 g := by
    unfold tp_Lo at hL0 ⊢
    rw [hF.1 31 (by omega) (by omega) (by omega), hF.1 (31 + 1) (by omega) (by omega) (by omega)]
    exact hL0
  by_cases hend : σ.1 0 9 ≤ k
  case pos =>
    refine g_iload rfl rfl ?_
    refine g_aload rfl rfl ?_
    refine x_geti (v := (μ.1 63 4)) rfl rfl (by decide) (Or.inl rfl) rfl ?_
    refine g_icmp_ge (tgt := 163) rfl (by decide) (fun _ => ?_) (fun hx => absurd hx (by omega))
    refine x_return rfl rfl ?_
    have hkP : k = σ.1 0 9 := by omega
    rw [hkP] at hs
    rw [hs] at hM
    exact ⟨rfl, hM, hF⟩
  have hHk := HH k h0 (by omega)
  have hkd := hHk.1
  have h6b := hHk.2.1
  have h6m := hHk.2.2.1
  rcases i1 with z1 | z1
  · have hk0 : kn = 0 := by omega
    subst hk0
    clear i3 i4 i5 i6
    refine g_iload rfl rfl ?_
    refine g_aload rfl rfl ?_
    refine x_geti (v := (μ.1 63 4)) rfl rfl (by decide) (Or.inl rfl) rfl ?_
    refine g_icmp_ge (tgt := 163) rfl (by decide) (fun hx => absurd hx (by omega)) (fun _ => ?_)
    refine g_iload rfl rfl ?_
    refine g_sipush rfl ⟨by decide, by decide⟩ (by decide) ?_
    refine g_icmp_ge (tgt := 163) rfl (by decide) (fun hx => absurd hx (by omega)) (fun _ => ?_)
    refine g_aload rfl rfl ?_
    refine g_iload rfl rfl ?_
    refine g_cV (as := [tI k]) (s_pk hG hsz hB hp.2 (by omega) (by omega)) rfl rfl mX3_kind_ok rfl rfl rfl (by decide) rfl rfl rfl ?_
    rintro _ w9 ⟨rfl, hw9⟩ _
    have hw9 := hw9.symm
    subst hw9
    refine g_istore rfl rfl rfl ?_
    refine g_iload rfl rfl ?_
    refine g_iload_n rfl rfl ?_
    refine g_icmp_eq (tgt := 74) rfl (by decide) (fun hx => absurd hx (by omega)) (fun _ => ?_)
    refine g_aload_n rfl rfl ?_
    refine g_ifnull (tgt := 80) rfl (by decide) (fun hx => by cases hx) (fun _ _ => ?_)
    refine g_aload_n rfl rfl ?_
    refine g_iload rfl rfl ?_
    refine g_cV (as := [tI k]) (s_holds1 hG hLm (by omega)) rfl rfl mX6_holds_ok rfl rfl rfl (by decide) rfl rfl rfl ?_
    rintro _ w9 ⟨rfl, hw9⟩ _
    have hw9 := hw9.symm
    subst hw9
    refine g_if_eq (tgt := 80) rfl (by decide) (fun h1 => ?_) (fun h1 => ?_)
    · refine g_iload rfl rfl ?_
      refine g_if_ne (tgt := 100) rfl (by decide) (fun h2 => ?_) (fun h2 => ?_)
      · refine g_iload rfl rfl ?_
        refine g_if_eq (tgt := 157) rfl (by decide) (fun _ => ?_) (fun hx => absurd hx (by omega))
        refine x_iinc (z := k + 1) rfl rfl (by omega) ⟨by omega, by omega⟩ rfl rfl ?_
        refine g_goto (tgt := 28) rfl (by decide) ?_
        by_cases q5 : σ.1 2 k = 5
        · exact ih (by omega) _ _ (0, s.2) _ (by omega) (by rw [v_S_s h0, ← hs, v_n_l (by omega)]) rfl hM hF
        · first
          | exact ih (by omega) _ _ (0, s.2) _ (by omega) (by rw [v_S_s h0, ← hs, v_n_l (by omega)]) rfl hM hF
          | exact ih (by omega) _ _ s _ (by omega) (by rw [v_S_s h0, ← hs, v_n_o (by omega) (by omega) (by omega)]) (by omega) hM hF
      · refine g_iload rfl rfl ?_
        refine g_if_ne (tgt := 100) rfl (by decide) (fun hx => absurd hx (by omega)) (fun _ => ?_)
        refine g_aload_n rfl rfl ?_
        refine g_iV (as := []) mX4_begin_ok rfl rfl rfl rfl rfl rfl (by decide) rfl rfl rfl ?_
        refine g_aload_n rfl rfl ?_
        refine x_geti (v := (μ.1 76 3)) rfl rfl (by decide) (Or.inl rfl) rfl ?_
        refine g_if_lt (tgt := 37) rfl (by decide) (fun hx => absurd hx (by omega)) (fun _ => ?_)
        refine g_aload_n rfl rfl ?_
        refine x_geti (v := (μ.1 76 3)) rfl rfl (by decide) (Or.inl rfl) rfl ?_
        refine g_sipush rfl ⟨by decide, by decide⟩ (by decide) ?_
        refine g_icmp_ge (tgt := 37) rfl (by decide) (fun hx => absurd hx (by omega)) (fun _ => ?_)
        refine g_aload_n rfl rfl ?_
        refine x_getF (r := 78) hG rfl rfl (by decide) (Or.inr ⟨_, rfl⟩) rfl ?_
        refine g_aload_n rfl rfl ?_
        refine x_geti (v := (μ.1 76 3)) rfl rfl (by decide) (Or.inl rfl) rfl ?_
        refine g_iconst rfl ⟨by decide, by decide⟩ ?_
        refine g_iast rfl rfl (by decide) (by omega) (by omega) ?_
        refine g_aload_n rfl rfl ?_
        refine g_dupr rfl ?_
        refine x_geti (v := (μ.1 76 3)) rfl rfl (by decide) (Or.inl rfl) rfl ?_
        refine g_iconst rfl ⟨by decide, by decide⟩ ?_
        refine x_iadd (z := (μ.1 76 3) + 1) rfl (by omega) ⟨by omega, by omega⟩ ?_
        refine g_puti rfl rfl (by decide) rfl rfl ?_
        refine x_return rfl rfl ?_
        intro _
        refine g_iconst rfl ⟨by decide, by decide⟩ ?_
        refine g_istore rfl rfl rfl ?_
        refine g_goto (tgt := 157) rfl (by decide) ?_
        refine x_iinc (z := k + 1) rfl rfl (by omega) ⟨by omega, by omega⟩ rfl rfl ?_
        refine g_goto (tgt := 28) rfl (by decide) ?_
        have g78 : ∀ i, ((tp_pi (tp_pi μ 78 (μ.1 76 3) 0) 76 3 ((μ.1 76 3) + 1))).1 78 i = if i = s.2.1 then 0 else μ.1 78 i := fun i => by
          rw [tp_pi_ne (by omega)]
          by_cases q : i = s.2.1
          · rw [if_pos q, q, ← hm1, tp_pi_at]
          · rw [if_neg q, tp_pi_ix (by omega)]
        exact ih (by omega) _ _ (1, s.2.1 + 1, v_u s.2.2.1 s.2.1 (σ.1 5 k), v_u s.2.2.2 s.2.1 0) _ (by omega) (by rw [v_S_s h0, ← hs, v_n_b (by omega) (by omega)]) rfl (p_M_b hM i2.1 (by show μ.1 76 3 + 1 = s.2.1 + 1; omega) rfl g78 rfl) ⟨fun c9 z1 z2 z3 => by rw [tp_pi_ne (by omega), tp_pi_ne (by omega)]; exact hF.1 c9 z1 z2 z3, hF.2⟩
    · refine g_iconst rfl ⟨by decide, by decide⟩ ?_
      refine g_istore rfl rfl rfl ?_
      refine g_goto (tgt := 157) rfl (by decide) ?_
      refine x_iinc (z := k + 1) rfl rfl (by omega) ⟨by omega, by omega⟩ rfl rfl ?_
      refine g_goto (tgt := 28) rfl (by decide) ?_
      by_cases q5 : σ.1 2 k = 5
      · exact ih (by omega) _ _ (0, s.2) _ (by omega) (by rw [v_S_s h0, ← hs, v_n_l (by omega)]) rfl hM hF
      · first
        | exact ih (by omega) _ _ (0, s.2) _ (by omega) (by rw [v_S_s h0, ← hs, v_n_l (by omega)]) rfl hM hF
        | exact ih (by omega) _ _ s _ (by omega) (by rw [v_S_s h0, ← hs, v_n_o (by omega) (by omega) (by omega)]) (by omega) hM hF
  · have hk0 : kn = 1 := by omega
    subst hk0
    obtain ⟨hnp1, hskn, hlast⟩ := i3 z1
    have hk1 := hskn.1
    have hvk : v_K σ k = σ.1 6 (k - 1) := if_pos hk1
    have h6m1 := h6m hk1
    have hpos : ∀ i, 0 ≤ i → i < s.2.1 → 0 ≤ s.2.2.2 i := fun i i0 i1 => (i4 i i0 i1).2.1
    have hq71 := hQ0.2.2.2 k h0 (by omega)
    have hu1 : μ.1 73 k = w_U σ (k + 1) := by rw [hF.1 73 (by omega) (by omega) (by omega)]; exact hq71.1
    have hu0 : μ.1 73 (k - 1) = w_U σ k := by
      rw [hF.1 73 (by omega) (by omega) (by omega), (hQ0.2.2.2 (k - 1) (by omega) (by omega)).1, show k - 1 + 1 = k by omega]
    have hw71 : ∀ i, μ.1 73 (k - 1) ≤ i → i < μ.1 73 k → μ.1 71 i = A (σ.1 6 (k - 1) + (i - μ.1 73 (k - 1))) := fun i i0 i1 => by
      rw [hF.1 71 (by omega) (by omega) (by omega), hu0]
      exact (hq71.2 i (by omega) (by omega)).1
    have hU0 := (w_U_b HH k.toNat (by omega)).1
    rw [show ((k.toNat : Nat) : Int) = k by omega] at hU0
    have hfr0 : 0 ≤ μ.1 73 (k - 1) := by omega
    have hfto : μ.1 73 (k - 1) ≤ μ.1 73 k := by rw [hu0, hu1]; exact w_U_m HH h0 (by omega) (by omega)
    have h706 : μ.1 70 6 = w_U σ (σ.1 0 9) := by rw [hF.1 70 (by omega) (by omega) (by omega)]; exact hQ0.1
    have hUe := (w_U_b HH (σ.1 0 9).toNat (by omega)).2 (by omega)
    rw [show (((σ.1 0 9).toNat : Nat) : Int) = σ.1 0 9 by omega] at hUe
    have hle6 := (HH (σ.1 0 9 - 1) (by omega) (by omega)).2.1
    have hto9 : μ.1 73 k ≤ μ.1 70 6 ∧ μ.1 70 6 ≤ 200 := ⟨by rw [hu1, h706]; exact w_U_m HH (by omega) (by omega) (by omega), by omega⟩
    have hz0 : 0 ≤ q_s s.2.2.2 s.2.1 := by
      have := q_s_mono2 (C := s.2.2.2) (m := 0) (n := s.2.1) (by omega) (by omega) hpos
      rw [show q_s s.2.2.2 0 = 0 from rfl] at this
      exact this
    have hdd : μ.1 73 k - μ.1 73 (k - 1) ≤ σ.1 6 k - σ.1 6 (k - 1) := by
      rw [hu1, hu0, w_U_s h0]
      by_cases q5 : σ.1 2 k = 5
      · rw [w_d_n (Or.inr q5)]; omega
      · rw [w_d_y hskn q5]; omega
    have hz9 : 0 ≤ q_s s.2.2.2 s.2.1 ∧ q_s s.2.2.2 s.2.1 + (μ.1 73 k - μ.1 73 (k - 1)) ≤ 200 := ⟨hz0, by omega⟩
    have hnp9 : 1 ≤ s.2.1 ∧ s.2.1 ≤ 209 := by omega
    have hi4 := i4 (s.2.1 - 1) (by omega) (by omega)
    have hm9 : 0 ≤ s.2.2.2 (s.2.1 - 1) ∧ s.2.2.2 (s.2.1 - 1) ≤ 200 := by omega
    clear i3 i4 i5 i6
    refine g_iload rfl rfl ?_
    refine g_aload rfl rfl ?_
    refine x_geti (v := (μ.1 63 4)) rfl rfl (by decide) (Or.inl rfl) rfl ?_
    refine g_icmp_ge (tgt := 163) rfl (by decide) (fun hx => absurd hx (by omega)) (fun _ => ?_)
    refine g_iload rfl rfl ?_
    refine g_sipush rfl ⟨by decide, by decide⟩ (by decide) ?_
    refine g_icmp_ge (tgt := 163) rfl (by decide) (fun hx => absurd hx (by omega)) (fun _ => ?_)
    refine g_aload rfl rfl ?_
    refine g_iload rfl rfl ?_
    refine g_cV (as := [tI k]) (s_pk hG hsz hB hp.2 (by omega) (by omega)) rfl rfl mX3_kind_ok rfl rfl rfl (by decide) rfl rfl rfl ?_
    rintro _ w9 ⟨rfl, hw9⟩ _
    have hw9 := hw9.symm
    subst hw9
    refine g_istore rfl rfl rfl ?_
    refine g_iload rfl rfl ?_
    refine g_iload_n rfl rfl ?_
    refine g_icmp_eq (tgt := 74) rfl (by decide) (fun hx => absurd hx (by omega)) (fun _ => ?_)
    refine g_aload_n rfl rfl ?_
    refine g_ifnull (tgt := 80) rfl (by decide) (fun hx => by cases hx) (fun _ _ => ?_)
    refine g_aload_n rfl rfl ?_
    refine g_iload rfl rfl ?_
    refine g_cV (as := [tI k]) (s_holds1 hG hLm (by omega)) rfl rfl mX6_holds_ok rfl rfl rfl (by decide) rfl rfl rfl ?_
    rintro _ w9 ⟨rfl, hw9⟩ _
    have hw9 := hw9.symm
    subst hw9
    refine g_if_eq (tgt := 80) rfl (by decide) (fun h1 => ?_) (fun h1 => ?_)
    · refine g_iload rfl rfl ?_
      refine g_if_ne (tgt := 100) rfl (by decide) (fun h2 => ?_) (fun h2 => ?_)
      · refine g_iload rfl rfl ?_
        refine g_if_eq (tgt := 157) rfl (by decide) (fun hx => absurd hx (by omega)) (fun _ => ?_)
        refine g_aload_n rfl rfl ?_
        refine g_aload_n rfl rfl ?_
        refine g_iload rfl rfl ?_
        refine g_if_ne (tgt := 116) rfl (by decide) (fun _ => ?_) (fun hx => absurd hx (by omega))
        refine g_aload_n rfl rfl ?_
        refine g_iload rfl rfl ?_
        refine g_iconst rfl ⟨by decide, by decide⟩ ?_
        refine x_isub (z := k - 1) rfl (by omega) ⟨by omega, by omega⟩ ?_
        refine g_iV (as := [tI (k - 1)]) mX10_upTo_ok rfl rfl rfl rfl rfl rfl (by decide) rfl rfl rfl ?_
        refine g_iload_n rfl rfl ?_
        refine g_if_lt (tgt := 11) rfl (by decide) (fun hx => absurd hx (by omega)) (fun _ => ?_)
        refine g_iload_n rfl rfl ?_
        refine g_sipush rfl ⟨by decide, by decide⟩ (by decide) ?_
        refine g_icmp_lt (tgt := 15) rfl (by decide) (fun _ => ?_) (fun hx => absurd hx (by omega))
        refine g_aload_n rfl rfl ?_
        refine x_getF (r := 73) hG rfl rfl (by decide) (Or.inr ⟨_, rfl⟩) rfl ?_
        refine g_iload_n rfl rfl ?_
        refine x_iald (v := (μ.1 73 (k - 1))) rfl rfl (by decide) (by omega) (by omega) rfl ?_
        refine x_ireturn rfl rfl ?_
        intro _
        refine g_aload_n rfl rfl ?_
        refine g_iload rfl rfl ?_
        refine g_iV (as := [tI k]) mX10_upTo_ok rfl rfl rfl rfl rfl rfl (by decide) rfl rfl rfl ?_
        refine g_iload_n rfl rfl ?_
        refine g_if_lt (tgt := 11) rfl (by decide) (fun hx => absurd hx (by omega)) (fun _ => ?_)
        refine g_iload_n rfl rfl ?_
        refine g_sipush rfl ⟨by decide, by decide⟩ (by decide) ?_
        refine g_icmp_lt (tgt := 15) rfl (by decide) (fun _ => ?_) (fun hx => absurd hx (by omega))
        refine g_aload_n rfl rfl ?_
        refine x_getF (r := 73) hG rfl rfl (by decide) (Or.inr ⟨_, rfl⟩) rfl ?_
        refine g_iload_n rfl rfl ?_
        refine x_iald (v := (μ.1 73 k)) rfl rfl (by decide) (by omega) (by omega) rfl ?_
        refine x_ireturn rfl rfl ?_
        intro _
        refine g_cV (as := [tR (some 70), tI (μ.1 73 (k - 1)), tI (μ.1 73 k)]) (s_take hG (np := s.2.1) (z0 := q_s s.2.2.2 s.2.1) (m0 := s.2.2.2 (s.2.1 - 1)) (fr := μ.1 73 (k - 1)) (to := μ.1 73 k) hfr0 hfto hto9 hz9 hnp9 hm9 hM.2.1 hM.1 (hM.2.2.1 _ (by omega) (by omega))) rfl rfl mX4_take_ok rfl rfl rfl (by decide) rfl rfl rfl ?_
        rintro _ w1 ⟨rfl, hp1⟩ _
        refine g_iload rfl rfl ?_
        refine g_if_eq (tgt := 150) rfl (by decide) (fun hx => absurd hx (by omega)) (fun _ => ?_)
        refine g_iload rfl rfl ?_
        refine g_iconst rfl ⟨by decide, by decide⟩ ?_
        refine g_icmp_eq (tgt := 150) rfl (by decide) (fun h3 => ?_) (fun h3 => ?_)
        · refine g_iconst rfl ⟨by decide, by decide⟩ ?_
          refine g_goto (tgt := 155) rfl (by decide) ?_
          refine g_istore rfl rfl rfl ?_
          refine x_iinc (z := k + 1) rfl rfl (by omega) ⟨by omega, by omega⟩ rfl rfl ?_
          refine g_goto (tgt := 28) rfl (by decide) ?_
          first
            | exact ih (by omega) _ _ (0, s.2) _ (by omega) (by rw [v_S_s h0, ← hs, v_n_l (by omega)]) (by first | rfl | omega) (p_M_0 (fr := μ.1 73 (k - 1)) hM hnp1 hpos (by rw [show μ.1 73 k = μ.1 73 (k - 1) by rw [hu1, hu0, w_U_s h0, w_d_n (Or.inr (by omega))]; omega] at hp1; exact hp1)) ⟨fun c9 z1 z2 z3 => (hp1.2.2.2.2.2.2.1 c9 z1 z2 z3).trans (hF.1 c9 z1 z2 z3), hp1.2.2.2.2.2.2.2.trans hF.2⟩
            | exact ih (by omega) _ _ (if σ.1 2 k = 3 ∨ σ.1 2 k = 4 then 0 else 1, s.2.1, s.2.2.1, v_u s.2.2.2 (s.2.1 - 1) (σ.1 6 k - s.2.2.1 (s.2.1 - 1))) _ (by omega) (by rw [v_S_s h0, ← hs, v_n_t (by omega) (by omega)]) (by show _ = (if σ.1 2 k = 3 ∨ σ.1 2 k = 4 then (0 : Int) else 1); rw [if_neg (by omega)]) (p_M_t hM hnp1 hpos hfto (by rw [hu1, hu0, w_U_s h0, w_d_y hskn (by omega)]; omega) hlast hw71 hp1) ⟨fun c9 z1 z2 z3 => (hp1.2.2.2.2.2.2.1 c9 z1 z2 z3).trans (hF.1 c9 z1 z2 z3), hp1.2.2.2.2.2.2.2.trans hF.2⟩
        · refine g_iload rfl rfl ?_
          refine g_iconst rfl ⟨by decide, by decide⟩ ?_
          refine g_icmp_ne (tgt := 154) rfl (by decide) (fun h4 => ?_) (fun h4 => ?_)
          · refine g_iconst rfl ⟨by decide, by decide⟩ ?_
            refine g_istore rfl rfl rfl ?_
            refine x_iinc (z := k + 1) rfl rfl (by omega) ⟨by omega, by omega⟩ rfl rfl ?_
            refine g_goto (tgt := 28) rfl (by decide) ?_
            by_cases q5 : σ.1 2 k = 5 <;> first
              | exact ih (by omega) _ _ (0, s.2) _ (by omega) (by rw [v_S_s h0, ← hs, v_n_l (by omega)]) (by first | rfl | omega) (p_M_0 (fr := μ.1 73 (k - 1)) hM hnp1 hpos (by rw [show μ.1 73 k = μ.1 73 (k - 1) by rw [hu1, hu0, w_U_s h0, w_d_n (Or.inr (by omega))]; omega] at hp1; exact hp1)) ⟨fun c9 z1 z2 z3 => (hp1.2.2.2.2.2.2.1 c9 z1 z2 z3).trans (hF.1 c9 z1 z2 z3), hp1.2.2.2.2.2.2.2.trans hF.2⟩
              | exact ih (by omega) _ _ (if σ.1 2 k = 3 ∨ σ.1 2 k = 4 then 0 else 1, s.2.1, s.2.2.1, v_u s.2.2.2 (s.2.1 - 1) (σ.1 6 k - s.2.2.1 (s.2.1 - 1))) _ (by omega) (by rw [v_S_s h0, ← hs, v_n_t (by omega) (by omega)]) (by show _ = (if σ.1 2 k = 3 ∨ σ.1 2 k = 4 then (0 : Int) else 1); rw [if_pos (by omega)]) (p_M_t hM hnp1 hpos hfto (by rw [hu1, hu0, w_U_s h0, w_d_y hskn (by omega)]; omega) hlast hw71 hp1) ⟨fun c9 z1 z2 z3 => (hp1.2.2.2.2.2.2.1 c9 z1 z2 z3).trans (hF.1 c9 z1 z2 z3), hp1.2.2.2.2.2.2.2.trans hF.2⟩
          · refine g_iconst rfl ⟨by decide, by decide⟩ ?_
            refine g_goto (tgt := 155) rfl (by decide) ?_
            refine g_istore rfl rfl rfl ?_
            refine x_iinc (z := k + 1) rfl rfl (by omega) ⟨by omega, by omega⟩ rfl rfl ?_
            refine g_goto (tgt := 28) rfl (by decide) ?_
            first
              | exact ih (by omega) _ _ (0, s.2) _ (by omega) (by rw [v_S_s h0, ← hs, v_n_l (by omega)]) (by first | rfl | omega) (p_M_0 (fr := μ.1 73 (k - 1)) hM hnp1 hpos (by rw [show μ.1 73 k = μ.1 73 (k - 1) by rw [hu1, hu0, w_U_s h0, w_d_n (Or.inr (by omega))]; omega] at hp1; exact hp1)) ⟨fun c9 z1 z2 z3 => (hp1.2.2.2.2.2.2.1 c9 z1 z2 z3).trans (hF.1 c9 z1 z2 z3), hp1.2.2.2.2.2.2.2.trans hF.2⟩
              | exact ih (by omega) _ _ (if σ.1 2 k = 3 ∨ σ.1 2 k = 4 then 0 else 1, s.2.1, s.2.2.1, v_u s.2.2.2 (s.2.1 - 1) (σ.1 6 k - s.2.2.1 (s.2.1 - 1))) _ (by omega) (by rw [v_S_s h0, ← hs, v_n_t (by omega) (by omega)]) (by show _ = (if σ.1 2 k = 3 ∨ σ.1 2 k = 4 then (0 : Int) else 1); rw [if_neg (by omega)]) (p_M_t hM hnp1 hpos hfto (by rw [hu1, hu0, w_U_s h0, w_d_y hskn (by omega)]; omega) hlast hw71 hp1) ⟨fun c9 z1 z2 z3 => (hp1.2.2.2.2.2.2.1 c9 z1 z2 z3).trans (hF.1 c9 z1 z2 z3), hp1.2.2.2.2.2.2.2.trans hF.2⟩
      · refine g_iload rfl rfl ?_
        refine g_if_ne (tgt := 100) rfl (by decide) (fun _ => ?_) (fun hx => absurd hx (by omega))
        refine g_iload rfl rfl ?_
        refine g_if_eq (tgt := 157) rfl (by decide) (fun hx => absurd hx (by omega)) (fun _ => ?_)
        refine g_aload_n rfl rfl ?_
        refine g_aload_n rfl rfl ?_
        refine g_iload rfl rfl ?_
        refine g_if_ne (tgt := 116) rfl (by decide) (fun _ => ?_) (fun hx => absurd hx (by omega))
        refine g_aload_n rfl rfl ?_
        refine g_iload rfl rfl ?_
        refine g_iconst rfl ⟨by decide, by decide⟩ ?_
        refine x_isub (z := k - 1) rfl (by omega) ⟨by omega, by omega⟩ ?_
        refine g_iV (as := [tI (k - 1)]) mX10_upTo_ok rfl rfl rfl rfl rfl rfl (by decide) rfl rfl rfl ?_
        refine g_iload_n rfl rfl ?_
        refine g_if_lt (tgt := 11) rfl (by decide) (fun hx => absurd hx (by omega)) (fun _ => ?_)
        refine g_iload_n rfl rfl ?_
        refine g_sipush rfl ⟨by decide, by decide⟩ (by decide) ?_
        refine g_icmp_lt (tgt := 15) rfl (by decide) (fun _ => ?_) (fun hx => absurd hx (by omega))
        refine g_aload_n rfl rfl ?_
        refine x_getF (r := 73) hG rfl rfl (by decide) (Or.inr ⟨_, rfl⟩) rfl ?_
        refine g_iload_n rfl rfl ?_
        refine x_iald (v := (μ.1 73 (k - 1))) rfl rfl (by decide) (by omega) (by omega) rfl ?_
        refine x_ireturn rfl rfl ?_
        intro _
        refine g_aload_n rfl rfl ?_
        refine g_iload rfl rfl ?_
        refine g_iV (as := [tI k]) mX10_upTo_ok rfl rfl rfl rfl rfl rfl (by decide) rfl rfl rfl ?_
        refine g_iload_n rfl rfl ?_
        refine g_if_lt (tgt := 11) rfl (by decide) (fun hx => absurd hx (by omega)) (fun _ => ?_)
        refine g_iload_n rfl rfl ?_
        refine g_sipush rfl ⟨by decide, by decide⟩ (by decide) ?_
        refine g_icmp_lt (tgt := 15) rfl (by decide) (fun _ => ?_) (fun hx => absurd hx (by omega))
        refine g_aload_n rfl rfl ?_
        refine x_getF (r := 73) hG rfl rfl (by decide) (Or.inr ⟨_, rfl⟩) rfl ?_
        refine g_iload_n rfl rfl ?_
        refine x_iald (v := (μ.1 73 k)) rfl rfl (by decide) (by omega) (by omega) rfl ?_
        refine x_ireturn rfl rfl ?_
        intro _
        refine g_cV (as := [tR (some 70), tI (μ.1 73 (k - 1)), tI (μ.1 73 k)]) (s_take hG (np := s.2.1) (z0 := q_s s.2.2.2 s.2.1) (m0 := s.2.2.2 (s.2.1 - 1)) (fr := μ.1 73 (k - 1)) (to := μ.1 73 k) hfr0 hfto hto9 hz9 hnp9 hm9 hM.2.1 hM.1 (hM.2.2.1 _ (by omega) (by omega))) rfl rfl mX4_take_ok rfl rfl rfl (by decide) rfl rfl rfl ?_
        rintro _ w1 ⟨rfl, hp1⟩ _
        refine g_iload rfl rfl ?_
        refine g_if_eq (tgt := 150) rfl (by decide) (fun _ => ?_) (fun hx => absurd hx (by omega))
        refine g_iconst rfl ⟨by decide, by decide⟩ ?_
        refine g_goto (tgt := 155) rfl (by decide) ?_
        refine g_istore rfl rfl rfl ?_
        refine x_iinc (z := k + 1) rfl rfl (by omega) ⟨by omega, by omega⟩ rfl rfl ?_
        refine g_goto (tgt := 28) rfl (by decide) ?_
        first
          | exact ih (by omega) _ _ (0, s.2) _ (by omega) (by rw [v_S_s h0, ← hs, v_n_l (by omega)]) (by first | rfl | omega) (p_M_0 (fr := μ.1 73 (k - 1)) hM hnp1 hpos (by rw [show μ.1 73 k = μ.1 73 (k - 1) by rw [hu1, hu0, w_U_s h0, w_d_n (Or.inr (by omega))]; omega] at hp1; exact hp1)) ⟨fun c9 z1 z2 z3 => (hp1.2.2.2.2.2.2.1 c9 z1 z2 z3).trans (hF.1 c9 z1 z2 z3), hp1.2.2.2.2.2.2.2.trans hF.2⟩
          | exact ih (by omega) _ _ (if σ.1 2 k = 3 ∨ σ.1 2 k = 4 then 0 else 1, s.2.1, s.2.2.1, v_u s.2.2.2 (s.2.1 - 1) (σ.1 6 k - s.2.2.1 (s.2.1 - 1))) _ (by omega) (by rw [v_S_s h0, ← hs, v_n_t (by omega) (by omega)]) (by show _ = (if σ.1 2 k = 3 ∨ σ.1 2 k = 4 then (0 : Int) else 1); rw [if_neg (by omega)]) (p_M_t hM hnp1 hpos hfto (by rw [hu1, hu0, w_U_s h0, w_d_y hskn (by omega)]; omega) hlast hw71 hp1) ⟨fun c9 z1 z2 z3 => (hp1.2.2.2.2.2.2.1 c9 z1 z2 z3).trans (hF.1 c9 z1 z2 z3), hp1.2.2.2.2.2.2.2.trans hF.2⟩
    · refine g_iconst rfl ⟨by decide, by decide⟩ ?_
      refine g_istore rfl rfl rfl ?_
      refine g_goto (tgt := 157) rfl (by decide) ?_
      refine x_iinc (z := k + 1) rfl rfl (by omega) ⟨by omega, by omega⟩ rfl rfl ?_
      refine g_goto (tgt := 28) rfl (by decide) ?_
      exact ih (by omega) _ _ (0, s.2) _ (by omega) (by rw [v_S_s h0, ← hs, v_n_l (by omega)]) rfl hM hF
set_option maxHeartbeats 4000000 in
set_option maxRecDepth 100000 in
theorem s_sift1 {G : tp_G} {μ : tp_M} (hG : tp_Gf G = true) {f A B Y : Int → Int} {n : Int} {σ : tp_M} (hsz : μ.1 63 4 = σ.1 0 9) (hB : c_B σ μ) (hp : 0 ≤ σ.1 0 9 ∧ σ.1 0 9 ≤ 209) (hn : n ≤ 200) (HH : ∀ p, 0 ≤ p → p < σ.1 0 9 → s_H f A B Y (f 2) n σ p) (hQ : w_Q f A B n σ (σ.1 0 9) μ) (hpk : μ.2 70 5 = some 63) {g : Int → Int} (hL0 : tp_Lo μ.1 31 g) : tp_k G mX4_sift [tR (some 76), tR (some 70), tR (some 31), tI (-1)] μ (fun r μ' => r = none ∧ p_M A (v_S (v_2 g) σ (σ.1 0 9)) μ' ∧ p_F μ μ') := by
  refine tp_ok_of mX4_sift_ok rfl (Nat.le_refl _) ?_
  refine g_aload_n rfl rfl ?_
  refine g_iconst rfl ⟨by decide, by decide⟩ ?_
  refine g_puti rfl rfl (by decide) rfl rfl ?_
  refine g_aload_n rfl rfl ?_
  refine g_iconst rfl ⟨by decide, by decide⟩ ?_
  refine g_puti rfl rfl (by decide) rfl rfl ?_
  refine g_aload_n rfl rfl ?_
  refine x_getM (v := (some 63)) hG rfl rfl (by decide) (Or.inl ⟨_, rfl⟩) rfl hpk ?_
  refine g_astore rfl rfl rfl ?_
  refine g_aload rfl rfl ?_
  refine g_ifnonnull (tgt := 22) rfl (by decide) (fun _ _ => ?_) (fun hx => by cases hx)
  refine g_iconst rfl ⟨by decide, by decide⟩ ?_
  refine g_istore rfl rfl rfl ?_
  refine g_iconst rfl ⟨by decide, by decide⟩ ?_
  refine g_istore rfl rfl rfl ?_
  exact l_sift1 (μ0 := μ) hG hsz hB hp hn HH hQ hL0 0 (by omega) _ 0 (0, 0, fun _ => 0, fun _ => 0) _ (by omega) rfl rfl ⟨rfl, rfl, fun i i0 i1 => by have i1 : i < 0 := i1; omega, fun i i0 i1 => by have i1 : i < 0 := i1; omega⟩ ⟨fun c9 z1 z2 z3 => by rw [tp_pi_ne (by omega), tp_pi_ne (by omega)], rfl⟩
