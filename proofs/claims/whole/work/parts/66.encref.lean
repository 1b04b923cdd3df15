theorem m_E_Mc {ck : Int} {f : Int → Int} {μ0 μ : tp_M} (h1 : ∀ c, c ≠ 201 → (c < 216 ∨ 222 < c) → μ.1 c = μ0.1 c) (h2 : ∀ j, (j < 46 ∨ 58 < j) → μ.1 201 j = μ0.1 201 j) (h : tp_Mc ck f μ0) : tp_Mc ck f μ := tp_Mc_fr ⟨h2 24 (by omega), h2 26 (by omega)⟩ (h1 207 (by omega) (by omega)) h
theorem m_E_T {n : Int} {A B Y : Int → Int} {E D U T : Int} {μ0 μ : tp_M} (h1 : ∀ c, c ≠ 201 → (c < 216 ∨ 222 < c) → μ.1 c = μ0.1 c) (h2 : ∀ j, (j < 46 ∨ 58 < j) → μ.1 201 j = μ0.1 201 j) (h : m_T n A B Y E D U T μ0) : m_T n A B Y E D U T μ := by
  unfold m_T
  rw [h2 27 (by omega), h2 28 (by omega), h2 30 (by omega), h2 31 (by omega), h2 32 (by omega), h1 212 (by omega) (by omega), h1 213 (by omega) (by omega), h1 214 (by omega) (by omega)]
  exact h
set_option maxHeartbeats 4000000 in
set_option maxRecDepth 100000 in
theorem s_putM {G : tp_G} {μ : tp_M} (hG : tp_Gf G = true) {ck : Int} {f : Int → Int} {μ0 σ : tp_M} {m k : Int} (hw : tp_Cw f) (hMc0 : tp_Mc ck f μ0) (hm : 0 ≤ m ∧ m ≤ 200) (hk : 0 ≤ k ∧ k ≤ 200) (hE : m_E μ0 σ μ) (hJ : e_J f m k σ) {kd v x b t kn : Int} : tp_k G mX12_put [tR (some 201), tI kd, tI v, tI x, tI b, tI t, tI kn] μ (fun r μ' => r = some (tI (e_ok f σ)) ∧ m_E μ0 (e_put f kd v x b t kn σ) μ') := by
  refine tp_ok_of mX12_put_ok rfl (Nat.le_refl _) ?_
  have hw0 := hw.1
  have hrl := hw.2.2
  obtain ⟨⟨a0, a1, a2, a4, a5, a6, a7, a8, a9, a10, a12, ak, al⟩, hB, hS, hF, hG2⟩ := m_E_lin hE
  obtain ⟨j1, j2, j3, j4, j5, j6, j7, j8, j9⟩ := e_J_lin hJ
  have hMc : tp_Mc ck f μ := m_E_Mc hF hG2 hMc0
  refine g_aload_n rfl rfl ?_
  refine g_iV (as := []) mX12_comesIn_ok rfl rfl rfl rfl rfl rfl (by decide) rfl rfl rfl ?_
  refine g_aload_n rfl rfl ?_
  refine x_geti (v := (μ.1 201 51)) rfl rfl (by decide) (Or.inl rfl) rfl ?_
  refine g_aload_n rfl rfl ?_
  refine g_bipush rfl ⟨by decide, by decide⟩ (by decide) ?_
  refine g_cV (as := [tI 7]) (s_of hG hMc (by omega) (by omega)) rfl rfl mX12_of_ok rfl rfl rfl (by decide) rfl rfl rfl ?_
  rintro _ w9 ⟨rfl, hw9⟩ _
  have hw9 := hw9.symm
  subst hw9
  refine g_icmp_ne (tgt := 45) rfl (by decide) (fun h1 => ?_) (fun h1 => ?_)
  · refine g_aload_n rfl rfl ?_
    refine g_dupr rfl ?_
    refine x_geti (v := (μ.1 201 51)) rfl rfl (by decide) (Or.inl rfl) rfl ?_
    refine g_iconst rfl ⟨by decide, by decide⟩ ?_
    refine x_iadd (z := (μ.1 201 51) + 1) rfl (by omega) ⟨by omega, by omega⟩ ?_
    refine g_puti rfl rfl (by decide) rfl rfl ?_
    refine g_aload_n rfl rfl ?_
    refine g_aload_n rfl rfl ?_
    refine x_geti (v := (μ.1 201 50)) rfl rfl (by decide) (Or.inl rfl) rfl ?_
    refine g_aload_n rfl rfl ?_
    refine x_geti (v := (μ.1 201 51) + 1) rfl rfl (by decide) (Or.inl rfl) rfl ?_
    refine g_cS (as := [tI (μ.1 201 50), tI ((μ.1 201 51) + 1)]) (s_greater hG) rfl rfl mX12_greater_ok rfl rfl rfl rfl ?_
    rintro _ w9 ⟨rfl, hw9⟩ _
    have hw9 := hw9.symm
    subst hw9
    refine g_puti rfl rfl (by decide) rfl rfl ?_
    refine g_iconst rfl ⟨by decide, by decide⟩ ?_
    refine x_zreturn rfl rfl (Or.inr rfl) ?_
    intro _
    refine g_if_ne (tgt := 9) rfl (by decide) (fun _ => ?_) (fun hx => absurd hx (by omega))
    refine g_aload_n rfl rfl ?_
    refine x_getF (r := 216) hG rfl rfl (by decide) (Or.inr ⟨_, rfl⟩) rfl ?_
    refine g_aload_n rfl rfl ?_
    refine x_geti (v := (μ.1 201 47)) rfl rfl (by decide) (Or.inl rfl) rfl ?_
    refine g_iload_n rfl rfl ?_
    refine g_iast rfl rfl (by decide) (by omega) (by omega) ?_
    refine g_aload_n rfl rfl ?_
    refine x_getF (r := 217) hG rfl rfl (by decide) (Or.inr ⟨_, rfl⟩) rfl ?_
    refine g_aload_n rfl rfl ?_
    refine x_geti (v := (μ.1 201 47)) rfl rfl (by decide) (Or.inl rfl) rfl ?_
    refine g_iload_n rfl rfl ?_
    refine g_iast rfl rfl (by decide) (by omega) (by omega) ?_
    refine g_aload_n rfl rfl ?_
    refine x_getF (r := 218) hG rfl rfl (by decide) (Or.inr ⟨_, rfl⟩) rfl ?_
    refine g_aload_n rfl rfl ?_
    refine x_geti (v := (μ.1 201 47)) rfl rfl (by decide) (Or.inl rfl) rfl ?_
    refine g_iload_n rfl rfl ?_
    refine g_iast rfl rfl (by decide) (by omega) (by omega) ?_
    refine g_aload_n rfl rfl ?_
    refine x_getF (r := 219) hG rfl rfl (by decide) (Or.inr ⟨_, rfl⟩) rfl ?_
    refine g_aload_n rfl rfl ?_
    refine x_geti (v := (μ.1 201 47)) rfl rfl (by decide) (Or.inl rfl) rfl ?_
    refine g_iload rfl rfl ?_
    refine g_iast rfl rfl (by decide) (by omega) (by omega) ?_
    refine g_aload_n rfl rfl ?_
    refine x_getF (r := 220) hG rfl rfl (by decide) (Or.inr ⟨_, rfl⟩) rfl ?_
    refine g_aload_n rfl rfl ?_
    refine x_geti (v := (μ.1 201 47)) rfl rfl (by decide) (Or.inl rfl) rfl ?_
    refine g_iload rfl rfl ?_
    refine g_iast rfl rfl (by decide) (by omega) (by omega) ?_
    refine g_aload_n rfl rfl ?_
    refine x_getF (r := 221) hG rfl rfl (by decide) (Or.inr ⟨_, rfl⟩) rfl ?_
    refine g_aload_n rfl rfl ?_
    refine x_geti (v := (μ.1 201 47)) rfl rfl (by decide) (Or.inl rfl) rfl ?_
    refine g_iload rfl rfl ?_
    refine g_iast rfl rfl (by decide) (by omega) (by omega) ?_
    refine g_aload_n rfl rfl ?_
    refine g_dupr rfl ?_
    refine x_geti (v := (μ.1 201 48)) rfl rfl (by decide) (Or.inl rfl) rfl ?_
    refine g_iload rfl rfl ?_
    refine g_iadd rfl ?_
    refine g_puti rfl rfl (by decide) rfl rfl ?_
    refine g_aload_n rfl rfl ?_
    refine g_dupr rfl ?_
    refine x_geti (v := (μ.1 201 47)) rfl rfl (by decide) (Or.inl rfl) rfl ?_
    refine g_iconst rfl ⟨by decide, by decide⟩ ?_
    refine x_iadd (z := (μ.1 201 47) + 1) rfl (by omega) ⟨by omega, by omega⟩ ?_
    refine g_puti rfl rfl (by decide) rfl rfl ?_
    refine g_iconst rfl ⟨by decide, by decide⟩ ?_
    refine x_zreturn rfl rfl (Or.inr rfl) ?_
    rw [e_ok_y (by omega), e_put_y (by omega)]
    exact ⟨rfl, ⟨⟨(by show (μ.1 201 51) + 1 = (σ.1 0 0) + 1; first | (rw [a0]; done) | (simp only [a0, a1, a2, a4, a5, a6, a7, a8, a9, a10, a12]; done) | omega), a1, a2, a4, a5, a6, a7, (by show (max (μ.1 201 50) (μ.1 201 51 + 1)) = (max (σ.1 0 8) (σ.1 0 0 + 1)); first | (rw [a8]; done) | (simp only [a0, a1, a2, a4, a5, a6, a7, a8, a9, a10, a12]; done) | omega), (by show (μ.1 201 47) + 1 = (σ.1 0 9) + 1; first | (rw [a9]; done) | (simp only [a0, a1, a2, a4, a5, a6, a7, a8, a9, a10, a12]; done) | omega), a10, (by show (tp_w (μ.1 201 48 + b)) = (tp_w (σ.1 0 12 + b)); first | (rw [a12]; done) | (simp only [a0, a1, a2, a4, a5, a6, a7, a8, a9, a10, a12]; done) | omega), ak, al⟩, (fun i i0 i1 => by
        have i1 : i < σ.1 0 9 + 1 := i1
        by_cases q : i = σ.1 0 9
        · have qx : i = μ.1 201 47 := by omega
          subst qx
          exact ⟨((congrFun (tp_pi_ne (by omega)) _).trans ((congrFun (tp_pi_ne (by omega)) _).trans ((congrFun (tp_pi_ne (by omega)) _).trans ((congrFun (tp_pi_ne (by omega)) _).trans ((congrFun (tp_pi_ne (by omega)) _).trans ((congrFun (tp_pi_ne (by omega)) _).trans ((congrFun (tp_pi_ne (by omega)) _).trans tp_pi_at))))))).trans ((e_add_at q).1.symm), ((congrFun (tp_pi_ne (by omega)) _).trans ((congrFun (tp_pi_ne (by omega)) _).trans ((congrFun (tp_pi_ne (by omega)) _).trans ((congrFun (tp_pi_ne (by omega)) _).trans ((congrFun (tp_pi_ne (by omega)) _).trans ((congrFun (tp_pi_ne (by omega)) _).trans tp_pi_at)))))).trans ((e_add_at q).2.1.symm), ((congrFun (tp_pi_ne (by omega)) _).trans ((congrFun (tp_pi_ne (by omega)) _).trans ((congrFun (tp_pi_ne (by omega)) _).trans ((congrFun (tp_pi_ne (by omega)) _).trans ((congrFun (tp_pi_ne (by omega)) _).trans tp_pi_at))))).trans ((e_add_at q).2.2.1.symm), ((congrFun (tp_pi_ne (by omega)) _).trans ((congrFun (tp_pi_ne (by omega)) _).trans ((congrFun (tp_pi_ne (by omega)) _).trans tp_pi_at))).trans ((e_add_at q).2.2.2.1.symm), ((congrFun (tp_pi_ne (by omega)) _).trans ((congrFun (tp_pi_ne (by omega)) _).trans tp_pi_at)).trans ((e_add_at q).2.2.2.2.1.symm), ((congrFun (tp_pi_ne (by omega)) _).trans ((congrFun (tp_pi_ne (by omega)) _).trans ((congrFun (tp_pi_ne (by omega)) _).trans ((congrFun (tp_pi_ne (by omega)) _).trans tp_pi_at)))).trans ((e_add_at q).2.2.2.2.2.symm)⟩
        · exact ⟨((by rw [tp_pi_no (by omega), tp_pi_no (by omega), tp_pi_no (by omega), tp_pi_no (by omega), tp_pi_no (by omega), tp_pi_no (by omega), tp_pi_no (by omega), tp_pi_no (by omega), tp_pi_no (by omega), tp_pi_no (by omega)]) : _ = μ.1 216 i).trans ((hB i i0 (by omega)).1.trans (e_add_ne q 2 (by omega)).symm), ((by rw [tp_pi_no (by omega), tp_pi_no (by omega), tp_pi_no (by omega), tp_pi_no (by omega), tp_pi_no (by omega), tp_pi_no (by omega), tp_pi_no (by omega), tp_pi_no (by omega), tp_pi_no (by omega), tp_pi_no (by omega)]) : _ = μ.1 217 i).trans ((hB i i0 (by omega)).2.1.trans (e_add_ne q 3 (by omega)).symm), ((by rw [tp_pi_no (by omega), tp_pi_no (by omega), tp_pi_no (by omega), tp_pi_no (by omega), tp_pi_no (by omega), tp_pi_no (by omega), tp_pi_no (by omega), tp_pi_no (by omega), tp_pi_no (by omega), tp_pi_no (by omega)]) : _ = μ.1 218 i).trans ((hB i i0 (by omega)).2.2.1.trans (e_add_ne q 4 (by omega)).symm), ((by rw [tp_pi_no (by omega), tp_pi_no (by omega), tp_pi_no (by omega), tp_pi_no (by omega), tp_pi_no (by omega), tp_pi_no (by omega), tp_pi_no (by omega), tp_pi_no (by omega), tp_pi_no (by omega), tp_pi_no (by omega)]) : _ = μ.1 220 i).trans ((hB i i0 (by omega)).2.2.2.1.trans (e_add_ne q 5 (by omega)).symm), ((by rw [tp_pi_no (by omega), tp_pi_no (by omega), tp_pi_no (by omega), tp_pi_no (by omega), tp_pi_no (by omega), tp_pi_no (by omega), tp_pi_no (by omega), tp_pi_no (by omega), tp_pi_no (by omega), tp_pi_no (by omega)]) : _ = μ.1 221 i).trans ((hB i i0 (by omega)).2.2.2.2.1.trans (e_add_ne q 6 (by omega)).symm), ((by rw [tp_pi_no (by omega), tp_pi_no (by omega), tp_pi_no (by omega), tp_pi_no (by omega), tp_pi_no (by omega), tp_pi_no (by omega), tp_pi_no (by omega), tp_pi_no (by omega), tp_pi_no (by omega), tp_pi_no (by omega)]) : _ = μ.1 219 i).trans ((hB i i0 (by omega)).2.2.2.2.2.trans (e_add_ne q 7 (by omega)).symm)⟩), (fun i i0 i1 => hS i i0 i1), (fun c9 z1 z2 => by rw [tp_pi_ne (by omega), tp_pi_ne (by omega), tp_pi_ne (by omega), tp_pi_ne (by omega), tp_pi_ne (by omega), tp_pi_ne (by omega), tp_pi_ne (by omega), tp_pi_ne (by omega), tp_pi_ne (by omega), tp_pi_ne (by omega)]; exact hF c9 z1 z2), (fun j9 z9 => by rw [tp_pi_no (by omega), tp_pi_no (by omega), tp_pi_no (by omega), tp_pi_no (by omega), tp_pi_no (by omega), tp_pi_no (by omega), tp_pi_no (by omega), tp_pi_no (by omega), tp_pi_no (by omega), tp_pi_no (by omega)]; exact hG2 j9 z9)⟩⟩
  · refine g_aload_n rfl rfl ?_
    refine g_dupr rfl ?_
    refine x_geti (v := (μ.1 201 49)) rfl rfl (by decide) (Or.inl rfl) rfl ?_
    refine g_iconst rfl ⟨by decide, by decide⟩ ?_
    refine g_iadd rfl ?_
    refine g_puti rfl rfl (by decide) rfl rfl ?_
    refine g_aload_n rfl rfl ?_
    refine g_iconst rfl ⟨by decide, by decide⟩ ?_
    refine g_puti rfl rfl (by decide) rfl rfl ?_
    refine g_aload_n rfl rfl ?_
    refine g_iconst rfl ⟨by decide, by decide⟩ ?_
    refine g_puti rfl rfl (by decide) rfl rfl ?_
    refine g_aload_n rfl rfl ?_
    refine g_iconst rfl ⟨by decide, by decide⟩ ?_
    refine g_putz rfl rfl (by decide) rfl rfl (Or.inr rfl) ?_
    refine g_aload_n rfl rfl ?_
    refine g_iconst rfl ⟨by decide, by decide⟩ ?_
    refine g_putz rfl rfl (by decide) rfl rfl (Or.inl rfl) ?_
    refine g_iconst rfl ⟨by decide, by decide⟩ ?_
    refine x_zreturn rfl rfl (Or.inl rfl) ?_
    intro _
    refine g_if_ne (tgt := 9) rfl (by decide) (fun hx => absurd hx (by omega)) (fun _ => ?_)
    refine g_iconst rfl ⟨by decide, by decide⟩ ?_
    refine x_zreturn rfl rfl (Or.inl rfl) ?_
    rw [e_ok_n (by omega), e_put_n (by omega)]
    exact ⟨rfl, ⟨⟨a0, rfl, rfl, a4, rfl, rfl, (by show (tp_w (μ.1 201 49 + 1)) = (tp_w (σ.1 0 7 + 1)); first | (rw [a7]; done) | (simp only [a0, a1, a2, a4, a5, a6, a7, a8, a9, a10, a12]; done) | omega), a8, a9, a10, a12, (fun z => absurd rfl z), (fun z => by have z : (0 : Int) = 1 := z; omega)⟩, (fun i i0 i1 => hB i i0 i1), (fun i i0 i1 => hS i i0 i1), (fun c9 z1 z2 => by rw [tp_pi_ne (by omega), tp_pi_ne (by omega), tp_pi_ne (by omega), tp_pi_ne (by omega), tp_pi_ne (by omega)]; exact hF c9 z1 z2), (fun j9 z9 => by rw [tp_pi_no (by omega), tp_pi_no (by omega), tp_pi_no (by omega), tp_pi_no (by omega), tp_pi_no (by omega)]; exact hG2 j9 z9)⟩⟩
set_option maxHeartbeats 4000000 in
set_option maxRecDepth 100000 in
theorem s_putMapM {G : tp_G} {μ : tp_M} (hG : tp_Gf G = true) {ck : Int} {f : Int → Int} {μ0 σ : tp_M} {m k : Int} (hw : tp_Cw f) (hMc0 : tp_Mc ck f μ0) (hm : 0 ≤ m ∧ m ≤ 200) (hk : 0 ≤ k ∧ k ≤ 200) (hE : m_E μ0 σ μ) (hJ : e_J f m k σ) {t : Int} : tp_k G mX12_putMap [tR (some 201), tI t] μ (fun r μ' => r = some (tI (e_pmk f σ)) ∧ m_E μ0 (e_pm f t σ) μ') := by
  refine tp_ok_of mX12_putMap_ok rfl (Nat.le_refl _) ?_
  have hw0 := hw.1
  have hrl := hw.2.2
  obtain ⟨⟨a0, a1, a2, a4, a5, a6, a7, a8, a9, a10, a12, ak, al⟩, hB, hS, hF, hG2⟩ := m_E_lin hE
  obtain ⟨j1, j2, j3, j4, j5, j6, j7, j8, j9⟩ := e_J_lin hJ
  have hMc : tp_Mc ck f μ := m_E_Mc hF hG2 hMc0
  refine g_aload_n rfl rfl ?_
  refine x_geti (v := (μ.1 201 53)) rfl rfl (by decide) (Or.inl rfl) rfl ?_
  refine g_if_ne (tgt := 9) rfl (by decide) (fun h1 => ?_) (fun h1 => ?_)
  · refine g_aload_n rfl rfl ?_
    refine g_iconst rfl ⟨by decide, by decide⟩ ?_
    refine g_aload_n rfl rfl ?_
    refine x_geti (v := (μ.1 201 52)) rfl rfl (by decide) (Or.inl rfl) rfl ?_
    refine g_aload_n rfl rfl ?_
    refine x_geti (v := (μ.1 201 53)) rfl rfl (by decide) (Or.inl rfl) rfl ?_
    refine g_iconst rfl ⟨by decide, by decide⟩ ?_
    refine g_aload_n rfl rfl ?_
    refine x_geti (v := (μ.1 201 53)) rfl rfl (by decide) (Or.inl rfl) rfl ?_
    refine x_iadd (z := (μ.1 201 53) + 4) rfl (by omega) ⟨by omega, by omega⟩ ?_
    refine g_iload_n rfl rfl ?_
    refine g_aload_n rfl rfl ?_
    refine x_geti (v := (μ.1 201 54)) rfl rfl (by decide) (Or.inl rfl) rfl ?_
    have hp9 : tp_k G mX12_put [tR (some 201), tI 1, tI (μ.1 201 52), tI (μ.1 201 53), tI (μ.1 201 53 + 4), tI t, tI (μ.1 201 54)] μ (fun r μ' => r = some (tI (e_ok f σ)) ∧ m_E μ0 (e_put f 1 (σ.1 0 1) (σ.1 0 2) (4 + σ.1 0 2) t (σ.1 0 11) σ) μ') := by
      rw [a1, a2, show μ.1 201 54 = σ.1 0 11 from ak (by omega), show σ.1 0 2 + 4 = 4 + σ.1 0 2 by omega]
      exact s_putM hG hw hMc0 hm hk hE hJ
    refine g_cV (as := [tI 1, tI (μ.1 201 52), tI (μ.1 201 53), tI ((μ.1 201 53) + 4), tI t, tI (μ.1 201 54)]) (hp9) rfl rfl mX12_put_ok rfl rfl rfl (by decide) rfl rfl rfl ?_
    rintro _ w1 ⟨rfl, hEt⟩ _
    have hob := e_ok_l f σ
    generalize hτ : e_put f 1 (σ.1 0 1) (σ.1 0 2) (4 + σ.1 0 2) t (σ.1 0 11) σ = τ at hEt
    obtain ⟨⟨a0t, a1t, a2t, a4t, a5t, a6t, a7t, a8t, a9t, a10t, a12t, akt, alt⟩, hBt, hSt, hFt, hG2t⟩ := m_E_lin hEt
    refine g_istore_n rfl rfl rfl ?_
    refine g_aload_n rfl rfl ?_
    refine g_iconst rfl ⟨by decide, by decide⟩ ?_
    refine g_puti rfl rfl (by decide) rfl rfl ?_
    refine g_aload_n rfl rfl ?_
    refine g_iconst rfl ⟨by decide, by decide⟩ ?_
    refine g_puti rfl rfl (by decide) rfl rfl ?_
    refine g_iload_n rfl rfl ?_
    refine x_zreturn rfl rfl (by omega) ?_
    rw [e_pmk_1 (by omega), e_pm_1 (by omega), hτ]
    exact ⟨rfl, ⟨⟨a0t, rfl, rfl, a4t, a5t, a6t, a7t, a8t, a9t, a10t, a12t, (fun z => absurd rfl z), alt⟩, (fun i i0 i1 => hBt i i0 i1), (fun i i0 i1 => hSt i i0 i1), (fun c9 z1 z2 => by rw [tp_pi_ne (by omega), tp_pi_ne (by omega)]; exact hFt c9 z1 z2), (fun j9 z9 => by rw [tp_pi_no (by omega), tp_pi_no (by omega)]; exact hG2t j9 z9)⟩⟩
  · refine g_iconst rfl ⟨by decide, by decide⟩ ?_
    refine x_zreturn rfl rfl (Or.inr rfl) ?_
    rw [e_pmk_0 (by omega), e_pm_0 (by omega)]
    exact ⟨rfl, hE⟩
theorem e_put_3 {f : Int → Int} {kd v x b t kn l : Int} {σ : tp_M} : (∀ i, 0 ≤ i → i < 13 → i ≠ 3 → (e_put f kd v x b t kn (tp_pi σ 0 3 l)).1 0 i = (e_put f kd v x b t kn σ).1 0 i) ∧ (∀ c : Nat, 1 ≤ c → (e_put f kd v x b t kn (tp_pi σ 0 3 l)).1 c = (e_put f kd v x b t kn σ).1 c) ∧ (e_put f kd v x b t kn (tp_pi σ 0 3 l)).1 0 3 = l := by
  by_cases q : σ.1 0 0 = f 7
  · rw [e_put_n q, e_put_n (σ := tp_pi σ 0 3 l) q]
    refine ⟨fun i i0 i1 i3 => ?_, fun c hc => ?_, rfl⟩
    · rcases (show i = 0 ∨ i = 1 ∨ i = 2 ∨ i = 4 ∨ i = 5 ∨ i = 6 ∨ i = 7 ∨ i = 8 ∨ i = 9 ∨ i = 10 ∨ i = 11 ∨ i = 12 by omega) with rfl | rfl | rfl | rfl | rfl | rfl | rfl | rfl | rfl | rfl | rfl | rfl <;> rfl
    · unfold e_drop
      rw [tp_pi_ne (by omega), tp_pi_ne (by omega), tp_pi_ne (by omega), tp_pi_ne (by omega), tp_pi_ne (by omega), tp_pi_ne (by omega), tp_pi_ne (by omega), tp_pi_ne (by omega), tp_pi_ne (by omega), tp_pi_ne (by omega), tp_pi_ne (by omega)]
  · rw [e_put_y q, e_put_y (σ := tp_pi σ 0 3 l) q]
    refine ⟨fun i i0 i1 i3 => ?_, fun c hc => ?_, rfl⟩
    · rcases (show i = 0 ∨ i = 1 ∨ i = 2 ∨ i = 4 ∨ i = 5 ∨ i = 6 ∨ i = 7 ∨ i = 8 ∨ i = 9 ∨ i = 10 ∨ i = 11 ∨ i = 12 by omega) with rfl | rfl | rfl | rfl | rfl | rfl | rfl | rfl | rfl | rfl | rfl | rfl <;> rfl
    · funext i
      by_cases z : i = σ.1 0 9
      · have z' : i = (tp_pi σ 0 3 l).1 0 9 := z
        rcases (show c = 1 ∨ c = 2 ∨ c = 3 ∨ c = 4 ∨ c = 5 ∨ c = 6 ∨ c = 7 ∨ 8 ≤ c by omega) with rfl | rfl | rfl | rfl | rfl | rfl | rfl | h8
        · rfl
        · rw [(e_add_at z').1, (e_add_at z).1]
        · rw [(e_add_at z').2.1, (e_add_at z).2.1]
        · rw [(e_add_at z').2.2.1, (e_add_at z).2.2.1]
        · rw [(e_add_at z').2.2.2.1, (e_add_at z).2.2.2.1]
        · rw [(e_add_at z').2.2.2.2.1, (e_add_at z).2.2.2.2.1]
        · rw [(e_add_at z').2.2.2.2.2, (e_add_at z).2.2.2.2.2]
        · unfold e_add
          rw [tp_pi_ne (by omega), tp_pi_ne (by omega), tp_pi_ne (by omega), tp_pi_ne (by omega), tp_pi_ne (by omega), tp_pi_ne (by omega), tp_pi_ne (by omega), tp_pi_ne (by omega), tp_pi_ne (by omega), tp_pi_ne (by omega), tp_pi_ne (by omega), tp_pi_ne (by omega), tp_pi_ne (by omega), tp_pi_ne (by omega), tp_pi_ne (by omega), tp_pi_ne (by omega), tp_pi_ne (by omega), tp_pi_ne (by omega), tp_pi_ne (by omega), tp_pi_ne (by omega), tp_pi_ne (by omega)]
      · have z' : i ≠ (tp_pi σ 0 3 l).1 0 9 := z
        rw [e_add_ne z' c hc, e_add_ne z c hc, tp_pi_ne (by omega)]
/-- the order of the last target and of what comes in does not matter -/
theorem m_E_3 {f : Int → Int} {μ0 μ σ : tp_M} {kd v x b t kn l : Int} (h : m_E μ0 (e_put f kd v x b t kn (tp_pi σ 0 3 l)) μ) : (e_ok f σ = 1 → m_E μ0 (tp_pi (e_put f kd v x b t kn σ) 0 3 l) μ) ∧ (e_ok f σ = 0 → m_E μ0 (e_put f kd v x b t kn σ) μ) := by
  obtain ⟨e1, e2, e3⟩ := e_put_3 (f := f) (kd := kd) (v := v) (x := x) (b := b) (t := t) (kn := kn) (l := l) (σ := σ)
  obtain ⟨⟨a0, a1, a2, a4, a5, a6, a7, a8, a9, a10, a12, ak, al⟩, hB, hS, hF, hG2⟩ := h
  rw [e1 0 (by omega) (by omega) (by omega)] at a0
  rw [e1 1 (by omega) (by omega) (by omega)] at a1
  rw [e1 2 (by omega) (by omega) (by omega)] at a2 ak
  rw [e1 4 (by omega) (by omega) (by omega)] at a4
  rw [e1 5 (by omega) (by omega) (by omega)] at a5 al
  rw [e1 6 (by omega) (by omega) (by omega)] at a6
  rw [e1 7 (by omega) (by omega) (by omega)] at a7
  rw [e1 8 (by omega) (by omega) (by omega)] at a8
  rw [e1 9 (by omega) (by omega) (by omega)] at a9
  rw [e1 10 (by omega) (by omega) (by omega)] at a10
  rw [e1 11 (by omega) (by omega) (by omega)] at ak
  rw [e1 12 (by omega) (by omega) (by omega)] at a12
  rw [e3] at al
  unfold m_B at hB
  unfold m_S at hS
  rw [e1 9 (by omega) (by omega) (by omega), e2 2 (by omega), e2 3 (by omega), e2 4 (by omega), e2 5 (by omega), e2 6 (by omega), e2 7 (by omega)] at hB
  rw [e1 10 (by omega) (by omega) (by omega), e2 1 (by omega)] at hS
  refine ⟨fun _ => ⟨⟨a0, a1, a2, a4, a5, a6, a7, a8, a9, a10, a12, ak, al⟩, hB, hS, hF, hG2⟩, fun z => ⟨⟨a0, a1, a2, a4, a5, a6, a7, a8, a9, a10, a12, ak, fun q => ?_⟩, hB, hS, hF, hG2⟩⟩
  have := (e_ok_off (kd := kd) (v := v) (x := x) (b := b) (t := t) (kn := kn) z).1
  omega
set_option maxHeartbeats 4000000 in
set_option maxRecDepth 100000 in
theorem s_gotoM {G : tp_G} {μ : tp_M} (hG : tp_Gf G = true) {ck : Int} {f : Int → Int} {μ0 σ : tp_M} {m k : Int} (hw : tp_Cw f) (hMc0 : tp_Mc ck f μ0) (hm : 0 ≤ m ∧ m ≤ 200) (hk : 0 ≤ k ∧ k ≤ 200) (hE : m_E μ0 σ μ) (hJ : e_J f m k σ) {n : Int} {A B Y H : Int → Int} {E D U T : Int} (hW : r_W f n A B Y H) (hT0 : m_T n A B Y E D U T μ0) (hkn : k < n) (hon : σ.1 0 5 = 1) (hb0 : 0 ≤ B k ∧ B k ≤ 40) : tp_k G mX12_putGoto [tR (some 201), tI k] μ (fun r μ' => r = some (tI (e_ppk f k σ)) ∧ m_E μ0 (e_gto f (B k) k σ) μ') := by
  refine tp_ok_of mX12_putGoto_ok rfl (Nat.le_refl _) ?_
  have hw0 := hw.1
  have hrl := hw.2.2
  obtain ⟨⟨a0, a1, a2, a4, a5, a6, a7, a8, a9, a10, a12, ak, al⟩, hB, hS, hF, hG2⟩ := m_E_lin hE
  obtain ⟨j1, j2, j3, j4, j5, j6, j7, j8, j9⟩ := e_J_lin hJ
  have hMc : tp_Mc ck f μ := m_E_Mc hF hG2 hMc0
  have hT : m_T n A B Y E D U T μ := m_E_T hF hG2 hT0
  have hn0 := hW.1
  have hak := (hW.2.2.2 k hk.1 hkn).1.1
  have hbk : q_H (B k = -1 ∨ (0 ≤ B k ∧ B k ≤ 40)) := (hW.2.2.2 k hk.1 hkn).1.2.1
  have hyk : q_H (Y k = 0 ∨ Y k = 1) := (hW.2.2.2 k hk.1 hkn).1.2.2.1
  have hyl : 0 ≤ Y k ∧ Y k ≤ 1 := by rcases hyk with q | q <;> omega
  have eA : μ.1 212 k = A k := hT.2.1 k hk.1 hkn
  have eB : μ.1 213 k = B k := hT.2.2.1 k hk.1 hkn
  have eY : μ.1 214 k = Y k := hT.2.2.2.1 k hk.1 hkn
  refine g_aload_n rfl rfl ?_
  refine g_iload_n rfl rfl ?_
  refine g_cV (as := [tI k]) (s_putMapM hG hw hMc0 hm hk hE hJ) rfl rfl mX12_putMap_ok rfl rfl rfl (by decide) rfl rfl rfl ?_
  rintro _ w1 ⟨rfl, hEt⟩ _
  have hpkt := e_pmk_l f σ
  have hJt : e_J f m k (e_pm f k σ) := J_pm hJ
  have hlt := e_pm_l (f := f) (t := k) (σ := σ)
  have hkqt : q_H (e_pmk f σ = 1 → (e_pm f k σ).1 0 5 = σ.1 0 5 ∧ (e_pm f k σ).1 0 6 = σ.1 0 6 ∧ (e_pm f k σ).1 0 4 = σ.1 0 4 ∧ (e_pm f k σ).1 0 3 = σ.1 0 3 ∧ (e_pm f k σ).1 0 10 = σ.1 0 10) := e_pm_kp (f := f) (t := k) (σ := σ)
  have hoft : q_H (e_pmk f σ = 0 → (e_pm f k σ).1 0 5 = 0) := fun z => e_pm_off z
  obtain ⟨τ, hnt⟩ : ∃ τ9, τ9 = e_pm f k σ := ⟨_, rfl⟩
  rw [← hnt] at hEt hJt hlt hkqt hoft
  obtain ⟨⟨a0t, a1t, a2t, a4t, a5t, a6t, a7t, a8t, a9t, a10t, a12t, akt, alt⟩, hBt, hSt, hFt, hG2t⟩ := m_E_lin hEt
  obtain ⟨j1t, j2t, j3t, j4t, j5t, j6t, j7t, j8t, j9t⟩ := e_J_lin hJt
  have eB1 : w1.1 213 k = B k := (m_E_T hFt hG2t hT0).2.2.1 k hk.1 hkn
  have hl5 : e_pmk f σ = 1 → w1.1 201 55 = τ.1 0 3 := fun z => alt (by have := (hkqt z).1; omega)
  have hl4 := j9 hon
  refine g_if_ne (tgt := 10) rfl (by decide) (fun h1 => ?_) (fun h1 => ?_)
  · refine g_aload_n rfl rfl ?_
    refine x_getF (r := 213) hG rfl rfl (by decide) (Or.inr ⟨_, rfl⟩) rfl ?_
    refine g_iload_n rfl rfl ?_
    refine x_iald (v := (w1.1 213 k)) rfl rfl (by decide) (by omega) (by omega) rfl ?_
    refine g_bipush rfl ⟨by decide, by decide⟩ (by decide) ?_
    refine x_idiv rfl (by omega) (by omega) ?_
    refine g_aload_n rfl rfl ?_
    refine x_geti (v := (w1.1 201 55)) rfl rfl (by decide) (Or.inl rfl) rfl ?_
    refine g_bipush rfl ⟨by decide, by decide⟩ (by decide) ?_
    refine x_idiv rfl (by omega) (by omega) ?_
    refine g_icmp_ne (tgt := 33) rfl (by decide) (fun h2 => ?_) (fun h2 => ?_)
    · refine g_iconst rfl ⟨by decide, by decide⟩ ?_
      refine g_istore_n rfl rfl rfl ?_
      refine g_aload_n rfl rfl ?_
      refine g_aload_n rfl rfl ?_
      refine x_getF (r := 213) hG rfl rfl (by decide) (Or.inr ⟨_, rfl⟩) rfl ?_
      refine g_iload_n rfl rfl ?_
      refine x_iald (v := (w1.1 213 k)) rfl rfl (by decide) (by omega) (by omega) rfl ?_
      refine g_puti rfl rfl (by decide) rfl rfl ?_
      refine g_aload_n rfl rfl ?_
      refine g_iconst rfl ⟨by decide, by decide⟩ ?_
      refine g_aload_n rfl rfl ?_
      refine x_getF (r := 213) hG rfl rfl (by decide) (Or.inr ⟨_, rfl⟩) rfl ?_
      refine g_iload_n rfl rfl ?_
      refine x_iald (v := (w1.1 213 k)) rfl rfl (by decide) (by omega) (by omega) rfl ?_
      refine g_iload_n rfl rfl ?_
      refine g_iconst rfl ⟨by decide, by decide⟩ ?_
      refine g_iconst rfl ⟨by decide, by decide⟩ ?_
      refine g_iload_n rfl rfl ?_
      refine x_imul (z := 6) rfl (by omega) ⟨by omega, by omega⟩ ?_
      refine x_iadd (z := 10) rfl (by omega) ⟨by omega, by omega⟩ ?_
      refine g_iload_n rfl rfl ?_
      refine g_iload_n rfl rfl ?_
      refine g_iconst rfl ⟨by decide, by decide⟩ ?_
      refine x_iadd (z := k + 1) rfl (by omega) ⟨by omega, by omega⟩ ?_
      have hEv : m_E μ0 (tp_pi τ 0 3 (B k)) (tp_pi w1 201 55 (w1.1 213 k)) := ⟨⟨a0t, a1t, a2t, a4t, a5t, a6t, a7t, a8t, a9t, a10t, a12t, akt, (fun _ => by show (w1.1 213 k) = (B k); first | rfl | omega)⟩, (fun i i0 i1 => hBt i i0 i1), (fun i i0 i1 => hSt i i0 i1), (fun c9 z1 z2 => by rw [tp_pi_ne (by omega)]; exact hFt c9 z1 z2), (fun j9 z9 => by rw [tp_pi_no (by omega)]; exact hG2t j9 z9)⟩
      have hJv : e_J f m k (tp_pi τ 0 3 (B k)) := ⟨hJt.1, hJt.2.1, hJt.2.2.1, hJt.2.2.2.1, hJt.2.2.2.2.1, hJt.2.2.2.2.2.1, hJt.2.2.2.2.2.2.1, hJt.2.2.2.2.2.2.2.1, fun _ => hb0⟩
      have hdg : e_dg (B k) σ = 2 := by unfold e_dg; first | rw [if_pos (by omega)] | rw [if_neg (by omega)]
      have hpg : tp_k G mX12_put [tR (some 201), tI 2, tI (w1.1 213 k), tI 2, tI 10, tI k, tI (k + 1)] (tp_pi w1 201 55 (w1.1 213 k)) (fun r μ' => r = some (tI (e_ok f τ)) ∧ m_E μ0 (e_put f 2 (B k) (e_dg (B k) σ) (4 + 3 * e_dg (B k) σ) k (k + 1) (tp_pi τ 0 3 (B k))) μ') := by
        rw [eB1] at hEv
        rw [hdg, eB1]
        exact s_putM hG hw hMc0 hm hk hEv hJv
      refine g_cV (as := [tI 2, tI (w1.1 213 k), tI 2, tI 10, tI k, tI (k + 1)]) (hpg) rfl rfl mX12_put_ok rfl rfl rfl (by decide) rfl rfl rfl ?_
      rintro _ w2 ⟨rfl, hEu⟩ _
      have hokt := e_ok_l f τ
      refine x_zreturn rfl rfl (by omega) ?_
      have h39 := m_E_3 hEu
      refine ⟨by rw [e_ppk_1 (by omega), ← hnt], ?_⟩
      unfold e_gto
      rcases (show e_ok f τ = 0 ∨ e_ok f τ = 1 by omega) with q | q
      · rw [if_neg (by rw [e_ppk_1 (by omega), ← hnt]; omega), e_pp_y (by omega), ← hnt]
        exact h39.2 q
      · rw [if_pos (by rw [e_ppk_1 (by omega), ← hnt]; omega), e_pp_y (by omega), ← hnt]
        exact h39.1 q
    · refine g_iconst rfl ⟨by decide, by decide⟩ ?_
      refine g_goto (tgt := 34) rfl (by decide) ?_
      refine g_istore_n rfl rfl rfl ?_
      refine g_aload_n rfl rfl ?_
      refine g_aload_n rfl rfl ?_
      refine x_getF (r := 213) hG rfl rfl (by decide) (Or.inr ⟨_, rfl⟩) rfl ?_
      refine g_iload_n rfl rfl ?_
      refine x_iald (v := (w1.1 213 k)) rfl rfl (by decide) (by omega) (by omega) rfl ?_
      refine g_puti rfl rfl (by decide) rfl rfl ?_
      refine g_aload_n rfl rfl ?_
      refine g_iconst rfl ⟨by decide, by decide⟩ ?_
      refine g_aload_n rfl rfl ?_
      refine x_getF (r := 213) hG rfl rfl (by decide) (Or.inr ⟨_, rfl⟩) rfl ?_
      refine g_iload_n rfl rfl ?_
      refine x_iald (v := (w1.1 213 k)) rfl rfl (by decide) (by omega) (by omega) rfl ?_
      refine g_iload_n rfl rfl ?_
      refine g_iconst rfl ⟨by decide, by decide⟩ ?_
      refine g_iconst rfl ⟨by decide, by decide⟩ ?_
      refine g_iload_n rfl rfl ?_
      refine x_imul (z := 3) rfl (by omega) ⟨by omega, by omega⟩ ?_
      refine x_iadd (z := 7) rfl (by omega) ⟨by omega, by omega⟩ ?_
      refine g_iload_n rfl rfl ?_
      refine g_iload_n rfl rfl ?_
      refine g_iconst rfl ⟨by decide, by decide⟩ ?_
      refine x_iadd (z := k + 1) rfl (by omega) ⟨by omega, by omega⟩ ?_
      have hEv : m_E μ0 (tp_pi τ 0 3 (B k)) (tp_pi w1 201 55 (w1.1 213 k)) := ⟨⟨a0t, a1t, a2t, a4t, a5t, a6t, a7t, a8t, a9t, a10t, a12t, akt, (fun _ => by show (w1.1 213 k) = (B k); first | rfl | omega)⟩, (fun i i0 i1 => hBt i i0 i1), (fun i i0 i1 => hSt i i0 i1), (fun c9 z1 z2 => by rw [tp_pi_ne (by omega)]; exact hFt c9 z1 z2), (fun j9 z9 => by rw [tp_pi_no (by omega)]; exact hG2t j9 z9)⟩
      have hJv : e_J f m k (tp_pi τ 0 3 (B k)) := ⟨hJt.1, hJt.2.1, hJt.2.2.1, hJt.2.2.2.1, hJt.2.2.2.2.1, hJt.2.2.2.2.2.1, hJt.2.2.2.2.2.2.1, hJt.2.2.2.2.2.2.2.1, fun _ => hb0⟩
      have hdg : e_dg (B k) σ = 1 := by unfold e_dg; first | rw [if_pos (by omega)] | rw [if_neg (by omega)]
      have hpg : tp_k G mX12_put [tR (some 201), tI 2, tI (w1.1 213 k), tI 1, tI 7, tI k, tI (k + 1)] (tp_pi w1 201 55 (w1.1 213 k)) (fun r μ' => r = some (tI (e_ok f τ)) ∧ m_E μ0 (e_put f 2 (B k) (e_dg (B k) σ) (4 + 3 * e_dg (B k) σ) k (k + 1) (tp_pi τ 0 3 (B k))) μ') := by
        rw [eB1] at hEv
        rw [hdg, eB1]
        exact s_putM hG hw hMc0 hm hk hEv hJv
      refine g_cV (as := [tI 2, tI (w1.1 213 k), tI 1, tI 7, tI k, tI (k + 1)]) (hpg) rfl rfl mX12_put_ok rfl rfl rfl (by decide) rfl rfl rfl ?_
      rintro _ w2 ⟨rfl, hEu⟩ _
      have hokt := e_ok_l f τ
      refine x_zreturn rfl rfl (by omega) ?_
      have h39 := m_E_3 hEu
      refine ⟨by rw [e_ppk_1 (by omega), ← hnt], ?_⟩
      unfold e_gto
      rcases (show e_ok f τ = 0 ∨ e_ok f τ = 1 by omega) with q | q
      · rw [if_neg (by rw [e_ppk_1 (by omega), ← hnt]; omega), e_pp_y (by omega), ← hnt]
        exact h39.2 q
      · rw [if_pos (by rw [e_ppk_1 (by omega), ← hnt]; omega), e_pp_y (by omega), ← hnt]
        exact h39.1 q
  · refine g_iconst rfl ⟨by decide, by decide⟩ ?_
    refine x_zreturn rfl rfl (Or.inl rfl) ?_
    refine ⟨by rw [e_ppk_0 (by omega)], ?_⟩
    unfold e_gto
    rw [if_neg (by rw [e_ppk_0 (by omega)]; omega), e_pp_n (by omega), ← hnt]
    exact hEt
