theorem e_add_at {kd v x b t kn i : Int} {σ : tp_M} (h : i = σ.1 0 9) : (e_add kd v x b t kn σ).1 2 i = kd ∧ (e_add kd v x b t kn σ).1 3 i = v ∧ (e_add kd v x b t kn σ).1 4 i = x ∧ (e_add kd v x b t kn σ).1 5 i = t ∧ (e_add kd v x b t kn σ).1 6 i = kn ∧ (e_add kd v x b t kn σ).1 7 i = b := by
  subst h
  unfold e_add
  refine ⟨?_, ?_, ?_, ?_, ?_, ?_⟩
  · rw [tp_pi_ne (by omega), tp_pi_ne (by omega), tp_pi_ne (by omega), tp_pi_ne (by omega), tp_pi_ne (by omega), tp_pi_ne (by omega), tp_pi_ne (by omega), tp_pi_at]
  · rw [tp_pi_ne (by omega), tp_pi_ne (by omega), tp_pi_ne (by omega), tp_pi_ne (by omega), tp_pi_ne (by omega), tp_pi_ne (by omega), tp_pi_at]
  · rw [tp_pi_ne (by omega), tp_pi_ne (by omega), tp_pi_ne (by omega), tp_pi_ne (by omega), tp_pi_ne (by omega), tp_pi_at]
  · rw [tp_pi_ne (by omega), tp_pi_ne (by omega), tp_pi_ne (by omega), tp_pi_at]
  · rw [tp_pi_ne (by omega), tp_pi_ne (by omega), tp_pi_at]
  · rw [tp_pi_ne (by omega), tp_pi_ne (by omega), tp_pi_ne (by omega), tp_pi_ne (by omega), tp_pi_at]
theorem e_add_ne {kd v x b t kn i : Int} {σ : tp_M} (h : i ≠ σ.1 0 9) (c : Nat) (hc : 1 ≤ c) : (e_add kd v x b t kn σ).1 c i = σ.1 c i := by
  unfold e_add
  rw [tp_pi_no (by omega), tp_pi_no (by omega), tp_pi_no (by omega), tp_pi_no (by omega), tp_pi_no (by omega), tp_pi_no (by omega), tp_pi_no (by omega), tp_pi_no (by omega), tp_pi_no (by omega), tp_pi_no (by omega)]
theorem s_ruleN {G : tp_G} {μ : tp_M} (hG : tp_Gf G = true) {c : Nat} {f : Int → Int} {a n : Int} (hc : tp_SH c = .inl 0) (hcl : c < 37) (h : tp_Cd c f μ) (h0 : 0 ≤ a) (h1 : a < 8) (hn : n = 1 + a) : tp_k G mX0_rule [tR (some c), tI a] μ (fun r μ' => r = some (tI (f n)) ∧ μ' = μ) := by
  subst hn
  exact s_ruleX hG hc hcl h h0 h1
set_option maxHeartbeats 4000000 in
set_option maxRecDepth 100000 in
theorem s_put {G : tp_G} {μ : tp_M} (hG : tp_Gf G = true) {c : Nat} {f : Int → Int} {μ0 σ : tp_M} {bt dp m k : Int} (hc : tp_SH c = .inl 0) (hcl : c < 37) (hw : tp_Cw f) (hCd0 : tp_Cd c f μ0) (href : μ0.2 62 2 = some c) (hm : 0 ≤ m ∧ m ≤ 200) (hk : 0 ≤ k ∧ k ≤ 200) (hE : c_E μ0 bt dp k σ μ) (hJ : e_J f m k σ) {kd v x b kn : Int} : tp_k G mX1_put [tR (some 62), tI kd, tI v, tI x] μ (fun r μ' => r = some (tI (e_ok f σ)) ∧ c_E μ0 bt dp k (e_put f kd v x b k kn σ) μ') := by
  refine tp_ok_of mX1_put_ok rfl (Nat.le_refl _) ?_
  have hcn : c < 234 := by omega
  have hw0 := hw.1
  have hrl := hw.2.2
  obtain ⟨⟨a0, a1, a2, a4, a5, a6, a7, a8, a9, a10, al⟩, hB, hS, ⟨hbt, hdp, hnow⟩, hF, hR2⟩ := id hE
  obtain ⟨j1, j2, j3, j4, j5, j6, j7, j8, j9⟩ := id hJ
  have hCd : tp_Cd c f μ := tp_Cd_fr hcl (fun k9 z9 => hF k9 (by omega)) hCd0
  have hco : μ.2 62 2 = some c := by rw [hR2]; exact href
  refine g_aload_n rfl rfl ?_
  refine x_geti (v := (μ.1 62 7)) rfl rfl (by decide) (Or.inl rfl) rfl ?_
  refine g_aload_n rfl rfl ?_
  refine x_getM (v := (some c)) hG rfl rfl (by decide) (Or.inl ⟨_, rfl⟩) rfl hco ?_
  refine g_ifnonnull (tgt := 15) rfl (by decide) (fun _ _ => ?_) (fun hx => by cases hx)
  refine g_aload_n rfl rfl ?_
  refine x_getM (v := (some c)) hG rfl rfl (by decide) (Or.inl ⟨_, rfl⟩) rfl hco ?_
  refine g_bipush rfl ⟨by decide, by decide⟩ (by decide) ?_
  refine g_cV (as := [tI 6]) (s_ruleN (n := 7) hG hc hcl hCd (by decide) (by decide) (by decide)) rfl rfl mX0_rule_ok rfl hc rfl hcn rfl rfl rfl ?_
  rintro _ w9 ⟨rfl, hw9⟩ _
  have hw9 := hw9.symm
  subst hw9
  refine g_icmp_lt (tgt := 53) rfl (by decide) (fun h1 => ?_) (fun h1 => ?_)
  · refine g_aload_n rfl rfl ?_
    refine x_getF (r := 63) hG rfl rfl (by decide) (Or.inl ⟨_, rfl⟩) rfl ?_
    refine g_iload_n rfl rfl ?_
    refine g_iload_n rfl rfl ?_
    refine g_iload_n rfl rfl ?_
    refine g_aload_n rfl rfl ?_
    refine x_geti (v := (μ.1 62 6)) rfl rfl (by decide) (Or.inl rfl) rfl ?_
    refine g_iV (as := [tI kd, tI v, tI x, tI (μ.1 62 6)]) mX3_add_ok rfl rfl rfl rfl rfl rfl (by decide) rfl rfl rfl ?_
    refine g_aload_n rfl rfl ?_
    refine x_geti (v := (μ.1 63 4)) rfl rfl (by decide) (Or.inl rfl) rfl ?_
    refine g_if_lt (tgt := 68) rfl (by decide) (fun hx => absurd hx (by omega)) (fun _ => ?_)
    refine g_aload_n rfl rfl ?_
    refine x_geti (v := (μ.1 63 4)) rfl rfl (by decide) (Or.inl rfl) rfl ?_
    refine g_sipush rfl ⟨by decide, by decide⟩ (by decide) ?_
    refine g_icmp_ge (tgt := 68) rfl (by decide) (fun hx => absurd hx (by omega)) (fun _ => ?_)
    refine g_aload_n rfl rfl ?_
    refine x_getF (r := 64) hG rfl rfl (by decide) (Or.inr ⟨_, rfl⟩) rfl ?_
    refine g_aload_n rfl rfl ?_
    refine x_geti (v := (μ.1 63 4)) rfl rfl (by decide) (Or.inl rfl) rfl ?_
    refine g_iload_n rfl rfl ?_
    refine g_iast rfl rfl (by decide) (by omega) (by omega) ?_
    refine g_aload_n rfl rfl ?_
    refine x_getF (r := 65) hG rfl rfl (by decide) (Or.inr ⟨_, rfl⟩) rfl ?_
    refine g_aload_n rfl rfl ?_
    refine x_geti (v := (μ.1 63 4)) rfl rfl (by decide) (Or.inl rfl) rfl ?_
    refine g_iload_n rfl rfl ?_
    refine g_iast rfl rfl (by decide) (by omega) (by omega) ?_
    refine g_aload_n rfl rfl ?_
    refine x_getF (r := 66) hG rfl rfl (by decide) (Or.inr ⟨_, rfl⟩) rfl ?_
    refine g_aload_n rfl rfl ?_
    refine x_geti (v := (μ.1 63 4)) rfl rfl (by decide) (Or.inl rfl) rfl ?_
    refine g_iload_n rfl rfl ?_
    refine g_iast rfl rfl (by decide) (by omega) (by omega) ?_
    refine g_aload_n rfl rfl ?_
    refine x_getF (r := 67) hG rfl rfl (by decide) (Or.inr ⟨_, rfl⟩) rfl ?_
    refine g_aload_n rfl rfl ?_
    refine x_geti (v := (μ.1 63 4)) rfl rfl (by decide) (Or.inl rfl) rfl ?_
    refine g_iload rfl rfl ?_
    refine g_iast rfl rfl (by decide) (by omega) (by omega) ?_
    refine g_aload_n rfl rfl ?_
    refine g_dupr rfl ?_
    refine x_geti (v := (μ.1 63 4)) rfl rfl (by decide) (Or.inl rfl) rfl ?_
    refine g_iconst rfl ⟨by decide, by decide⟩ ?_
    refine x_iadd (z := (μ.1 63 4) + 1) rfl (by omega) ⟨by omega, by omega⟩ ?_
    refine g_puti rfl rfl (by decide) rfl rfl ?_
    refine x_return rfl rfl ?_
    intro _
    refine g_aload_n rfl rfl ?_
    refine g_dupr rfl ?_
    refine x_geti (v := (μ.1 62 7)) rfl rfl (by decide) (Or.inl rfl) rfl ?_
    refine g_iconst rfl ⟨by decide, by decide⟩ ?_
    refine x_iadd (z := (μ.1 62 7) + 1) rfl (by omega) ⟨by omega, by omega⟩ ?_
    refine g_puti rfl rfl (by decide) rfl rfl ?_
    refine g_aload_n rfl rfl ?_
    refine g_aload_n rfl rfl ?_
    refine x_geti (v := (μ.1 62 15)) rfl rfl (by decide) (Or.inl rfl) rfl ?_
    refine g_aload_n rfl rfl ?_
    refine x_geti (v := (μ.1 62 7) + 1) rfl rfl (by decide) (Or.inl rfl) rfl ?_
    refine g_max rfl rfl ?_
    refine g_puti rfl rfl (by decide) rfl rfl ?_
    refine g_iconst rfl ⟨by decide, by decide⟩ ?_
    refine x_zreturn rfl rfl (Or.inr rfl) ?_
    rw [e_ok_y (by omega), e_put_y (by omega)]
    exact ⟨rfl, ⟨⟨(by show (μ.1 62 7) + 1 = (σ.1 0 0) + 1; first | omega | simp only [a0, a1, a2, a4, a5, a6, a7, a8, a9, a10]), (by show (μ.1 62 8) = (σ.1 0 1); first | omega | simp only [a0, a1, a2, a4, a5, a6, a7, a8, a9, a10]), (by show (μ.1 62 9) = (σ.1 0 2); first | omega | simp only [a0, a1, a2, a4, a5, a6, a7, a8, a9, a10]), (by show (μ.1 62 11) = (σ.1 0 4); first | omega | simp only [a0, a1, a2, a4, a5, a6, a7, a8, a9, a10]), (by show (μ.1 62 12) = (σ.1 0 5); first | omega | simp only [a0, a1, a2, a4, a5, a6, a7, a8, a9, a10]), (by show (μ.1 62 13) = (σ.1 0 6); first | omega | simp only [a0, a1, a2, a4, a5, a6, a7, a8, a9, a10]), (by show (μ.1 62 14) = (σ.1 0 7); first | omega | simp only [a0, a1, a2, a4, a5, a6, a7, a8, a9, a10]), (by show (max (μ.1 62 15) (μ.1 62 7 + 1)) = (max (σ.1 0 8) (σ.1 0 0 + 1)); first | omega | simp only [a0, a1, a2, a4, a5, a6, a7, a8, a9, a10]), (by show (μ.1 63 4) + 1 = (σ.1 0 9) + 1; first | omega | simp only [a0, a1, a2, a4, a5, a6, a7, a8, a9, a10]), (by show (μ.1 68 1) = (σ.1 0 10); first | omega | simp only [a0, a1, a2, a4, a5, a6, a7, a8, a9, a10]), (fun z => by have z : (σ.1 0 5) = 1 := z; show (μ.1 62 10) = (σ.1 0 3); first | omega | exact al z)⟩, (fun i i0 i1 => by
        have i1 : i < σ.1 0 9 + 1 := i1
        by_cases q : i = σ.1 0 9
        · have qx : i = μ.1 63 4 := by omega
          subst qx
          exact ⟨((congrFun (tp_pi_ne (by omega)) _).trans ((congrFun (tp_pi_ne (by omega)) _).trans ((congrFun (tp_pi_ne (by omega)) _).trans ((congrFun (tp_pi_ne (by omega)) _).trans ((congrFun (tp_pi_ne (by omega)) _).trans ((congrFun (tp_pi_ne (by omega)) _).trans tp_pi_at)))))).trans ((e_add_at q).1.symm), ((congrFun (tp_pi_ne (by omega)) _).trans ((congrFun (tp_pi_ne (by omega)) _).trans ((congrFun (tp_pi_ne (by omega)) _).trans ((congrFun (tp_pi_ne (by omega)) _).trans ((congrFun (tp_pi_ne (by omega)) _).trans tp_pi_at))))).trans ((e_add_at q).2.1.symm), ((congrFun (tp_pi_ne (by omega)) _).trans ((congrFun (tp_pi_ne (by omega)) _).trans ((congrFun (tp_pi_ne (by omega)) _).trans ((congrFun (tp_pi_ne (by omega)) _).trans tp_pi_at)))).trans ((e_add_at q).2.2.1.symm), ((congrFun (tp_pi_ne (by omega)) _).trans ((congrFun (tp_pi_ne (by omega)) _).trans ((congrFun (tp_pi_ne (by omega)) _).trans tp_pi_at))).trans (hnow.trans (e_add_at q).2.2.2.1.symm)⟩
        · exact ⟨((by rw [tp_pi_no (by omega), tp_pi_no (by omega), tp_pi_no (by omega), tp_pi_no (by omega), tp_pi_no (by omega), tp_pi_no (by omega), tp_pi_no (by omega)]) : _ = μ.1 64 i).trans ((hB i i0 (by omega)).1.trans (e_add_ne q 2 (by omega)).symm), ((by rw [tp_pi_no (by omega), tp_pi_no (by omega), tp_pi_no (by omega), tp_pi_no (by omega), tp_pi_no (by omega), tp_pi_no (by omega), tp_pi_no (by omega)]) : _ = μ.1 65 i).trans ((hB i i0 (by omega)).2.1.trans (e_add_ne q 3 (by omega)).symm), ((by rw [tp_pi_no (by omega), tp_pi_no (by omega), tp_pi_no (by omega), tp_pi_no (by omega), tp_pi_no (by omega), tp_pi_no (by omega), tp_pi_no (by omega)]) : _ = μ.1 66 i).trans ((hB i i0 (by omega)).2.2.1.trans (e_add_ne q 4 (by omega)).symm), ((by rw [tp_pi_no (by omega), tp_pi_no (by omega), tp_pi_no (by omega), tp_pi_no (by omega), tp_pi_no (by omega), tp_pi_no (by omega), tp_pi_no (by omega)]) : _ = μ.1 67 i).trans ((hB i i0 (by omega)).2.2.2.trans (e_add_ne q 5 (by omega)).symm)⟩), (fun i i0 i1 => hS i i0 i1), ⟨hbt, hdp, hnow⟩, (fun c9 z9 => by rw [tp_pi_ne (by omega), tp_pi_ne (by omega), tp_pi_ne (by omega), tp_pi_ne (by omega), tp_pi_ne (by omega), tp_pi_ne (by omega), tp_pi_ne (by omega)]; exact hF c9 z9), hR2⟩⟩
  · refine g_aload_n rfl rfl ?_
    refine g_dupr rfl ?_
    refine x_geti (v := (μ.1 62 14)) rfl rfl (by decide) (Or.inl rfl) rfl ?_
    refine g_iconst rfl ⟨by decide, by decide⟩ ?_
    refine g_iadd rfl ?_
    refine g_puti rfl rfl (by decide) rfl rfl ?_
    refine g_aload_n rfl rfl ?_
    refine g_iV (as := []) mX1_clearMap_ok rfl rfl rfl rfl rfl rfl (by decide) rfl rfl rfl ?_
    refine g_aload_n rfl rfl ?_
    refine g_iconst rfl ⟨by decide, by decide⟩ ?_
    refine g_puti rfl rfl (by decide) rfl rfl ?_
    refine g_aload_n rfl rfl ?_
    refine g_iconst rfl ⟨by decide, by decide⟩ ?_
    refine g_puti rfl rfl (by decide) rfl rfl ?_
    refine x_return rfl rfl ?_
    intro _
    refine g_aload_n rfl rfl ?_
    refine g_iconst rfl ⟨by decide, by decide⟩ ?_
    refine g_putz rfl rfl (by decide) rfl rfl (Or.inr rfl) ?_
    refine g_aload_n rfl rfl ?_
    refine g_iconst rfl ⟨by decide, by decide⟩ ?_
    refine g_putz rfl rfl (by decide) rfl rfl (Or.inl rfl) ?_
    refine g_iconst rfl ⟨by decide, by decide⟩ ?_
    refine x_zreturn rfl rfl (Or.inl rfl) ?_
    rw [e_ok_n (by omega), e_put_n (by omega)]
    exact ⟨rfl, ⟨⟨(by show (μ.1 62 7) = (σ.1 0 0); first | omega | simp only [a0, a1, a2, a4, a5, a6, a7, a8, a9, a10]), (by show (0 : Int) = (0 : Int); first | omega | simp only [a0, a1, a2, a4, a5, a6, a7, a8, a9, a10]), (by show (0 : Int) = (0 : Int); first | omega | simp only [a0, a1, a2, a4, a5, a6, a7, a8, a9, a10]), (by show (μ.1 62 11) = (σ.1 0 4); first | omega | simp only [a0, a1, a2, a4, a5, a6, a7, a8, a9, a10]), (by show (0 : Int) = (0 : Int); first | omega | simp only [a0, a1, a2, a4, a5, a6, a7, a8, a9, a10]), (by show (1 : Int) = (1 : Int); first | omega | simp only [a0, a1, a2, a4, a5, a6, a7, a8, a9, a10]), (by show (tp_w (μ.1 62 14 + 1)) = (tp_w (σ.1 0 7 + 1)); first | omega | simp only [a0, a1, a2, a4, a5, a6, a7, a8, a9, a10]), (by show (μ.1 62 15) = (σ.1 0 8); first | omega | simp only [a0, a1, a2, a4, a5, a6, a7, a8, a9, a10]), (by show (μ.1 63 4) = (σ.1 0 9); first | omega | simp only [a0, a1, a2, a4, a5, a6, a7, a8, a9, a10]), (by show (μ.1 68 1) = (σ.1 0 10); first | omega | simp only [a0, a1, a2, a4, a5, a6, a7, a8, a9, a10]), (fun z => by have z : (0 : Int) = 1 := z; show (μ.1 62 10) = (σ.1 0 3); first | omega | exact al z)⟩, (fun i i0 i1 => hB i i0 i1), (fun i i0 i1 => hS i i0 i1), ⟨hbt, hdp, hnow⟩, (fun c9 z9 => by rw [tp_pi_ne (by omega), tp_pi_ne (by omega), tp_pi_ne (by omega), tp_pi_ne (by omega), tp_pi_ne (by omega)]; exact hF c9 z9), hR2⟩⟩
set_option maxHeartbeats 4000000 in
set_option maxRecDepth 100000 in
theorem s_putMap {G : tp_G} {μ : tp_M} (hG : tp_Gf G = true) {c : Nat} {f : Int → Int} {μ0 σ : tp_M} {bt dp m k : Int} (hc : tp_SH c = .inl 0) (hcl : c < 37) (hw : tp_Cw f) (hCd0 : tp_Cd c f μ0) (href : μ0.2 62 2 = some c) (hm : 0 ≤ m ∧ m ≤ 200) (hk : 0 ≤ k ∧ k ≤ 200) (hE : c_E μ0 bt dp k σ μ) (hJ : e_J f m k σ) : tp_k G mX1_putMap [tR (some 62)] μ (fun r μ' => r = some (tI (e_pmk f σ)) ∧ c_E μ0 bt dp k (e_pm f k σ) μ') := by
  refine tp_ok_of mX1_putMap_ok rfl (Nat.le_refl _) ?_
  have hcn : c < 234 := by omega
  have hw0 := hw.1
  have hrl := hw.2.2
  obtain ⟨⟨a0, a1, a2, a4, a5, a6, a7, a8, a9, a10, al⟩, hB, hS, ⟨hbt, hdp, hnow⟩, hF, hR2⟩ := id hE
  obtain ⟨j1, j2, j3, j4, j5, j6, j7, j8, j9⟩ := id hJ
  have hCd : tp_Cd c f μ := tp_Cd_fr hcl (fun k9 z9 => hF k9 (by omega)) hCd0
  have hco : μ.2 62 2 = some c := by rw [hR2]; exact href
  have hp9 : tp_k G mX1_put [tR (some 62), tI 1, tI (μ.1 62 8), tI (μ.1 62 9)] μ (fun r μ' => r = some (tI (e_ok f σ)) ∧ c_E μ0 bt dp k (e_put f 1 (σ.1 0 1) (σ.1 0 2) (4 + σ.1 0 2) k (σ.1 0 11) σ) μ') := by
    rw [a1, a2]
    exact s_put hG hc hcl hw hCd0 href hm hk hE hJ
  refine g_aload_n rfl rfl ?_
  refine x_geti (v := (μ.1 62 9)) rfl rfl (by decide) (Or.inl rfl) rfl ?_
  refine g_if_ne (tgt := 9) rfl (by decide) (fun h1 => ?_) (fun h1 => ?_)
  · refine g_aload_n rfl rfl ?_
    refine g_iconst rfl ⟨by decide, by decide⟩ ?_
    refine g_aload_n rfl rfl ?_
    refine x_geti (v := (μ.1 62 8)) rfl rfl (by decide) (Or.inl rfl) rfl ?_
    refine g_aload_n rfl rfl ?_
    refine x_geti (v := (μ.1 62 9)) rfl rfl (by decide) (Or.inl rfl) rfl ?_
    refine g_cV (as := [tI 1, tI (μ.1 62 8), tI (μ.1 62 9)]) (hp9) rfl rfl mX1_put_ok rfl rfl rfl (by decide) rfl rfl rfl ?_
    rintro _ w1 ⟨rfl, hEt⟩ _
    have hob := e_ok_b f σ
    generalize hτ : e_put f 1 (σ.1 0 1) (σ.1 0 2) (4 + σ.1 0 2) k (σ.1 0 11) σ = τ at hEt
    obtain ⟨⟨a0t, a1t, a2t, a4t, a5t, a6t, a7t, a8t, a9t, a10t, alt⟩, hBt, hSt, ⟨hbtt, hdpt, hnowt⟩, hFt, hR2t⟩ := id hEt
    refine g_istore_n rfl rfl rfl ?_
    refine g_aload_n rfl rfl ?_
    refine g_iV (as := []) mX1_clearMap_ok rfl rfl rfl rfl rfl rfl (by decide) rfl rfl rfl ?_
    refine g_aload_n rfl rfl ?_
    refine g_iconst rfl ⟨by decide, by decide⟩ ?_
    refine g_puti rfl rfl (by decide) rfl rfl ?_
    refine g_aload_n rfl rfl ?_
    refine g_iconst rfl ⟨by decide, by decide⟩ ?_
    refine g_puti rfl rfl (by decide) rfl rfl ?_
    refine x_return rfl rfl ?_
    intro _
    refine g_iload_n rfl rfl ?_
    refine x_zreturn rfl rfl (by omega) ?_
    rw [e_pmk_1 (by omega), e_pm_1 (by omega), hτ]
    exact ⟨rfl, ⟨⟨(by show (w1.1 62 7) = (τ.1 0 0); first | omega | simp only [a0t, a1t, a2t, a4t, a5t, a6t, a7t, a8t, a9t, a10t]), (by show (0 : Int) = (0 : Int); first | omega | simp only [a0t, a1t, a2t, a4t, a5t, a6t, a7t, a8t, a9t, a10t]), (by show (0 : Int) = (0 : Int); first | omega | simp only [a0t, a1t, a2t, a4t, a5t, a6t, a7t, a8t, a9t, a10t]), (by show (w1.1 62 11) = (τ.1 0 4); first | omega | simp only [a0t, a1t, a2t, a4t, a5t, a6t, a7t, a8t, a9t, a10t]), (by show (w1.1 62 12) = (τ.1 0 5); first | omega | simp only [a0t, a1t, a2t, a4t, a5t, a6t, a7t, a8t, a9t, a10t]), (by show (w1.1 62 13) = (τ.1 0 6); first | omega | simp only [a0t, a1t, a2t, a4t, a5t, a6t, a7t, a8t, a9t, a10t]), (by show (w1.1 62 14) = (τ.1 0 7); first | omega | simp only [a0t, a1t, a2t, a4t, a5t, a6t, a7t, a8t, a9t, a10t]), (by show (w1.1 62 15) = (τ.1 0 8); first | omega | simp only [a0t, a1t, a2t, a4t, a5t, a6t, a7t, a8t, a9t, a10t]), (by show (w1.1 63 4) = (τ.1 0 9); first | omega | simp only [a0t, a1t, a2t, a4t, a5t, a6t, a7t, a8t, a9t, a10t]), (by show (w1.1 68 1) = (τ.1 0 10); first | omega | simp only [a0t, a1t, a2t, a4t, a5t, a6t, a7t, a8t, a9t, a10t]), (fun z => by have z : (τ.1 0 5) = 1 := z; show (w1.1 62 10) = (τ.1 0 3); first | omega | exact alt z)⟩, (fun i i0 i1 => hBt i i0 i1), (fun i i0 i1 => hSt i i0 i1), ⟨hbtt, hdpt, hnowt⟩, (fun c9 z9 => by rw [tp_pi_ne (by omega), tp_pi_ne (by omega)]; exact hFt c9 z9), hR2t⟩⟩
  · refine g_iconst rfl ⟨by decide, by decide⟩ ?_
    refine x_zreturn rfl rfl (Or.inr rfl) ?_
    rw [e_pmk_0 (by omega), e_pm_0 (by omega)]
    exact ⟨rfl, hE⟩
