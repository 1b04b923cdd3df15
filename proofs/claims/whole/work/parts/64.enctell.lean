def q_H (p : Prop) : Prop := p
theorem e_J_lin {f : Int → Int} {m k : Int} {σ : tp_M} (h : e_J f m k σ) : (0 ≤ σ.1 0 0 ∧ σ.1 0 0 ≤ f 7) ∧ (0 ≤ σ.1 0 9 ∧ σ.1 0 9 ≤ σ.1 0 0 + m) ∧ (0 ≤ σ.1 0 2 ∧ σ.1 0 2 ≤ 9) ∧ (0 ≤ σ.1 0 10 ∧ σ.1 0 10 ≤ 4) ∧ (0 ≤ σ.1 0 5 ∧ σ.1 0 5 ≤ 1) ∧ (0 ≤ σ.1 0 6 ∧ σ.1 0 6 ≤ 1) ∧ q_H (σ.1 0 6 = 1 → σ.1 0 5 = 0) ∧ (0 ≤ σ.1 0 4 ∧ σ.1 0 4 ≤ k) ∧ q_H (σ.1 0 5 = 1 → 0 ≤ σ.1 0 3 ∧ σ.1 0 3 ≤ 40) := by
  obtain ⟨h1, h2, h3, h4, h5, h6, h7, h8, h9⟩ := h
  exact ⟨h1, h2, h3, h4, by omega, by omega, h7, h8, h9⟩
theorem c_E_lin {μ0 σ μ : tp_M} {bt dp k : Int} (h : c_E μ0 bt dp k σ μ) : (μ.1 62 7 = σ.1 0 0 ∧ μ.1 62 8 = σ.1 0 1 ∧ μ.1 62 9 = σ.1 0 2 ∧ μ.1 62 11 = σ.1 0 4 ∧ μ.1 62 12 = σ.1 0 5 ∧ μ.1 62 13 = σ.1 0 6 ∧ μ.1 62 14 = σ.1 0 7 ∧ μ.1 62 15 = σ.1 0 8 ∧ μ.1 63 4 = σ.1 0 9 ∧ μ.1 68 1 = σ.1 0 10 ∧ q_H (σ.1 0 5 = 1 → μ.1 62 10 = σ.1 0 3)) ∧ c_B σ μ ∧ c_S σ μ ∧ (μ.1 62 4 = bt ∧ μ.1 62 5 = dp ∧ μ.1 62 6 = k) ∧ (∀ c, (c < 62 ∨ 69 < c) → μ.1 c = μ0.1 c) ∧ μ.2 = μ0.2 := h
theorem m_E_lin {μ0 σ μ : tp_M} (h : m_E μ0 σ μ) : (μ.1 201 51 = σ.1 0 0 ∧ μ.1 201 52 = σ.1 0 1 ∧ μ.1 201 53 = σ.1 0 2 ∧ μ.1 201 56 = σ.1 0 4 ∧ μ.1 201 57 = σ.1 0 5 ∧ μ.1 201 58 = σ.1 0 6 ∧ μ.1 201 49 = σ.1 0 7 ∧ μ.1 201 50 = σ.1 0 8 ∧ μ.1 201 47 = σ.1 0 9 ∧ μ.1 201 46 = σ.1 0 10 ∧ μ.1 201 48 = σ.1 0 12 ∧ q_H (σ.1 0 2 ≠ 0 → μ.1 201 54 = σ.1 0 11) ∧ q_H (σ.1 0 5 = 1 → μ.1 201 55 = σ.1 0 3)) ∧ m_B σ μ ∧ m_S σ μ ∧ (∀ c, c ≠ 201 → (c < 216 ∨ 222 < c) → μ.1 c = μ0.1 c) ∧ (∀ j, (j < 46 ∨ 58 < j) → μ.1 201 j = μ0.1 201 j) := h
theorem e_pmk_l (f : Int → Int) (σ : tp_M) : 0 ≤ e_pmk f σ ∧ e_pmk f σ ≤ 1 := by have := e_pmk_b f σ; omega
theorem e_ok_l (f : Int → Int) (σ : tp_M) : 0 ≤ e_ok f σ ∧ e_ok f σ ≤ 1 := by have := e_ok_b f σ; omega
set_option maxHeartbeats 4000000 in
set_option maxRecDepth 100000 in
theorem s_turn {G : tp_G} {μ : tp_M} (hG : tp_Gf G = true) {c : Nat} {f : Int → Int} {μ0 σ : tp_M} {bt dp m k : Int} (hc : tp_SH c = .inl 0) (hcl : c < 37) (hw : tp_Cw f) (hCd0 : tp_Cd c f μ0) (href : μ0.2 62 2 = some c) (hm : 0 ≤ m ∧ m ≤ 200) (hk : 0 ≤ k ∧ k ≤ 200) (hE : c_E μ0 bt dp k σ μ) (hJ : e_J f m k σ) {a : Int} (ha : 0 ≤ a ∧ a < f 0) : tp_k G mX1_turn [tR (some 62), tI a] μ (fun r μ' => r = none ∧ c_E μ0 bt dp k (e_trn f a k σ) μ') := by
  refine tp_ok_of mX1_turn_ok rfl (Nat.le_refl _) ?_
  have hcn : c < 234 := by omega
  have hw0 := hw.1
  have hrl := hw.2.2
  obtain ⟨⟨a0, a1, a2, a4, a5, a6, a7, a8, a9, a10, al⟩, hB, hS, ⟨hbt, hdp, hnow⟩, hF, hR2⟩ := c_E_lin hE
  obtain ⟨j1, j2, j3, j4, j5, j6, j7, j8, j9⟩ := e_J_lin hJ
  have hCd : tp_Cd c f μ := tp_Cd_fr hcl (fun k9 z9 => hF k9 (by omega)) hCd0
  have hco : μ.2 62 2 = some c := by rw [hR2]; exact href
  refine g_aload_n rfl rfl ?_
  refine x_getM (v := (some c)) hG rfl rfl (by decide) (Or.inl ⟨_, rfl⟩) rfl hco ?_
  refine g_ifnull (tgt := 18) rfl (by decide) (fun hx => by cases hx) (fun _ _ => ?_)
  refine g_aload_n rfl rfl ?_
  refine x_getM (v := (some c)) hG rfl rfl (by decide) (Or.inl ⟨_, rfl⟩) rfl hco ?_
  refine g_iload_n rfl rfl ?_
  refine g_cV (as := [tI a]) (s_traces hG hc hcl hw hCd ha.1 ha.2) rfl rfl mX0_traces_ok rfl hc rfl hcn rfl rfl rfl ?_
  rintro _ w9 ⟨rfl, hw9⟩ _
  have hw9 := hw9.symm
  subst hw9
  have hqt := q_tr_b f a
  refine g_if_ne (tgt := 51) rfl (by decide) (fun h1 => ?_) (fun h1 => ?_)
  · refine g_aload_n rfl rfl ?_
    refine x_geti (v := (μ.1 62 12)) rfl rfl (by decide) (Or.inr (Or.inl rfl)) rfl ?_
    refine g_if_eq (tgt := 74) rfl (by decide) (fun h2 => ?_) (fun h2 => ?_)
    · refine g_aload_n rfl rfl ?_
      refine x_geti (v := (μ.1 62 12)) rfl rfl (by decide) (Or.inr (Or.inl rfl)) rfl ?_
      refine g_if_eq (tgt := 88) rfl (by decide) (fun _ => ?_) (fun hx => absurd hx (by omega))
      refine g_iconst rfl ⟨by decide, by decide⟩ ?_
      refine g_istore_n rfl rfl rfl ?_
      refine g_aload_n rfl rfl ?_
      refine g_cV (as := []) (s_putMap hG hc hcl hw hCd0 href hm hk hE hJ) rfl rfl mX1_putMap_ok rfl rfl rfl (by decide) rfl rfl rfl ?_
      rintro _ w1 ⟨rfl, hEt⟩ _
      have hpkt := e_pmk_l f σ
      have hJt : e_J f m k (e_pm f k σ) := J_pm hJ
      have hlt := e_pm_l (f := f) (t := k) (σ := σ)
      obtain ⟨τ, hnt⟩ : ∃ τ9, τ9 = e_pm f k σ := ⟨_, rfl⟩
      rw [← hnt] at hEt hJt hlt
      obtain ⟨⟨a0t, a1t, a2t, a4t, a5t, a6t, a7t, a8t, a9t, a10t, alt⟩, hBt, hSt, ⟨hbtt, hdpt, hnowt⟩, hFt, hR2t⟩ := c_E_lin hEt
      obtain ⟨j1t, j2t, j3t, j4t, j5t, j6t, j7t, j8t, j9t⟩ := e_J_lin hJt
      refine g_if_eq (tgt := 129) rfl (by decide) (fun h3 => ?_) (fun h3 => ?_)
      · refine x_return rfl rfl ?_
        have e9 : e_trn f a k σ = τ := by
          unfold e_trn
          first
            | (rw [if_pos (by omega), if_neg (fun z => by omega), if_neg (by rw [e_ppk_0 (by omega)]; omega), e_pp_n (by omega)]; exact hnt.symm)
            | (rw [if_neg (by omega), if_pos (by omega), if_neg (by rw [e_ppk_0 (by omega)]; omega), e_pp_n (by omega)]; exact hnt.symm)
        rw [e9]
        exact ⟨rfl, hEt⟩
      · refine g_aload_n rfl rfl ?_
        refine g_iconst rfl ⟨by decide, by decide⟩ ?_
        refine g_iload_n rfl rfl ?_
        refine g_iload_n rfl rfl ?_
        have hpu : tp_k G mX1_put [tR (some 62), tI (0 : Int), tI a, tI (0 : Int)] w1 (fun r μ' => r = some (tI (e_ok f τ)) ∧ c_E μ0 bt dp k (e_put f 0 a (e_cn σ) 16 k k τ) μ') := by
          rw [show a = a from rfl, show (0 : Int) = (e_cn σ) from (by unfold e_cn; first | (rw [if_pos (by omega)]; omega) | (rw [if_neg (by omega)]))]
          exact s_put hG hc hcl hw hCd0 href hm hk hEt hJt
        refine g_cV (as := [tI 0, tI a, tI 0]) (hpu) rfl rfl mX1_put_ok rfl rfl rfl (by decide) rfl rfl rfl ?_
        rintro _ w2 ⟨rfl, hEu⟩ _
        have hoku := e_ok_l f τ
        have hJu : e_J f m k (e_put f 0 a (e_cn σ) 16 k k τ) := J_put hJt
        obtain ⟨υ, hnu⟩ : ∃ τ9, τ9 = e_put f 0 a (e_cn σ) 16 k k τ := ⟨_, rfl⟩
        rw [← hnu] at hEu hJu
        obtain ⟨⟨a0u, a1u, a2u, a4u, a5u, a6u, a7u, a8u, a9u, a10u, alu⟩, hBu, hSu, ⟨hbtu, hdpu, hnowu⟩, hFu, hR2u⟩ := c_E_lin hEu
        refine g_if_eq (tgt := 129) rfl (by decide) (fun h4 => ?_) (fun h4 => ?_)
        · refine x_return rfl rfl ?_
          have e9 : e_trn f a k σ = υ := by
            unfold e_trn
            first
              | (rw [if_pos (by omega), if_neg (fun z => by omega), if_neg (by rw [e_ppk_1 (by omega), ← hnt]; omega), e_pp_y (by omega), ← hnt]; exact hnu.symm)
              | (rw [if_neg (by omega), if_pos (by omega), if_neg (by rw [e_ppk_1 (by omega), ← hnt]; omega), e_pp_y (by omega), ← hnt]; exact hnu.symm)
          rw [e9]
          exact ⟨rfl, hEu⟩
        · refine g_aload_n rfl rfl ?_
          refine g_iconst rfl ⟨by decide, by decide⟩ ?_
          refine g_putz rfl rfl (by decide) rfl rfl (Or.inr rfl) ?_
          refine g_aload_n rfl rfl ?_
          refine g_iconst rfl ⟨by decide, by decide⟩ ?_
          refine g_puti rfl rfl (by decide) rfl rfl ?_
          refine g_aload_n rfl rfl ?_
          refine g_iload_n rfl rfl ?_
          refine g_puti rfl rfl (by decide) rfl rfl ?_
          refine g_aload_n rfl rfl ?_
          refine x_getF (r := 68) hG rfl rfl (by decide) (Or.inl ⟨_, rfl⟩) rfl ?_
          refine g_iV (as := []) mX8_clear_ok rfl rfl rfl rfl rfl rfl (by decide) rfl rfl rfl ?_
          refine g_aload_n rfl rfl ?_
          refine g_iconst rfl ⟨by decide, by decide⟩ ?_
          refine g_puti rfl rfl (by decide) rfl rfl ?_
          refine x_return rfl rfl ?_
          intro _
          refine x_return rfl rfl ?_
          have e9 : e_trn f a k σ = e_on a υ := by
            unfold e_trn
            first
              | (rw [if_pos (by omega), if_neg (fun z => by omega), if_pos (by rw [e_ppk_1 (by omega), ← hnt]; omega), e_pp_y (by omega), ← hnt, ← hnu])
          rw [e9]
          exact ⟨rfl, ⟨⟨a0u, a1u, a2u, rfl, rfl, a6u, a7u, a8u, a9u, rfl, (fun _ => by show a = a; first | rfl | omega)⟩, (fun i i0 i1 => hBu i i0 i1), (fun i i0 i1 => by have i1 : i < 0 := i1; omega), ⟨hbtu, hdpu, hnowu⟩, (fun c9 z9 => by rw [tp_pi_ne (by omega), tp_pi_ne (by omega), tp_pi_ne (by omega), tp_pi_ne (by omega)]; exact hFu c9 z9), hR2u⟩⟩
    · refine g_aload_n rfl rfl ?_
      refine x_geti (v := (μ.1 62 11)) rfl rfl (by decide) (Or.inl rfl) rfl ?_
      refine g_aload_n rfl rfl ?_
      refine x_getM (v := (some c)) hG rfl rfl (by decide) (Or.inl ⟨_, rfl⟩) rfl hco ?_
      refine g_iconst rfl ⟨by decide, by decide⟩ ?_
      refine g_cV (as := [tI 2]) (s_ruleN (n := 3) hG hc hcl hCd (by decide) (by decide) (by decide)) rfl rfl mX0_rule_ok rfl hc rfl hcn rfl rfl rfl ?_
      rintro _ w9 ⟨rfl, hw9⟩ _
      have hw9 := hw9.symm
      subst hw9
      refine g_icmp_ge (tgt := 74) rfl (by decide) (fun h5 => ?_) (fun h5 => ?_)
      · refine g_aload_n rfl rfl ?_
        refine x_geti (v := (μ.1 62 12)) rfl rfl (by decide) (Or.inr (Or.inl rfl)) rfl ?_
        refine g_if_eq (tgt := 88) rfl (by decide) (fun hx => absurd hx (by omega)) (fun _ => ?_)
        refine g_aload_n rfl rfl ?_
        refine x_geti (v := (μ.1 62 11)) rfl rfl (by decide) (Or.inl rfl) rfl ?_
        refine g_goto (tgt := 89) rfl (by decide) ?_
        refine g_istore_n rfl rfl rfl ?_
        refine g_aload_n rfl rfl ?_
        refine g_cV (as := []) (s_putMap hG hc hcl hw hCd0 href hm hk hE hJ) rfl rfl mX1_putMap_ok rfl rfl rfl (by decide) rfl rfl rfl ?_
        rintro _ w1 ⟨rfl, hEt⟩ _
        have hpkt := e_pmk_l f σ
        have hJt : e_J f m k (e_pm f k σ) := J_pm hJ
        have hlt := e_pm_l (f := f) (t := k) (σ := σ)
        obtain ⟨τ, hnt⟩ : ∃ τ9, τ9 = e_pm f k σ := ⟨_, rfl⟩
        rw [← hnt] at hEt hJt hlt
        obtain ⟨⟨a0t, a1t, a2t, a4t, a5t, a6t, a7t, a8t, a9t, a10t, alt⟩, hBt, hSt, ⟨hbtt, hdpt, hnowt⟩, hFt, hR2t⟩ := c_E_lin hEt
        obtain ⟨j1t, j2t, j3t, j4t, j5t, j6t, j7t, j8t, j9t⟩ := e_J_lin hJt
        refine g_if_eq (tgt := 129) rfl (by decide) (fun h6 => ?_) (fun h6 => ?_)
        · refine x_return rfl rfl ?_
          have e9 : e_trn f a k σ = τ := by
            unfold e_trn
            first
              | (rw [if_pos (by omega), if_neg (fun z => by omega), if_neg (by rw [e_ppk_0 (by omega)]; omega), e_pp_n (by omega)]; exact hnt.symm)
              | (rw [if_neg (by omega), if_pos (by omega), if_neg (by rw [e_ppk_0 (by omega)]; omega), e_pp_n (by omega)]; exact hnt.symm)
          rw [e9]
          exact ⟨rfl, hEt⟩
        · refine g_aload_n rfl rfl ?_
          refine g_iconst rfl ⟨by decide, by decide⟩ ?_
          refine g_iload_n rfl rfl ?_
          refine g_iload_n rfl rfl ?_
          have hpu : tp_k G mX1_put [tR (some 62), tI (0 : Int), tI a, tI (μ.1 62 11)] w1 (fun r μ' => r = some (tI (e_ok f τ)) ∧ c_E μ0 bt dp k (e_put f 0 a (e_cn σ) 16 k k τ) μ') := by
            rw [show a = a from rfl, show (μ.1 62 11) = (e_cn σ) from (by unfold e_cn; first | (rw [if_pos (by omega)]; omega) | (rw [if_neg (by omega)]))]
            exact s_put hG hc hcl hw hCd0 href hm hk hEt hJt
          refine g_cV (as := [tI 0, tI a, tI (μ.1 62 11)]) (hpu) rfl rfl mX1_put_ok rfl rfl rfl (by decide) rfl rfl rfl ?_
          rintro _ w2 ⟨rfl, hEu⟩ _
          have hoku := e_ok_l f τ
          have hJu : e_J f m k (e_put f 0 a (e_cn σ) 16 k k τ) := J_put hJt
          obtain ⟨υ, hnu⟩ : ∃ τ9, τ9 = e_put f 0 a (e_cn σ) 16 k k τ := ⟨_, rfl⟩
          rw [← hnu] at hEu hJu
          obtain ⟨⟨a0u, a1u, a2u, a4u, a5u, a6u, a7u, a8u, a9u, a10u, alu⟩, hBu, hSu, ⟨hbtu, hdpu, hnowu⟩, hFu, hR2u⟩ := c_E_lin hEu
          refine g_if_eq (tgt := 129) rfl (by decide) (fun h7 => ?_) (fun h7 => ?_)
          · refine x_return rfl rfl ?_
            have e9 : e_trn f a k σ = υ := by
              unfold e_trn
              first
                | (rw [if_pos (by omega), if_neg (fun z => by omega), if_neg (by rw [e_ppk_1 (by omega), ← hnt]; omega), e_pp_y (by omega), ← hnt]; exact hnu.symm)
                | (rw [if_neg (by omega), if_pos (by omega), if_neg (by rw [e_ppk_1 (by omega), ← hnt]; omega), e_pp_y (by omega), ← hnt]; exact hnu.symm)
            rw [e9]
            exact ⟨rfl, hEu⟩
          · refine g_aload_n rfl rfl ?_
            refine g_iconst rfl ⟨by decide, by decide⟩ ?_
            refine g_putz rfl rfl (by decide) rfl rfl (Or.inr rfl) ?_
            refine g_aload_n rfl rfl ?_
            refine g_iconst rfl ⟨by decide, by decide⟩ ?_
            refine g_puti rfl rfl (by decide) rfl rfl ?_
            refine g_aload_n rfl rfl ?_
            refine g_iload_n rfl rfl ?_
            refine g_puti rfl rfl (by decide) rfl rfl ?_
            refine g_aload_n rfl rfl ?_
            refine x_getF (r := 68) hG rfl rfl (by decide) (Or.inl ⟨_, rfl⟩) rfl ?_
            refine g_iV (as := []) mX8_clear_ok rfl rfl rfl rfl rfl rfl (by decide) rfl rfl rfl ?_
            refine g_aload_n rfl rfl ?_
            refine g_iconst rfl ⟨by decide, by decide⟩ ?_
            refine g_puti rfl rfl (by decide) rfl rfl ?_
            refine x_return rfl rfl ?_
            intro _
            refine x_return rfl rfl ?_
            have e9 : e_trn f a k σ = e_on a υ := by
              unfold e_trn
              first
                | (rw [if_pos (by omega), if_neg (fun z => by omega), if_pos (by rw [e_ppk_1 (by omega), ← hnt]; omega), e_pp_y (by omega), ← hnt, ← hnu])
            rw [e9]
            exact ⟨rfl, ⟨⟨a0u, a1u, a2u, rfl, rfl, a6u, a7u, a8u, a9u, rfl, (fun _ => by show a = a; first | rfl | omega)⟩, (fun i i0 i1 => hBu i i0 i1), (fun i i0 i1 => by have i1 : i < 0 := i1; omega), ⟨hbtu, hdpu, hnowu⟩, (fun c9 z9 => by rw [tp_pi_ne (by omega), tp_pi_ne (by omega), tp_pi_ne (by omega), tp_pi_ne (by omega)]; exact hFu c9 z9), hR2u⟩⟩
      · refine x_return rfl rfl ?_
        have e9 : e_trn f a k σ = σ := by
          unfold e_trn
          first
            | (rw [if_neg (by omega), if_neg (by omega)])
            | (rw [if_pos (by omega), if_pos ⟨by omega, by omega⟩])
        rw [e9]
        exact ⟨rfl, hE⟩
  · refine g_aload_n rfl rfl ?_
    refine x_geti (v := (μ.1 62 12)) rfl rfl (by decide) (Or.inr (Or.inl rfl)) rfl ?_
    refine g_if_eq (tgt := 50) rfl (by decide) (fun h8 => ?_) (fun h8 => ?_)
    · refine x_return rfl rfl ?_
      have e9 : e_trn f a k σ = σ := by
        unfold e_trn
        first
          | (rw [if_neg (by omega), if_neg (by omega)])
          | (rw [if_pos (by omega), if_pos ⟨by omega, by omega⟩])
      rw [e9]
      exact ⟨rfl, hE⟩
    · refine g_aload_n rfl rfl ?_
      refine g_cV (as := []) (s_putMap hG hc hcl hw hCd0 href hm hk hE hJ) rfl rfl mX1_putMap_ok rfl rfl rfl (by decide) rfl rfl rfl ?_
      rintro _ w1 ⟨rfl, hEt⟩ _
      have hpkt := e_pmk_l f σ
      have hJt : e_J f m k (e_pm f k σ) := J_pm hJ
      have hlt := e_pm_l (f := f) (t := k) (σ := σ)
      obtain ⟨τ, hnt⟩ : ∃ τ9, τ9 = e_pm f k σ := ⟨_, rfl⟩
      rw [← hnt] at hEt hJt hlt
      obtain ⟨⟨a0t, a1t, a2t, a4t, a5t, a6t, a7t, a8t, a9t, a10t, alt⟩, hBt, hSt, ⟨hbtt, hdpt, hnowt⟩, hFt, hR2t⟩ := c_E_lin hEt
      obtain ⟨j1t, j2t, j3t, j4t, j5t, j6t, j7t, j8t, j9t⟩ := e_J_lin hJt
      refine g_if_eq (tgt := 50) rfl (by decide) (fun h9 => ?_) (fun h9 => ?_)
      · refine x_return rfl rfl ?_
        have e9 : e_trn f a k σ = τ := by
          unfold e_trn
          first
            | (rw [if_pos (by omega), if_neg (fun z => by omega), if_neg (by rw [e_ppk_0 (by omega)]; omega), e_pp_n (by omega)]; exact hnt.symm)
            | (rw [if_neg (by omega), if_pos (by omega), if_neg (by rw [e_ppk_0 (by omega)]; omega), e_pp_n (by omega)]; exact hnt.symm)
        rw [e9]
        exact ⟨rfl, hEt⟩
      · refine g_aload_n rfl rfl ?_
        refine g_iconst rfl ⟨by decide, by decide⟩ ?_
        refine g_aload_n rfl rfl ?_
        refine x_geti (v := (w1.1 62 11)) rfl rfl (by decide) (Or.inl rfl) rfl ?_
        refine g_iconst rfl ⟨by decide, by decide⟩ ?_
        have hpu : tp_k G mX1_put [tR (some 62), tI (3 : Int), tI (w1.1 62 11), tI (0 : Int)] w1 (fun r μ' => r = some (tI (e_ok f τ)) ∧ c_E μ0 bt dp k (e_put f 3 (σ.1 0 4) 0 10 k k τ) μ') := by
          rw [show (w1.1 62 11) = (σ.1 0 4) from (by omega), show (0 : Int) = 0 from rfl]
          exact s_put hG hc hcl hw hCd0 href hm hk hEt hJt
        refine g_cV (as := [tI 3, tI (w1.1 62 11), tI 0]) (hpu) rfl rfl mX1_put_ok rfl rfl rfl (by decide) rfl rfl rfl ?_
        rintro _ w2 ⟨rfl, hEu⟩ _
        have hoku := e_ok_l f τ
        have hJu : e_J f m k (e_put f 3 (σ.1 0 4) 0 10 k k τ) := J_put hJt
        obtain ⟨υ, hnu⟩ : ∃ τ9, τ9 = e_put f 3 (σ.1 0 4) 0 10 k k τ := ⟨_, rfl⟩
        rw [← hnu] at hEu hJu
        obtain ⟨⟨a0u, a1u, a2u, a4u, a5u, a6u, a7u, a8u, a9u, a10u, alu⟩, hBu, hSu, ⟨hbtu, hdpu, hnowu⟩, hFu, hR2u⟩ := c_E_lin hEu
        refine g_if_eq (tgt := 50) rfl (by decide) (fun h10 => ?_) (fun h10 => ?_)
        · refine x_return rfl rfl ?_
          have e9 : e_trn f a k σ = υ := by
            unfold e_trn
            first
              | (rw [if_pos (by omega), if_neg (fun z => by omega), if_neg (by rw [e_ppk_1 (by omega), ← hnt]; omega), e_pp_y (by omega), ← hnt]; exact hnu.symm)
              | (rw [if_neg (by omega), if_pos (by omega), if_neg (by rw [e_ppk_1 (by omega), ← hnt]; omega), e_pp_y (by omega), ← hnt]; exact hnu.symm)
          rw [e9]
          exact ⟨rfl, hEu⟩
        · refine g_aload_n rfl rfl ?_
          refine g_iconst rfl ⟨by decide, by decide⟩ ?_
          refine g_putz rfl rfl (by decide) rfl rfl (Or.inl rfl) ?_
          refine x_return rfl rfl ?_
          have e9 : e_trn f a k σ = tp_pi υ 0 5 0 := by
            unfold e_trn
            first
              | (rw [if_neg (by omega), if_pos (by omega), if_pos (by rw [e_ppk_1 (by omega), ← hnt]; omega), e_pp_y (by omega), ← hnt, ← hnu])
          rw [e9]
          exact ⟨rfl, ⟨⟨a0u, a1u, a2u, a4u, rfl, a6u, a7u, a8u, a9u, a10u, (fun z => by have z : (0 : Int) = 1 := z; omega)⟩, (fun i i0 i1 => hBu i i0 i1), (fun i i0 i1 => hSu i i0 i1), ⟨hbtu, hdpu, hnowu⟩, (fun c9 z9 => by rw [tp_pi_ne (by omega)]; exact hFu c9 z9), hR2u⟩⟩
set_option maxHeartbeats 4000000 in
set_option maxRecDepth 100000 in
theorem s_tell {G : tp_G} {μ : tp_M} (hG : tp_Gf G = true) {c : Nat} {f : Int → Int} {μ0 σ : tp_M} {bt dp m k : Int} (hc : tp_SH c = .inl 0) (hcl : c < 37) (hw : tp_Cw f) (hCd0 : tp_Cd c f μ0) (href : μ0.2 62 2 = some c) (hm : 0 ≤ m ∧ m ≤ 200) (hk : 0 ≤ k ∧ k ≤ 200) (hE : c_E μ0 bt dp k σ μ) (hJ : e_J f m k σ) {n : Int} {A B Y H : Int → Int} {E D U T : Int} (hW : r_W f n A B Y H) (hT0 : c_T 50 n A B Y E D U T μ0) (hrun : μ0.2 62 3 = some 50) (hkn : k < n) (hdp4 : 0 ≤ dp ∧ dp ≤ 4) (hmm : σ.1 0 2 < 9) (hon : σ.1 0 5 = 1) : tp_k G mX1_tellWay [tR (some 62), tI (A k), tI (B k)] μ (fun r μ' => r = none ∧ c_E μ0 bt dp k (e_tel f (A k) (B k) (Y k) dp k σ) μ') := by
  have hcn : c < 234 := by omega
  have hw0 := hw.1
  have hrl := hw.2.2
  obtain ⟨⟨a0, a1, a2, a4, a5, a6, a7, a8, a9, a10, al⟩, hB, hS, ⟨hbt, hdp, hnow⟩, hF, hR2⟩ := c_E_lin hE
  obtain ⟨j1, j2, j3, j4, j5, j6, j7, j8, j9⟩ := e_J_lin hJ
  have hCd : tp_Cd c f μ := tp_Cd_fr hcl (fun k9 z9 => hF k9 (by omega)) hCd0
  have hco : μ.2 62 2 = some c := by rw [hR2]; exact href
  have hT : c_T 50 n A B Y E D U T μ := c_T_fr (fun k9 z1 z2 => hF k9 (by omega)) hT0
  have hru : μ.2 62 3 = some 50 := by rw [hR2]; exact hrun
  have hn0 := hW.1
  have hak := (hW.2.2.2 k hk.1 hkn).1.1
  have hbk : q_H (B k = -1 ∨ (0 ≤ B k ∧ B k ≤ 40)) := (hW.2.2.2 k hk.1 hkn).1.2.1
  have hyk : q_H (Y k = 0 ∨ Y k = 1) := (hW.2.2.2 k hk.1 hkn).1.2.2.1
  have hyl : 0 ≤ Y k ∧ Y k ≤ 1 := by rcases hyk with q | q <;> omega
  have hkk := (hw.2.1 (A k) hak.1 hak.2).1
  have hl9 := al hon
  have hl8 := j9 hon
  refine tp_ok_of mX1_tellWay_ok rfl (Nat.le_refl _) ?_
  rcases (show f (9 + A k) = 0 ∨ f (9 + A k) = 1 ∨ f (9 + A k) = 2 ∨ f (9 + A k) = 3 ∨ f (9 + A k) = 4 ∨ f (9 + A k) = 5 ∨ f (9 + A k) = 6 by omega) with hkd | hkd | hkd | hkd | hkd | hkd | hkd
  · by_cases hbn : B k = -1
    · refine g_aload_n rfl rfl ?_
      refine x_getM (v := (some c)) hG rfl rfl (by decide) (Or.inl ⟨_, rfl⟩) rfl hco ?_
      refine g_ifnonnull (tgt := 11) rfl (by decide) (fun _ _ => ?_) (fun hx => by cases hx)
      refine g_aload_n rfl rfl ?_
      refine x_getM (v := (some c)) hG rfl rfl (by decide) (Or.inl ⟨_, rfl⟩) rfl hco ?_
      refine g_iload_n rfl rfl ?_
      refine g_cV (as := [tI (A k)]) (s_kindX hG hc hcl hw hCd (by omega) (by omega)) rfl rfl mX0_kindAt_ok rfl hc rfl hcn rfl rfl rfl ?_
      rintro _ w9 ⟨rfl, hw9⟩ _
      have hw9 := hw9.symm
      subst hw9
      refine g_istore_n rfl rfl rfl ?_
      refine g_iload_n rfl rfl ?_
      refine g_iconst rfl ⟨by decide, by decide⟩ ?_
      refine g_icmp_ne (tgt := 39) rfl (by decide) (fun _ => ?_) (fun hx => absurd hx (by omega))
      refine g_iload_n rfl rfl ?_
      refine g_iconst rfl ⟨by decide, by decide⟩ ?_
      refine g_icmp_ne (tgt := 45) rfl (by decide) (fun hx => absurd hx (by omega)) (fun _ => ?_)
      refine x_return rfl rfl ?_
      have e9 : e_tel f (A k) (B k) (Y k) dp k σ = σ := by
        unfold e_tel
        rw [if_neg (by omega), if_pos (by omega)]
      rw [e9]
      exact ⟨rfl, hE⟩
    · have hb0 : 0 ≤ B k ∧ B k ≤ 40 := by rcases hbk with q | q; exact absurd q hbn; exact q
      refine g_aload_n rfl rfl ?_
      refine x_getM (v := (some c)) hG rfl rfl (by decide) (Or.inl ⟨_, rfl⟩) rfl hco ?_
      refine g_ifnonnull (tgt := 11) rfl (by decide) (fun _ _ => ?_) (fun hx => by cases hx)
      refine g_aload_n rfl rfl ?_
      refine x_getM (v := (some c)) hG rfl rfl (by decide) (Or.inl ⟨_, rfl⟩) rfl hco ?_
      refine g_iload_n rfl rfl ?_
      refine g_cV (as := [tI (A k)]) (s_kindX hG hc hcl hw hCd (by omega) (by omega)) rfl rfl mX0_kindAt_ok rfl hc rfl hcn rfl rfl rfl ?_
      rintro _ w9 ⟨rfl, hw9⟩ _
      have hw9 := hw9.symm
      subst hw9
      refine g_istore_n rfl rfl rfl ?_
      refine g_iload_n rfl rfl ?_
      refine g_iconst rfl ⟨by decide, by decide⟩ ?_
      refine g_icmp_ne (tgt := 39) rfl (by decide) (fun _ => ?_) (fun hx => absurd hx (by omega))
      refine g_iload_n rfl rfl ?_
      refine g_iconst rfl ⟨by decide, by decide⟩ ?_
      refine g_icmp_ne (tgt := 45) rfl (by decide) (fun _ => ?_) (fun hx => absurd hx (by omega))
      refine g_iload_n rfl rfl ?_
      refine g_iconst rfl ⟨by decide, by decide⟩ ?_
      refine g_icmp_ne (tgt := 83) rfl (by decide) (fun _ => ?_) (fun hx => absurd hx (by omega))
      refine g_iload_n rfl rfl ?_
      refine g_iconst rfl ⟨by decide, by decide⟩ ?_
      refine g_icmp_ne (tgt := 107) rfl (by decide) (fun _ => ?_) (fun hx => absurd hx (by omega))
      refine g_iload_n rfl rfl ?_
      refine g_iconst rfl ⟨by decide, by decide⟩ ?_
      refine g_icmp_eq (tgt := 117) rfl (by decide) (fun hx => absurd hx (by omega)) (fun _ => ?_)
      refine g_iload_n rfl rfl ?_
      refine g_iconst rfl ⟨by decide, by decide⟩ ?_
      refine g_icmp_ne (tgt := 161) rfl (by decide) (fun _ => ?_) (fun hx => absurd hx (by omega))
      refine x_return rfl rfl ?_
      have e9 : e_tel f (A k) (B k) (Y k) dp k σ = σ := by
        unfold e_tel
        rw [if_neg (by omega), if_neg (by omega), if_neg (by omega), if_neg (by omega), if_neg (by omega)]
      rw [e9]
      exact ⟨rfl, hE⟩
  · by_cases hbn : B k = -1
    · refine g_aload_n rfl rfl ?_
      refine x_getM (v := (some c)) hG rfl rfl (by decide) (Or.inl ⟨_, rfl⟩) rfl hco ?_
      refine g_ifnonnull (tgt := 11) rfl (by decide) (fun _ _ => ?_) (fun hx => by cases hx)
      refine g_aload_n rfl rfl ?_
      refine x_getM (v := (some c)) hG rfl rfl (by decide) (Or.inl ⟨_, rfl⟩) rfl hco ?_
      refine g_iload_n rfl rfl ?_
      refine g_cV (as := [tI (A k)]) (s_kindX hG hc hcl hw hCd (by omega) (by omega)) rfl rfl mX0_kindAt_ok rfl hc rfl hcn rfl rfl rfl ?_
      rintro _ w9 ⟨rfl, hw9⟩ _
      have hw9 := hw9.symm
      subst hw9
      refine g_istore_n rfl rfl rfl ?_
      refine g_iload_n rfl rfl ?_
      refine g_iconst rfl ⟨by decide, by decide⟩ ?_
      refine g_icmp_ne (tgt := 39) rfl (by decide) (fun _ => ?_) (fun hx => absurd hx (by omega))
      refine g_iload_n rfl rfl ?_
      refine g_iconst rfl ⟨by decide, by decide⟩ ?_
      refine g_icmp_ne (tgt := 45) rfl (by decide) (fun hx => absurd hx (by omega)) (fun _ => ?_)
      refine x_return rfl rfl ?_
      have e9 : e_tel f (A k) (B k) (Y k) dp k σ = σ := by
        unfold e_tel
        rw [if_neg (by omega), if_pos (by omega)]
      rw [e9]
      exact ⟨rfl, hE⟩
    · have hb0 : 0 ≤ B k ∧ B k ≤ 40 := by rcases hbk with q | q; exact absurd q hbn; exact q
      refine g_aload_n rfl rfl ?_
      refine x_getM (v := (some c)) hG rfl rfl (by decide) (Or.inl ⟨_, rfl⟩) rfl hco ?_
      refine g_ifnonnull (tgt := 11) rfl (by decide) (fun _ _ => ?_) (fun hx => by cases hx)
      refine g_aload_n rfl rfl ?_
      refine x_getM (v := (some c)) hG rfl rfl (by decide) (Or.inl ⟨_, rfl⟩) rfl hco ?_
      refine g_iload_n rfl rfl ?_
      refine g_cV (as := [tI (A k)]) (s_kindX hG hc hcl hw hCd (by omega) (by omega)) rfl rfl mX0_kindAt_ok rfl hc rfl hcn rfl rfl rfl ?_
      rintro _ w9 ⟨rfl, hw9⟩ _
      have hw9 := hw9.symm
      subst hw9
      refine g_istore_n rfl rfl rfl ?_
      refine g_iload_n rfl rfl ?_
      refine g_iconst rfl ⟨by decide, by decide⟩ ?_
      refine g_icmp_ne (tgt := 39) rfl (by decide) (fun _ => ?_) (fun hx => absurd hx (by omega))
      refine g_iload_n rfl rfl ?_
      refine g_iconst rfl ⟨by decide, by decide⟩ ?_
      refine g_icmp_ne (tgt := 45) rfl (by decide) (fun _ => ?_) (fun hx => absurd hx (by omega))
      refine g_iload_n rfl rfl ?_
      refine g_iconst rfl ⟨by decide, by decide⟩ ?_
      refine g_icmp_ne (tgt := 83) rfl (by decide) (fun hx => absurd hx (by omega)) (fun _ => ?_)
      refine g_aload_n rfl rfl ?_
      refine g_aload_n rfl rfl ?_
      refine x_getM (v := (some 50)) hG rfl rfl (by decide) (Or.inl ⟨_, rfl⟩) rfl hru ?_
      refine g_ifnull (tgt := 76) rfl (by decide) (fun hx => by cases hx) (fun _ _ => ?_)
      refine g_aload_n rfl rfl ?_
      refine x_getM (v := (some 50)) hG rfl rfl (by decide) (Or.inl ⟨_, rfl⟩) rfl hru ?_
      refine g_aload_n rfl rfl ?_
      refine x_geti (v := (μ.1 62 6)) rfl rfl (by decide) (Or.inl rfl) rfl ?_
      refine g_cV (as := [tI (μ.1 62 6)]) ((by rw [hnow]; exact s_taken50 hG hT (by omega) hk.1 hkn hyk)) rfl rfl mX7_isTaken_ok rfl rfl rfl (by decide) rfl rfl rfl ?_
      rintro _ w9 ⟨rfl, hw9⟩ _
      have hw9 := hw9.symm
      subst hw9
      refine g_if_eq (tgt := 76) rfl (by decide) (fun h1 => ?_) (fun h1 => ?_)
      · refine g_iconst rfl ⟨by decide, by decide⟩ ?_
        refine g_iV (as := [tI 0]) mX1_mapBit_ok rfl rfl rfl rfl rfl rfl (by decide) rfl rfl rfl ?_
        refine g_aload_n rfl rfl ?_
        refine g_dupr rfl ?_
        refine x_geti (v := (μ.1 62 8)) rfl rfl (by decide) (Or.inl rfl) rfl ?_
        refine g_iload_n rfl rfl ?_
        refine g_aload_n rfl rfl ?_
        refine x_geti (v := (μ.1 62 9)) rfl rfl (by decide) (Or.inl rfl) rfl ?_
        refine g_ishl rfl ?_
        refine g_ior rfl ?_
        refine g_puti rfl rfl (by decide) rfl rfl ?_
        refine g_aload_n rfl rfl ?_
        refine g_dupr rfl ?_
        refine x_geti (v := (μ.1 62 9)) rfl rfl (by decide) (Or.inl rfl) rfl ?_
        refine g_iconst rfl ⟨by decide, by decide⟩ ?_
        refine x_iadd (z := (μ.1 62 9) + 1) rfl (by omega) ⟨by omega, by omega⟩ ?_
        refine g_puti rfl rfl (by decide) rfl rfl ?_
        refine x_return rfl rfl ?_
        intro _
        refine g_goto (tgt := 161) rfl (by decide) ?_
        refine x_return rfl rfl ?_
        have e9 : e_tel f (A k) (B k) (Y k) dp k σ = e_bit 0 k σ := by
          unfold e_tel
          rw [if_neg (by omega), if_neg (by omega), if_pos (by omega), show Y k = 0 by omega]
        rw [e9]
        exact ⟨rfl, ⟨⟨a0, (by show (tp_or (μ.1 62 8) (tp_ishl 0 (μ.1 62 9))) = (tp_or (σ.1 0 1) (tp_ishl 0 (σ.1 0 2))); first | (rw [a1]; done) | (simp only [a0, a1, a2, a4, a5, a6, a7, a8, a9, a10]; done) | omega), (by show (μ.1 62 9) + 1 = (σ.1 0 2) + 1; first | (rw [a2]; done) | (simp only [a0, a1, a2, a4, a5, a6, a7, a8, a9, a10]; done) | omega), a4, a5, a6, a7, a8, a9, a10, al⟩, (fun i i0 i1 => hB i i0 i1), (fun i i0 i1 => hS i i0 i1), ⟨hbt, hdp, hnow⟩, (fun c9 z9 => by rw [tp_pi_ne (by omega), tp_pi_ne (by omega)]; exact hF c9 z9), hR2⟩⟩
      · refine g_iconst rfl ⟨by decide, by decide⟩ ?_
        refine g_goto (tgt := 77) rfl (by decide) ?_
        refine g_iV (as := [tI 1]) mX1_mapBit_ok rfl rfl rfl rfl rfl rfl (by decide) rfl rfl rfl ?_
        refine g_aload_n rfl rfl ?_
        refine g_dupr rfl ?_
        refine x_geti (v := (μ.1 62 8)) rfl rfl (by decide) (Or.inl rfl) rfl ?_
        refine g_iload_n rfl rfl ?_
        refine g_aload_n rfl rfl ?_
        refine x_geti (v := (μ.1 62 9)) rfl rfl (by decide) (Or.inl rfl) rfl ?_
        refine g_ishl rfl ?_
        refine g_ior rfl ?_
        refine g_puti rfl rfl (by decide) rfl rfl ?_
        refine g_aload_n rfl rfl ?_
        refine g_dupr rfl ?_
        refine x_geti (v := (μ.1 62 9)) rfl rfl (by decide) (Or.inl rfl) rfl ?_
        refine g_iconst rfl ⟨by decide, by decide⟩ ?_
        refine x_iadd (z := (μ.1 62 9) + 1) rfl (by omega) ⟨by omega, by omega⟩ ?_
        refine g_puti rfl rfl (by decide) rfl rfl ?_
        refine x_return rfl rfl ?_
        intro _
        refine g_goto (tgt := 161) rfl (by decide) ?_
        refine x_return rfl rfl ?_
        have e9 : e_tel f (A k) (B k) (Y k) dp k σ = e_bit 1 k σ := by
          unfold e_tel
          rw [if_neg (by omega), if_neg (by omega), if_pos (by omega), show Y k = 1 by omega]
        rw [e9]
        exact ⟨rfl, ⟨⟨a0, (by show (tp_or (μ.1 62 8) (tp_ishl 1 (μ.1 62 9))) = (tp_or (σ.1 0 1) (tp_ishl 1 (σ.1 0 2))); first | (rw [a1]; done) | (simp only [a0, a1, a2, a4, a5, a6, a7, a8, a9, a10]; done) | omega), (by show (μ.1 62 9) + 1 = (σ.1 0 2) + 1; first | (rw [a2]; done) | (simp only [a0, a1, a2, a4, a5, a6, a7, a8, a9, a10]; done) | omega), a4, a5, a6, a7, a8, a9, a10, al⟩, (fun i i0 i1 => hB i i0 i1), (fun i i0 i1 => hS i i0 i1), ⟨hbt, hdp, hnow⟩, (fun c9 z9 => by rw [tp_pi_ne (by omega), tp_pi_ne (by omega)]; exact hF c9 z9), hR2⟩⟩
  · by_cases hbn : B k = -1
    · refine g_aload_n rfl rfl ?_
      refine x_getM (v := (some c)) hG rfl rfl (by decide) (Or.inl ⟨_, rfl⟩) rfl hco ?_
      refine g_ifnonnull (tgt := 11) rfl (by decide) (fun _ _ => ?_) (fun hx => by cases hx)
      refine g_aload_n rfl rfl ?_
      refine x_getM (v := (some c)) hG rfl rfl (by decide) (Or.inl ⟨_, rfl⟩) rfl hco ?_
      refine g_iload_n rfl rfl ?_
      refine g_cV (as := [tI (A k)]) (s_kindX hG hc hcl hw hCd (by omega) (by omega)) rfl rfl mX0_kindAt_ok rfl hc rfl hcn rfl rfl rfl ?_
      rintro _ w9 ⟨rfl, hw9⟩ _
      have hw9 := hw9.symm
      subst hw9
      refine g_istore_n rfl rfl rfl ?_
      refine g_iload_n rfl rfl ?_
      refine g_iconst rfl ⟨by decide, by decide⟩ ?_
      refine g_icmp_ne (tgt := 39) rfl (by decide) (fun _ => ?_) (fun hx => absurd hx (by omega))
      refine g_iload_n rfl rfl ?_
      refine g_iconst rfl ⟨by decide, by decide⟩ ?_
      refine g_icmp_ne (tgt := 45) rfl (by decide) (fun hx => absurd hx (by omega)) (fun _ => ?_)
      refine x_return rfl rfl ?_
      have e9 : e_tel f (A k) (B k) (Y k) dp k σ = σ := by
        unfold e_tel
        rw [if_neg (by omega), if_pos (by omega)]
      rw [e9]
      exact ⟨rfl, hE⟩
    · have hb0 : 0 ≤ B k ∧ B k ≤ 40 := by rcases hbk with q | q; exact absurd q hbn; exact q
      refine g_aload_n rfl rfl ?_
      refine x_getM (v := (some c)) hG rfl rfl (by decide) (Or.inl ⟨_, rfl⟩) rfl hco ?_
      refine g_ifnonnull (tgt := 11) rfl (by decide) (fun _ _ => ?_) (fun hx => by cases hx)
      refine g_aload_n rfl rfl ?_
      refine x_getM (v := (some c)) hG rfl rfl (by decide) (Or.inl ⟨_, rfl⟩) rfl hco ?_
      refine g_iload_n rfl rfl ?_
      refine g_cV (as := [tI (A k)]) (s_kindX hG hc hcl hw hCd (by omega) (by omega)) rfl rfl mX0_kindAt_ok rfl hc rfl hcn rfl rfl rfl ?_
      rintro _ w9 ⟨rfl, hw9⟩ _
      have hw9 := hw9.symm
      subst hw9
      refine g_istore_n rfl rfl rfl ?_
      refine g_iload_n rfl rfl ?_
      refine g_iconst rfl ⟨by decide, by decide⟩ ?_
      refine g_icmp_ne (tgt := 39) rfl (by decide) (fun _ => ?_) (fun hx => absurd hx (by omega))
      refine g_iload_n rfl rfl ?_
      refine g_iconst rfl ⟨by decide, by decide⟩ ?_
      refine g_icmp_ne (tgt := 45) rfl (by decide) (fun _ => ?_) (fun hx => absurd hx (by omega))
      refine g_iload_n rfl rfl ?_
      refine g_iconst rfl ⟨by decide, by decide⟩ ?_
      refine g_icmp_ne (tgt := 83) rfl (by decide) (fun _ => ?_) (fun hx => absurd hx (by omega))
      refine g_iload_n rfl rfl ?_
      refine g_iconst rfl ⟨by decide, by decide⟩ ?_
      refine g_icmp_ne (tgt := 107) rfl (by decide) (fun _ => ?_) (fun hx => absurd hx (by omega))
      refine g_iload_n rfl rfl ?_
      refine g_iconst rfl ⟨by decide, by decide⟩ ?_
      refine g_icmp_eq (tgt := 117) rfl (by decide) (fun hx => absurd hx (by omega)) (fun _ => ?_)
      refine g_iload_n rfl rfl ?_
      refine g_iconst rfl ⟨by decide, by decide⟩ ?_
      refine g_icmp_ne (tgt := 161) rfl (by decide) (fun _ => ?_) (fun hx => absurd hx (by omega))
      refine x_return rfl rfl ?_
      have e9 : e_tel f (A k) (B k) (Y k) dp k σ = σ := by
        unfold e_tel
        rw [if_neg (by omega), if_neg (by omega), if_neg (by omega), if_neg (by omega), if_neg (by omega)]
      rw [e9]
      exact ⟨rfl, hE⟩
  · by_cases hbn : B k = -1
    · refine g_aload_n rfl rfl ?_
      refine x_getM (v := (some c)) hG rfl rfl (by decide) (Or.inl ⟨_, rfl⟩) rfl hco ?_
      refine g_ifnonnull (tgt := 11) rfl (by decide) (fun _ _ => ?_) (fun hx => by cases hx)
      refine g_aload_n rfl rfl ?_
      refine x_getM (v := (some c)) hG rfl rfl (by decide) (Or.inl ⟨_, rfl⟩) rfl hco ?_
      refine g_iload_n rfl rfl ?_
      refine g_cV (as := [tI (A k)]) (s_kindX hG hc hcl hw hCd (by omega) (by omega)) rfl rfl mX0_kindAt_ok rfl hc rfl hcn rfl rfl rfl ?_
      rintro _ w9 ⟨rfl, hw9⟩ _
      have hw9 := hw9.symm
      subst hw9
      refine g_istore_n rfl rfl rfl ?_
      refine g_iload_n rfl rfl ?_
      refine g_iconst rfl ⟨by decide, by decide⟩ ?_
      refine g_icmp_ne (tgt := 39) rfl (by decide) (fun hx => absurd hx (by omega)) (fun _ => ?_)
      refine g_aload_n rfl rfl ?_
      refine x_getF (r := 68) hG rfl rfl (by decide) (Or.inl ⟨_, rfl⟩) rfl ?_
      refine g_iload_n rfl rfl ?_
      refine g_iconst rfl ⟨by decide, by decide⟩ ?_
      refine x_iadd (z := (A k) + 1) rfl (by omega) ⟨by omega, by omega⟩ ?_
      refine g_aload_n rfl rfl ?_
      refine x_geti (v := (μ.1 62 5)) rfl rfl (by decide) (Or.inl rfl) rfl ?_
      refine g_cV (as := [tI ((A k) + 1), tI (μ.1 62 5)]) (s_push (dp := dp) hG hE hJ (by omega)) rfl rfl mX8_push_ok rfl rfl rfl (by decide) rfl rfl rfl ?_
      rintro _ w1 ⟨rfl, hEs⟩ _
      rw [hdp] at hEs
      refine g_iload_n rfl rfl ?_
      refine g_iconst rfl ⟨by decide, by decide⟩ ?_
      refine g_icmp_ne (tgt := 45) rfl (by decide) (fun hx => absurd hx (by omega)) (fun _ => ?_)
      refine x_return rfl rfl ?_
      have e9 : e_tel f (A k) (B k) (Y k) dp k σ = e_psh (A k + 1) dp σ := by
        unfold e_tel
        rw [if_pos (by omega)]
      rw [e9]
      exact ⟨rfl, hEs⟩
    · have hb0 : 0 ≤ B k ∧ B k ≤ 40 := by rcases hbk with q | q; exact absurd q hbn; exact q
      refine g_aload_n rfl rfl ?_
      refine x_getM (v := (some c)) hG rfl rfl (by decide) (Or.inl ⟨_, rfl⟩) rfl hco ?_
      refine g_ifnonnull (tgt := 11) rfl (by decide) (fun _ _ => ?_) (fun hx => by cases hx)
      refine g_aload_n rfl rfl ?_
      refine x_getM (v := (some c)) hG rfl rfl (by decide) (Or.inl ⟨_, rfl⟩) rfl hco ?_
      refine g_iload_n rfl rfl ?_
      refine g_cV (as := [tI (A k)]) (s_kindX hG hc hcl hw hCd (by omega) (by omega)) rfl rfl mX0_kindAt_ok rfl hc rfl hcn rfl rfl rfl ?_
      rintro _ w9 ⟨rfl, hw9⟩ _
      have hw9 := hw9.symm
      subst hw9
      refine g_istore_n rfl rfl rfl ?_
      refine g_iload_n rfl rfl ?_
      refine g_iconst rfl ⟨by decide, by decide⟩ ?_
      refine g_icmp_ne (tgt := 39) rfl (by decide) (fun hx => absurd hx (by omega)) (fun _ => ?_)
      refine g_aload_n rfl rfl ?_
      refine x_getF (r := 68) hG rfl rfl (by decide) (Or.inl ⟨_, rfl⟩) rfl ?_
      refine g_iload_n rfl rfl ?_
      refine g_iconst rfl ⟨by decide, by decide⟩ ?_
      refine x_iadd (z := (A k) + 1) rfl (by omega) ⟨by omega, by omega⟩ ?_
      refine g_aload_n rfl rfl ?_
      refine x_geti (v := (μ.1 62 5)) rfl rfl (by decide) (Or.inl rfl) rfl ?_
      refine g_cV (as := [tI ((A k) + 1), tI (μ.1 62 5)]) (s_push (dp := dp) hG hE hJ (by omega)) rfl rfl mX8_push_ok rfl rfl rfl (by decide) rfl rfl rfl ?_
      rintro _ w1 ⟨rfl, hEs⟩ _
      rw [hdp] at hEs
      refine g_iload_n rfl rfl ?_
      refine g_iconst rfl ⟨by decide, by decide⟩ ?_
      refine g_icmp_ne (tgt := 45) rfl (by decide) (fun _ => ?_) (fun hx => absurd hx (by omega))
      refine g_iload_n rfl rfl ?_
      refine g_iconst rfl ⟨by decide, by decide⟩ ?_
      refine g_icmp_ne (tgt := 83) rfl (by decide) (fun _ => ?_) (fun hx => absurd hx (by omega))
      refine g_iload_n rfl rfl ?_
      refine g_iconst rfl ⟨by decide, by decide⟩ ?_
      refine g_icmp_ne (tgt := 107) rfl (by decide) (fun _ => ?_) (fun hx => absurd hx (by omega))
      refine g_iload_n rfl rfl ?_
      refine g_iconst rfl ⟨by decide, by decide⟩ ?_
      refine g_icmp_eq (tgt := 117) rfl (by decide) (fun hx => absurd hx (by omega)) (fun _ => ?_)
      refine g_iload_n rfl rfl ?_
      refine g_iconst rfl ⟨by decide, by decide⟩ ?_
      refine g_icmp_ne (tgt := 161) rfl (by decide) (fun _ => ?_) (fun hx => absurd hx (by omega))
      refine x_return rfl rfl ?_
      have e9 : e_tel f (A k) (B k) (Y k) dp k σ = e_psh (A k + 1) dp σ := by
        unfold e_tel
        rw [if_pos (by omega)]
      rw [e9]
      exact ⟨rfl, hEs⟩
  · by_cases hbn : B k = -1
    · refine g_aload_n rfl rfl ?_
      refine x_getM (v := (some c)) hG rfl rfl (by decide) (Or.inl ⟨_, rfl⟩) rfl hco ?_
      refine g_ifnonnull (tgt := 11) rfl (by decide) (fun _ _ => ?_) (fun hx => by cases hx)
      refine g_aload_n rfl rfl ?_
      refine x_getM (v := (some c)) hG rfl rfl (by decide) (Or.inl ⟨_, rfl⟩) rfl hco ?_
      refine g_iload_n rfl rfl ?_
      refine g_cV (as := [tI (A k)]) (s_kindX hG hc hcl hw hCd (by omega) (by omega)) rfl rfl mX0_kindAt_ok rfl hc rfl hcn rfl rfl rfl ?_
      rintro _ w9 ⟨rfl, hw9⟩ _
      have hw9 := hw9.symm
      subst hw9
      refine g_istore_n rfl rfl rfl ?_
      refine g_iload_n rfl rfl ?_
      refine g_iconst rfl ⟨by decide, by decide⟩ ?_
      refine g_icmp_ne (tgt := 39) rfl (by decide) (fun _ => ?_) (fun hx => absurd hx (by omega))
      refine g_iload_n rfl rfl ?_
      refine g_iconst rfl ⟨by decide, by decide⟩ ?_
      refine g_icmp_ne (tgt := 45) rfl (by decide) (fun hx => absurd hx (by omega)) (fun _ => ?_)
      refine x_return rfl rfl ?_
      have e9 : e_tel f (A k) (B k) (Y k) dp k σ = σ := by
        unfold e_tel
        rw [if_neg (by omega), if_pos (by omega)]
      rw [e9]
      exact ⟨rfl, hE⟩
    · have hb0 : 0 ≤ B k ∧ B k ≤ 40 := by rcases hbk with q | q; exact absurd q hbn; exact q
      refine g_aload_n rfl rfl ?_
      refine x_getM (v := (some c)) hG rfl rfl (by decide) (Or.inl ⟨_, rfl⟩) rfl hco ?_
      refine g_ifnonnull (tgt := 11) rfl (by decide) (fun _ _ => ?_) (fun hx => by cases hx)
      refine g_aload_n rfl rfl ?_
      refine x_getM (v := (some c)) hG rfl rfl (by decide) (Or.inl ⟨_, rfl⟩) rfl hco ?_
      refine g_iload_n rfl rfl ?_
      refine g_cV (as := [tI (A k)]) (s_kindX hG hc hcl hw hCd (by omega) (by omega)) rfl rfl mX0_kindAt_ok rfl hc rfl hcn rfl rfl rfl ?_
      rintro _ w9 ⟨rfl, hw9⟩ _
      have hw9 := hw9.symm
      subst hw9
      refine g_istore_n rfl rfl rfl ?_
      refine g_iload_n rfl rfl ?_
      refine g_iconst rfl ⟨by decide, by decide⟩ ?_
      refine g_icmp_ne (tgt := 39) rfl (by decide) (fun _ => ?_) (fun hx => absurd hx (by omega))
      refine g_iload_n rfl rfl ?_
      refine g_iconst rfl ⟨by decide, by decide⟩ ?_
      refine g_icmp_ne (tgt := 45) rfl (by decide) (fun _ => ?_) (fun hx => absurd hx (by omega))
      refine g_iload_n rfl rfl ?_
      refine g_iconst rfl ⟨by decide, by decide⟩ ?_
      refine g_icmp_ne (tgt := 83) rfl (by decide) (fun _ => ?_) (fun hx => absurd hx (by omega))
      refine g_iload_n rfl rfl ?_
      refine g_iconst rfl ⟨by decide, by decide⟩ ?_
      refine g_icmp_ne (tgt := 107) rfl (by decide) (fun hx => absurd hx (by omega)) (fun _ => ?_)
      refine g_aload_n rfl rfl ?_
      refine x_getF (r := 68) hG rfl rfl (by decide) (Or.inl ⟨_, rfl⟩) rfl ?_
      refine g_cV (as := []) (s_pop hG hE hJ) rfl rfl mX8_pop_ok rfl rfl rfl (by decide) rfl rfl rfl ?_
      rintro _ w1 ⟨rfl, hEp⟩ _
      have hJp : e_J f m k (e_pop σ) := J_pop hJ
      have hkp9 := e_pop_kp (σ := σ)
      obtain ⟨τ, hnp⟩ : ∃ τ9, τ9 = e_pop σ := ⟨_, rfl⟩
      rw [← hnp] at hEp hJp hkp9
      obtain ⟨⟨a0p, a1p, a2p, a4p, a5p, a6p, a7p, a8p, a9p, a10p, alp⟩, hBp, hSp, ⟨hbtp, hdpp, hnowp⟩, hFp, hR2p⟩ := c_E_lin hEp
      obtain ⟨j1p, j2p, j3p, j4p, j5p, j6p, j7p, j8p, j9p⟩ := e_J_lin hJp
      have hl7 := alp (by omega)
      refine g_iload_n rfl rfl ?_
      refine g_icmp_ne (tgt := 107) rfl (by decide) (fun h1 => ?_) (fun h1 => ?_)
      · refine g_iload_n rfl rfl ?_
        refine g_iconst rfl ⟨by decide, by decide⟩ ?_
        refine g_icmp_eq (tgt := 117) rfl (by decide) (fun _ => ?_) (fun hx => absurd hx (by omega))
        refine g_iload_n rfl rfl ?_
        refine g_bipush rfl ⟨by decide, by decide⟩ (by decide) ?_
        refine x_idiv rfl (by omega) (by omega) ?_
        refine g_aload_n rfl rfl ?_
        refine x_geti (v := (w1.1 62 10)) rfl rfl (by decide) (Or.inl rfl) rfl ?_
        refine g_bipush rfl ⟨by decide, by decide⟩ (by decide) ?_
        refine x_idiv rfl (by omega) (by omega) ?_
        refine g_icmp_ne (tgt := 135) rfl (by decide) (fun h2 => ?_) (fun h2 => ?_)
        · refine g_iconst rfl ⟨by decide, by decide⟩ ?_
          refine g_istore rfl rfl rfl ?_
          refine g_aload_n rfl rfl ?_
          refine g_cV (as := []) (s_putMap hG hc hcl hw hCd0 href hm hk hEp hJp) rfl rfl mX1_putMap_ok rfl rfl rfl (by decide) rfl rfl rfl ?_
          rintro _ wm ⟨rfl, hEm⟩ _
          have hpkm := e_pmk_l f τ
          have hJm : e_J f m k (e_pm f k τ) := J_pm hJp
          have hlm := e_pm_l (f := f) (t := k) (σ := τ)
          obtain ⟨ρ, hnm⟩ : ∃ τ9, τ9 = e_pm f k τ := ⟨_, rfl⟩
          rw [← hnm] at hEm hJm hlm
          obtain ⟨⟨a0m, a1m, a2m, a4m, a5m, a6m, a7m, a8m, a9m, a10m, alm⟩, hBm, hSm, ⟨hbtm, hdpm, hnowm⟩, hFm, hR2m⟩ := c_E_lin hEm
          obtain ⟨j1m, j2m, j3m, j4m, j5m, j6m, j7m, j8m, j9m⟩ := e_J_lin hJm
          refine g_if_eq (tgt := 161) rfl (by decide) (fun h3 => ?_) (fun h3 => ?_)
          · refine x_return rfl rfl ?_
            have e9 : e_tel f (A k) (B k) (Y k) dp k σ = ρ := by
              unfold e_tel
              rw [if_neg (by omega), if_neg (by omega), if_neg (by omega), if_pos (by omega), if_neg (by omega), ← hnp]
              unfold e_gto
              rw [if_neg (by rw [e_ppk_0 (by omega)]; omega), e_pp_n (by omega)]
              exact hnm.symm
            rw [e9]
            exact ⟨rfl, hEm⟩
          · refine g_aload_n rfl rfl ?_
            refine g_iconst rfl ⟨by decide, by decide⟩ ?_
            refine g_iload_n rfl rfl ?_
            refine g_iload rfl rfl ?_
            have hpn : tp_k G mX1_put [tR (some 62), tI (2 : Int), tI (B k), tI (2 : Int)] wm (fun r μ' => r = some (tI (e_ok f ρ)) ∧ c_E μ0 bt dp k (e_put f 2 (B k) (e_dg (B k) τ) (4 + 3 * e_dg (B k) τ) k (k + 1) ρ) μ') := by
              rw [show (B k) = (B k) from rfl, show (2 : Int) = (e_dg (B k) τ) from (by unfold e_dg; first | rw [if_pos (by omega)] | rw [if_neg (by omega)])]
              exact s_put hG hc hcl hw hCd0 href hm hk hEm hJm
            refine g_cV (as := [tI 2, tI (B k), tI 2]) (hpn) rfl rfl mX1_put_ok rfl rfl rfl (by decide) rfl rfl rfl ?_
            rintro _ wn ⟨rfl, hEn⟩ _
            have hokn := e_ok_l f ρ
            have hJn : e_J f m k (e_put f 2 (B k) (e_dg (B k) τ) (4 + 3 * e_dg (B k) τ) k (k + 1) ρ) := J_put hJm
            obtain ⟨υ, hnn⟩ : ∃ τ9, τ9 = e_put f 2 (B k) (e_dg (B k) τ) (4 + 3 * e_dg (B k) τ) k (k + 1) ρ := ⟨_, rfl⟩
            rw [← hnn] at hEn hJn
            obtain ⟨⟨a0n, a1n, a2n, a4n, a5n, a6n, a7n, a8n, a9n, a10n, aln⟩, hBn, hSn, ⟨hbtn, hdpn, hnown⟩, hFn, hR2n⟩ := c_E_lin hEn
            refine g_if_eq (tgt := 161) rfl (by decide) (fun h4 => ?_) (fun h4 => ?_)
            · refine x_return rfl rfl ?_
              have e9 : e_tel f (A k) (B k) (Y k) dp k σ = υ := by
                unfold e_tel
                rw [if_neg (by omega), if_neg (by omega), if_neg (by omega), if_pos (by omega), if_neg (by omega), ← hnp]
                unfold e_gto
                rw [if_neg (by rw [e_ppk_1 (by omega), ← hnm]; omega), e_pp_y (by omega), ← hnm]
                exact hnn.symm
              rw [e9]
              exact ⟨rfl, hEn⟩
            · refine g_aload_n rfl rfl ?_
              refine g_iload_n rfl rfl ?_
              refine g_puti rfl rfl (by decide) rfl rfl ?_
              refine x_return rfl rfl ?_
              have e9 : e_tel f (A k) (B k) (Y k) dp k σ = tp_pi υ 0 3 (B k) := by
                unfold e_tel
                rw [if_neg (by omega), if_neg (by omega), if_neg (by omega), if_pos (by omega), if_neg (by omega), ← hnp]
                unfold e_gto
                rw [if_pos (by rw [e_ppk_1 (by omega), ← hnm]; omega), e_pp_y (by omega), ← hnm, ← hnn]
              rw [e9]
              exact ⟨rfl, ⟨⟨a0n, a1n, a2n, a4n, a5n, a6n, a7n, a8n, a9n, a10n, (fun _ => by show (B k) = (B k); first | rfl | omega)⟩, (fun i i0 i1 => hBn i i0 i1), (fun i i0 i1 => hSn i i0 i1), ⟨hbtn, hdpn, hnown⟩, (fun c9 z9 => by rw [tp_pi_ne (by omega)]; exact hFn c9 z9), hR2n⟩⟩
        · refine g_iconst rfl ⟨by decide, by decide⟩ ?_
          refine g_goto (tgt := 136) rfl (by decide) ?_
          refine g_istore rfl rfl rfl ?_
          refine g_aload_n rfl rfl ?_
          refine g_cV (as := []) (s_putMap hG hc hcl hw hCd0 href hm hk hEp hJp) rfl rfl mX1_putMap_ok rfl rfl rfl (by decide) rfl rfl rfl ?_
          rintro _ wm ⟨rfl, hEm⟩ _
          have hpkm := e_pmk_l f τ
          have hJm : e_J f m k (e_pm f k τ) := J_pm hJp
          have hlm := e_pm_l (f := f) (t := k) (σ := τ)
          obtain ⟨ρ, hnm⟩ : ∃ τ9, τ9 = e_pm f k τ := ⟨_, rfl⟩
          rw [← hnm] at hEm hJm hlm
          obtain ⟨⟨a0m, a1m, a2m, a4m, a5m, a6m, a7m, a8m, a9m, a10m, alm⟩, hBm, hSm, ⟨hbtm, hdpm, hnowm⟩, hFm, hR2m⟩ := c_E_lin hEm
          obtain ⟨j1m, j2m, j3m, j4m, j5m, j6m, j7m, j8m, j9m⟩ := e_J_lin hJm
          refine g_if_eq (tgt := 161) rfl (by decide) (fun h5 => ?_) (fun h5 => ?_)
          · refine x_return rfl rfl ?_
            have e9 : e_tel f (A k) (B k) (Y k) dp k σ = ρ := by
              unfold e_tel
              rw [if_neg (by omega), if_neg (by omega), if_neg (by omega), if_pos (by omega), if_neg (by omega), ← hnp]
              unfold e_gto
              rw [if_neg (by rw [e_ppk_0 (by omega)]; omega), e_pp_n (by omega)]
              exact hnm.symm
            rw [e9]
            exact ⟨rfl, hEm⟩
          · refine g_aload_n rfl rfl ?_
            refine g_iconst rfl ⟨by decide, by decide⟩ ?_
            refine g_iload_n rfl rfl ?_
            refine g_iload rfl rfl ?_
            have hpn : tp_k G mX1_put [tR (some 62), tI (2 : Int), tI (B k), tI (1 : Int)] wm (fun r μ' => r = some (tI (e_ok f ρ)) ∧ c_E μ0 bt dp k (e_put f 2 (B k) (e_dg (B k) τ) (4 + 3 * e_dg (B k) τ) k (k + 1) ρ) μ') := by
              rw [show (B k) = (B k) from rfl, show (1 : Int) = (e_dg (B k) τ) from (by unfold e_dg; first | rw [if_pos (by omega)] | rw [if_neg (by omega)])]
              exact s_put hG hc hcl hw hCd0 href hm hk hEm hJm
            refine g_cV (as := [tI 2, tI (B k), tI 1]) (hpn) rfl rfl mX1_put_ok rfl rfl rfl (by decide) rfl rfl rfl ?_
            rintro _ wn ⟨rfl, hEn⟩ _
            have hokn := e_ok_l f ρ
            have hJn : e_J f m k (e_put f 2 (B k) (e_dg (B k) τ) (4 + 3 * e_dg (B k) τ) k (k + 1) ρ) := J_put hJm
            obtain ⟨υ, hnn⟩ : ∃ τ9, τ9 = e_put f 2 (B k) (e_dg (B k) τ) (4 + 3 * e_dg (B k) τ) k (k + 1) ρ := ⟨_, rfl⟩
            rw [← hnn] at hEn hJn
            obtain ⟨⟨a0n, a1n, a2n, a4n, a5n, a6n, a7n, a8n, a9n, a10n, aln⟩, hBn, hSn, ⟨hbtn, hdpn, hnown⟩, hFn, hR2n⟩ := c_E_lin hEn
            refine g_if_eq (tgt := 161) rfl (by decide) (fun h6 => ?_) (fun h6 => ?_)
            · refine x_return rfl rfl ?_
              have e9 : e_tel f (A k) (B k) (Y k) dp k σ = υ := by
                unfold e_tel
                rw [if_neg (by omega), if_neg (by omega), if_neg (by omega), if_pos (by omega), if_neg (by omega), ← hnp]
                unfold e_gto
                rw [if_neg (by rw [e_ppk_1 (by omega), ← hnm]; omega), e_pp_y (by omega), ← hnm]
                exact hnn.symm
              rw [e9]
              exact ⟨rfl, hEn⟩
            · refine g_aload_n rfl rfl ?_
              refine g_iload_n rfl rfl ?_
              refine g_puti rfl rfl (by decide) rfl rfl ?_
              refine x_return rfl rfl ?_
              have e9 : e_tel f (A k) (B k) (Y k) dp k σ = tp_pi υ 0 3 (B k) := by
                unfold e_tel
                rw [if_neg (by omega), if_neg (by omega), if_neg (by omega), if_pos (by omega), if_neg (by omega), ← hnp]
                unfold e_gto
                rw [if_pos (by rw [e_ppk_1 (by omega), ← hnm]; omega), e_pp_y (by omega), ← hnm, ← hnn]
              rw [e9]
              exact ⟨rfl, ⟨⟨a0n, a1n, a2n, a4n, a5n, a6n, a7n, a8n, a9n, a10n, (fun _ => by show (B k) = (B k); first | rfl | omega)⟩, (fun i i0 i1 => hBn i i0 i1), (fun i i0 i1 => hSn i i0 i1), ⟨hbtn, hdpn, hnown⟩, (fun c9 z9 => by rw [tp_pi_ne (by omega)]; exact hFn c9 z9), hR2n⟩⟩
      · refine g_aload_n rfl rfl ?_
        refine g_iconst rfl ⟨by decide, by decide⟩ ?_
        refine g_iV (as := [tI 1]) mX1_mapBit_ok rfl rfl rfl rfl rfl rfl (by decide) rfl rfl rfl ?_
        refine g_aload_n rfl rfl ?_
        refine g_dupr rfl ?_
        refine x_geti (v := (w1.1 62 8)) rfl rfl (by decide) (Or.inl rfl) rfl ?_
        refine g_iload_n rfl rfl ?_
        refine g_aload_n rfl rfl ?_
        refine x_geti (v := (w1.1 62 9)) rfl rfl (by decide) (Or.inl rfl) rfl ?_
        refine g_ishl rfl ?_
        refine g_ior rfl ?_
        refine g_puti rfl rfl (by decide) rfl rfl ?_
        refine g_aload_n rfl rfl ?_
        refine g_dupr rfl ?_
        refine x_geti (v := (w1.1 62 9)) rfl rfl (by decide) (Or.inl rfl) rfl ?_
        refine g_iconst rfl ⟨by decide, by decide⟩ ?_
        refine x_iadd (z := (w1.1 62 9) + 1) rfl (by omega) ⟨by omega, by omega⟩ ?_
        refine g_puti rfl rfl (by decide) rfl rfl ?_
        refine x_return rfl rfl ?_
        intro _
        refine g_goto (tgt := 161) rfl (by decide) ?_
        refine x_return rfl rfl ?_
        have e9 : e_tel f (A k) (B k) (Y k) dp k σ = e_bit 1 k τ := by
          unfold e_tel
          rw [if_neg (by omega), if_neg (by omega), if_neg (by omega), if_pos (by omega), if_pos (by omega), ← hnp]
        rw [e9]
        exact ⟨rfl, ⟨⟨a0p, (by show (tp_or (w1.1 62 8) (tp_ishl 1 (w1.1 62 9))) = (tp_or (τ.1 0 1) (tp_ishl 1 (τ.1 0 2))); first | (rw [a1p]; done) | (simp only [a0p, a1p, a2p, a4p, a5p, a6p, a7p, a8p, a9p, a10p]; done) | omega), (by show (w1.1 62 9) + 1 = (τ.1 0 2) + 1; first | (rw [a2p]; done) | (simp only [a0p, a1p, a2p, a4p, a5p, a6p, a7p, a8p, a9p, a10p]; done) | omega), a4p, a5p, a6p, a7p, a8p, a9p, a10p, alp⟩, (fun i i0 i1 => hBp i i0 i1), (fun i i0 i1 => hSp i i0 i1), ⟨hbtp, hdpp, hnowp⟩, (fun c9 z9 => by rw [tp_pi_ne (by omega), tp_pi_ne (by omega)]; exact hFp c9 z9), hR2p⟩⟩
  · by_cases hbn : B k = -1
    · refine g_aload_n rfl rfl ?_
      refine x_getM (v := (some c)) hG rfl rfl (by decide) (Or.inl ⟨_, rfl⟩) rfl hco ?_
      refine g_ifnonnull (tgt := 11) rfl (by decide) (fun _ _ => ?_) (fun hx => by cases hx)
      refine g_aload_n rfl rfl ?_
      refine x_getM (v := (some c)) hG rfl rfl (by decide) (Or.inl ⟨_, rfl⟩) rfl hco ?_
      refine g_iload_n rfl rfl ?_
      refine g_cV (as := [tI (A k)]) (s_kindX hG hc hcl hw hCd (by omega) (by omega)) rfl rfl mX0_kindAt_ok rfl hc rfl hcn rfl rfl rfl ?_
      rintro _ w9 ⟨rfl, hw9⟩ _
      have hw9 := hw9.symm
      subst hw9
      refine g_istore_n rfl rfl rfl ?_
      refine g_iload_n rfl rfl ?_
      refine g_iconst rfl ⟨by decide, by decide⟩ ?_
      refine g_icmp_ne (tgt := 39) rfl (by decide) (fun _ => ?_) (fun hx => absurd hx (by omega))
      refine g_iload_n rfl rfl ?_
      refine g_iconst rfl ⟨by decide, by decide⟩ ?_
      refine g_icmp_ne (tgt := 45) rfl (by decide) (fun hx => absurd hx (by omega)) (fun _ => ?_)
      refine x_return rfl rfl ?_
      have e9 : e_tel f (A k) (B k) (Y k) dp k σ = σ := by
        unfold e_tel
        rw [if_neg (by omega), if_pos (by omega)]
      rw [e9]
      exact ⟨rfl, hE⟩
    · have hb0 : 0 ≤ B k ∧ B k ≤ 40 := by rcases hbk with q | q; exact absurd q hbn; exact q
      refine g_aload_n rfl rfl ?_
      refine x_getM (v := (some c)) hG rfl rfl (by decide) (Or.inl ⟨_, rfl⟩) rfl hco ?_
      refine g_ifnonnull (tgt := 11) rfl (by decide) (fun _ _ => ?_) (fun hx => by cases hx)
      refine g_aload_n rfl rfl ?_
      refine x_getM (v := (some c)) hG rfl rfl (by decide) (Or.inl ⟨_, rfl⟩) rfl hco ?_
      refine g_iload_n rfl rfl ?_
      refine g_cV (as := [tI (A k)]) (s_kindX hG hc hcl hw hCd (by omega) (by omega)) rfl rfl mX0_kindAt_ok rfl hc rfl hcn rfl rfl rfl ?_
      rintro _ w9 ⟨rfl, hw9⟩ _
      have hw9 := hw9.symm
      subst hw9
      refine g_istore_n rfl rfl rfl ?_
      refine g_iload_n rfl rfl ?_
      refine g_iconst rfl ⟨by decide, by decide⟩ ?_
      refine g_icmp_ne (tgt := 39) rfl (by decide) (fun _ => ?_) (fun hx => absurd hx (by omega))
      refine g_iload_n rfl rfl ?_
      refine g_iconst rfl ⟨by decide, by decide⟩ ?_
      refine g_icmp_ne (tgt := 45) rfl (by decide) (fun _ => ?_) (fun hx => absurd hx (by omega))
      refine g_iload_n rfl rfl ?_
      refine g_iconst rfl ⟨by decide, by decide⟩ ?_
      refine g_icmp_ne (tgt := 83) rfl (by decide) (fun _ => ?_) (fun hx => absurd hx (by omega))
      refine g_iload_n rfl rfl ?_
      refine g_iconst rfl ⟨by decide, by decide⟩ ?_
      refine g_icmp_ne (tgt := 107) rfl (by decide) (fun _ => ?_) (fun hx => absurd hx (by omega))
      refine g_iload_n rfl rfl ?_
      refine g_iconst rfl ⟨by decide, by decide⟩ ?_
      refine g_icmp_eq (tgt := 117) rfl (by decide) (fun hx => absurd hx (by omega)) (fun _ => ?_)
      refine g_iload_n rfl rfl ?_
      refine g_iconst rfl ⟨by decide, by decide⟩ ?_
      refine g_icmp_ne (tgt := 161) rfl (by decide) (fun hx => absurd hx (by omega)) (fun _ => ?_)
      refine g_iload_n rfl rfl ?_
      refine g_bipush rfl ⟨by decide, by decide⟩ (by decide) ?_
      refine x_idiv rfl (by omega) (by omega) ?_
      refine g_aload_n rfl rfl ?_
      refine x_geti (v := (μ.1 62 10)) rfl rfl (by decide) (Or.inl rfl) rfl ?_
      refine g_bipush rfl ⟨by decide, by decide⟩ (by decide) ?_
      refine x_idiv rfl (by omega) (by omega) ?_
      refine g_icmp_ne (tgt := 135) rfl (by decide) (fun h1 => ?_) (fun h1 => ?_)
      · refine g_iconst rfl ⟨by decide, by decide⟩ ?_
        refine g_istore rfl rfl rfl ?_
        refine g_aload_n rfl rfl ?_
        refine g_cV (as := []) (s_putMap hG hc hcl hw hCd0 href hm hk hE hJ) rfl rfl mX1_putMap_ok rfl rfl rfl (by decide) rfl rfl rfl ?_
        rintro _ wm ⟨rfl, hEm⟩ _
        have hpkm := e_pmk_l f σ
        have hJm : e_J f m k (e_pm f k σ) := J_pm hJ
        have hlm := e_pm_l (f := f) (t := k) (σ := σ)
        obtain ⟨ρ, hnm⟩ : ∃ τ9, τ9 = e_pm f k σ := ⟨_, rfl⟩
        rw [← hnm] at hEm hJm hlm
        obtain ⟨⟨a0m, a1m, a2m, a4m, a5m, a6m, a7m, a8m, a9m, a10m, alm⟩, hBm, hSm, ⟨hbtm, hdpm, hnowm⟩, hFm, hR2m⟩ := c_E_lin hEm
        obtain ⟨j1m, j2m, j3m, j4m, j5m, j6m, j7m, j8m, j9m⟩ := e_J_lin hJm
        refine g_if_eq (tgt := 161) rfl (by decide) (fun h2 => ?_) (fun h2 => ?_)
        · refine x_return rfl rfl ?_
          have e9 : e_tel f (A k) (B k) (Y k) dp k σ = ρ := by
            unfold e_tel
            rw [if_neg (by omega), if_neg (by omega), if_neg (by omega), if_neg (by omega), if_pos (by omega)]
            unfold e_gto
            rw [if_neg (by rw [e_ppk_0 (by omega)]; omega), e_pp_n (by omega)]
            exact hnm.symm
          rw [e9]
          exact ⟨rfl, hEm⟩
        · refine g_aload_n rfl rfl ?_
          refine g_iconst rfl ⟨by decide, by decide⟩ ?_
          refine g_iload_n rfl rfl ?_
          refine g_iload rfl rfl ?_
          have hpn : tp_k G mX1_put [tR (some 62), tI (2 : Int), tI (B k), tI (2 : Int)] wm (fun r μ' => r = some (tI (e_ok f ρ)) ∧ c_E μ0 bt dp k (e_put f 2 (B k) (e_dg (B k) σ) (4 + 3 * e_dg (B k) σ) k (k + 1) ρ) μ') := by
            rw [show (B k) = (B k) from rfl, show (2 : Int) = (e_dg (B k) σ) from (by unfold e_dg; first | rw [if_pos (by omega)] | rw [if_neg (by omega)])]
            exact s_put hG hc hcl hw hCd0 href hm hk hEm hJm
          refine g_cV (as := [tI 2, tI (B k), tI 2]) (hpn) rfl rfl mX1_put_ok rfl rfl rfl (by decide) rfl rfl rfl ?_
          rintro _ wn ⟨rfl, hEn⟩ _
          have hokn := e_ok_l f ρ
          have hJn : e_J f m k (e_put f 2 (B k) (e_dg (B k) σ) (4 + 3 * e_dg (B k) σ) k (k + 1) ρ) := J_put hJm
          obtain ⟨υ, hnn⟩ : ∃ τ9, τ9 = e_put f 2 (B k) (e_dg (B k) σ) (4 + 3 * e_dg (B k) σ) k (k + 1) ρ := ⟨_, rfl⟩
          rw [← hnn] at hEn hJn
          obtain ⟨⟨a0n, a1n, a2n, a4n, a5n, a6n, a7n, a8n, a9n, a10n, aln⟩, hBn, hSn, ⟨hbtn, hdpn, hnown⟩, hFn, hR2n⟩ := c_E_lin hEn
          refine g_if_eq (tgt := 161) rfl (by decide) (fun h3 => ?_) (fun h3 => ?_)
          · refine x_return rfl rfl ?_
            have e9 : e_tel f (A k) (B k) (Y k) dp k σ = υ := by
              unfold e_tel
              rw [if_neg (by omega), if_neg (by omega), if_neg (by omega), if_neg (by omega), if_pos (by omega)]
              unfold e_gto
              rw [if_neg (by rw [e_ppk_1 (by omega), ← hnm]; omega), e_pp_y (by omega), ← hnm]
              exact hnn.symm
            rw [e9]
            exact ⟨rfl, hEn⟩
          · refine g_aload_n rfl rfl ?_
            refine g_iload_n rfl rfl ?_
            refine g_puti rfl rfl (by decide) rfl rfl ?_
            refine x_return rfl rfl ?_
            have e9 : e_tel f (A k) (B k) (Y k) dp k σ = tp_pi υ 0 3 (B k) := by
              unfold e_tel
              rw [if_neg (by omega), if_neg (by omega), if_neg (by omega), if_neg (by omega), if_pos (by omega)]
              unfold e_gto
              rw [if_pos (by rw [e_ppk_1 (by omega), ← hnm]; omega), e_pp_y (by omega), ← hnm, ← hnn]
            rw [e9]
            exact ⟨rfl, ⟨⟨a0n, a1n, a2n, a4n, a5n, a6n, a7n, a8n, a9n, a10n, (fun _ => by show (B k) = (B k); first | rfl | omega)⟩, (fun i i0 i1 => hBn i i0 i1), (fun i i0 i1 => hSn i i0 i1), ⟨hbtn, hdpn, hnown⟩, (fun c9 z9 => by rw [tp_pi_ne (by omega)]; exact hFn c9 z9), hR2n⟩⟩
      · refine g_iconst rfl ⟨by decide, by decide⟩ ?_
        refine g_goto (tgt := 136) rfl (by decide) ?_
        refine g_istore rfl rfl rfl ?_
        refine g_aload_n rfl rfl ?_
        refine g_cV (as := []) (s_putMap hG hc hcl hw hCd0 href hm hk hE hJ) rfl rfl mX1_putMap_ok rfl rfl rfl (by decide) rfl rfl rfl ?_
        rintro _ wm ⟨rfl, hEm⟩ _
        have hpkm := e_pmk_l f σ
        have hJm : e_J f m k (e_pm f k σ) := J_pm hJ
        have hlm := e_pm_l (f := f) (t := k) (σ := σ)
        obtain ⟨ρ, hnm⟩ : ∃ τ9, τ9 = e_pm f k σ := ⟨_, rfl⟩
        rw [← hnm] at hEm hJm hlm
        obtain ⟨⟨a0m, a1m, a2m, a4m, a5m, a6m, a7m, a8m, a9m, a10m, alm⟩, hBm, hSm, ⟨hbtm, hdpm, hnowm⟩, hFm, hR2m⟩ := c_E_lin hEm
        obtain ⟨j1m, j2m, j3m, j4m, j5m, j6m, j7m, j8m, j9m⟩ := e_J_lin hJm
        refine g_if_eq (tgt := 161) rfl (by decide) (fun h4 => ?_) (fun h4 => ?_)
        · refine x_return rfl rfl ?_
          have e9 : e_tel f (A k) (B k) (Y k) dp k σ = ρ := by
            unfold e_tel
            rw [if_neg (by omega), if_neg (by omega), if_neg (by omega), if_neg (by omega), if_pos (by omega)]
            unfold e_gto
            rw [if_neg (by rw [e_ppk_0 (by omega)]; omega), e_pp_n (by omega)]
            exact hnm.symm
          rw [e9]
          exact ⟨rfl, hEm⟩
        · refine g_aload_n rfl rfl ?_
          refine g_iconst rfl ⟨by decide, by decide⟩ ?_
          refine g_iload_n rfl rfl ?_
          refine g_iload rfl rfl ?_
          have hpn : tp_k G mX1_put [tR (some 62), tI (2 : Int), tI (B k), tI (1 : Int)] wm (fun r μ' => r = some (tI (e_ok f ρ)) ∧ c_E μ0 bt dp k (e_put f 2 (B k) (e_dg (B k) σ) (4 + 3 * e_dg (B k) σ) k (k + 1) ρ) μ') := by
            rw [show (B k) = (B k) from rfl, show (1 : Int) = (e_dg (B k) σ) from (by unfold e_dg; first | rw [if_pos (by omega)] | rw [if_neg (by omega)])]
            exact s_put hG hc hcl hw hCd0 href hm hk hEm hJm
          refine g_cV (as := [tI 2, tI (B k), tI 1]) (hpn) rfl rfl mX1_put_ok rfl rfl rfl (by decide) rfl rfl rfl ?_
          rintro _ wn ⟨rfl, hEn⟩ _
          have hokn := e_ok_l f ρ
          have hJn : e_J f m k (e_put f 2 (B k) (e_dg (B k) σ) (4 + 3 * e_dg (B k) σ) k (k + 1) ρ) := J_put hJm
          obtain ⟨υ, hnn⟩ : ∃ τ9, τ9 = e_put f 2 (B k) (e_dg (B k) σ) (4 + 3 * e_dg (B k) σ) k (k + 1) ρ := ⟨_, rfl⟩
          rw [← hnn] at hEn hJn
          obtain ⟨⟨a0n, a1n, a2n, a4n, a5n, a6n, a7n, a8n, a9n, a10n, aln⟩, hBn, hSn, ⟨hbtn, hdpn, hnown⟩, hFn, hR2n⟩ := c_E_lin hEn
          refine g_if_eq (tgt := 161) rfl (by decide) (fun h5 => ?_) (fun h5 => ?_)
          · refine x_return rfl rfl ?_
            have e9 : e_tel f (A k) (B k) (Y k) dp k σ = υ := by
              unfold e_tel
              rw [if_neg (by omega), if_neg (by omega), if_neg (by omega), if_neg (by omega), if_pos (by omega)]
              unfold e_gto
              rw [if_neg (by rw [e_ppk_1 (by omega), ← hnm]; omega), e_pp_y (by omega), ← hnm]
              exact hnn.symm
            rw [e9]
            exact ⟨rfl, hEn⟩
          · refine g_aload_n rfl rfl ?_
            refine g_iload_n rfl rfl ?_
            refine g_puti rfl rfl (by decide) rfl rfl ?_
            refine x_return rfl rfl ?_
            have e9 : e_tel f (A k) (B k) (Y k) dp k σ = tp_pi υ 0 3 (B k) := by
              unfold e_tel
              rw [if_neg (by omega), if_neg (by omega), if_neg (by omega), if_neg (by omega), if_pos (by omega)]
              unfold e_gto
              rw [if_pos (by rw [e_ppk_1 (by omega), ← hnm]; omega), e_pp_y (by omega), ← hnm, ← hnn]
            rw [e9]
            exact ⟨rfl, ⟨⟨a0n, a1n, a2n, a4n, a5n, a6n, a7n, a8n, a9n, a10n, (fun _ => by show (B k) = (B k); first | rfl | omega)⟩, (fun i i0 i1 => hBn i i0 i1), (fun i i0 i1 => hSn i i0 i1), ⟨hbtn, hdpn, hnown⟩, (fun c9 z9 => by rw [tp_pi_ne (by omega)]; exact hFn c9 z9), hR2n⟩⟩
  · by_cases hbn : B k = -1
    · refine g_aload_n rfl rfl ?_
      refine x_getM (v := (some c)) hG rfl rfl (by decide) (Or.inl ⟨_, rfl⟩) rfl hco ?_
      refine g_ifnonnull (tgt := 11) rfl (by decide) (fun _ _ => ?_) (fun hx => by cases hx)
      refine g_aload_n rfl rfl ?_
      refine x_getM (v := (some c)) hG rfl rfl (by decide) (Or.inl ⟨_, rfl⟩) rfl hco ?_
      refine g_iload_n rfl rfl ?_
      refine g_cV (as := [tI (A k)]) (s_kindX hG hc hcl hw hCd (by omega) (by omega)) rfl rfl mX0_kindAt_ok rfl hc rfl hcn rfl rfl rfl ?_
      rintro _ w9 ⟨rfl, hw9⟩ _
      have hw9 := hw9.symm
      subst hw9
      refine g_istore_n rfl rfl rfl ?_
      refine g_iload_n rfl rfl ?_
      refine g_iconst rfl ⟨by decide, by decide⟩ ?_
      refine g_icmp_ne (tgt := 39) rfl (by decide) (fun _ => ?_) (fun hx => absurd hx (by omega))
      refine g_iload_n rfl rfl ?_
      refine g_iconst rfl ⟨by decide, by decide⟩ ?_
      refine g_icmp_ne (tgt := 45) rfl (by decide) (fun hx => absurd hx (by omega)) (fun _ => ?_)
      refine x_return rfl rfl ?_
      have e9 : e_tel f (A k) (B k) (Y k) dp k σ = σ := by
        unfold e_tel
        rw [if_neg (by omega), if_pos (by omega)]
      rw [e9]
      exact ⟨rfl, hE⟩
    · have hb0 : 0 ≤ B k ∧ B k ≤ 40 := by rcases hbk with q | q; exact absurd q hbn; exact q
      refine g_aload_n rfl rfl ?_
      refine x_getM (v := (some c)) hG rfl rfl (by decide) (Or.inl ⟨_, rfl⟩) rfl hco ?_
      refine g_ifnonnull (tgt := 11) rfl (by decide) (fun _ _ => ?_) (fun hx => by cases hx)
      refine g_aload_n rfl rfl ?_
      refine x_getM (v := (some c)) hG rfl rfl (by decide) (Or.inl ⟨_, rfl⟩) rfl hco ?_
      refine g_iload_n rfl rfl ?_
      refine g_cV (as := [tI (A k)]) (s_kindX hG hc hcl hw hCd (by omega) (by omega)) rfl rfl mX0_kindAt_ok rfl hc rfl hcn rfl rfl rfl ?_
      rintro _ w9 ⟨rfl, hw9⟩ _
      have hw9 := hw9.symm
      subst hw9
      refine g_istore_n rfl rfl rfl ?_
      refine g_iload_n rfl rfl ?_
      refine g_iconst rfl ⟨by decide, by decide⟩ ?_
      refine g_icmp_ne (tgt := 39) rfl (by decide) (fun _ => ?_) (fun hx => absurd hx (by omega))
      refine g_iload_n rfl rfl ?_
      refine g_iconst rfl ⟨by decide, by decide⟩ ?_
      refine g_icmp_ne (tgt := 45) rfl (by decide) (fun _ => ?_) (fun hx => absurd hx (by omega))
      refine g_iload_n rfl rfl ?_
      refine g_iconst rfl ⟨by decide, by decide⟩ ?_
      refine g_icmp_ne (tgt := 83) rfl (by decide) (fun _ => ?_) (fun hx => absurd hx (by omega))
      refine g_iload_n rfl rfl ?_
      refine g_iconst rfl ⟨by decide, by decide⟩ ?_
      refine g_icmp_ne (tgt := 107) rfl (by decide) (fun _ => ?_) (fun hx => absurd hx (by omega))
      refine g_iload_n rfl rfl ?_
      refine g_iconst rfl ⟨by decide, by decide⟩ ?_
      refine g_icmp_eq (tgt := 117) rfl (by decide) (fun hx => absurd hx (by omega)) (fun _ => ?_)
      refine g_iload_n rfl rfl ?_
      refine g_iconst rfl ⟨by decide, by decide⟩ ?_
      refine g_icmp_ne (tgt := 161) rfl (by decide) (fun _ => ?_) (fun hx => absurd hx (by omega))
      refine x_return rfl rfl ?_
      have e9 : e_tel f (A k) (B k) (Y k) dp k σ = σ := by
        unfold e_tel
        rw [if_neg (by omega), if_neg (by omega), if_neg (by omega), if_neg (by omega), if_neg (by omega)]
      rw [e9]
      exact ⟨rfl, hE⟩
