set_option maxHeartbeats 4000000 in
set_option maxRecDepth 100000 in
theorem l_es68 {G : tp_G} {μ : tp_M} (hG : tp_Gf G = true) {ck : Int} {f : Int → Int} {μ0 : tp_M} {bt dp k : Int} (hw : tp_Cw f) (hMc0 : tp_Mc ck f μ0) {n : Int} {A B Y H : Int → Int} {E D U T : Int} (hW : r_W f n A B Y H) (hT0 : m_T n A B Y E D U T μ0) (hbt9 : 1 ≤ bt ∧ bt ≤ 9) (hdp4 : 0 ≤ dp ∧ dp ≤ 4) (hk0 : 0 ≤ k) (hkn : k < n) {σ : tp_M} (hE : m_E μ0 σ μ) (hJ : e_J f k k σ) (hL : σ.1 0 2 < bt) : tp_g G mX12_encodesStep 68 [some (tR (some 201)), some (tI k), some (tI bt), some (tI dp)] [] μ (fun r μ' => r = none ∧ m_E μ0 (e_s6 (e_s5 f bt k (e_s4 f (A k) (B k) (Y k) dp k (e_s3 f (A k) k σ)))) μ') := by
  have hw0 := hw.1
  have hrl := hw.2.2
  have hn0 := hW.1
  obtain ⟨⟨a0, a1, a2, a4, a5, a6, a7, a8, a9, a10, a12, ak, al⟩, hB, hS, hF, hG2⟩ := m_E_lin hE
  obtain ⟨j1, j2, j3, j4, j5, j6, j7, j8, j9⟩ := e_J_lin hJ
  have hMc : tp_Mc ck f μ := m_E_Mc hF hG2 hMc0
  have hT : m_T n A B Y E D U T μ := m_E_T hF hG2 hT0
  have hak := (hW.2.2.2 k hk0 hkn).1.1
  have hbk : q_H (B k = -1 ∨ (0 ≤ B k ∧ B k ≤ 40)) := (hW.2.2.2 k hk0 hkn).1.2.1
  refine g_aload_n rfl rfl ?_
  refine x_geti (v := (μ.1 201 58)) rfl rfl (by decide) (Or.inr (Or.inl rfl)) rfl ?_
  refine g_if_ne (tgt := 109) rfl (by decide) (fun h1 => ?_) (fun h1 => ?_)
  · refine x_return rfl rfl ?_
    have hof : ¬ σ.1 0 5 = 1 := by have := j7 (by omega); omega
    rw [e_s3_y (by omega), e_s4_n hof, e_s5_n (fun z => hof z.1), e_s6_n hof]
    exact ⟨rfl, hE⟩
  · refine g_aload_n rfl rfl ?_
    refine g_iload_n rfl rfl ?_
    refine g_cV (as := [tI k]) (s_isTracedM hG hw hW hT hMc (by omega) (by omega)) rfl rfl mX12_isTraced_ok rfl rfl rfl (by decide) rfl rfl rfl ?_
    rintro _ w9 ⟨rfl, hw9⟩ _
    have hw9 := hw9.symm
    subst hw9
    have hq1 := q_tr_b f (A k)
    refine g_if_eq (tgt := 94) rfl (by decide) (fun h2 => ?_) (fun h2 => ?_)
    · refine g_aload_n rfl rfl ?_
      refine g_iload_n rfl rfl ?_
      refine g_cV (as := [tI k]) (s_stopsM hG hw hMc0 (m := k) (k := k) (by omega) (by omega) hE hJ hW hT0 hkn (by omega)) rfl rfl mX12_stopsTracing_ok rfl rfl rfl (by decide) rfl rfl rfl ?_
      rintro _ w3 ⟨vb, rfl, hvb, hE3⟩ _
      have hbz : σ.1 0 6 = 0 := by omega
      obtain ⟨σ3, hq3⟩ : ∃ τ9, τ9 = e_trn f (A k) k σ := ⟨_, rfl⟩
      rw [← hq3] at hE3 hvb
      have hJ3 : e_J f k k σ3 := by rw [hq3]; exact J_trn (by omega) (by omega) hJ hbz
      obtain ⟨⟨a03, a13, a23, a43, a53, a63, a73, a83, a93, a103, a123, ak3, al3⟩, hB3, hS3, hF3, hG23⟩ := m_E_lin hE3
      obtain ⟨j13, j23, j33, j43, j53, j63, j73, j83, j93⟩ := e_J_lin hJ3
      refine g_if_eq (tgt := 109) rfl (by decide) (fun h3 => ?_) (fun h3 => ?_)
      · refine x_return rfl rfl ?_
        rw [e_s3_n (by omega), ← hq3, e_s4_n (by omega), e_s5_n (fun z => by omega), e_s6_n (by omega)]
        exact ⟨rfl, hE3⟩
      · refine g_aload_n rfl rfl ?_
        refine x_geti (v := (w3.1 201 57)) rfl rfl (by decide) (Or.inr (Or.inl rfl)) rfl ?_
        refine g_if_ne (tgt := 110) rfl (by decide) (fun hx => absurd hx (by omega)) (fun _ => ?_)
        refine x_return rfl rfl ?_
        rw [e_s3_n (by omega), ← hq3, e_s4_n (by omega), e_s5_n (fun z => by omega), e_s6_n (by omega)]
        exact ⟨rfl, hE3⟩
    · refine g_aload_n rfl rfl ?_
      refine g_iload_n rfl rfl ?_
      refine g_cV (as := [tI k]) (s_beginsM hG hw hMc0 (m := k) (k := k) (by omega) (by omega) hE hJ hW hT0 hkn (by omega)) rfl rfl mX12_begins_ok rfl rfl rfl (by decide) rfl rfl rfl ?_
      rintro _ w3 ⟨vb, rfl, hvb, hE3⟩ _
      have hbz : σ.1 0 6 = 0 := by omega
      obtain ⟨σ3, hq3⟩ : ∃ τ9, τ9 = e_trn f (A k) k σ := ⟨_, rfl⟩
      rw [← hq3] at hE3 hvb
      have hJ3 : e_J f k k σ3 := by rw [hq3]; exact J_trn (by omega) (by omega) hJ hbz
      obtain ⟨⟨a03, a13, a23, a43, a53, a63, a73, a83, a93, a103, a123, ak3, al3⟩, hB3, hS3, hF3, hG23⟩ := m_E_lin hE3
      obtain ⟨j13, j23, j33, j43, j53, j63, j73, j83, j93⟩ := e_J_lin hJ3
      have hL3 : σ3.1 0 2 < bt := by rw [hq3]; exact L_trn (by omega) hL
      refine g_if_eq (tgt := 109) rfl (by decide) (fun h4 => ?_) (fun h4 => ?_)
      · refine x_return rfl rfl ?_
        rw [e_s3_n (by omega), ← hq3, e_s4_n (by omega), e_s5_n (fun z => by omega), e_s6_n (by omega)]
        exact ⟨rfl, hE3⟩
      · refine g_goto (tgt := 102) rfl (by decide) ?_
        refine g_aload_n rfl rfl ?_
        refine x_geti (v := (w3.1 201 57)) rfl rfl (by decide) (Or.inr (Or.inl rfl)) rfl ?_
        refine g_if_ne (tgt := 110) rfl (by decide) (fun h5 => ?_) (fun h5 => ?_)
        · refine g_aload_n rfl rfl ?_
          refine g_iload_n rfl rfl ?_
          refine g_iload_n rfl rfl ?_
          refine g_cV (as := [tI k, tI dp]) (s_tellsM hG hw hMc0 (m := k) (k := k) (by omega) (by omega) hE3 hJ3 hW hT0 hkn hdp4 (by omega) (by omega)) rfl rfl mX12_tells_ok rfl rfl rfl (by decide) rfl rfl rfl ?_
          rintro _ w4 ⟨vt, rfl, hvt0, hvt, hE4⟩ _
          obtain ⟨σ4, hq4⟩ : ∃ τ9, τ9 = e_tel f (A k) (B k) (Y k) dp k σ3 := ⟨_, rfl⟩
          rw [← hq4] at hE4 hvt
          have hJ4 : e_J f k k σ4 := by rw [hq4]; exact J_tel (by omega) hbk (by omega) hJ3
          obtain ⟨⟨a04, a14, a24, a44, a54, a64, a74, a84, a94, a104, a124, ak4, al4⟩, hB4, hS4, hF4, hG24⟩ := m_E_lin hE4
          obtain ⟨j14, j24, j34, j44, j54, j64, j74, j84, j94⟩ := e_J_lin hJ4
          refine g_if_eq (tgt := 135) rfl (by decide) (fun h6 => ?_) (fun h6 => ?_)
          · refine x_return rfl rfl ?_
            rw [e_s3_n (by omega), ← hq3, e_s4_y (by omega), ← hq4, e_s5_n (fun z => by omega), e_s6_n (by omega)]
            exact ⟨rfl, hE4⟩
          · refine g_aload_n rfl rfl ?_
            refine x_geti (v := (w4.1 201 53)) rfl rfl (by decide) (Or.inl rfl) rfl ?_
            refine g_iload_n rfl rfl ?_
            refine g_icmp_ne (tgt := 136) rfl (by decide) (fun h7 => ?_) (fun h7 => ?_)
            · refine g_aload_n rfl rfl ?_
              refine g_dupr rfl ?_
              refine x_geti (v := (w4.1 201 56)) rfl rfl (by decide) (Or.inl rfl) rfl ?_
              refine g_iconst rfl ⟨by decide, by decide⟩ ?_
              refine x_iadd (z := (w4.1 201 56) + 1) rfl (by omega) ⟨by omega, by omega⟩ ?_
              refine g_puti rfl rfl (by decide) rfl rfl ?_
              refine x_return rfl rfl ?_
              rw [e_s3_n (by omega), ← hq3, e_s4_y (by omega), ← hq4, e_s5_n (fun z => by omega), e_s6_y (by omega)]
              exact ⟨rfl, ⟨⟨a04, a14, a24, (by show (w4.1 201 56) + 1 = (σ4.1 0 4) + 1; first | (rw [a44]; done) | (simp only [a04, a14, a24, a44, a54, a64, a74, a84, a94, a104, a124]; done) | omega), a54, a64, a74, a84, a94, a104, a124, ak4, al4⟩, (fun i i0 i1 => hB4 i i0 i1), (fun i i0 i1 => hS4 i i0 i1), (fun c9 z1 z2 => by rw [tp_pi_ne (by omega)]; exact hF4 c9 z1 z2), (fun j9 z9 => by rw [tp_pi_no (by omega)]; exact hG24 j9 z9)⟩⟩
            · refine g_aload_n rfl rfl ?_
              refine g_iload_n rfl rfl ?_
              refine g_cV (as := [tI k]) (s_putMapM hG hw hMc0 (m := k) (k := k) (by omega) (by omega) hE4 hJ4) rfl rfl mX12_putMap_ok rfl rfl rfl (by decide) rfl rfl rfl ?_
              rintro _ w5 ⟨rfl, hE5⟩ _
              have hp5 := e_pmk_l f σ4
              have hkq4 : q_H (e_pmk f σ4 = 1 → (e_pm f k σ4).1 0 5 = σ4.1 0 5 ∧ (e_pm f k σ4).1 0 6 = σ4.1 0 6 ∧ (e_pm f k σ4).1 0 4 = σ4.1 0 4 ∧ (e_pm f k σ4).1 0 3 = σ4.1 0 3 ∧ (e_pm f k σ4).1 0 10 = σ4.1 0 10) := e_pm_kp (f := f) (t := k) (σ := σ4)
              have hof4 : q_H (e_pmk f σ4 = 0 → (e_pm f k σ4).1 0 5 = 0) := fun z => e_pm_off z
              obtain ⟨σ5, hq5⟩ : ∃ τ9, τ9 = e_pm f k σ4 := ⟨_, rfl⟩
              rw [← hq5] at hE5 hkq4 hof4
              have hJ5 : e_J f k k σ5 := by rw [hq5]; exact J_pm hJ4
              obtain ⟨⟨a05, a15, a25, a45, a55, a65, a75, a85, a95, a105, a125, ak5, al5⟩, hB5, hS5, hF5, hG25⟩ := m_E_lin hE5
              obtain ⟨j15, j25, j35, j45, j55, j65, j75, j85, j95⟩ := e_J_lin hJ5
              refine g_if_ne (tgt := 136) rfl (by decide) (fun h8 => ?_) (fun h8 => ?_)
              · refine g_aload_n rfl rfl ?_
                refine g_dupr rfl ?_
                refine x_geti (v := (w5.1 201 56)) rfl rfl (by decide) (Or.inl rfl) rfl ?_
                refine g_iconst rfl ⟨by decide, by decide⟩ ?_
                refine x_iadd (z := (w5.1 201 56) + 1) rfl (by omega) ⟨by omega, by omega⟩ ?_
                refine g_puti rfl rfl (by decide) rfl rfl ?_
                refine x_return rfl rfl ?_
                have hkq5 := (hkq4 (by omega)).1
                rw [e_s3_n (by omega), ← hq3, e_s4_y (by omega), ← hq4, e_s5_y ⟨by omega, by omega⟩, ← hq5, e_s6_y (by omega)]
                exact ⟨rfl, ⟨⟨a05, a15, a25, (by show (w5.1 201 56) + 1 = (σ5.1 0 4) + 1; first | (rw [a45]; done) | (simp only [a05, a15, a25, a45, a55, a65, a75, a85, a95, a105, a125]; done) | omega), a55, a65, a75, a85, a95, a105, a125, ak5, al5⟩, (fun i i0 i1 => hB5 i i0 i1), (fun i i0 i1 => hS5 i i0 i1), (fun c9 z1 z2 => by rw [tp_pi_ne (by omega)]; exact hF5 c9 z1 z2), (fun j9 z9 => by rw [tp_pi_no (by omega)]; exact hG25 j9 z9)⟩⟩
              · refine x_return rfl rfl ?_
                have hof5 := hof4 (by omega)
                rw [e_s3_n (by omega), ← hq3, e_s4_y (by omega), ← hq4, e_s5_y ⟨by omega, by omega⟩, ← hq5, e_s6_n (by omega)]
                exact ⟨rfl, hE5⟩
        · refine x_return rfl rfl ?_
          rw [e_s3_n (by omega), ← hq3, e_s4_n (by omega), e_s5_n (fun z => by omega), e_s6_n (by omega)]
          exact ⟨rfl, hE3⟩
set_option maxHeartbeats 4000000 in
set_option maxRecDepth 100000 in
theorem l_es32 {G : tp_G} {μ : tp_M} (hG : tp_Gf G = true) {ck : Int} {f : Int → Int} {μ0 : tp_M} {bt dp k : Int} (hw : tp_Cw f) (hMc0 : tp_Mc ck f μ0) {n : Int} {A B Y H : Int → Int} {E D U T : Int} (hW : r_W f n A B Y H) (hT0 : m_T n A B Y E D U T μ0) (hbt9 : 1 ≤ bt ∧ bt ≤ 9) (hdp4 : 0 ≤ dp ∧ dp ≤ 4) (hk0 : 0 ≤ k) (hkn : k < n) {σ : tp_M} (hE : m_E μ0 σ μ) (hJ : e_J f k k σ) (hL : σ.1 0 2 < bt) : tp_g G mX12_encodesStep 32 [some (tR (some 201)), some (tI k), some (tI bt), some (tI dp)] [] μ (fun r μ' => r = none ∧ m_E μ0 (e_s6 (e_s5 f bt k (e_s4 f (A k) (B k) (Y k) dp k (e_s3 f (A k) k (e_see f k σ))))) μ') := by
  have hw0 := hw.1
  have hrl := hw.2.2
  have hn0 := hW.1
  obtain ⟨⟨a0, a1, a2, a4, a5, a6, a7, a8, a9, a10, a12, ak, al⟩, hB, hS, hF, hG2⟩ := m_E_lin hE
  obtain ⟨j1, j2, j3, j4, j5, j6, j7, j8, j9⟩ := e_J_lin hJ
  have hMc : tp_Mc ck f μ := m_E_Mc hF hG2 hMc0
  have hT : m_T n A B Y E D U T μ := m_E_T hF hG2 hT0
  refine g_aload_n rfl rfl ?_
  refine x_geti (v := (μ.1 201 58)) rfl rfl (by decide) (Or.inr (Or.inl rfl)) rfl ?_
  refine g_if_eq (tgt := 68) rfl (by decide) (fun h1 => ?_) (fun h1 => ?_)
  · have e9 : e_see f k σ = σ := if_neg (fun z => by omega)
    rw [e9]
    exact l_es68 hG hw hMc0 hW hT0 hbt9 hdp4 hk0 hkn hE hJ hL
  · refine g_aload_n rfl rfl ?_
    refine x_geti (v := (μ.1 201 51)) rfl rfl (by decide) (Or.inl rfl) rfl ?_
    refine g_if_ne (tgt := 68) rfl (by decide) (fun h2 => ?_) (fun h2 => ?_)
    · have e9 : e_see f k σ = σ := if_neg (fun z => by omega)
      rw [e9]
      exact l_es68 hG hw hMc0 hW hT0 hbt9 hdp4 hk0 hkn hE hJ hL
    · refine g_aload_n rfl rfl ?_
      refine g_aload_n rfl rfl ?_
      refine g_iconst rfl ⟨by decide, by decide⟩ ?_
      refine g_iconst rfl ⟨by decide, by decide⟩ ?_
      refine g_iconst rfl ⟨by decide, by decide⟩ ?_
      refine g_iconst rfl ⟨by decide, by decide⟩ ?_
      refine g_iload_n rfl rfl ?_
      refine g_iload_n rfl rfl ?_
      refine g_cV (as := [tI 5, tI 0, tI 0, tI 4, tI k, tI k]) (s_putM hG hw hMc0 (m := k) (k := k) (by omega) (by omega) hE hJ) rfl rfl mX12_put_ok rfl rfl rfl (by decide) rfl rfl rfl ?_
      rintro _ w1 ⟨rfl, hEt⟩ _
      have hok : e_ok f σ = 1 := e_ok_y (by omega)
      obtain ⟨τ, hn⟩ : ∃ τ9, τ9 = e_put f 5 0 0 4 k k σ := ⟨_, rfl⟩
      rw [← hn] at hEt
      obtain ⟨⟨a0t, a1t, a2t, a4t, a5t, a6t, a7t, a8t, a9t, a10t, a12t, akt, alt⟩, hBt, hSt, hFt, hG2t⟩ := m_E_lin hEt
      refine g_if_ne (tgt := 64) rfl (by decide) (fun _ => ?_) (fun hx => absurd hx (by omega))
      refine g_iconst rfl ⟨by decide, by decide⟩ ?_
      refine g_putz rfl rfl (by decide) rfl rfl (Or.inl rfl) ?_
      have e9 : e_see f k σ = tp_pi τ 0 6 0 := by unfold e_see; rw [if_pos ⟨by omega, by omega⟩, ← hn]
      have hJ9 := J_see (k' := k) hJ
      have hL9 := L_see (f := f) (k := k) (bt := bt) (by omega) hL
      rw [e9] at hJ9 hL9 ⊢
      exact l_es68 hG hw hMc0 hW hT0 hbt9 hdp4 hk0 hkn ⟨⟨a0t, a1t, a2t, a4t, a5t, rfl, a7t, a8t, a9t, a10t, a12t, akt, alt⟩, (fun i i0 i1 => hBt i i0 i1), (fun i i0 i1 => hSt i i0 i1), (fun c9 z1 z2 => by rw [tp_pi_ne (by omega)]; exact hFt c9 z1 z2), (fun j9 z9 => by rw [tp_pi_no (by omega)]; exact hG2t j9 z9)⟩ hJ9 hL9
set_option maxHeartbeats 4000000 in
set_option maxRecDepth 100000 in
theorem s_estep {G : tp_G} {μ : tp_M} (hG : tp_Gf G = true) {ck : Int} {f : Int → Int} {μ0 : tp_M} {bt dp k : Int} (hw : tp_Cw f) (hMc0 : tp_Mc ck f μ0) {n : Int} {A B Y H : Int → Int} {E D U T : Int} (hW : r_W f n A B Y H) (hT0 : m_T n A B Y E D U T μ0) (hbt9 : 1 ≤ bt ∧ bt ≤ 9) (hdp4 : 0 ≤ dp ∧ dp ≤ 4) (hk0 : 0 ≤ k) (hkn : k < n) {σ : tp_M} (hE : m_E μ0 σ μ) (hJ : e_J f (max (k - 1) 0) k σ) (hL : σ.1 0 2 < bt) : tp_k G mX12_encodesStep [tR (some 201), tI k, tI bt, tI dp] μ (fun r μ' => r = none ∧ m_E μ0 (e_stp f bt dp (A k) (B k) (Y k) k σ) μ') := by
  refine tp_ok_of mX12_encodesStep_ok rfl (Nat.le_refl _) ?_
  have hw0 := hw.1
  have hrl := hw.2.2
  have hn0 := hW.1
  obtain ⟨⟨a0, a1, a2, a4, a5, a6, a7, a8, a9, a10, a12, ak, al⟩, hB, hS, hF, hG2⟩ := m_E_lin hE
  obtain ⟨j1, j2, j3, j4, j5, j6, j7, j8, j9⟩ := e_J_lin hJ
  have hMc : tp_Mc ck f μ := m_E_Mc hF hG2 hMc0
  have hT : m_T n A B Y E D U T μ := m_E_T hF hG2 hT0
  refine g_iload_n rfl rfl ?_
  refine g_if_le (tgt := 32) rfl (by decide) (fun h1 => ?_) (fun h1 => ?_)
  · have e9 : e_out f k σ = σ := if_neg (fun z => by omega)
    have hJ9 := J_out hk0 hJ
    rw [e9] at hJ9
    unfold e_stp
    rw [e9]
    exact l_es32 hG hw hMc0 hW hT0 hbt9 hdp4 hk0 hkn hE hJ9 hL
  · refine g_iload_n rfl rfl ?_
    refine g_aload_n rfl rfl ?_
    refine g_bipush rfl ⟨by decide, by decide⟩ (by decide) ?_
    refine g_cV (as := [tI 8]) (s_of hG hMc (by omega) (by omega)) rfl rfl mX12_of_ok rfl rfl rfl (by decide) rfl rfl rfl ?_
    rintro _ w9 ⟨rfl, hw9⟩ _
    have hw9 := hw9.symm
    subst hw9
    refine x_irem rfl (by omega) (by omega) ?_
    refine g_if_ne (tgt := 32) rfl (by decide) (fun h2 => ?_) (fun h2 => ?_)
    · have e9 : e_out f k σ = σ := if_neg (fun z => by omega)
      have hJ9 := J_out hk0 hJ
      rw [e9] at hJ9
      unfold e_stp
      rw [e9]
      exact l_es32 hG hw hMc0 hW hT0 hbt9 hdp4 hk0 hkn hE hJ9 hL
    · refine g_aload_n rfl rfl ?_
      refine x_geti (v := (μ.1 201 51)) rfl rfl (by decide) (Or.inl rfl) rfl ?_
      refine g_if_le (tgt := 32) rfl (by decide) (fun h3 => ?_) (fun h3 => ?_)
      · have e9 : e_out f k σ = σ := if_neg (fun z => by omega)
        have hJ9 := J_out hk0 hJ
        rw [e9] at hJ9
        unfold e_stp
        rw [e9]
        exact l_es32 hG hw hMc0 hW hT0 hbt9 hdp4 hk0 hkn hE hJ9 hL
      · refine g_aload_n rfl rfl ?_
        refine g_dupr rfl ?_
        refine x_geti (v := (μ.1 201 51)) rfl rfl (by decide) (Or.inl rfl) rfl ?_
        refine g_iconst rfl ⟨by decide, by decide⟩ ?_
        refine x_isub (z := (μ.1 201 51) - 1) rfl (by omega) ⟨by omega, by omega⟩ ?_
        refine g_puti rfl rfl (by decide) rfl rfl ?_
        have e9 : e_out f k σ = tp_pi σ 0 0 (σ.1 0 0 - 1) := if_pos ⟨by omega, by omega, by omega⟩
        have hJ9 := J_out hk0 hJ
        rw [e9] at hJ9
        unfold e_stp
        rw [e9]
        exact l_es32 hG hw hMc0 hW hT0 hbt9 hdp4 hk0 hkn ⟨⟨(by show (μ.1 201 51) - 1 = (σ.1 0 0) - 1; first | (rw [a0]; done) | (simp only [a0, a1, a2, a4, a5, a6, a7, a8, a9, a10, a12]; done) | omega), a1, a2, a4, a5, a6, a7, a8, a9, a10, a12, ak, al⟩, (fun i i0 i1 => hB i i0 i1), (fun i i0 i1 => hS i i0 i1), (fun c9 z1 z2 => by rw [tp_pi_ne (by omega)]; exact hF c9 z1 z2), (fun j9 z9 => by rw [tp_pi_no (by omega)]; exact hG2 j9 z9)⟩ hJ9 hL
set_option maxHeartbeats 4000000 in
set_option maxRecDepth 100000 in
theorem l_encM {G : tp_G} (hG : tp_Gf G = true) {ck : Int} {f : Int → Int} {μ0 : tp_M} {bt dp : Int} (hw : tp_Cw f) (hMc0 : tp_Mc ck f μ0) {n : Int} {A B Y H : Int → Int} {E D U T : Int} (hW : r_W f n A B Y H) (hT0 : m_T n A B Y E D U T μ0) (hbt9 : 1 ≤ bt ∧ bt ≤ 9) (hdp4 : 0 ≤ dp ∧ dp ≤ 4) : ∀ k, k ≤ n → ∀ (μ : tp_M) (σ : tp_M), 0 ≤ k → σ = e_it f bt dp A B Y k.toNat → m_E μ0 σ μ → tp_g G mX12_encodes 62 [some (tR (some 201)), some (tI bt), some (tI dp), some (tI k)] [] μ (fun r μ' => r = none ∧ m_E μ0 (e_all f bt dp A B Y n) μ') := by
  have hn0 := hW.1
  refine tp_ind _ ?_
  intro k hkN ih μ σ h0 hσ hE
  have hJL := e_it_J hw hW hbt9 hdp4.2 k.toNat (by omega)
  rw [← hσ, show ((k.toNat : Nat) : Int) = k by omega] at hJL
  have hJ := hJL.1
  have hL := hJL.2
  clear hJL
  have hw0 := hw.1
  have hrl := hw.2.2
  have hn0 := hW.1
  obtain ⟨⟨a0, a1, a2, a4, a5, a6, a7, a8, a9, a10, a12, ak, al⟩, hB, hS, hF, hG2⟩ := m_E_lin hE
  obtain ⟨j1, j2, j3, j4, j5, j6, j7, j8, j9⟩ := e_J_lin hJ
  have hMc : tp_Mc ck f μ := m_E_Mc hF hG2 hMc0
  have hT : m_T n A B Y E D U T μ := m_E_T hF hG2 hT0
  have hn6 := hT.1
  have hkn : n ≤ k → n.toNat = k.toNat := fun z => by omega
  have hJn : n ≤ k → e_J f (max (n - 1) 0) n σ := fun z => by rw [show n = k by omega]; exact hJ
  refine g_iload_n rfl rfl ?_
  refine g_aload_n rfl rfl ?_
  refine x_geti (v := (μ.1 201 27)) rfl rfl (by decide) (Or.inl rfl) rfl ?_
  refine g_icmp_ge (tgt := 83) rfl (by decide) (fun h1 => ?_) (fun h1 => ?_)
  · refine g_aload_n rfl rfl ?_
    refine x_geti (v := (μ.1 201 57)) rfl rfl (by decide) (Or.inr (Or.inl rfl)) rfl ?_
    refine g_if_eq (tgt := 122) rfl (by decide) (fun h2 => ?_) (fun h2 => ?_)
    · refine x_return rfl rfl ?_
      have e9 : e_fin f n σ = σ := if_neg (by omega)
      exact ⟨rfl, by unfold e_all; rw [hkn (by omega), ← hσ, e9]; exact hE⟩
    · refine g_aload_n rfl rfl ?_
      refine g_aload_n rfl rfl ?_
      refine x_geti (v := (μ.1 201 27)) rfl rfl (by decide) (Or.inl rfl) rfl ?_
      refine g_cV (as := [tI (μ.1 201 27)]) ((by rw [hn6]; exact s_putMapM (t := n) hG hw hMc0 (m := max (n - 1) 0) (k := n) (by omega) (by omega) hE (hJn (by omega)))) rfl rfl mX12_putMap_ok rfl rfl rfl (by decide) rfl rfl rfl ?_
      rintro _ w6 ⟨rfl, hE6⟩ _
      have hp6 := e_pmk_l f σ
      have hl6 := e_pm_l (f := f) (t := n) (σ := σ)
      have hJ6 : e_J f (max (n - 1) 0) n (e_pm f n σ) := J_pm (hJn (by omega))
      obtain ⟨σ6, hq6⟩ : ∃ τ9, τ9 = e_pm f n σ := ⟨_, rfl⟩
      rw [← hq6] at hE6 hl6 hJ6
      obtain ⟨⟨a06, a16, a26, a46, a56, a66, a76, a86, a96, a106, a126, ak6, al6⟩, hB6, hS6, hF6, hG26⟩ := m_E_lin hE6
      have hn66 : w6.1 201 27 = n := by rw [hG26 27 (by omega), ← hG2 27 (by omega)]; exact hn6
      refine g_if_eq (tgt := 122) rfl (by decide) (fun h3 => ?_) (fun h3 => ?_)
      · refine x_return rfl rfl ?_
        have e9 : e_fin f n σ = σ6 := by unfold e_fin; rw [if_pos (by omega), e_pp_n (by omega)]; exact hq6.symm
        exact ⟨rfl, by unfold e_all; rw [hkn (by omega), ← hσ, e9]; exact hE6⟩
      · refine g_aload_n rfl rfl ?_
        refine g_iconst rfl ⟨by decide, by decide⟩ ?_
        refine g_aload_n rfl rfl ?_
        refine x_geti (v := (w6.1 201 56)) rfl rfl (by decide) (Or.inl rfl) rfl ?_
        refine g_iconst rfl ⟨by decide, by decide⟩ ?_
        refine g_bipush rfl ⟨by decide, by decide⟩ (by decide) ?_
        refine g_aload_n rfl rfl ?_
        refine x_geti (v := (w6.1 201 27)) rfl rfl (by decide) (Or.inl rfl) rfl ?_
        refine g_aload_n rfl rfl ?_
        refine x_geti (v := (w6.1 201 27)) rfl rfl (by decide) (Or.inl rfl) rfl ?_
        have hp7 : tp_k G mX12_put [tR (some 201), tI 4, tI (w6.1 201 56), tI 0, tI 10, tI (w6.1 201 27), tI (w6.1 201 27)] w6 (fun r μ' => r = some (tI (e_ok f σ6)) ∧ m_E μ0 (e_put f 4 (σ.1 0 4) 0 10 n n σ6) μ') := by
          rw [show w6.1 201 56 = σ.1 0 4 by omega, hn66]
          exact s_putM hG hw hMc0 (m := max (n - 1) 0) (k := n) (by omega) (by omega) hE6 hJ6
        refine g_cV (as := [tI 4, tI (w6.1 201 56), tI 0, tI 10, tI (w6.1 201 27), tI (w6.1 201 27)]) (hp7) rfl rfl mX12_put_ok rfl rfl rfl (by decide) rfl rfl rfl ?_
        rintro _ w7 ⟨rfl, hE7⟩ _
        refine g_popi rfl ?_
        refine x_return rfl rfl ?_
        have e9 : e_fin f n σ = e_put f 4 (σ.1 0 4) 0 10 n n σ6 := by unfold e_fin; rw [if_pos (by omega), e_pp_y (by omega), ← hq6]
        exact ⟨rfl, by unfold e_all; rw [hkn (by omega), ← hσ, e9]; exact hE7⟩
  · refine g_aload_n rfl rfl ?_
    refine g_iload_n rfl rfl ?_
    refine g_iload_n rfl rfl ?_
    refine g_iload_n rfl rfl ?_
    refine g_cV (as := [tI k, tI bt, tI dp]) (s_estep hG hw hMc0 hW hT0 hbt9 hdp4 h0 (by omega) hE hJ hL) rfl rfl mX12_encodesStep_ok rfl rfl rfl (by decide) rfl rfl rfl ?_
    rintro _ w1 ⟨rfl, hE1⟩ _
    refine x_iinc (z := k + 1) rfl rfl (by omega) ⟨by omega, by omega⟩ rfl rfl ?_
    refine g_goto (tgt := 62) rfl (by decide) ?_
    exact ih (by omega) _ _ (by omega) (by rw [e_it_s h0, ← hσ]) hE1
set_option maxHeartbeats 4000000 in
set_option maxRecDepth 100000 in
theorem s_encodesM {G : tp_G} {μ : tp_M} (hG : tp_Gf G = true) {ck : Int} {f : Int → Int} {bt dp : Int} (hw : tp_Cw f) (hMc : tp_Mc ck f μ) {n : Int} {A B Y H : Int → Int} {E D U T : Int} (hW : r_W f n A B Y H) (hT : m_T n A B Y E D U T μ) (hbt9 : 1 ≤ bt ∧ bt ≤ 9) (hdp4 : 0 ≤ dp ∧ dp ≤ 4) : tp_k G mX12_encodes [tR (some 201), tI bt, tI dp] μ (fun r μ' => r = none ∧ m_E μ (e_all f bt dp A B Y n) μ') := by
  refine tp_ok_of mX12_encodes_ok rfl (Nat.le_refl _) ?_
  have hn0 := hW.1
  refine g_aload_n rfl rfl ?_
  refine g_iconst rfl ⟨by decide, by decide⟩ ?_
  refine g_puti rfl rfl (by decide) rfl rfl ?_
  refine g_aload_n rfl rfl ?_
  refine g_iconst rfl ⟨by decide, by decide⟩ ?_
  refine g_puti rfl rfl (by decide) rfl rfl ?_
  refine g_aload_n rfl rfl ?_
  refine g_iconst rfl ⟨by decide, by decide⟩ ?_
  refine g_puti rfl rfl (by decide) rfl rfl ?_
  refine g_aload_n rfl rfl ?_
  refine g_iconst rfl ⟨by decide, by decide⟩ ?_
  refine g_puti rfl rfl (by decide) rfl rfl ?_
  refine g_aload_n rfl rfl ?_
  refine g_iconst rfl ⟨by decide, by decide⟩ ?_
  refine g_puti rfl rfl (by decide) rfl rfl ?_
  refine g_aload_n rfl rfl ?_
  refine g_iconst rfl ⟨by decide, by decide⟩ ?_
  refine g_puti rfl rfl (by decide) rfl rfl ?_
  refine g_aload_n rfl rfl ?_
  refine g_iconst rfl ⟨by decide, by decide⟩ ?_
  refine g_puti rfl rfl (by decide) rfl rfl ?_
  refine g_aload_n rfl rfl ?_
  refine g_iconst rfl ⟨by decide, by decide⟩ ?_
  refine g_puti rfl rfl (by decide) rfl rfl ?_
  refine g_aload_n rfl rfl ?_
  refine g_iconst rfl ⟨by decide, by decide⟩ ?_
  refine g_puti rfl rfl (by decide) rfl rfl ?_
  refine g_aload_n rfl rfl ?_
  refine g_iconst rfl ⟨by decide, by decide⟩ ?_
  refine g_puti rfl rfl (by decide) rfl rfl ?_
  refine g_aload_n rfl rfl ?_
  refine g_iconst rfl ⟨by decide, by decide⟩ ?_
  refine g_putz rfl rfl (by decide) rfl rfl (Or.inl rfl) ?_
  refine g_aload_n rfl rfl ?_
  refine g_iconst rfl ⟨by decide, by decide⟩ ?_
  refine g_putz rfl rfl (by decide) rfl rfl (Or.inl rfl) ?_
  refine g_iconst rfl ⟨by decide, by decide⟩ ?_
  refine g_istore_n rfl rfl rfl ?_
  refine l_encM (μ0 := μ) hG hw hMc hW hT hbt9 hdp4 0 (by omega) _ e_0 (by omega) rfl ⟨⟨rfl, rfl, rfl, rfl, rfl, rfl, rfl, rfl, rfl, rfl, rfl, fun z => absurd rfl z, fun z => by have z : (0 : Int) = 1 := z; omega⟩, fun i i0 i1 => by have i1 : i < 0 := i1; omega, fun i i0 i1 => by have i1 : i < 0 := i1; omega, fun c9 z1 z2 => by rw [tp_pi_ne (by omega), tp_pi_ne (by omega), tp_pi_ne (by omega), tp_pi_ne (by omega), tp_pi_ne (by omega), tp_pi_ne (by omega), tp_pi_ne (by omega), tp_pi_ne (by omega), tp_pi_ne (by omega), tp_pi_ne (by omega), tp_pi_ne (by omega), tp_pi_ne (by omega)], fun j9 z9 => by rw [tp_pi_no (by omega), tp_pi_no (by omega), tp_pi_no (by omega), tp_pi_no (by omega), tp_pi_no (by omega), tp_pi_no (by omega), tp_pi_no (by omega), tp_pi_no (by omega), tp_pi_no (by omega), tp_pi_no (by omega), tp_pi_no (by omega), tp_pi_no (by omega)]⟩
