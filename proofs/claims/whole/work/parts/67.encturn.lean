set_option maxHeartbeats 4000000 in
set_option maxRecDepth 100000 in
theorem l_shade {G : tp_G} (hG : tp_Gf G = true) {R : Int → Int} {a d z : Int} {w1 : tp_M} (hz1 : 0 ≤ z ∧ z ≤ 4) {Φ : Option tp_V → tp_M → Prop} (hΦ : ∀ (μ : tp_M), μ.1 201 46 = z → (∀ j, 0 ≤ j → j < z → μ.1 222 j = R (j + 1)) → (∀ c, c ≠ 222 → μ.1 c = w1.1 c) → Φ none μ) : ∀ k, k ≤ z → ∀ (μ : tp_M), 0 ≤ k → μ.1 201 46 = z → (∀ j, 0 ≤ j → j < k → μ.1 222 j = R (j + 1)) → (∀ j, k ≤ j → j < 6 → μ.1 222 j = R j) → (∀ c, c ≠ 222 → μ.1 c = w1.1 c) → tp_g G mX12_shades 40 [some (tR (some 201)), some (tI a), some (tI d), some (tI k)] [] μ Φ := by
  refine tp_ind _ ?_
  intro k hkN ih μ h0 hz hr1 hr2 hf
  refine g_iload_n rfl rfl ?_
  refine g_aload_n rfl rfl ?_
  refine x_geti (v := (μ.1 201 46)) rfl rfl (by decide) (Or.inl rfl) rfl ?_
  refine g_icmp_ge (tgt := 68) rfl (by decide) (fun h1 => ?_) (fun h1 => ?_)
  · refine x_return rfl rfl ?_
    exact hΦ _ hz (fun j j0 j1 => hr1 j j0 (by omega)) hf
  · refine g_aload_n rfl rfl ?_
    refine x_getF (r := 222) hG rfl rfl (by decide) (Or.inr ⟨_, rfl⟩) rfl ?_
    refine g_iload_n rfl rfl ?_
    refine g_aload_n rfl rfl ?_
    refine x_getF (r := 222) hG rfl rfl (by decide) (Or.inr ⟨_, rfl⟩) rfl ?_
    refine g_iload_n rfl rfl ?_
    refine g_iconst rfl ⟨by decide, by decide⟩ ?_
    refine x_iadd (z := k + 1) rfl (by omega) ⟨by omega, by omega⟩ ?_
    refine x_iald (v := (μ.1 222 (k + 1))) rfl rfl (by decide) (by omega) (by omega) rfl ?_
    refine g_iast rfl rfl (by decide) (by omega) (by omega) ?_
    refine x_iinc (z := k + 1) rfl rfl (by omega) ⟨by omega, by omega⟩ rfl rfl ?_
    refine g_goto (tgt := 40) rfl (by decide) ?_
    exact ih (by omega) _ (by omega) hz (fun j j0 j1 => by
      rw [tp_pi1]
      by_cases q : j = k
      · rw [if_pos ⟨rfl, q⟩, q]; exact hr2 (k + 1) (by omega) (by omega)
      · rw [if_neg (fun t => q t.2)]; exact hr1 j j0 (by omega)) (fun j j0 j1 => by
      rw [tp_pi1, if_neg (fun t => by have := t.2; omega)]; exact hr2 j (by omega) j1) (fun c9 z9 => by rw [tp_pi_ne z9]; exact hf c9 z9)
set_option maxHeartbeats 4000000 in
set_option maxRecDepth 100000 in
theorem s_shadesM {G : tp_G} {μ : tp_M} (hG : tp_Gf G = true) {f : Int → Int} {μ0 σ : tp_M} {m k : Int} (hE : m_E μ0 σ μ) (hJ : e_J f m k σ) {a d : Int} (hd : 0 ≤ d ∧ d ≤ 4) : tp_k G mX12_shades [tR (some 201), tI a, tI d] μ (fun r μ' => r = none ∧ m_E μ0 (e_psh a d σ) μ') := by
  refine tp_ok_of mX12_shades_ok rfl (Nat.le_refl _) ?_
  obtain ⟨⟨a0, a1, a2, a4, a5, a6, a7, a8, a9, a10, a12, ak, al⟩, hB, hS, hF, hG2⟩ := m_E_lin hE
  obtain ⟨j1, j2, j3, j4, j5, j6, j7, j8, j9⟩ := e_J_lin hJ
  refine g_aload_n rfl rfl ?_
  refine x_getF (r := 222) hG rfl rfl (by decide) (Or.inr ⟨_, rfl⟩) rfl ?_
  refine g_aload_n rfl rfl ?_
  refine x_geti (v := (μ.1 201 46)) rfl rfl (by decide) (Or.inl rfl) rfl ?_
  refine g_iload_n rfl rfl ?_
  refine g_iast rfl rfl (by decide) (by omega) (by omega) ?_
  refine g_aload_n rfl rfl ?_
  refine g_dupr rfl ?_
  refine x_geti (v := (μ.1 201 46)) rfl rfl (by decide) (Or.inl rfl) rfl ?_
  refine g_iconst rfl ⟨by decide, by decide⟩ ?_
  refine x_iadd (z := (μ.1 201 46) + 1) rfl (by omega) ⟨by omega, by omega⟩ ?_
  refine g_puti rfl rfl (by decide) rfl rfl ?_
  refine g_aload_n rfl rfl ?_
  refine x_geti (v := (μ.1 201 46) + 1) rfl rfl (by decide) (Or.inl rfl) rfl ?_
  refine g_iload_n rfl rfl ?_
  refine g_icmp_le (tgt := 68) rfl (by decide) (fun h1 => ?_) (fun h1 => ?_)
  · refine x_return rfl rfl ?_
    have e9 : e_psh a d σ = tp_pi (tp_pi σ 1 (σ.1 0 10) a) 0 10 (σ.1 0 10 + 1) := if_neg (by omega)
    rw [e9]
    exact ⟨rfl, ⟨⟨a0, a1, a2, a4, a5, a6, a7, a8, a9, (by show (μ.1 201 46) + 1 = (σ.1 0 10) + 1; first | (rw [a10]; done) | (simp only [a0, a1, a2, a4, a5, a6, a7, a8, a9, a10, a12]; done) | omega), a12, ak, al⟩, (fun i i0 i1 => hB i i0 i1), (fun i i0 i1 => by
        have i1 : i < σ.1 0 10 + 1 := i1
        show (if 222 = 222 ∧ i = μ.1 201 46 then a else μ.1 222 i) = (if 1 = 1 ∧ i = σ.1 0 10 then a else σ.1 1 i)
        rw [a10]
        by_cases q : i = σ.1 0 10
        · rw [if_pos ⟨rfl, q⟩, if_pos ⟨rfl, q⟩]
        · rw [if_neg (fun t => q t.2), if_neg (fun t => q t.2)]; exact hS i i0 (by omega)), (fun c9 z1 z2 => by rw [tp_pi_ne (by omega), tp_pi_ne (by omega)]; exact hF c9 z1 z2), (fun j9 z9 => by rw [tp_pi_no (by omega), tp_pi_no (by omega)]; exact hG2 j9 z9)⟩⟩
  · refine g_aload_n rfl rfl ?_
    refine g_dupr rfl ?_
    refine x_geti (v := (μ.1 201 46) + 1) rfl rfl (by decide) (Or.inl rfl) rfl ?_
    refine g_iconst rfl ⟨by decide, by decide⟩ ?_
    refine x_isub (z := (μ.1 201 46)) rfl (by omega) ⟨by omega, by omega⟩ ?_
    refine g_puti rfl rfl (by decide) rfl rfl ?_
    refine g_iconst rfl ⟨by decide, by decide⟩ ?_
    refine g_istore_n rfl rfl rfl ?_
    refine l_shade (R := fun j => if j = σ.1 0 10 then a else μ.1 222 j) (z := σ.1 0 10) (w1 := (tp_pi (tp_pi (tp_pi μ 222 (μ.1 201 46) a) 201 46 ((μ.1 201 46) + 1)) 201 46 (μ.1 201 46))) hG (by omega) (fun w2 hz2 hr2 hf2 => ?_) 0 (by omega) _ (by omega) (by show μ.1 201 46 = _; omega) (fun j j0 j1 => by omega) (fun j j0 j1 => ?_) (fun c9 z9 => rfl)
    · have e9 : e_psh a d σ = (fun c j => if c = 1 then (if j + 1 = σ.1 0 10 then a else σ.1 1 (j + 1)) else σ.1 c j, σ.2) := if_pos (by omega)
      rw [e9]
      refine ⟨rfl, ⟨((congrFun (hf2 201 (by omega)) 51).trans a0), ((congrFun (hf2 201 (by omega)) 52).trans a1), ((congrFun (hf2 201 (by omega)) 53).trans a2), ((congrFun (hf2 201 (by omega)) 56).trans a4), ((congrFun (hf2 201 (by omega)) 57).trans a5), ((congrFun (hf2 201 (by omega)) 58).trans a6), ((congrFun (hf2 201 (by omega)) 49).trans a7), ((congrFun (hf2 201 (by omega)) 50).trans a8), ((congrFun (hf2 201 (by omega)) 47).trans a9), (by show w2.1 201 46 = σ.1 0 10; omega), ((congrFun (hf2 201 (by omega)) 48).trans a12), (fun z => (congrFun (hf2 201 (by omega)) 54).trans (ak z)), (fun z => (congrFun (hf2 201 (by omega)) 55).trans (al z))⟩, fun i i0 i1 => ⟨(congrFun (hf2 216 (by omega)) i).trans (hB i i0 i1).1, (congrFun (hf2 217 (by omega)) i).trans (hB i i0 i1).2.1, (congrFun (hf2 218 (by omega)) i).trans (hB i i0 i1).2.2.1, (congrFun (hf2 220 (by omega)) i).trans (hB i i0 i1).2.2.2.1, (congrFun (hf2 221 (by omega)) i).trans (hB i i0 i1).2.2.2.2.1, (congrFun (hf2 219 (by omega)) i).trans (hB i i0 i1).2.2.2.2.2⟩, fun i i0 i1 => ?_, fun c9 z1 z2 => ?_, fun j9 z9 => ?_⟩
      · have i1 : i < σ.1 0 10 := i1
        show w2.1 222 i = (if i + 1 = σ.1 0 10 then a else σ.1 1 (i + 1))
        rw [hr2 i i0 i1]
        show (if i + 1 = σ.1 0 10 then a else μ.1 222 (i + 1)) = _
        by_cases q : i + 1 = σ.1 0 10
        · rw [if_pos q, if_pos q]
        · rw [if_neg q, if_neg q]; exact hS (i + 1) (by omega) (by omega)
      · rw [hf2 c9 (by omega), tp_pi_ne (by omega), tp_pi_ne (by omega), tp_pi_ne (by omega)]; exact hF c9 z1 z2
      · rw [hf2 201 (by omega), tp_pi_no (by omega), tp_pi_no (by omega), tp_pi_no (by omega)]; exact hG2 j9 z9
    · show (if 222 = 222 ∧ j = μ.1 201 46 then a else μ.1 222 j) = if j = σ.1 0 10 then a else μ.1 222 j
      rw [a10]
      by_cases q : j = σ.1 0 10
      · rw [if_pos ⟨rfl, q⟩, if_pos q]
      · rw [if_neg (fun t => q t.2), if_neg q]
set_option maxHeartbeats 4000000 in
set_option maxRecDepth 100000 in
theorem s_beginsM {G : tp_G} {μ : tp_M} (hG : tp_Gf G = true) {ck : Int} {f : Int → Int} {μ0 σ : tp_M} {m k : Int} (hw : tp_Cw f) (hMc0 : tp_Mc ck f μ0) (hm : 0 ≤ m ∧ m ≤ 200) (hk : 0 ≤ k ∧ k ≤ 200) (hE : m_E μ0 σ μ) (hJ : e_J f m k σ) {n : Int} {A B Y H : Int → Int} {E D U T : Int} (hW : r_W f n A B Y H) (hT0 : m_T n A B Y E D U T μ0) (hkn : k < n) (htr : q_tr f (A k) = 1) : tp_k G mX12_begins [tR (some 201), tI k] μ (fun r μ' => ∃ v, r = some (tI v) ∧ (v = 1 ↔ (e_trn f (A k) k σ).1 0 5 = 1) ∧ m_E μ0 (e_trn f (A k) k σ) μ') := by
  refine tp_ok_of mX12_begins_ok rfl (Nat.le_refl _) ?_
  have hw0 := hw.1
  have hrl := hw.2.2
  obtain ⟨⟨a0, a1, a2, a4, a5, a6, a7, a8, a9, a10, a12, ak, al⟩, hB, hS, hF, hG2⟩ := m_E_lin hE
  obtain ⟨j1, j2, j3, j4, j5, j6, j7, j8, j9⟩ := e_J_lin hJ
  have hMc : tp_Mc ck f μ := m_E_Mc hF hG2 hMc0
  have hT : m_T n A B Y E D U T μ := m_E_T hF hG2 hT0
  have hn0 := hW.1
  have hak := (hW.2.2.2 k hk.1 hkn).1.1
  have hbk : q_H (B k = -1 ∨ (0 ≤ B k ∧ B k ≤ 40)) := (hW.2.2.2 k hk.1 hkn).1.2.1
  have hyk : q_H (Y k = 0 ∨ Y k = 1) := (hW.2.2.2 k hk.1 hkn).1.2.2.1
  have hyl : 0 ≤ Y k ∧ Y k ≤ 1 := by rcases hyk with q | q <;> omega
  have eA : μ.1 212 k = A k := hT.2.1 k hk.1 hkn
  have eB : μ.1 213 k = B k := hT.2.2.1 k hk.1 hkn
  have eY : μ.1 214 k = Y k := hT.2.2.2.1 k hk.1 hkn
  refine g_aload_n rfl rfl ?_
  refine x_geti (v := (μ.1 201 57)) rfl rfl (by decide) (Or.inr (Or.inl rfl)) rfl ?_
  refine g_if_eq (tgt := 21) rfl (by decide) (fun h1 => ?_) (fun h1 => ?_)
  · refine g_aload_n rfl rfl ?_
    refine x_geti (v := (μ.1 201 57)) rfl rfl (by decide) (Or.inr (Or.inl rfl)) rfl ?_
    refine g_if_eq (tgt := 35) rfl (by decide) (fun _ => ?_) (fun hx => absurd hx (by omega))
    refine g_iconst rfl ⟨by decide, by decide⟩ ?_
    refine g_istore_n rfl rfl rfl ?_
    refine g_aload_n rfl rfl ?_
    refine g_iload_n rfl rfl ?_
    refine g_cV (as := [tI k]) (s_putMapM hG hw hMc0 hm hk hE hJ) rfl rfl mX12_putMap_ok rfl rfl rfl (by decide) rfl rfl rfl ?_
    rintro _ w1 ⟨rfl, hEt⟩ _
    have hpkt := e_pmk_l f σ
    have hJt : e_J f m k (e_pm f k σ) := J_pm hJ
    have hlt := e_pm_l (f := f) (t := k) (σ := σ)
    have hkqt : q_H (e_pmk f σ = 1 → (e_pm f k σ).1 0 5 = σ.1 0 5 ∧ (e_pm f k σ).1 0 6 = σ.1 0 6 ∧ (e_pm f k σ).1 0 4 = σ.1 0 4 ∧ (e_pm f k σ).1 0 3 = σ.1 0 3 ∧ (e_pm f k σ).1 0 10 = σ.1 0 10) := e_pm_kp (f := f) (t := k) (σ := σ)
    have hoft : q_H (e_pmk f σ = 0 → (e_pm f k σ).1 0 5 = 0) := fun z => e_pm_off z
    obtain ⟨τ, hnt⟩ : ∃ τ9, τ9 = e_pm f k σ := ⟨_, rfl⟩
    rw [← hnt] at hEt hJt hlt hkqt hoft
    obtain ⟨⟨a0t, a1t, a2t, a4t, a5t, a6t, a7t, a8t, a9t, a10t, a12t, akt, alt⟩, hBt, hSt, hFt, hG2t⟩ := m_E_lin hEt
    obtain ⟨j1t, j2t, j3t, j4t, j5t, j6t, j7t, j8t, j9t⟩ := e_J_lin hJt
    have eA1 : w1.1 212 k = A k := (m_E_T hFt hG2t hT0).2.1 k hk.1 hkn
    refine g_if_eq (tgt := 64) rfl (by decide) (fun h2 => ?_) (fun h2 => ?_)
    · refine g_iconst rfl ⟨by decide, by decide⟩ ?_
      refine x_zreturn rfl rfl (Or.inl rfl) ?_
      have e9 : e_trn f (A k) k σ = τ := by
        unfold e_trn
        rw [if_pos htr, if_neg (fun z => by omega), if_neg (by rw [e_ppk_0 (by omega)]; omega), e_pp_n (by omega)]; exact hnt.symm
      rw [e9]
      exact ⟨_, rfl, ⟨fun z => by omega, fun z => by have := hoft (by omega); omega⟩, hEt⟩
    · refine g_aload_n rfl rfl ?_
      refine g_iconst rfl ⟨by decide, by decide⟩ ?_
      refine g_aload_n rfl rfl ?_
      refine x_getF (r := 212) hG rfl rfl (by decide) (Or.inr ⟨_, rfl⟩) rfl ?_
      refine g_iload_n rfl rfl ?_
      refine x_iald (v := (w1.1 212 k)) rfl rfl (by decide) (by omega) (by omega) rfl ?_
      refine g_iload_n rfl rfl ?_
      refine g_bipush rfl ⟨by decide, by decide⟩ (by decide) ?_
      refine g_iload_n rfl rfl ?_
      refine g_iload_n rfl rfl ?_
      have hpu : tp_k G mX12_put [tR (some 201), tI (0 : Int), tI (w1.1 212 k), tI (0 : Int), tI (16 : Int), tI k, tI k] w1 (fun r μ' => r = some (tI (e_ok f τ)) ∧ m_E μ0 (e_put f 0 (A k) (e_cn σ) 16 k k τ) μ') := by
        rw [show (w1.1 212 k) = (A k) from eA1, show (0 : Int) = (e_cn σ) from (by unfold e_cn; first | (rw [if_pos (by omega)]; omega) | (rw [if_neg (by omega)]))]
        exact s_putM hG hw hMc0 hm hk hEt hJt
      refine g_cV (as := [tI 0, tI (w1.1 212 k), tI 0, tI 16, tI k, tI k]) (hpu) rfl rfl mX12_put_ok rfl rfl rfl (by decide) rfl rfl rfl ?_
      rintro _ w2 ⟨rfl, hEu⟩ _
      have hoku := e_ok_l f τ
      have hkuu : q_H (e_ok f τ = 0 → (e_put f 0 (A k) (e_cn σ) 16 k k τ).1 0 5 = 0) := fun z => (e_ok_off z).1
      obtain ⟨υ, hnu⟩ : ∃ τ9, τ9 = e_put f 0 (A k) (e_cn σ) 16 k k τ := ⟨_, rfl⟩
      rw [← hnu] at hEu hkuu
      obtain ⟨⟨a0u, a1u, a2u, a4u, a5u, a6u, a7u, a8u, a9u, a10u, a12u, aku, alu⟩, hBu, hSu, hFu, hG2u⟩ := m_E_lin hEu
      refine g_if_ne (tgt := 66) rfl (by decide) (fun h3 => ?_) (fun h3 => ?_)
      · refine g_aload_n rfl rfl ?_
        refine g_iconst rfl ⟨by decide, by decide⟩ ?_
        refine g_putz rfl rfl (by decide) rfl rfl (Or.inr rfl) ?_
        refine g_aload_n rfl rfl ?_
        refine g_iconst rfl ⟨by decide, by decide⟩ ?_
        refine g_puti rfl rfl (by decide) rfl rfl ?_
        refine g_aload_n rfl rfl ?_
        refine g_aload_n rfl rfl ?_
        refine x_getF (r := 212) hG rfl rfl (by decide) (Or.inr ⟨_, rfl⟩) rfl ?_
        refine g_iload_n rfl rfl ?_
        refine x_iald (v := (w2.1 212 k)) rfl rfl (by decide) (by omega) (by omega) rfl ?_
        refine g_puti rfl rfl (by decide) rfl rfl ?_
        refine g_aload_n rfl rfl ?_
        refine g_iconst rfl ⟨by decide, by decide⟩ ?_
        refine g_puti rfl rfl (by decide) rfl rfl ?_
        refine g_iconst rfl ⟨by decide, by decide⟩ ?_
        refine x_zreturn rfl rfl (Or.inr rfl) ?_
        have e9 : e_trn f (A k) k σ = e_on (A k) υ := by
          unfold e_trn
          rw [if_pos htr, if_neg (fun z => by omega), if_pos (by rw [e_ppk_1 (by omega), ← hnt]; omega), e_pp_y (by omega), ← hnt, ← hnu]
        rw [e9]
        have eA2 : w2.1 212 k = A k := (m_E_T hFu hG2u hT0).2.1 k hk.1 hkn
        exact ⟨_, rfl, ⟨fun _ => rfl, fun _ => rfl⟩, ⟨⟨a0u, a1u, a2u, rfl, rfl, a6u, a7u, a8u, a9u, rfl, a12u, aku, (fun _ => by show (w2.1 212 k) = (A k); first | rfl | omega)⟩, (fun i i0 i1 => hBu i i0 i1), (fun i i0 i1 => by have i1 : i < 0 := i1; omega), (fun c9 z1 z2 => by rw [tp_pi_ne (by omega), tp_pi_ne (by omega), tp_pi_ne (by omega), tp_pi_ne (by omega)]; exact hFu c9 z1 z2), (fun j9 z9 => by rw [tp_pi_no (by omega), tp_pi_no (by omega), tp_pi_no (by omega), tp_pi_no (by omega)]; exact hG2u j9 z9)⟩⟩
      · refine g_iconst rfl ⟨by decide, by decide⟩ ?_
        refine x_zreturn rfl rfl (Or.inl rfl) ?_
        have e9 : e_trn f (A k) k σ = υ := by
          unfold e_trn
          rw [if_pos htr, if_neg (fun z => by omega), if_neg (by rw [e_ppk_1 (by omega), ← hnt]; omega), e_pp_y (by omega), ← hnt]; exact hnu.symm
        rw [e9]
        exact ⟨_, rfl, ⟨fun z => by omega, fun z => by have := hkuu (by omega); omega⟩, hEu⟩
  · refine g_aload_n rfl rfl ?_
    refine x_geti (v := (μ.1 201 56)) rfl rfl (by decide) (Or.inl rfl) rfl ?_
    refine g_aload_n rfl rfl ?_
    refine g_iconst rfl ⟨by decide, by decide⟩ ?_
    refine g_cV (as := [tI 3]) (s_of hG hMc (by omega) (by omega)) rfl rfl mX12_of_ok rfl rfl rfl (by decide) rfl rfl rfl ?_
    rintro _ w9 ⟨rfl, hw9⟩ _
    have hw9 := hw9.symm
    subst hw9
    refine g_icmp_ge (tgt := 21) rfl (by decide) (fun h4 => ?_) (fun h4 => ?_)
    · refine g_aload_n rfl rfl ?_
      refine x_geti (v := (μ.1 201 57)) rfl rfl (by decide) (Or.inr (Or.inl rfl)) rfl ?_
      refine g_if_eq (tgt := 35) rfl (by decide) (fun hx => absurd hx (by omega)) (fun _ => ?_)
      refine g_aload_n rfl rfl ?_
      refine x_geti (v := (μ.1 201 56)) rfl rfl (by decide) (Or.inl rfl) rfl ?_
      refine g_goto (tgt := 36) rfl (by decide) ?_
      refine g_istore_n rfl rfl rfl ?_
      refine g_aload_n rfl rfl ?_
      refine g_iload_n rfl rfl ?_
      refine g_cV (as := [tI k]) (s_putMapM hG hw hMc0 hm hk hE hJ) rfl rfl mX12_putMap_ok rfl rfl rfl (by decide) rfl rfl rfl ?_
      rintro _ w1 ⟨rfl, hEt⟩ _
      have hpkt := e_pmk_l f σ
      have hJt : e_J f m k (e_pm f k σ) := J_pm hJ
      have hlt := e_pm_l (f := f) (t := k) (σ := σ)
      have hkqt : q_H (e_pmk f σ = 1 → (e_pm f k σ).1 0 5 = σ.1 0 5 ∧ (e_pm f k σ).1 0 6 = σ.1 0 6 ∧ (e_pm f k σ).1 0 4 = σ.1 0 4 ∧ (e_pm f k σ).1 0 3 = σ.1 0 3 ∧ (e_pm f k σ).1 0 10 = σ.1 0 10) := e_pm_kp (f := f) (t := k) (σ := σ)
      have hoft : q_H (e_pmk f σ = 0 → (e_pm f k σ).1 0 5 = 0) := fun z => e_pm_off z
      obtain ⟨τ, hnt⟩ : ∃ τ9, τ9 = e_pm f k σ := ⟨_, rfl⟩
      rw [← hnt] at hEt hJt hlt hkqt hoft
      obtain ⟨⟨a0t, a1t, a2t, a4t, a5t, a6t, a7t, a8t, a9t, a10t, a12t, akt, alt⟩, hBt, hSt, hFt, hG2t⟩ := m_E_lin hEt
      obtain ⟨j1t, j2t, j3t, j4t, j5t, j6t, j7t, j8t, j9t⟩ := e_J_lin hJt
      have eA1 : w1.1 212 k = A k := (m_E_T hFt hG2t hT0).2.1 k hk.1 hkn
      refine g_if_eq (tgt := 64) rfl (by decide) (fun h5 => ?_) (fun h5 => ?_)
      · refine g_iconst rfl ⟨by decide, by decide⟩ ?_
        refine x_zreturn rfl rfl (Or.inl rfl) ?_
        have e9 : e_trn f (A k) k σ = τ := by
          unfold e_trn
          rw [if_pos htr, if_neg (fun z => by omega), if_neg (by rw [e_ppk_0 (by omega)]; omega), e_pp_n (by omega)]; exact hnt.symm
        rw [e9]
        exact ⟨_, rfl, ⟨fun z => by omega, fun z => by have := hoft (by omega); omega⟩, hEt⟩
      · refine g_aload_n rfl rfl ?_
        refine g_iconst rfl ⟨by decide, by decide⟩ ?_
        refine g_aload_n rfl rfl ?_
        refine x_getF (r := 212) hG rfl rfl (by decide) (Or.inr ⟨_, rfl⟩) rfl ?_
        refine g_iload_n rfl rfl ?_
        refine x_iald (v := (w1.1 212 k)) rfl rfl (by decide) (by omega) (by omega) rfl ?_
        refine g_iload_n rfl rfl ?_
        refine g_bipush rfl ⟨by decide, by decide⟩ (by decide) ?_
        refine g_iload_n rfl rfl ?_
        refine g_iload_n rfl rfl ?_
        have hpu : tp_k G mX12_put [tR (some 201), tI (0 : Int), tI (w1.1 212 k), tI (μ.1 201 56), tI (16 : Int), tI k, tI k] w1 (fun r μ' => r = some (tI (e_ok f τ)) ∧ m_E μ0 (e_put f 0 (A k) (e_cn σ) 16 k k τ) μ') := by
          rw [show (w1.1 212 k) = (A k) from eA1, show (μ.1 201 56) = (e_cn σ) from (by unfold e_cn; first | (rw [if_pos (by omega)]; omega) | (rw [if_neg (by omega)]))]
          exact s_putM hG hw hMc0 hm hk hEt hJt
        refine g_cV (as := [tI 0, tI (w1.1 212 k), tI (μ.1 201 56), tI 16, tI k, tI k]) (hpu) rfl rfl mX12_put_ok rfl rfl rfl (by decide) rfl rfl rfl ?_
        rintro _ w2 ⟨rfl, hEu⟩ _
        have hoku := e_ok_l f τ
        have hkuu : q_H (e_ok f τ = 0 → (e_put f 0 (A k) (e_cn σ) 16 k k τ).1 0 5 = 0) := fun z => (e_ok_off z).1
        obtain ⟨υ, hnu⟩ : ∃ τ9, τ9 = e_put f 0 (A k) (e_cn σ) 16 k k τ := ⟨_, rfl⟩
        rw [← hnu] at hEu hkuu
        obtain ⟨⟨a0u, a1u, a2u, a4u, a5u, a6u, a7u, a8u, a9u, a10u, a12u, aku, alu⟩, hBu, hSu, hFu, hG2u⟩ := m_E_lin hEu
        refine g_if_ne (tgt := 66) rfl (by decide) (fun h6 => ?_) (fun h6 => ?_)
        · refine g_aload_n rfl rfl ?_
          refine g_iconst rfl ⟨by decide, by decide⟩ ?_
          refine g_putz rfl rfl (by decide) rfl rfl (Or.inr rfl) ?_
          refine g_aload_n rfl rfl ?_
          refine g_iconst rfl ⟨by decide, by decide⟩ ?_
          refine g_puti rfl rfl (by decide) rfl rfl ?_
          refine g_aload_n rfl rfl ?_
          refine g_aload_n rfl rfl ?_
          refine x_getF (r := 212) hG rfl rfl (by decide) (Or.inr ⟨_, rfl⟩) rfl ?_
          refine g_iload_n rfl rfl ?_
          refine x_iald (v := (w2.1 212 k)) rfl rfl (by decide) (by omega) (by omega) rfl ?_
          refine g_puti rfl rfl (by decide) rfl rfl ?_
          refine g_aload_n rfl rfl ?_
          refine g_iconst rfl ⟨by decide, by decide⟩ ?_
          refine g_puti rfl rfl (by decide) rfl rfl ?_
          refine g_iconst rfl ⟨by decide, by decide⟩ ?_
          refine x_zreturn rfl rfl (Or.inr rfl) ?_
          have e9 : e_trn f (A k) k σ = e_on (A k) υ := by
            unfold e_trn
            rw [if_pos htr, if_neg (fun z => by omega), if_pos (by rw [e_ppk_1 (by omega), ← hnt]; omega), e_pp_y (by omega), ← hnt, ← hnu]
          rw [e9]
          have eA2 : w2.1 212 k = A k := (m_E_T hFu hG2u hT0).2.1 k hk.1 hkn
          exact ⟨_, rfl, ⟨fun _ => rfl, fun _ => rfl⟩, ⟨⟨a0u, a1u, a2u, rfl, rfl, a6u, a7u, a8u, a9u, rfl, a12u, aku, (fun _ => by show (w2.1 212 k) = (A k); first | rfl | omega)⟩, (fun i i0 i1 => hBu i i0 i1), (fun i i0 i1 => by have i1 : i < 0 := i1; omega), (fun c9 z1 z2 => by rw [tp_pi_ne (by omega), tp_pi_ne (by omega), tp_pi_ne (by omega), tp_pi_ne (by omega)]; exact hFu c9 z1 z2), (fun j9 z9 => by rw [tp_pi_no (by omega), tp_pi_no (by omega), tp_pi_no (by omega), tp_pi_no (by omega)]; exact hG2u j9 z9)⟩⟩
        · refine g_iconst rfl ⟨by decide, by decide⟩ ?_
          refine x_zreturn rfl rfl (Or.inl rfl) ?_
          have e9 : e_trn f (A k) k σ = υ := by
            unfold e_trn
            rw [if_pos htr, if_neg (fun z => by omega), if_neg (by rw [e_ppk_1 (by omega), ← hnt]; omega), e_pp_y (by omega), ← hnt]; exact hnu.symm
          rw [e9]
          exact ⟨_, rfl, ⟨fun z => by omega, fun z => by have := hkuu (by omega); omega⟩, hEu⟩
    · refine g_iconst rfl ⟨by decide, by decide⟩ ?_
      refine x_zreturn rfl rfl (Or.inr rfl) ?_
      have e9 : e_trn f (A k) k σ = σ := by
        unfold e_trn
        rw [if_pos htr, if_pos ⟨by omega, by omega⟩]
      rw [e9]
      exact ⟨_, rfl, ⟨fun _ => by omega, fun _ => rfl⟩, hE⟩
set_option maxHeartbeats 4000000 in
set_option maxRecDepth 100000 in
theorem s_stopsM {G : tp_G} {μ : tp_M} (hG : tp_Gf G = true) {ck : Int} {f : Int → Int} {μ0 σ : tp_M} {m k : Int} (hw : tp_Cw f) (hMc0 : tp_Mc ck f μ0) (hm : 0 ≤ m ∧ m ≤ 200) (hk : 0 ≤ k ∧ k ≤ 200) (hE : m_E μ0 σ μ) (hJ : e_J f m k σ) {n : Int} {A B Y H : Int → Int} {E D U T : Int} (hW : r_W f n A B Y H) (hT0 : m_T n A B Y E D U T μ0) (hkn : k < n) (htr : q_tr f (A k) = 0) : tp_k G mX12_stopsTracing [tR (some 201), tI k] μ (fun r μ' => ∃ v, r = some (tI v) ∧ (e_trn f (A k) k σ).1 0 5 = 0 ∧ m_E μ0 (e_trn f (A k) k σ) μ') := by
  refine tp_ok_of mX12_stopsTracing_ok rfl (Nat.le_refl _) ?_
  have hw0 := hw.1
  have hrl := hw.2.2
  obtain ⟨⟨a0, a1, a2, a4, a5, a6, a7, a8, a9, a10, a12, ak, al⟩, hB, hS, hF, hG2⟩ := m_E_lin hE
  obtain ⟨j1, j2, j3, j4, j5, j6, j7, j8, j9⟩ := e_J_lin hJ
  have hMc : tp_Mc ck f μ := m_E_Mc hF hG2 hMc0
  have hT : m_T n A B Y E D U T μ := m_E_T hF hG2 hT0
  have hn0 := hW.1
  have hak := (hW.2.2.2 k hk.1 hkn).1.1
  have hbk : q_H (B k = -1 ∨ (0 ≤ B k ∧ B k ≤ 40)) := (hW.2.2.2 k hk.1 hkn).1.2.1
  have hyk : q_H (Y k = 0 ∨ Y k = 1) := (hW.2.2.2 k hk.1 hkn).1.2.2.1
  have hyl : 0 ≤ Y k ∧ Y k ≤ 1 := by rcases hyk with q | q <;> omega
  have eA : μ.1 212 k = A k := hT.2.1 k hk.1 hkn
  have eB : μ.1 213 k = B k := hT.2.2.1 k hk.1 hkn
  have eY : μ.1 214 k = Y k := hT.2.2.2.1 k hk.1 hkn
  refine g_aload_n rfl rfl ?_
  refine x_geti (v := (μ.1 201 57)) rfl rfl (by decide) (Or.inr (Or.inl rfl)) rfl ?_
  refine g_if_ne (tgt := 9) rfl (by decide) (fun h1 => ?_) (fun h1 => ?_)
  · refine g_aload_n rfl rfl ?_
    refine g_iload_n rfl rfl ?_
    refine g_cV (as := [tI k]) (s_putMapM hG hw hMc0 hm hk hE hJ) rfl rfl mX12_putMap_ok rfl rfl rfl (by decide) rfl rfl rfl ?_
    rintro _ w1 ⟨rfl, hEt⟩ _
    have hpkt := e_pmk_l f σ
    have hJt : e_J f m k (e_pm f k σ) := J_pm hJ
    have hlt := e_pm_l (f := f) (t := k) (σ := σ)
    have hkqt : q_H (e_pmk f σ = 1 → (e_pm f k σ).1 0 5 = σ.1 0 5 ∧ (e_pm f k σ).1 0 6 = σ.1 0 6 ∧ (e_pm f k σ).1 0 4 = σ.1 0 4 ∧ (e_pm f k σ).1 0 3 = σ.1 0 3 ∧ (e_pm f k σ).1 0 10 = σ.1 0 10) := e_pm_kp (f := f) (t := k) (σ := σ)
    have hoft : q_H (e_pmk f σ = 0 → (e_pm f k σ).1 0 5 = 0) := fun z => e_pm_off z
    obtain ⟨τ, hnt⟩ : ∃ τ9, τ9 = e_pm f k σ := ⟨_, rfl⟩
    rw [← hnt] at hEt hJt hlt hkqt hoft
    obtain ⟨⟨a0t, a1t, a2t, a4t, a5t, a6t, a7t, a8t, a9t, a10t, a12t, akt, alt⟩, hBt, hSt, hFt, hG2t⟩ := m_E_lin hEt
    obtain ⟨j1t, j2t, j3t, j4t, j5t, j6t, j7t, j8t, j9t⟩ := e_J_lin hJt
    have eA1 : w1.1 212 k = A k := (m_E_T hFt hG2t hT0).2.1 k hk.1 hkn
    refine g_if_eq (tgt := 34) rfl (by decide) (fun h2 => ?_) (fun h2 => ?_)
    · refine g_iconst rfl ⟨by decide, by decide⟩ ?_
      refine x_zreturn rfl rfl (Or.inl rfl) ?_
      have e9 : e_trn f (A k) k σ = τ := by
        unfold e_trn
        rw [if_neg (by omega), if_pos (by omega), if_neg (by rw [e_ppk_0 (by omega)]; omega), e_pp_n (by omega)]; exact hnt.symm
      rw [e9]
      exact ⟨_, rfl, hoft (by omega), hEt⟩
    · refine g_aload_n rfl rfl ?_
      refine g_iconst rfl ⟨by decide, by decide⟩ ?_
      refine g_aload_n rfl rfl ?_
      refine x_geti (v := (w1.1 201 56)) rfl rfl (by decide) (Or.inl rfl) rfl ?_
      refine g_iconst rfl ⟨by decide, by decide⟩ ?_
      refine g_bipush rfl ⟨by decide, by decide⟩ (by decide) ?_
      refine g_iload_n rfl rfl ?_
      refine g_iload_n rfl rfl ?_
      have hpu : tp_k G mX12_put [tR (some 201), tI (3 : Int), tI (w1.1 201 56), tI (0 : Int), tI (10 : Int), tI k, tI k] w1 (fun r μ' => r = some (tI (e_ok f τ)) ∧ m_E μ0 (e_put f 3 (σ.1 0 4) 0 10 k k τ) μ') := by
        rw [show (w1.1 201 56) = (σ.1 0 4) from (by omega), show (0 : Int) = 0 from rfl]
        exact s_putM hG hw hMc0 hm hk hEt hJt
      refine g_cV (as := [tI 3, tI (w1.1 201 56), tI 0, tI 10, tI k, tI k]) (hpu) rfl rfl mX12_put_ok rfl rfl rfl (by decide) rfl rfl rfl ?_
      rintro _ w2 ⟨rfl, hEu⟩ _
      have hoku := e_ok_l f τ
      have hkuu : q_H (e_ok f τ = 0 → (e_put f 3 (σ.1 0 4) 0 10 k k τ).1 0 5 = 0) := fun z => (e_ok_off z).1
      obtain ⟨υ, hnu⟩ : ∃ τ9, τ9 = e_put f 3 (σ.1 0 4) 0 10 k k τ := ⟨_, rfl⟩
      rw [← hnu] at hEu hkuu
      obtain ⟨⟨a0u, a1u, a2u, a4u, a5u, a6u, a7u, a8u, a9u, a10u, a12u, aku, alu⟩, hBu, hSu, hFu, hG2u⟩ := m_E_lin hEu
      refine g_if_ne (tgt := 36) rfl (by decide) (fun h3 => ?_) (fun h3 => ?_)
      · refine g_aload_n rfl rfl ?_
        refine g_iconst rfl ⟨by decide, by decide⟩ ?_
        refine g_putz rfl rfl (by decide) rfl rfl (Or.inl rfl) ?_
        refine g_iconst rfl ⟨by decide, by decide⟩ ?_
        refine x_zreturn rfl rfl (Or.inr rfl) ?_
        have e9 : e_trn f (A k) k σ = tp_pi υ 0 5 0 := by
          unfold e_trn
          rw [if_neg (by omega), if_pos (by omega), if_pos (by rw [e_ppk_1 (by omega), ← hnt]; omega), e_pp_y (by omega), ← hnt, ← hnu]
        rw [e9]
        exact ⟨_, rfl, rfl, ⟨⟨a0u, a1u, a2u, a4u, rfl, a6u, a7u, a8u, a9u, a10u, a12u, aku, (fun z => by have z : (0 : Int) = 1 := z; omega)⟩, (fun i i0 i1 => hBu i i0 i1), (fun i i0 i1 => hSu i i0 i1), (fun c9 z1 z2 => by rw [tp_pi_ne (by omega)]; exact hFu c9 z1 z2), (fun j9 z9 => by rw [tp_pi_no (by omega)]; exact hG2u j9 z9)⟩⟩
      · refine g_iconst rfl ⟨by decide, by decide⟩ ?_
        refine x_zreturn rfl rfl (Or.inl rfl) ?_
        have e9 : e_trn f (A k) k σ = υ := by
          unfold e_trn
          rw [if_neg (by omega), if_pos (by omega), if_neg (by rw [e_ppk_1 (by omega), ← hnt]; omega), e_pp_y (by omega), ← hnt]; exact hnu.symm
        rw [e9]
        exact ⟨_, rfl, hkuu (by omega), hEu⟩
  · refine g_iconst rfl ⟨by decide, by decide⟩ ?_
    refine x_zreturn rfl rfl (Or.inr rfl) ?_
    have e9 : e_trn f (A k) k σ = σ := by
      unfold e_trn
      rw [if_neg (by omega), if_neg (by omega)]
    rw [e9]
    exact ⟨_, rfl, by omega, hE⟩
