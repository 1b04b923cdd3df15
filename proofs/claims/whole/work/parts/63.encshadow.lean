set_option maxHeartbeats 4000000 in
set_option maxRecDepth 100000 in
theorem l_push {G : tp_G} (hG : tp_Gf G = true) {R : Int → Int} {a d z : Int} {w1 : tp_M} (hz1 : 1 ≤ z ∧ z ≤ 5) {Φ : Option tp_V → tp_M → Prop} (hΦ : ∀ (μ : tp_M) (k : Int), μ.1 68 1 = z → (∀ j, 0 ≤ j → j < z - 1 → μ.1 69 j = R (j + 1)) → (∀ c, c ≠ 69 → μ.1 c = w1.1 c) → μ.2 = w1.2 → tp_g G mX8_push 85 [some (tR (some 68)), some (tI a), some (tI d), some (tI k)] [] μ Φ) : ∀ k, k ≤ z → ∀ (μ : tp_M), 1 ≤ k → μ.1 68 1 = z → (∀ j, 0 ≤ j → j < k - 1 → μ.1 69 j = R (j + 1)) → (∀ j, k - 1 ≤ j → j < 5 → μ.1 69 j = R j) → (∀ c, c ≠ 69 → μ.1 c = w1.1 c) → μ.2 = w1.2 → tp_g G mX8_push 52 [some (tR (some 68)), some (tI a), some (tI d), some (tI k)] [] μ Φ := by
  refine tp_ind _ ?_
  intro k hkN ih μ h0 hz hr1 hr2 hf hg
  refine g_iload_n rfl rfl ?_
  refine g_aload_n rfl rfl ?_
  refine x_geti (v := (μ.1 68 1)) rfl rfl (by decide) (Or.inl rfl) rfl ?_
  refine g_icmp_ge (tgt := 85) rfl (by decide) (fun h1 => ?_) (fun h1 => ?_)
  · exact hΦ _ _ hz (fun j j0 j1 => hr1 j j0 (by omega)) hf hg
  · refine g_iload_n rfl rfl ?_
    refine g_iconst rfl ⟨by decide, by decide⟩ ?_
    refine g_icmp_ge (tgt := 85) rfl (by decide) (fun hx => absurd hx (by omega)) (fun _ => ?_)
    refine g_aload_n rfl rfl ?_
    refine x_getF (r := 69) hG rfl rfl (by decide) (Or.inr ⟨_, rfl⟩) rfl ?_
    refine g_iload_n rfl rfl ?_
    refine g_iconst rfl ⟨by decide, by decide⟩ ?_
    refine x_isub (z := k - 1) rfl (by omega) ⟨by omega, by omega⟩ ?_
    refine g_aload_n rfl rfl ?_
    refine x_getF (r := 69) hG rfl rfl (by decide) (Or.inr ⟨_, rfl⟩) rfl ?_
    refine g_iload_n rfl rfl ?_
    refine x_iald (v := (μ.1 69 k)) rfl rfl (by decide) (by omega) (by omega) rfl ?_
    refine g_iast rfl rfl (by decide) (by omega) (by omega) ?_
    refine x_iinc (z := k + 1) rfl rfl (by omega) ⟨by omega, by omega⟩ rfl rfl ?_
    refine g_goto (tgt := 52) rfl (by decide) ?_
    exact ih (by omega) _ (by omega) hz (fun j j0 j1 => by
      rw [tp_pi1]
      by_cases q : j = k - 1
      · rw [if_pos ⟨rfl, q⟩, q]; rw [hr2 k (by omega) (by omega)]; exact congrArg R (by omega)
      · rw [if_neg (fun t => q t.2)]; exact hr1 j j0 (by omega)) (fun j j0 j1 => by
      rw [tp_pi1, if_neg (fun t => by have := t.2; omega)]; exact hr2 j (by omega) j1) (fun c9 z9 => by rw [tp_pi_ne z9]; exact hf c9 z9) hg
set_option maxHeartbeats 4000000 in
set_option maxRecDepth 100000 in
theorem s_push {G : tp_G} {μ : tp_M} (hG : tp_Gf G = true) {f : Int → Int} {μ0 σ : tp_M} {bt dp m k : Int} (hE : c_E μ0 bt dp k σ μ) (hJ : e_J f m k σ) {a d : Int} (hd : 0 ≤ d ∧ d ≤ 4) : tp_k G mX8_push [tR (some 68), tI a, tI d] μ (fun r μ' => r = none ∧ c_E μ0 bt dp k (e_psh a d σ) μ') := by
  refine tp_ok_of mX8_push_ok rfl (Nat.le_refl _) ?_
  obtain ⟨⟨a0, a1, a2, a4, a5, a6, a7, a8, a9, a10, al⟩, hB, hS, ⟨hbt, hdp, hnow⟩, hF, hR2⟩ := id hE
  obtain ⟨j1, j2, j3, j4, j5, j6, j7, j8, j9⟩ := id hJ
  refine g_aload_n rfl rfl ?_
  refine x_geti (v := (μ.1 68 1)) rfl rfl (by decide) (Or.inl rfl) rfl ?_
  refine g_if_lt (tgt := 35) rfl (by decide) (fun hx => absurd hx (by omega)) (fun _ => ?_)
  refine g_aload_n rfl rfl ?_
  refine x_geti (v := (μ.1 68 1)) rfl rfl (by decide) (Or.inl rfl) rfl ?_
  refine g_iconst rfl ⟨by decide, by decide⟩ ?_
  refine g_icmp_ge (tgt := 35) rfl (by decide) (fun hx => absurd hx (by omega)) (fun _ => ?_)
  refine g_aload_n rfl rfl ?_
  refine x_getF (r := 69) hG rfl rfl (by decide) (Or.inr ⟨_, rfl⟩) rfl ?_
  refine g_aload_n rfl rfl ?_
  refine x_geti (v := (μ.1 68 1)) rfl rfl (by decide) (Or.inl rfl) rfl ?_
  refine g_iload_n rfl rfl ?_
  refine g_iast rfl rfl (by decide) (by omega) (by omega) ?_
  refine g_aload_n rfl rfl ?_
  refine g_dupr rfl ?_
  refine x_geti (v := (μ.1 68 1)) rfl rfl (by decide) (Or.inl rfl) rfl ?_
  refine g_iconst rfl ⟨by decide, by decide⟩ ?_
  refine x_iadd (z := (μ.1 68 1) + 1) rfl (by omega) ⟨by omega, by omega⟩ ?_
  refine g_puti rfl rfl (by decide) rfl rfl ?_
  refine g_aload_n rfl rfl ?_
  refine x_geti (v := (μ.1 68 1) + 1) rfl rfl (by decide) (Or.inl rfl) rfl ?_
  refine g_iload_n rfl rfl ?_
  refine g_icmp_le (tgt := 95) rfl (by decide) (fun h1 => ?_) (fun h1 => ?_)
  · refine x_return rfl rfl ?_
    have e9 : e_psh a d σ = tp_pi (tp_pi σ 1 (σ.1 0 10) a) 0 10 (σ.1 0 10 + 1) := if_neg (by omega)
    rw [e9]
    exact ⟨rfl, ⟨⟨(by show (μ.1 62 7) = (σ.1 0 0); first | omega | simp only [a0, a1, a2, a4, a5, a6, a7, a8, a9, a10]), (by show (μ.1 62 8) = (σ.1 0 1); first | omega | simp only [a0, a1, a2, a4, a5, a6, a7, a8, a9, a10]), (by show (μ.1 62 9) = (σ.1 0 2); first | omega | simp only [a0, a1, a2, a4, a5, a6, a7, a8, a9, a10]), (by show (μ.1 62 11) = (σ.1 0 4); first | omega | simp only [a0, a1, a2, a4, a5, a6, a7, a8, a9, a10]), (by show (μ.1 62 12) = (σ.1 0 5); first | omega | simp only [a0, a1, a2, a4, a5, a6, a7, a8, a9, a10]), (by show (μ.1 62 13) = (σ.1 0 6); first | omega | simp only [a0, a1, a2, a4, a5, a6, a7, a8, a9, a10]), (by show (μ.1 62 14) = (σ.1 0 7); first | omega | simp only [a0, a1, a2, a4, a5, a6, a7, a8, a9, a10]), (by show (μ.1 62 15) = (σ.1 0 8); first | omega | simp only [a0, a1, a2, a4, a5, a6, a7, a8, a9, a10]), (by show (μ.1 63 4) = (σ.1 0 9); first | omega | simp only [a0, a1, a2, a4, a5, a6, a7, a8, a9, a10]), (by show (μ.1 68 1) + 1 = (σ.1 0 10) + 1; first | omega | simp only [a0, a1, a2, a4, a5, a6, a7, a8, a9, a10]), (fun z => by have z : (σ.1 0 5) = 1 := z; show (μ.1 62 10) = (σ.1 0 3); first | omega | exact al z)⟩, (fun i i0 i1 => hB i i0 i1), (fun i i0 i1 => by
        have i1 : i < σ.1 0 10 + 1 := i1
        show (if 69 = 69 ∧ i = μ.1 68 1 then a else μ.1 69 i) = (if 1 = 1 ∧ i = σ.1 0 10 then a else σ.1 1 i)
        rw [a10]
        by_cases q : i = σ.1 0 10
        · rw [if_pos ⟨rfl, q⟩, if_pos ⟨rfl, q⟩]
        · rw [if_neg (fun t => q t.2), if_neg (fun t => q t.2)]; exact hS i i0 (by omega)), ⟨hbt, hdp, hnow⟩, (fun c9 z9 => by rw [tp_pi_ne (by omega), tp_pi_ne (by omega)]; exact hF c9 z9), hR2⟩⟩
  · refine g_aload_n rfl rfl ?_
    refine x_geti (v := (μ.1 68 1) + 1) rfl rfl (by decide) (Or.inl rfl) rfl ?_
    refine g_if_le (tgt := 95) rfl (by decide) (fun hx => absurd hx (by omega)) (fun _ => ?_)
    refine g_iconst rfl ⟨by decide, by decide⟩ ?_
    refine g_istore_n rfl rfl rfl ?_
    refine l_push (R := fun j => if j = σ.1 0 10 then a else μ.1 69 j) (z := σ.1 0 10 + 1) (w1 := (tp_pi (tp_pi μ 69 (μ.1 68 1) a) 68 1 ((μ.1 68 1) + 1))) hG (by omega) (fun w2 k2 hz2 hr2 hf2 hg2 => ?_) 1 (by omega) _ (by omega) (by show μ.1 68 1 + 1 = _; omega) (fun j j0 j1 => by omega) (fun j j0 j1 => ?_) (fun c9 z9 => rfl) rfl
    · refine g_aload_n rfl rfl ?_
      refine g_dupr rfl ?_
      refine x_geti (v := (w2.1 68 1)) rfl rfl (by decide) (Or.inl rfl) rfl ?_
      refine g_iconst rfl ⟨by decide, by decide⟩ ?_
      refine x_isub (z := (w2.1 68 1) - 1) rfl (by omega) ⟨by omega, by omega⟩ ?_
      refine g_puti rfl rfl (by decide) rfl rfl ?_
      refine x_return rfl rfl ?_
      have e9 : e_psh a d σ = (fun c j => if c = 1 then (if j + 1 = σ.1 0 10 then a else σ.1 1 (j + 1)) else σ.1 c j, σ.2) := if_pos (by omega)
      rw [e9]
      refine ⟨rfl, ⟨((congrFun (hf2 62 (by omega)) 7).trans a0), ((congrFun (hf2 62 (by omega)) 8).trans a1), ((congrFun (hf2 62 (by omega)) 9).trans a2), ((congrFun (hf2 62 (by omega)) 11).trans a4), ((congrFun (hf2 62 (by omega)) 12).trans a5), ((congrFun (hf2 62 (by omega)) 13).trans a6), ((congrFun (hf2 62 (by omega)) 14).trans a7), ((congrFun (hf2 62 (by omega)) 15).trans a8), ((congrFun (hf2 63 (by omega)) 4).trans a9), (by show w2.1 68 1 - 1 = σ.1 0 10; omega), (fun z => (congrFun (hf2 62 (by omega)) 10).trans (al z))⟩, fun i i0 i1 => ⟨?_, ?_, ?_, ?_⟩, fun i i0 i1 => ?_, ⟨(congrFun (hf2 62 (by omega)) 4).trans hbt, (congrFun (hf2 62 (by omega)) 5).trans hdp, (congrFun (hf2 62 (by omega)) 6).trans hnow⟩, fun c9 z9 => ?_, hg2.trans hR2⟩
      · exact (congrFun (hf2 64 (by omega)) i).trans (hB i i0 i1).1
      · exact (congrFun (hf2 65 (by omega)) i).trans (hB i i0 i1).2.1
      · exact (congrFun (hf2 66 (by omega)) i).trans (hB i i0 i1).2.2.1
      · exact (congrFun (hf2 67 (by omega)) i).trans (hB i i0 i1).2.2.2
      · have i1 : i < σ.1 0 10 := i1
        show w2.1 69 i = (if i + 1 = σ.1 0 10 then a else σ.1 1 (i + 1))
        rw [hr2 i i0 (by omega)]
        show (if i + 1 = σ.1 0 10 then a else μ.1 69 (i + 1)) = _
        by_cases q : i + 1 = σ.1 0 10
        · rw [if_pos q, if_pos q]
        · rw [if_neg q, if_neg q]; exact hS (i + 1) (by omega) (by omega)
      · rw [tp_pi_ne (by omega), hf2 c9 (by omega), tp_pi_ne (by omega), tp_pi_ne (by omega)]; exact hF c9 z9
    · show (if 69 = 69 ∧ j = μ.1 68 1 then a else μ.1 69 j) = if j = σ.1 0 10 then a else μ.1 69 j
      rw [a10]
      by_cases q : j = σ.1 0 10
      · rw [if_pos ⟨rfl, q⟩, if_pos q]
      · rw [if_neg (fun t => q t.2), if_neg q]
set_option maxHeartbeats 4000000 in
set_option maxRecDepth 100000 in
theorem s_pop {G : tp_G} {μ : tp_M} (hG : tp_Gf G = true) {f : Int → Int} {μ0 σ : tp_M} {bt dp m k : Int} (hE : c_E μ0 bt dp k σ μ) (hJ : e_J f m k σ) : tp_k G mX8_pop [tR (some 68)] μ (fun r μ' => r = some (tI (e_top σ)) ∧ c_E μ0 bt dp k (e_pop σ) μ') := by
  refine tp_ok_of mX8_pop_ok rfl (Nat.le_refl _) ?_
  obtain ⟨⟨a0, a1, a2, a4, a5, a6, a7, a8, a9, a10, al⟩, hB, hS, ⟨hbt, hdp, hnow⟩, hF, hR2⟩ := id hE
  obtain ⟨j1, j2, j3, j4, j5, j6, j7, j8, j9⟩ := id hJ
  refine g_aload_n rfl rfl ?_
  refine x_geti (v := (μ.1 68 1)) rfl rfl (by decide) (Or.inl rfl) rfl ?_
  refine g_if_le (tgt := 15) rfl (by decide) (fun h1 => ?_) (fun h1 => ?_)
  · refine g_iconst rfl ⟨by decide, by decide⟩ ?_
    refine x_ireturn rfl rfl ?_
    have e9 : e_pop σ = σ := if_neg (by omega)
    have e8 : e_top σ = -1 := if_neg (by omega)
    rw [e9, e8]
    exact ⟨rfl, hE⟩
  · refine g_aload_n rfl rfl ?_
    refine x_geti (v := (μ.1 68 1)) rfl rfl (by decide) (Or.inl rfl) rfl ?_
    refine g_iconst rfl ⟨by decide, by decide⟩ ?_
    refine g_icmp_le (tgt := 17) rfl (by decide) (fun _ => ?_) (fun hx => absurd hx (by omega))
    refine g_aload_n rfl rfl ?_
    refine g_dupr rfl ?_
    refine x_geti (v := (μ.1 68 1)) rfl rfl (by decide) (Or.inl rfl) rfl ?_
    refine g_iconst rfl ⟨by decide, by decide⟩ ?_
    refine x_isub (z := (μ.1 68 1) - 1) rfl (by omega) ⟨by omega, by omega⟩ ?_
    refine g_puti rfl rfl (by decide) rfl rfl ?_
    refine g_aload_n rfl rfl ?_
    refine x_getF (r := 69) hG rfl rfl (by decide) (Or.inr ⟨_, rfl⟩) rfl ?_
    refine g_aload_n rfl rfl ?_
    refine x_geti (v := (μ.1 68 1) - 1) rfl rfl (by decide) (Or.inl rfl) rfl ?_
    refine x_iald (v := (μ.1 69 (μ.1 68 1 - 1))) rfl rfl (by decide) (by omega) (by omega) rfl ?_
    refine x_ireturn rfl rfl ?_
    have e9 : e_pop σ = tp_pi σ 0 10 (σ.1 0 10 - 1) := if_pos (by omega)
    have e8 : e_top σ = σ.1 1 (σ.1 0 10 - 1) := if_pos (by omega)
    rw [e9, e8, ← hS (σ.1 0 10 - 1) (by omega) (by omega)]
    exact ⟨by rw [a10], ⟨⟨(by show (μ.1 62 7) = (σ.1 0 0); first | omega | simp only [a0, a1, a2, a4, a5, a6, a7, a8, a9, a10]), (by show (μ.1 62 8) = (σ.1 0 1); first | omega | simp only [a0, a1, a2, a4, a5, a6, a7, a8, a9, a10]), (by show (μ.1 62 9) = (σ.1 0 2); first | omega | simp only [a0, a1, a2, a4, a5, a6, a7, a8, a9, a10]), (by show (μ.1 62 11) = (σ.1 0 4); first | omega | simp only [a0, a1, a2, a4, a5, a6, a7, a8, a9, a10]), (by show (μ.1 62 12) = (σ.1 0 5); first | omega | simp only [a0, a1, a2, a4, a5, a6, a7, a8, a9, a10]), (by show (μ.1 62 13) = (σ.1 0 6); first | omega | simp only [a0, a1, a2, a4, a5, a6, a7, a8, a9, a10]), (by show (μ.1 62 14) = (σ.1 0 7); first | omega | simp only [a0, a1, a2, a4, a5, a6, a7, a8, a9, a10]), (by show (μ.1 62 15) = (σ.1 0 8); first | omega | simp only [a0, a1, a2, a4, a5, a6, a7, a8, a9, a10]), (by show (μ.1 63 4) = (σ.1 0 9); first | omega | simp only [a0, a1, a2, a4, a5, a6, a7, a8, a9, a10]), (by show (μ.1 68 1) - 1 = (σ.1 0 10) - 1; first | omega | simp only [a0, a1, a2, a4, a5, a6, a7, a8, a9, a10]), (fun z => by have z : (σ.1 0 5) = 1 := z; show (μ.1 62 10) = (σ.1 0 3); first | omega | exact al z)⟩, (fun i i0 i1 => hB i i0 i1), (fun i i0 i1 => hS i i0 (by have i1 : i < σ.1 0 10 - 1 := i1; omega)), ⟨hbt, hdp, hnow⟩, (fun c9 z9 => by rw [tp_pi_ne (by omega)]; exact hF c9 z9), hR2⟩⟩
set_option maxHeartbeats 4000000 in
set_option maxRecDepth 100000 in
theorem s_lout {G : tp_G} {μ : tp_M} (hG : tp_Gf G = true) {c : Nat} {f : Int → Int} {μ0 σ : tp_M} {bt dp m k : Int} (hc : tp_SH c = .inl 0) (hcl : c < 37) (hw : tp_Cw f) (hCd0 : tp_Cd c f μ0) (href : μ0.2 62 2 = some c) (hm : 0 ≤ m ∧ m ≤ 200) (hk : 0 ≤ k ∧ k ≤ 200) (hE : c_E μ0 bt dp k σ μ) (hJ : e_J f m k σ) : tp_k G mX1_letOneOut [tR (some 62)] μ (fun r μ' => r = none ∧ c_E μ0 bt dp k (e_out f k σ) μ') := by
  refine tp_ok_of mX1_letOneOut_ok rfl (Nat.le_refl _) ?_
  have hcn : c < 234 := by omega
  have hw0 := hw.1
  have hrl := hw.2.2
  obtain ⟨⟨a0, a1, a2, a4, a5, a6, a7, a8, a9, a10, al⟩, hB, hS, ⟨hbt, hdp, hnow⟩, hF, hR2⟩ := id hE
  obtain ⟨j1, j2, j3, j4, j5, j6, j7, j8, j9⟩ := id hJ
  have hCd : tp_Cd c f μ := tp_Cd_fr hcl (fun k9 z9 => hF k9 (by omega)) hCd0
  have hco : μ.2 62 2 = some c := by rw [hR2]; exact href
  have hrem : (μ.1 62 6) % f 8 = k % f 8 := by rw [hnow]
  refine g_aload_n rfl rfl ?_
  refine x_getM (v := (some c)) hG rfl rfl (by decide) (Or.inl ⟨_, rfl⟩) rfl hco ?_
  refine g_ifnonnull (tgt := 11) rfl (by decide) (fun _ _ => ?_) (fun hx => by cases hx)
  refine g_aload_n rfl rfl ?_
  refine x_getM (v := (some c)) hG rfl rfl (by decide) (Or.inl ⟨_, rfl⟩) rfl hco ?_
  refine g_bipush rfl ⟨by decide, by decide⟩ (by decide) ?_
  refine g_cV (as := [tI 7]) (s_ruleN (n := 8) hG hc hcl hCd (by decide) (by decide) (by decide)) rfl rfl mX0_rule_ok rfl hc rfl hcn rfl rfl rfl ?_
  rintro _ w9 ⟨rfl, hw9⟩ _
  have hw9 := hw9.symm
  subst hw9
  refine g_istore_n rfl rfl rfl ?_
  refine g_aload_n rfl rfl ?_
  refine x_geti (v := (μ.1 62 6)) rfl rfl (by decide) (Or.inl rfl) rfl ?_
  refine g_if_le (tgt := 58) rfl (by decide) (fun h1 => ?_) (fun h1 => ?_)
  · refine x_return rfl rfl ?_
    have e9 : e_out f k σ = σ := if_neg (fun z => by omega)
    rw [e9]
    exact ⟨rfl, hE⟩
  · refine g_iload_n rfl rfl ?_
    refine g_if_le (tgt := 58) rfl (by decide) (fun hx => absurd hx (by omega)) (fun _ => ?_)
    refine g_aload_n rfl rfl ?_
    refine x_geti (v := (μ.1 62 6)) rfl rfl (by decide) (Or.inl rfl) rfl ?_
    refine g_iload_n rfl rfl ?_
    refine x_irem rfl (by omega) (by omega) ?_
    refine g_if_ne (tgt := 58) rfl (by decide) (fun h2 => ?_) (fun h2 => ?_)
    · refine x_return rfl rfl ?_
      have e9 : e_out f k σ = σ := if_neg (fun z => by omega)
      rw [e9]
      exact ⟨rfl, hE⟩
    · refine g_aload_n rfl rfl ?_
      refine x_geti (v := (μ.1 62 7)) rfl rfl (by decide) (Or.inl rfl) rfl ?_
      refine g_if_le (tgt := 58) rfl (by decide) (fun h3 => ?_) (fun h3 => ?_)
      · refine x_return rfl rfl ?_
        have e9 : e_out f k σ = σ := if_neg (fun z => by omega)
        rw [e9]
        exact ⟨rfl, hE⟩
      · refine g_aload_n rfl rfl ?_
        refine g_dupr rfl ?_
        refine x_geti (v := (μ.1 62 7)) rfl rfl (by decide) (Or.inl rfl) rfl ?_
        refine g_iconst rfl ⟨by decide, by decide⟩ ?_
        refine x_isub (z := (μ.1 62 7) - 1) rfl (by omega) ⟨by omega, by omega⟩ ?_
        refine g_puti rfl rfl (by decide) rfl rfl ?_
        refine x_return rfl rfl ?_
        have e9 : e_out f k σ = tp_pi σ 0 0 (σ.1 0 0 - 1) := if_pos ⟨by omega, by omega, by omega⟩
        rw [e9]
        exact ⟨rfl, ⟨⟨(by show (μ.1 62 7) - 1 = (σ.1 0 0) - 1; first | omega | simp only [a0, a1, a2, a4, a5, a6, a7, a8, a9, a10]), (by show (μ.1 62 8) = (σ.1 0 1); first | omega | simp only [a0, a1, a2, a4, a5, a6, a7, a8, a9, a10]), (by show (μ.1 62 9) = (σ.1 0 2); first | omega | simp only [a0, a1, a2, a4, a5, a6, a7, a8, a9, a10]), (by show (μ.1 62 11) = (σ.1 0 4); first | omega | simp only [a0, a1, a2, a4, a5, a6, a7, a8, a9, a10]), (by show (μ.1 62 12) = (σ.1 0 5); first | omega | simp only [a0, a1, a2, a4, a5, a6, a7, a8, a9, a10]), (by show (μ.1 62 13) = (σ.1 0 6); first | omega | simp only [a0, a1, a2, a4, a5, a6, a7, a8, a9, a10]), (by show (μ.1 62 14) = (σ.1 0 7); first | omega | simp only [a0, a1, a2, a4, a5, a6, a7, a8, a9, a10]), (by show (μ.1 62 15) = (σ.1 0 8); first | omega | simp only [a0, a1, a2, a4, a5, a6, a7, a8, a9, a10]), (by show (μ.1 63 4) = (σ.1 0 9); first | omega | simp only [a0, a1, a2, a4, a5, a6, a7, a8, a9, a10]), (by show (μ.1 68 1) = (σ.1 0 10); first | omega | simp only [a0, a1, a2, a4, a5, a6, a7, a8, a9, a10]), (fun z => by have z : (σ.1 0 5) = 1 := z; show (μ.1 62 10) = (σ.1 0 3); first | omega | exact al z)⟩, (fun i i0 i1 => hB i i0 i1), (fun i i0 i1 => hS i i0 i1), ⟨hbt, hdp, hnow⟩, (fun c9 z9 => by rw [tp_pi_ne (by omega)]; exact hF c9 z9), hR2⟩⟩
set_option maxHeartbeats 4000000 in
set_option maxRecDepth 100000 in
theorem s_seeA {G : tp_G} {μ : tp_M} (hG : tp_Gf G = true) {c : Nat} {f : Int → Int} {μ0 σ : tp_M} {bt dp m k : Int} (hc : tp_SH c = .inl 0) (hcl : c < 37) (hw : tp_Cw f) (hCd0 : tp_Cd c f μ0) (href : μ0.2 62 2 = some c) (hm : 0 ≤ m ∧ m ≤ 200) (hk : 0 ≤ k ∧ k ≤ 200) (hE : c_E μ0 bt dp k σ μ) (hJ : e_J f m k σ) : tp_k G mX1_seeAgain [tR (some 62)] μ (fun r μ' => r = none ∧ c_E μ0 bt dp k (e_see f k σ) μ') := by
  refine tp_ok_of mX1_seeAgain_ok rfl (Nat.le_refl _) ?_
  have hcn : c < 234 := by omega
  have hw0 := hw.1
  have hrl := hw.2.2
  obtain ⟨⟨a0, a1, a2, a4, a5, a6, a7, a8, a9, a10, al⟩, hB, hS, ⟨hbt, hdp, hnow⟩, hF, hR2⟩ := id hE
  obtain ⟨j1, j2, j3, j4, j5, j6, j7, j8, j9⟩ := id hJ
  have hCd : tp_Cd c f μ := tp_Cd_fr hcl (fun k9 z9 => hF k9 (by omega)) hCd0
  have hco : μ.2 62 2 = some c := by rw [hR2]; exact href
  refine g_aload_n rfl rfl ?_
  refine x_geti (v := (μ.1 62 13)) rfl rfl (by decide) (Or.inr (Or.inl rfl)) rfl ?_
  refine g_if_eq (tgt := 32) rfl (by decide) (fun h1 => ?_) (fun h1 => ?_)
  · refine x_return rfl rfl ?_
    have e9 : e_see f k σ = σ := if_neg (fun z => by omega)
    rw [e9]
    exact ⟨rfl, hE⟩
  · refine g_aload_n rfl rfl ?_
    refine x_geti (v := (μ.1 62 7)) rfl rfl (by decide) (Or.inl rfl) rfl ?_
    refine g_if_ne (tgt := 32) rfl (by decide) (fun h2 => ?_) (fun h2 => ?_)
    · refine x_return rfl rfl ?_
      have e9 : e_see f k σ = σ := if_neg (fun z => by omega)
      rw [e9]
      exact ⟨rfl, hE⟩
    · refine g_aload_n rfl rfl ?_
      refine g_iconst rfl ⟨by decide, by decide⟩ ?_
      refine g_iconst rfl ⟨by decide, by decide⟩ ?_
      refine g_iconst rfl ⟨by decide, by decide⟩ ?_
      refine g_cV (as := [tI 5, tI 0, tI 0]) (s_put (b := 4) (kn := k) hG hc hcl hw hCd0 href hm hk hE hJ) rfl rfl mX1_put_ok rfl rfl rfl (by decide) rfl rfl rfl ?_
      rintro _ w1 ⟨rfl, hEt⟩ _
      have hok : e_ok f σ = 1 := e_ok_y (by omega)
      have hon := (e_put_kp (kd := 5) (v := 0) (x := 0) (b := 4) (t := k) (kn := k) hok).1
      generalize hτ : e_put f 5 0 0 4 k k σ = τ at hEt hon
      obtain ⟨⟨a0t, a1t, a2t, a4t, a5t, a6t, a7t, a8t, a9t, a10t, alt⟩, hBt, hSt, ⟨hbtt, hdpt, hnowt⟩, hFt, hR2t⟩ := id hEt
      refine g_popi rfl ?_
      refine g_aload_n rfl rfl ?_
      refine g_iconst rfl ⟨by decide, by decide⟩ ?_
      refine g_putz rfl rfl (by decide) rfl rfl (Or.inl rfl) ?_
      refine g_aload_n rfl rfl ?_
      refine g_iconst rfl ⟨by decide, by decide⟩ ?_
      refine g_putz rfl rfl (by decide) rfl rfl (Or.inl rfl) ?_
      refine x_return rfl rfl ?_
      have e9 : e_see f k σ = tp_pi (e_put f 5 0 0 4 k k σ) 0 6 0 := if_pos ⟨by omega, by omega⟩
      rw [e9, hτ]
      exact ⟨rfl, ⟨⟨(by show (w1.1 62 7) = (τ.1 0 0); first | omega | simp only [a0t, a1t, a2t, a4t, a5t, a6t, a7t, a8t, a9t, a10t]), (by show (w1.1 62 8) = (τ.1 0 1); first | omega | simp only [a0t, a1t, a2t, a4t, a5t, a6t, a7t, a8t, a9t, a10t]), (by show (w1.1 62 9) = (τ.1 0 2); first | omega | simp only [a0t, a1t, a2t, a4t, a5t, a6t, a7t, a8t, a9t, a10t]), (by show (w1.1 62 11) = (τ.1 0 4); first | omega | simp only [a0t, a1t, a2t, a4t, a5t, a6t, a7t, a8t, a9t, a10t]), (by show (0 : Int) = (τ.1 0 5); first | omega | simp only [a0t, a1t, a2t, a4t, a5t, a6t, a7t, a8t, a9t, a10t]), (by show (0 : Int) = (0 : Int); first | omega | simp only [a0t, a1t, a2t, a4t, a5t, a6t, a7t, a8t, a9t, a10t]), (by show (w1.1 62 14) = (τ.1 0 7); first | omega | simp only [a0t, a1t, a2t, a4t, a5t, a6t, a7t, a8t, a9t, a10t]), (by show (w1.1 62 15) = (τ.1 0 8); first | omega | simp only [a0t, a1t, a2t, a4t, a5t, a6t, a7t, a8t, a9t, a10t]), (by show (w1.1 63 4) = (τ.1 0 9); first | omega | simp only [a0t, a1t, a2t, a4t, a5t, a6t, a7t, a8t, a9t, a10t]), (by show (w1.1 68 1) = (τ.1 0 10); first | omega | simp only [a0t, a1t, a2t, a4t, a5t, a6t, a7t, a8t, a9t, a10t]), (fun z => by have z : (τ.1 0 5) = 1 := z; show (w1.1 62 10) = (τ.1 0 3); first | omega | exact alt z)⟩, (fun i i0 i1 => hBt i i0 i1), (fun i i0 i1 => hSt i i0 i1), ⟨hbtt, hdpt, hnowt⟩, (fun c9 z9 => by rw [tp_pi_ne (by omega), tp_pi_ne (by omega)]; exact hFt c9 z9), hR2t⟩⟩
