theorem tp_b8_all : ∀ i : Fin 256, tp_b8 ((i.val : Int) - 128) = (i.val : Int) - 128 := by decide +kernel
theorem tp_b8_id {a : Int} (h : -128 ≤ a ∧ a ≤ 127) : tp_b8 a = a := by
  have e := tp_b8_all ⟨(a + 128).toNat, by omega⟩
  rw [show (((a + 128).toNat : Nat) : Int) - 128 = a by omega] at e
  exact e
theorem tp_m8 {μ : tp_M} (hm : tp_mok μ) (c : Nat) (j : Int) (h : tp_sty c j = .byte) : -128 ≤ μ.1 c j ∧ μ.1 c j ≤ 127 := by
  have := hm c j
  rw [h] at this
  exact this
set_option maxHeartbeats 4000000 in
set_option maxRecDepth 100000 in
theorem l_cpT {G : tp_G} (hG : tp_Gf G = true) {a b : Int} {μ0 : tp_M} (ha : 0 ≤ a ∧ a ≤ 3) (hb : 0 ≤ b ∧ b ≤ 3) (hab : a ≠ b) {Φ : Option tp_V → tp_M → Prop} (hΦ : ∀ μ, (∀ j, 0 ≤ j → j < 600 → μ.1 202 (600 * b + j) = μ0.1 202 (600 * a + j)) → (∀ j, (j < 600 * b ∨ 600 * b + 600 ≤ j) → μ.1 202 j = μ0.1 202 j) → (∀ c, c ≠ 202 → μ.1 c = μ0.1 c) → tp_g G mX12_copyAll 39 [some (tR (some 201)), some (tI a), some (tI b), some (tI 600)] [] μ Φ) : ∀ k, k ≤ 600 → ∀ (μ : tp_M), 0 ≤ k → (∀ j, 0 ≤ j → j < k → μ.1 202 (600 * b + j) = μ0.1 202 (600 * a + j)) → (∀ j, (j < 600 * b ∨ 600 * b + 600 ≤ j) → μ.1 202 j = μ0.1 202 j) → (∀ c, c ≠ 202 → μ.1 c = μ0.1 c) → tp_g G mX12_copyAll 2 [some (tR (some 201)), some (tI a), some (tI b), some (tI k)] [] μ Φ := by
  refine tp_ind _ ?_
  intro k hkN ih μ h0 hz hO hF
  refine g_mok (fun hmk => ?_)
  refine g_iload_n rfl rfl ?_
  refine g_sipush rfl ⟨by decide, by decide⟩ (by decide) ?_
  refine g_icmp_ge (tgt := 39) rfl (by decide) (fun h1 => ?_) (fun h1 => ?_)
  · have hk6 : k = 600 := by omega
    subst hk6
    exact hΦ _ hz hO hF
  · refine g_aload_n rfl rfl ?_
    refine x_getF (r := 202) hG rfl rfl (by decide) (Or.inr ⟨_, rfl⟩) rfl ?_
    refine g_sipush rfl ⟨by decide, by decide⟩ (by decide) ?_
    refine g_iload_n rfl rfl ?_
    refine x_imul (z := 600 * b) rfl (by omega) ⟨by omega, by omega⟩ ?_
    refine g_iload_n rfl rfl ?_
    refine x_iadd (z := 600 * b + k) rfl (by omega) ⟨by omega, by omega⟩ ?_
    refine g_aload_n rfl rfl ?_
    refine x_getF (r := 202) hG rfl rfl (by decide) (Or.inr ⟨_, rfl⟩) rfl ?_
    refine g_sipush rfl ⟨by decide, by decide⟩ (by decide) ?_
    refine g_iload_n rfl rfl ?_
    refine x_imul (z := 600 * a) rfl (by omega) ⟨by omega, by omega⟩ ?_
    refine g_iload_n rfl rfl ?_
    refine x_iadd (z := 600 * a + k) rfl (by omega) ⟨by omega, by omega⟩ ?_
    refine g_bald rfl rfl (by decide) (by omega) (by omega) ?_
    refine g_bast rfl rfl (by decide) (by omega) (by omega) ?_
    refine x_iinc (z := k + 1) rfl rfl (by omega) ⟨by omega, by omega⟩ rfl rfl ?_
    refine g_goto (tgt := 2) rfl (by decide) ?_
    exact ih (by omega) _ (by omega) (fun j j0 j1 => by
      by_cases q : j = k
      · rw [q, tp_pi_at, tp_b8_id (tp_m8 hmk 202 _ rfl)]
        exact hO (600 * a + k) (by omega)
      · rw [tp_pi_ix (by omega)]; exact hz j j0 (by omega)) (fun j hj => by rw [tp_pi_ix (by omega)]; exact hO j hj) (fun c9 z9 => by rw [tp_pi_ne z9]; exact hF c9 z9)
set_option maxHeartbeats 4000000 in
set_option maxRecDepth 100000 in
theorem s_cpAll {G : tp_G} {μ : tp_M} (hG : tp_Gf G = true) {a b : Int} (ha : 0 ≤ a ∧ a ≤ 3) (hb : 0 ≤ b ∧ b ≤ 3) (hab : a ≠ b) : tp_k G mX12_copyAll [tR (some 201), tI a, tI b] μ (fun r μ' => r = none ∧ q_mv (tp_cut μ.1 202 9) (tp_cut μ'.1 202 9) a b ∧ (∀ q, (0 ≤ q ∧ q ≤ 3) → q ≠ b → q_mv (tp_cut μ.1 202 9) (tp_cut μ'.1 202 9) q q) ∧ ∀ c, (c < 202 ∨ 210 < c) → μ'.1 c = μ.1 c) := by
  refine tp_ok_of mX12_copyAll_ok rfl (Nat.le_refl _) ?_
  refine g_iconst rfl ⟨by decide, by decide⟩ ?_
  refine g_istore_n rfl rfl rfl ?_
  refine l_cpT (μ0 := μ) hG ha hb hab (fun w0 hz0 hO0 hF0 => ?_) 0 (by omega) _ (by omega) (fun j j0 j1 => by omega) (fun j hj => rfl) (fun c hc => rfl)
  refine g_aload_n rfl rfl ?_
  refine x_getF (r := 203) hG rfl rfl (by decide) (Or.inr ⟨_, rfl⟩) rfl ?_
  refine g_iconst rfl ⟨by decide, by decide⟩ ?_
  refine g_iload_n rfl rfl ?_
  refine g_iload_n rfl rfl ?_
  refine g_cS (as := [tR (some 203), tI 1, tI a, tI b]) (s_cpR203 hG ha hb hab) rfl rfl mX12_copyRow_ok rfl rfl rfl rfl ?_
  rintro _ w1 ⟨rfl, hz1, hO1, hF1⟩ _
  refine g_aload_n rfl rfl ?_
  refine x_getF (r := 204) hG rfl rfl (by decide) (Or.inr ⟨_, rfl⟩) rfl ?_
  refine g_iconst rfl ⟨by decide, by decide⟩ ?_
  refine g_iload_n rfl rfl ?_
  refine g_iload_n rfl rfl ?_
  refine g_cS (as := [tR (some 204), tI 1, tI a, tI b]) (s_cpR204 hG ha hb hab) rfl rfl mX12_copyRow_ok rfl rfl rfl rfl ?_
  rintro _ w2 ⟨rfl, hz2, hO2, hF2⟩ _
  refine g_aload_n rfl rfl ?_
  refine x_getF (r := 205) hG rfl rfl (by decide) (Or.inr ⟨_, rfl⟩) rfl ?_
  refine g_iconst rfl ⟨by decide, by decide⟩ ?_
  refine g_iload_n rfl rfl ?_
  refine g_iload_n rfl rfl ?_
  refine g_cS (as := [tR (some 205), tI 1, tI a, tI b]) (s_cpR205 hG ha hb hab) rfl rfl mX12_copyRow_ok rfl rfl rfl rfl ?_
  rintro _ w3 ⟨rfl, hz3, hO3, hF3⟩ _
  refine g_aload_n rfl rfl ?_
  refine x_getF (r := 206) hG rfl rfl (by decide) (Or.inr ⟨_, rfl⟩) rfl ?_
  refine g_iconst rfl ⟨by decide, by decide⟩ ?_
  refine g_iload_n rfl rfl ?_
  refine g_iload_n rfl rfl ?_
  refine g_cS (as := [tR (some 206), tI 4, tI a, tI b]) (s_cpR206 hG ha hb hab) rfl rfl mX12_copyRow_ok rfl rfl rfl rfl ?_
  rintro _ w4 ⟨rfl, hz4, hO4, hF4⟩ _
  refine g_aload_n rfl rfl ?_
  refine x_getF (r := 207) hG rfl rfl (by decide) (Or.inr ⟨_, rfl⟩) rfl ?_
  refine g_sipush rfl ⟨by decide, by decide⟩ (by decide) ?_
  refine g_iload_n rfl rfl ?_
  refine g_iload_n rfl rfl ?_
  refine g_cS (as := [tR (some 207), tI 258, tI a, tI b]) (s_cpR207 hG ha hb hab) rfl rfl mX12_copyRow_ok rfl rfl rfl rfl ?_
  rintro _ w5 ⟨rfl, hz5, hO5, hF5⟩ _
  refine g_aload_n rfl rfl ?_
  refine x_getF (r := 208) hG rfl rfl (by decide) (Or.inr ⟨_, rfl⟩) rfl ?_
  refine g_bipush rfl ⟨by decide, by decide⟩ (by decide) ?_
  refine g_iload_n rfl rfl ?_
  refine g_iload_n rfl rfl ?_
  refine g_cS (as := [tR (some 208), tI 122, tI a, tI b]) (s_cpR208 hG ha hb hab) rfl rfl mX12_copyRow_ok rfl rfl rfl rfl ?_
  rintro _ w6 ⟨rfl, hz6, hO6, hF6⟩ _
  refine g_aload_n rfl rfl ?_
  refine x_getF (r := 209) hG rfl rfl (by decide) (Or.inr ⟨_, rfl⟩) rfl ?_
  refine g_sipush rfl ⟨by decide, by decide⟩ (by decide) ?_
  refine g_iload_n rfl rfl ?_
  refine g_iload_n rfl rfl ?_
  refine g_cS (as := [tR (some 209), tI 202, tI a, tI b]) (s_cpR209 hG ha hb hab) rfl rfl mX12_copyRow_ok rfl rfl rfl rfl ?_
  rintro _ w7 ⟨rfl, hz7, hO7, hF7⟩ _
  refine g_aload_n rfl rfl ?_
  refine x_getF (r := 210) hG rfl rfl (by decide) (Or.inr ⟨_, rfl⟩) rfl ?_
  refine g_bipush rfl ⟨by decide, by decide⟩ (by decide) ?_
  refine g_iload_n rfl rfl ?_
  refine g_iload_n rfl rfl ?_
  refine g_cS (as := [tR (some 210), tI 34, tI a, tI b]) (s_cpR210 hG ha hb hab) rfl rfl mX12_copyRow_ok rfl rfl rfl rfl ?_
  rintro _ w8 ⟨rfl, hz8, hO8, hF8⟩ _
  refine x_return rfl rfl ?_
  refine ⟨rfl, fun i hi j j0 j1 => ?_, fun q hq hqb i hi j j0 j1 => ?_, fun c hc => ?_⟩
  · rcases (show i = 0 ∨ i = 1 ∨ i = 2 ∨ i = 3 ∨ i = 4 ∨ i = 5 ∨ i = 6 ∨ i = 7 ∨ i = 8 by omega) with rfl | rfl | rfl | rfl | rfl | rfl | rfl | rfl | rfl
    · show w8.1 202 (600 * b + j) = μ.1 202 (600 * a + j)
      exact ((congrFun ((((((((hF8 202 (by omega)).trans (hF7 202 (by omega))).trans (hF6 202 (by omega))).trans (hF5 202 (by omega))).trans (hF4 202 (by omega))).trans (hF3 202 (by omega))).trans (hF2 202 (by omega))).trans (hF1 202 (by omega))) _).trans (hz0 j j0 j1))
    · show w8.1 203 (1 * b + j) = μ.1 203 (1 * a + j)
      exact (((congrFun (((((((hF8 203 (by omega)).trans (hF7 203 (by omega))).trans (hF6 203 (by omega))).trans (hF5 203 (by omega))).trans (hF4 203 (by omega))).trans (hF3 203 (by omega))).trans (hF2 203 (by omega))) _).trans (hz1 j j0 j1)).trans (congrFun (hF0 203 (by omega)) _))
    · show w8.1 204 (1 * b + j) = μ.1 204 (1 * a + j)
      exact (((congrFun ((((((hF8 204 (by omega)).trans (hF7 204 (by omega))).trans (hF6 204 (by omega))).trans (hF5 204 (by omega))).trans (hF4 204 (by omega))).trans (hF3 204 (by omega))) _).trans (hz2 j j0 j1)).trans (congrFun ((hF1 204 (by omega)).trans (hF0 204 (by omega))) _))
    · show w8.1 205 (1 * b + j) = μ.1 205 (1 * a + j)
      exact (((congrFun (((((hF8 205 (by omega)).trans (hF7 205 (by omega))).trans (hF6 205 (by omega))).trans (hF5 205 (by omega))).trans (hF4 205 (by omega))) _).trans (hz3 j j0 j1)).trans (congrFun (((hF2 205 (by omega)).trans (hF1 205 (by omega))).trans (hF0 205 (by omega))) _))
    · show w8.1 206 (4 * b + j) = μ.1 206 (4 * a + j)
      exact (((congrFun ((((hF8 206 (by omega)).trans (hF7 206 (by omega))).trans (hF6 206 (by omega))).trans (hF5 206 (by omega))) _).trans (hz4 j j0 j1)).trans (congrFun ((((hF3 206 (by omega)).trans (hF2 206 (by omega))).trans (hF1 206 (by omega))).trans (hF0 206 (by omega))) _))
    · show w8.1 207 (258 * b + j) = μ.1 207 (258 * a + j)
      exact (((congrFun (((hF8 207 (by omega)).trans (hF7 207 (by omega))).trans (hF6 207 (by omega))) _).trans (hz5 j j0 j1)).trans (congrFun (((((hF4 207 (by omega)).trans (hF3 207 (by omega))).trans (hF2 207 (by omega))).trans (hF1 207 (by omega))).trans (hF0 207 (by omega))) _))
    · show w8.1 208 (122 * b + j) = μ.1 208 (122 * a + j)
      exact (((congrFun ((hF8 208 (by omega)).trans (hF7 208 (by omega))) _).trans (hz6 j j0 j1)).trans (congrFun ((((((hF5 208 (by omega)).trans (hF4 208 (by omega))).trans (hF3 208 (by omega))).trans (hF2 208 (by omega))).trans (hF1 208 (by omega))).trans (hF0 208 (by omega))) _))
    · show w8.1 209 (202 * b + j) = μ.1 209 (202 * a + j)
      exact (((congrFun (hF8 209 (by omega)) _).trans (hz7 j j0 j1)).trans (congrFun (((((((hF6 209 (by omega)).trans (hF5 209 (by omega))).trans (hF4 209 (by omega))).trans (hF3 209 (by omega))).trans (hF2 209 (by omega))).trans (hF1 209 (by omega))).trans (hF0 209 (by omega))) _))
    · show w8.1 210 (34 * b + j) = μ.1 210 (34 * a + j)
      exact ((hz8 j j0 j1).trans (congrFun ((((((((hF7 210 (by omega)).trans (hF6 210 (by omega))).trans (hF5 210 (by omega))).trans (hF4 210 (by omega))).trans (hF3 210 (by omega))).trans (hF2 210 (by omega))).trans (hF1 210 (by omega))).trans (hF0 210 (by omega))) _))
  · rcases (show i = 0 ∨ i = 1 ∨ i = 2 ∨ i = 3 ∨ i = 4 ∨ i = 5 ∨ i = 6 ∨ i = 7 ∨ i = 8 by omega) with rfl | rfl | rfl | rfl | rfl | rfl | rfl | rfl | rfl
    · show w8.1 202 (600 * q + j) = μ.1 202 (600 * q + j)
      exact ((congrFun ((((((((hF8 202 (by omega)).trans (hF7 202 (by omega))).trans (hF6 202 (by omega))).trans (hF5 202 (by omega))).trans (hF4 202 (by omega))).trans (hF3 202 (by omega))).trans (hF2 202 (by omega))).trans (hF1 202 (by omega))) _).trans (hO0 (600 * q + j) (by have j1 : j < 600 := j1; omega)))
    · show w8.1 203 (1 * q + j) = μ.1 203 (1 * q + j)
      exact (((congrFun (((((((hF8 203 (by omega)).trans (hF7 203 (by omega))).trans (hF6 203 (by omega))).trans (hF5 203 (by omega))).trans (hF4 203 (by omega))).trans (hF3 203 (by omega))).trans (hF2 203 (by omega))) _).trans (hO1 (1 * q + j) (by have j1 : j < 1 := j1; omega))).trans (congrFun (hF0 203 (by omega)) _))
    · show w8.1 204 (1 * q + j) = μ.1 204 (1 * q + j)
      exact (((congrFun ((((((hF8 204 (by omega)).trans (hF7 204 (by omega))).trans (hF6 204 (by omega))).trans (hF5 204 (by omega))).trans (hF4 204 (by omega))).trans (hF3 204 (by omega))) _).trans (hO2 (1 * q + j) (by have j1 : j < 1 := j1; omega))).trans (congrFun ((hF1 204 (by omega)).trans (hF0 204 (by omega))) _))
    · show w8.1 205 (1 * q + j) = μ.1 205 (1 * q + j)
      exact (((congrFun (((((hF8 205 (by omega)).trans (hF7 205 (by omega))).trans (hF6 205 (by omega))).trans (hF5 205 (by omega))).trans (hF4 205 (by omega))) _).trans (hO3 (1 * q + j) (by have j1 : j < 1 := j1; omega))).trans (congrFun (((hF2 205 (by omega)).trans (hF1 205 (by omega))).trans (hF0 205 (by omega))) _))
    · show w8.1 206 (4 * q + j) = μ.1 206 (4 * q + j)
      exact (((congrFun ((((hF8 206 (by omega)).trans (hF7 206 (by omega))).trans (hF6 206 (by omega))).trans (hF5 206 (by omega))) _).trans (hO4 (4 * q + j) (by have j1 : j < 4 := j1; omega))).trans (congrFun ((((hF3 206 (by omega)).trans (hF2 206 (by omega))).trans (hF1 206 (by omega))).trans (hF0 206 (by omega))) _))
    · show w8.1 207 (258 * q + j) = μ.1 207 (258 * q + j)
      exact (((congrFun (((hF8 207 (by omega)).trans (hF7 207 (by omega))).trans (hF6 207 (by omega))) _).trans (hO5 (258 * q + j) (by have j1 : j < 258 := j1; omega))).trans (congrFun (((((hF4 207 (by omega)).trans (hF3 207 (by omega))).trans (hF2 207 (by omega))).trans (hF1 207 (by omega))).trans (hF0 207 (by omega))) _))
    · show w8.1 208 (122 * q + j) = μ.1 208 (122 * q + j)
      exact (((congrFun ((hF8 208 (by omega)).trans (hF7 208 (by omega))) _).trans (hO6 (122 * q + j) (by have j1 : j < 122 := j1; omega))).trans (congrFun ((((((hF5 208 (by omega)).trans (hF4 208 (by omega))).trans (hF3 208 (by omega))).trans (hF2 208 (by omega))).trans (hF1 208 (by omega))).trans (hF0 208 (by omega))) _))
    · show w8.1 209 (202 * q + j) = μ.1 209 (202 * q + j)
      exact (((congrFun (hF8 209 (by omega)) _).trans (hO7 (202 * q + j) (by have j1 : j < 202 := j1; omega))).trans (congrFun (((((((hF6 209 (by omega)).trans (hF5 209 (by omega))).trans (hF4 209 (by omega))).trans (hF3 209 (by omega))).trans (hF2 209 (by omega))).trans (hF1 209 (by omega))).trans (hF0 209 (by omega))) _))
    · show w8.1 210 (34 * q + j) = μ.1 210 (34 * q + j)
      exact ((hO8 (34 * q + j) (by have j1 : j < 34 := j1; omega)).trans (congrFun ((((((((hF7 210 (by omega)).trans (hF6 210 (by omega))).trans (hF5 210 (by omega))).trans (hF4 210 (by omega))).trans (hF3 210 (by omega))).trans (hF2 210 (by omega))).trans (hF1 210 (by omega))).trans (hF0 210 (by omega))) _))
  · exact (((((((((hF8 c (by omega)).trans (hF7 c (by omega))).trans (hF6 c (by omega))).trans (hF5 c (by omega))).trans (hF4 c (by omega))).trans (hF3 c (by omega))).trans (hF2 c (by omega))).trans (hF1 c (by omega))).trans (hF0 c (by omega)))
theorem q_kc_tr {A A' A0 Af : Nat → Int → Int} {c d : Nat} (h : q_kc c d A A') (e1 : ∀ i, i ≤ 4 → Af (d + i) = A' (d + i)) (e0 : ∀ i, i ≤ 4 → A (c + i) = A0 (c + i)) : q_kc c d A0 Af := by
  have a0 : Af d = A' d := e1 0 (by omega)
  have b0 : A c = A0 c := e0 0 (by omega)
  unfold q_kc
  rw [a0, e1 1 (by omega), e1 2 (by omega), e1 3 (by omega), e1 4 (by omega), ← b0, ← e0 1 (by omega), ← e0 2 (by omega), ← e0 3 (by omega), ← e0 4 (by omega)]
  exact h
theorem q_kr_tr {A A' A0 Af : Nat → Int → Int} {c d : Nat} {l : Int} (h : q_kr c d l A A') (e1 : ∀ i, i ≤ 2 → Af (d + i) = A' (d + i)) (e0 : ∀ i, i ≤ 2 → A (c + i) = A0 (c + i)) : q_kr c d l A0 Af := by
  have a0 : Af d = A' d := e1 0 (by omega)
  have b0 : A c = A0 c := e0 0 (by omega)
  unfold q_kr
  rw [a0, e1 1 (by omega), e1 2 (by omega), ← b0, ← e0 1 (by omega), ← e0 2 (by omega)]
  exact h
theorem q_kc_cut {M M' : Nat → Int → Int} {s t x : Nat} (hx : x + 4 < 39) (h : q_kc (s + x) (t + x) M M') : q_kc x x (tp_cut M s 39) (tp_cut M' t 39) := by
  unfold q_kc
  rw [tp_cut_at (i := x) (by omega), tp_cut_at (i := x) (by omega), tp_cut_at (i := x + 1) (by omega), tp_cut_at (i := x + 1) (by omega), tp_cut_at (i := x + 2) (by omega), tp_cut_at (i := x + 2) (by omega), tp_cut_at (i := x + 3) (by omega), tp_cut_at (i := x + 3) (by omega), tp_cut_at (i := x + 4) (by omega), tp_cut_at (i := x + 4) (by omega)]
  exact h
theorem q_kr_cut {M M' : Nat → Int → Int} {s t x : Nat} {l : Int} (hx : x + 2 < 39) (h : q_kr (s + x) (t + x) l M M') : q_kr x x l (tp_cut M s 39) (tp_cut M' t 39) := by
  unfold q_kr
  rw [tp_cut_at (i := x) (by omega), tp_cut_at (i := x) (by omega), tp_cut_at (i := x + 1) (by omega), tp_cut_at (i := x + 1) (by omega), tp_cut_at (i := x + 2) (by omega), tp_cut_at (i := x + 2) (by omega)]
  exact h
set_option maxHeartbeats 4000000 in
set_option maxRecDepth 100000 in
theorem s_stc84_1 {G : tp_G} {μ : tp_M} (hG : tp_Gf G = true) : tp_k G mX9_copyFrom [tR (some 84), tR (some 1)] μ (fun r μ' => r = none ∧ q_kS (tp_cut μ.1 1 39) (tp_cut μ'.1 84 39) ∧ (∀ k, (k < 84 ∨ 122 < k) → μ'.1 k = μ.1 k) ∧ μ'.1 84 4 = μ.1 84 4) := by
  refine tp_ok_of mX9_copyFrom_ok rfl (Nat.le_refl _) ?_
  refine g_aload_n rfl rfl ?_
  refine x_getF (r := 2) hG rfl rfl (by decide) (Or.inr ⟨_, rfl⟩) rfl ?_
  refine g_iconst rfl ⟨by decide, by decide⟩ ?_
  refine g_aload_n rfl rfl ?_
  refine x_getF (r := 85) hG rfl rfl (by decide) (Or.inr ⟨_, rfl⟩) rfl ?_
  refine g_iconst rfl ⟨by decide, by decide⟩ ?_
  refine g_sipush rfl ⟨by decide, by decide⟩ (by decide) ?_
  refine g_copy (t0 := 1) (Or.inr rfl) rfl (by decide) rfl (by decide) rfl rfl (by decide) (by decide) (by decide) (by decide) (by decide) rfl ?_
  refine g_aload_n rfl rfl ?_
  refine g_aload_n rfl rfl ?_
  refine x_geti (v := ((tp_cp μ 2 85 0 0 600).1 1 1)) rfl rfl (by decide) (Or.inl rfl) rfl ?_
  refine g_puti rfl rfl (by decide) rfl rfl ?_
  refine g_aload_n rfl rfl ?_
  refine g_aload_n rfl rfl ?_
  refine x_geti (v := ((tp_cp μ 2 85 0 0 600).1 1 2)) rfl rfl (by decide) (Or.inl rfl) rfl ?_
  refine g_puti rfl rfl (by decide) rfl rfl ?_
  refine g_aload_n rfl rfl ?_
  refine g_aload_n rfl rfl ?_
  refine x_geti (v := ((tp_cp μ 2 85 0 0 600).1 1 3)) rfl rfl (by decide) (Or.inl rfl) rfl ?_
  refine g_puti rfl rfl (by decide) rfl rfl ?_
  refine g_aload_n rfl rfl ?_
  refine x_getF (r := 5) hG rfl rfl (by decide) (Or.inr ⟨_, rfl⟩) rfl ?_
  refine g_iconst rfl ⟨by decide, by decide⟩ ?_
  refine g_aload_n rfl rfl ?_
  refine x_getF (r := 88) hG rfl rfl (by decide) (Or.inr ⟨_, rfl⟩) rfl ?_
  refine g_iconst rfl ⟨by decide, by decide⟩ ?_
  refine g_iconst rfl ⟨by decide, by decide⟩ ?_
  refine g_copy (t0 := 0) (Or.inl rfl) rfl (by decide) rfl (by decide) rfl rfl (by decide) (by decide) (by decide) (by decide) (by decide) rfl ?_
  refine g_iconst rfl ⟨by decide, by decide⟩ ?_
  refine g_istore_n rfl rfl rfl ?_
  refine g_iload_n rfl rfl ?_
  refine g_iconst rfl ⟨by decide, by decide⟩ ?_
  refine g_icmp_ge (tgt := 82) rfl (by decide) (fun hx => absurd hx (by omega)) (fun _ => ?_)
  refine g_aload_n rfl rfl ?_
  refine x_getF (r := 86) hG rfl rfl (by decide) (Or.inr ⟨_, rfl⟩) rfl ?_
  refine g_iload_n rfl rfl ?_
  refine x_aald (t0 := 4) (r := 89) hG rfl rfl rfl (by decide) (by decide) (by decide) rfl ?_
  refine g_aload_n rfl rfl ?_
  refine x_getF (r := 3) hG rfl rfl (by decide) (Or.inr ⟨_, rfl⟩) rfl ?_
  refine g_iload_n rfl rfl ?_
  refine x_aald (t0 := 4) (r := 6) hG rfl rfl rfl (by decide) (by decide) (by decide) rfl ?_
  refine g_cV (as := [tR (some 6)]) (s_ccopy hG (c := 6) (d := 89) rfl rfl (by decide) (by decide) (by decide)) rfl rfl mX0_copyFrom_ok rfl rfl rfl (by decide) rfl rfl rfl ?_
  rintro _ w1 ⟨rfl, hK1, hF1⟩ _
  refine x_iinc (z := 1) rfl rfl (by omega) ⟨by omega, by omega⟩ rfl rfl ?_
  refine g_goto (tgt := 56) rfl (by decide) ?_
  refine g_iload_n rfl rfl ?_
  refine g_iconst rfl ⟨by decide, by decide⟩ ?_
  refine g_icmp_ge (tgt := 82) rfl (by decide) (fun hx => absurd hx (by omega)) (fun _ => ?_)
  refine g_aload_n rfl rfl ?_
  refine x_getF (r := 86) hG rfl rfl (by decide) (Or.inr ⟨_, rfl⟩) rfl ?_
  refine g_iload_n rfl rfl ?_
  refine x_aald (t0 := 4) (r := 94) hG rfl rfl rfl (by decide) (by decide) (by decide) rfl ?_
  refine g_aload_n rfl rfl ?_
  refine x_getF (r := 3) hG rfl rfl (by decide) (Or.inr ⟨_, rfl⟩) rfl ?_
  refine g_iload_n rfl rfl ?_
  refine x_aald (t0 := 4) (r := 11) hG rfl rfl rfl (by decide) (by decide) (by decide) rfl ?_
  refine g_cV (as := [tR (some 11)]) (s_ccopy hG (c := 11) (d := 94) rfl rfl (by decide) (by decide) (by decide)) rfl rfl mX0_copyFrom_ok rfl rfl rfl (by decide) rfl rfl rfl ?_
  rintro _ w2 ⟨rfl, hK2, hF2⟩ _
  refine x_iinc (z := 2) rfl rfl (by omega) ⟨by omega, by omega⟩ rfl rfl ?_
  refine g_goto (tgt := 56) rfl (by decide) ?_
  refine g_iload_n rfl rfl ?_
  refine g_iconst rfl ⟨by decide, by decide⟩ ?_
  refine g_icmp_ge (tgt := 82) rfl (by decide) (fun _ => ?_) (fun hx => absurd hx (by omega))
  refine g_iconst rfl ⟨by decide, by decide⟩ ?_
  refine g_istore_n rfl rfl rfl ?_
  refine g_iload_n rfl rfl ?_
  refine g_bipush rfl ⟨by decide, by decide⟩ (by decide) ?_
  refine g_icmp_ge (tgt := 111) rfl (by decide) (fun hx => absurd hx (by omega)) (fun _ => ?_)
  refine g_aload_n rfl rfl ?_
  refine x_getF (r := 87) hG rfl rfl (by decide) (Or.inr ⟨_, rfl⟩) rfl ?_
  refine g_iload_n rfl rfl ?_
  refine x_aald (t0 := 5) (r := 99) hG rfl rfl rfl (by decide) (by decide) (by decide) rfl ?_
  refine g_aload_n rfl rfl ?_
  refine x_getF (r := 4) hG rfl rfl (by decide) (Or.inr ⟨_, rfl⟩) rfl ?_
  refine g_iload_n rfl rfl ?_
  refine x_aald (t0 := 5) (r := 16) hG rfl rfl rfl (by decide) (by decide) (by decide) rfl ?_
  refine g_mok (fun hmk => ?_)
  refine g_cV (as := [tR (some 16)]) (s_rcopy hG (c := 16) (d := 99) rfl rfl (by decide) (by decide) (by decide) rfl (tp_m32 hmk 16 2).2) rfl rfl mX6_copyFrom_ok rfl rfl rfl (by decide) rfl rfl rfl ?_
  rintro _ w3 ⟨rfl, hK3, hF3⟩ _
  refine x_iinc (z := 1) rfl rfl (by omega) ⟨by omega, by omega⟩ rfl rfl ?_
  refine g_goto (tgt := 84) rfl (by decide) ?_
  refine g_iload_n rfl rfl ?_
  refine g_bipush rfl ⟨by decide, by decide⟩ (by decide) ?_
  refine g_icmp_ge (tgt := 111) rfl (by decide) (fun hx => absurd hx (by omega)) (fun _ => ?_)
  refine g_aload_n rfl rfl ?_
  refine x_getF (r := 87) hG rfl rfl (by decide) (Or.inr ⟨_, rfl⟩) rfl ?_
  refine g_iload_n rfl rfl ?_
  refine x_aald (t0 := 5) (r := 102) hG rfl rfl rfl (by decide) (by decide) (by decide) rfl ?_
  refine g_aload_n rfl rfl ?_
  refine x_getF (r := 4) hG rfl rfl (by decide) (Or.inr ⟨_, rfl⟩) rfl ?_
  refine g_iload_n rfl rfl ?_
  refine x_aald (t0 := 5) (r := 19) hG rfl rfl rfl (by decide) (by decide) (by decide) rfl ?_
  refine g_mok (fun hmk => ?_)
  refine g_cV (as := [tR (some 19)]) (s_rcopy hG (c := 19) (d := 102) rfl rfl (by decide) (by decide) (by decide) rfl (tp_m32 hmk 19 2).2) rfl rfl mX6_copyFrom_ok rfl rfl rfl (by decide) rfl rfl rfl ?_
  rintro _ w4 ⟨rfl, hK4, hF4⟩ _
  refine x_iinc (z := 2) rfl rfl (by omega) ⟨by omega, by omega⟩ rfl rfl ?_
  refine g_goto (tgt := 84) rfl (by decide) ?_
  refine g_iload_n rfl rfl ?_
  refine g_bipush rfl ⟨by decide, by decide⟩ (by decide) ?_
  refine g_icmp_ge (tgt := 111) rfl (by decide) (fun hx => absurd hx (by omega)) (fun _ => ?_)
  refine g_aload_n rfl rfl ?_
  refine x_getF (r := 87) hG rfl rfl (by decide) (Or.inr ⟨_, rfl⟩) rfl ?_
  refine g_iload_n rfl rfl ?_
  refine x_aald (t0 := 5) (r := 105) hG rfl rfl rfl (by decide) (by decide) (by decide) rfl ?_
  refine g_aload_n rfl rfl ?_
  refine x_getF (r := 4) hG rfl rfl (by decide) (Or.inr ⟨_, rfl⟩) rfl ?_
  refine g_iload_n rfl rfl ?_
  refine x_aald (t0 := 5) (r := 22) hG rfl rfl rfl (by decide) (by decide) (by decide) rfl ?_
  refine g_mok (fun hmk => ?_)
  refine g_cV (as := [tR (some 22)]) (s_rcopy hG (c := 22) (d := 105) rfl rfl (by decide) (by decide) (by decide) rfl (tp_m32 hmk 22 2).2) rfl rfl mX6_copyFrom_ok rfl rfl rfl (by decide) rfl rfl rfl ?_
  rintro _ w5 ⟨rfl, hK5, hF5⟩ _
  refine x_iinc (z := 3) rfl rfl (by omega) ⟨by omega, by omega⟩ rfl rfl ?_
  refine g_goto (tgt := 84) rfl (by decide) ?_
  refine g_iload_n rfl rfl ?_
  refine g_bipush rfl ⟨by decide, by decide⟩ (by decide) ?_
  refine g_icmp_ge (tgt := 111) rfl (by decide) (fun hx => absurd hx (by omega)) (fun _ => ?_)
  refine g_aload_n rfl rfl ?_
  refine x_getF (r := 87) hG rfl rfl (by decide) (Or.inr ⟨_, rfl⟩) rfl ?_
  refine g_iload_n rfl rfl ?_
  refine x_aald (t0 := 5) (r := 108) hG rfl rfl rfl (by decide) (by decide) (by decide) rfl ?_
  refine g_aload_n rfl rfl ?_
  refine x_getF (r := 4) hG rfl rfl (by decide) (Or.inr ⟨_, rfl⟩) rfl ?_
  refine g_iload_n rfl rfl ?_
  refine x_aald (t0 := 5) (r := 25) hG rfl rfl rfl (by decide) (by decide) (by decide) rfl ?_
  refine g_mok (fun hmk => ?_)
  refine g_cV (as := [tR (some 25)]) (s_rcopy hG (c := 25) (d := 108) rfl rfl (by decide) (by decide) (by decide) rfl (tp_m32 hmk 25 2).2) rfl rfl mX6_copyFrom_ok rfl rfl rfl (by decide) rfl rfl rfl ?_
  rintro _ w6 ⟨rfl, hK6, hF6⟩ _
  refine x_iinc (z := 4) rfl rfl (by omega) ⟨by omega, by omega⟩ rfl rfl ?_
  refine g_goto (tgt := 84) rfl (by decide) ?_
  refine g_iload_n rfl rfl ?_
  refine g_bipush rfl ⟨by decide, by decide⟩ (by decide) ?_
  refine g_icmp_ge (tgt := 111) rfl (by decide) (fun hx => absurd hx (by omega)) (fun _ => ?_)
  refine g_aload_n rfl rfl ?_
  refine x_getF (r := 87) hG rfl rfl (by decide) (Or.inr ⟨_, rfl⟩) rfl ?_
  refine g_iload_n rfl rfl ?_
  refine x_aald (t0 := 5) (r := 111) hG rfl rfl rfl (by decide) (by decide) (by decide) rfl ?_
  refine g_aload_n rfl rfl ?_
  refine x_getF (r := 4) hG rfl rfl (by decide) (Or.inr ⟨_, rfl⟩) rfl ?_
  refine g_iload_n rfl rfl ?_
  refine x_aald (t0 := 5) (r := 28) hG rfl rfl rfl (by decide) (by decide) (by decide) rfl ?_
  refine g_mok (fun hmk => ?_)
  refine g_cV (as := [tR (some 28)]) (s_rcopy hG (c := 28) (d := 111) rfl rfl (by decide) (by decide) (by decide) rfl (tp_m32 hmk 28 2).2) rfl rfl mX6_copyFrom_ok rfl rfl rfl (by decide) rfl rfl rfl ?_
  rintro _ w7 ⟨rfl, hK7, hF7⟩ _
  refine x_iinc (z := 5) rfl rfl (by omega) ⟨by omega, by omega⟩ rfl rfl ?_
  refine g_goto (tgt := 84) rfl (by decide) ?_
  refine g_iload_n rfl rfl ?_
  refine g_bipush rfl ⟨by decide, by decide⟩ (by decide) ?_
  refine g_icmp_ge (tgt := 111) rfl (by decide) (fun hx => absurd hx (by omega)) (fun _ => ?_)
  refine g_aload_n rfl rfl ?_
  refine x_getF (r := 87) hG rfl rfl (by decide) (Or.inr ⟨_, rfl⟩) rfl ?_
  refine g_iload_n rfl rfl ?_
  refine x_aald (t0 := 5) (r := 114) hG rfl rfl rfl (by decide) (by decide) (by decide) rfl ?_
  refine g_aload_n rfl rfl ?_
  refine x_getF (r := 4) hG rfl rfl (by decide) (Or.inr ⟨_, rfl⟩) rfl ?_
  refine g_iload_n rfl rfl ?_
  refine x_aald (t0 := 5) (r := 31) hG rfl rfl rfl (by decide) (by decide) (by decide) rfl ?_
  refine g_mok (fun hmk => ?_)
  refine g_cV (as := [tR (some 31)]) (s_rcopy hG (c := 31) (d := 114) rfl rfl (by decide) (by decide) (by decide) rfl (tp_m32 hmk 31 2).2) rfl rfl mX6_copyFrom_ok rfl rfl rfl (by decide) rfl rfl rfl ?_
  rintro _ w8 ⟨rfl, hK8, hF8⟩ _
  refine x_iinc (z := 6) rfl rfl (by omega) ⟨by omega, by omega⟩ rfl rfl ?_
  refine g_goto (tgt := 84) rfl (by decide) ?_
  refine g_iload_n rfl rfl ?_
  refine g_bipush rfl ⟨by decide, by decide⟩ (by decide) ?_
  refine g_icmp_ge (tgt := 111) rfl (by decide) (fun hx => absurd hx (by omega)) (fun _ => ?_)
  refine g_aload_n rfl rfl ?_
  refine x_getF (r := 87) hG rfl rfl (by decide) (Or.inr ⟨_, rfl⟩) rfl ?_
  refine g_iload_n rfl rfl ?_
  refine x_aald (t0 := 5) (r := 117) hG rfl rfl rfl (by decide) (by decide) (by decide) rfl ?_
  refine g_aload_n rfl rfl ?_
  refine x_getF (r := 4) hG rfl rfl (by decide) (Or.inr ⟨_, rfl⟩) rfl ?_
  refine g_iload_n rfl rfl ?_
  refine x_aald (t0 := 5) (r := 34) hG rfl rfl rfl (by decide) (by decide) (by decide) rfl ?_
  refine g_mok (fun hmk => ?_)
  refine g_cV (as := [tR (some 34)]) (s_rcopy hG (c := 34) (d := 117) rfl rfl (by decide) (by decide) (by decide) rfl (tp_m32 hmk 34 2).2) rfl rfl mX6_copyFrom_ok rfl rfl rfl (by decide) rfl rfl rfl ?_
  rintro _ w9 ⟨rfl, hK9, hF9⟩ _
  refine x_iinc (z := 7) rfl rfl (by omega) ⟨by omega, by omega⟩ rfl rfl ?_
  refine g_goto (tgt := 84) rfl (by decide) ?_
  refine g_iload_n rfl rfl ?_
  refine g_bipush rfl ⟨by decide, by decide⟩ (by decide) ?_
  refine g_icmp_ge (tgt := 111) rfl (by decide) (fun hx => absurd hx (by omega)) (fun _ => ?_)
  refine g_aload_n rfl rfl ?_
  refine x_getF (r := 87) hG rfl rfl (by decide) (Or.inr ⟨_, rfl⟩) rfl ?_
  refine g_iload_n rfl rfl ?_
  refine x_aald (t0 := 5) (r := 120) hG rfl rfl rfl (by decide) (by decide) (by decide) rfl ?_
  refine g_aload_n rfl rfl ?_
  refine x_getF (r := 4) hG rfl rfl (by decide) (Or.inr ⟨_, rfl⟩) rfl ?_
  refine g_iload_n rfl rfl ?_
  refine x_aald (t0 := 5) (r := 37) hG rfl rfl rfl (by decide) (by decide) (by decide) rfl ?_
  refine g_mok (fun hmk => ?_)
  refine g_cV (as := [tR (some 37)]) (s_rcopy hG (c := 37) (d := 120) rfl rfl (by decide) (by decide) (by decide) rfl (tp_m32 hmk 37 2).2) rfl rfl mX6_copyFrom_ok rfl rfl rfl (by decide) rfl rfl rfl ?_
  rintro _ w10 ⟨rfl, hK10, hF10⟩ _
  refine x_iinc (z := 8) rfl rfl (by omega) ⟨by omega, by omega⟩ rfl rfl ?_
  refine g_goto (tgt := 84) rfl (by decide) ?_
  refine g_iload_n rfl rfl ?_
  refine g_bipush rfl ⟨by decide, by decide⟩ (by decide) ?_
  refine g_icmp_ge (tgt := 111) rfl (by decide) (fun _ => ?_) (fun hx => absurd hx (by omega))
  refine x_return rfl rfl ?_
  have hE : ∀ k, (k < 84 ∨ 88 < k) → ((tp_cp (tp_pi (tp_pi (tp_pi (tp_cp μ 2 85 0 0 600) 84 1 ((tp_cp μ 2 85 0 0 600).1 1 1)) 84 2 ((tp_cp μ 2 85 0 0 600).1 1 2)) 84 3 ((tp_cp μ 2 85 0 0 600).1 1 3)) 5 88 0 0 4)).1 k = μ.1 k := fun k hk => by rw [tp_cp_ne (by omega), tp_pi_ne (by omega), tp_pi_ne (by omega), tp_pi_ne (by omega), tp_cp_ne (by omega)]
  have hE4 : ∀ j, 0 ≤ j → j < 4 → ((tp_cp (tp_pi (tp_pi (tp_pi (tp_cp μ 2 85 0 0 600) 84 1 ((tp_cp μ 2 85 0 0 600).1 1 1)) 84 2 ((tp_cp μ 2 85 0 0 600).1 1 2)) 84 3 ((tp_cp μ 2 85 0 0 600).1 1 3)) 5 88 0 0 4)).1 88 j = μ.1 5 j := fun j j0 j1 => by rw [tp_cp_at j0 j1, tp_pi_ne (by omega), tp_pi_ne (by omega), tp_pi_ne (by omega), tp_cp_ne (by omega)]
  have hE1 : ∀ j, 0 ≤ j → j < 600 → ((tp_cp (tp_pi (tp_pi (tp_pi (tp_cp μ 2 85 0 0 600) 84 1 ((tp_cp μ 2 85 0 0 600).1 1 1)) 84 2 ((tp_cp μ 2 85 0 0 600).1 1 2)) 84 3 ((tp_cp μ 2 85 0 0 600).1 1 3)) 5 88 0 0 4)).1 85 j = μ.1 2 j := fun j j0 j1 => by rw [tp_cp_ne (by omega), tp_pi_ne (by omega), tp_pi_ne (by omega), tp_pi_ne (by omega), tp_cp_at j0 j1]
  refine ⟨rfl, ⟨⟨?_, ?_, ?_⟩, fun j j0 j1 => ?_, fun j j0 j1 => ?_, fun k hk => ?_, fun k hk => ?_, fun k hk => ?_, fun k hk => ?_⟩, fun k hk => ?_, ?_⟩
  · show w10.1 84 1 = μ.1 1 1
    exact (congrFun ((((((((((hF10 (84) (by omega)).trans (hF9 (84) (by omega))).trans (hF8 (84) (by omega))).trans (hF7 (84) (by omega))).trans (hF6 (84) (by omega))).trans (hF5 (84) (by omega))).trans (hF4 (84) (by omega))).trans (hF3 (84) (by omega))).trans (hF2 (84) (by omega))).trans (hF1 (84) (by omega))) _).trans rfl
  · show w10.1 84 2 = μ.1 1 2
    exact (congrFun ((((((((((hF10 (84) (by omega)).trans (hF9 (84) (by omega))).trans (hF8 (84) (by omega))).trans (hF7 (84) (by omega))).trans (hF6 (84) (by omega))).trans (hF5 (84) (by omega))).trans (hF4 (84) (by omega))).trans (hF3 (84) (by omega))).trans (hF2 (84) (by omega))).trans (hF1 (84) (by omega))) _).trans rfl
  · show w10.1 84 3 = μ.1 1 3
    exact (congrFun ((((((((((hF10 (84) (by omega)).trans (hF9 (84) (by omega))).trans (hF8 (84) (by omega))).trans (hF7 (84) (by omega))).trans (hF6 (84) (by omega))).trans (hF5 (84) (by omega))).trans (hF4 (84) (by omega))).trans (hF3 (84) (by omega))).trans (hF2 (84) (by omega))).trans (hF1 (84) (by omega))) _).trans rfl
  · show w10.1 85 j = μ.1 2 j
    exact (congrFun ((((((((((hF10 (85) (by omega)).trans (hF9 (85) (by omega))).trans (hF8 (85) (by omega))).trans (hF7 (85) (by omega))).trans (hF6 (85) (by omega))).trans (hF5 (85) (by omega))).trans (hF4 (85) (by omega))).trans (hF3 (85) (by omega))).trans (hF2 (85) (by omega))).trans (hF1 (85) (by omega))) _).trans (hE1 j j0 j1)
  · show w10.1 88 j = μ.1 5 j
    exact (congrFun ((((((((((hF10 (88) (by omega)).trans (hF9 (88) (by omega))).trans (hF8 (88) (by omega))).trans (hF7 (88) (by omega))).trans (hF6 (88) (by omega))).trans (hF5 (88) (by omega))).trans (hF4 (88) (by omega))).trans (hF3 (88) (by omega))).trans (hF2 (88) (by omega))).trans (hF1 (88) (by omega))) _).trans (hE4 j j0 j1)
  · rcases (show k = 0 ∨ k = 1 by omega) with rfl | rfl
    · exact q_kc_cut (s := 1) (t := 84) (x := 5) (by omega) (q_kc_tr (c := 6) (d := 89) hK1 (fun i hi => (((((((((hF10 (89 + i) (by omega)).trans (hF9 (89 + i) (by omega))).trans (hF8 (89 + i) (by omega))).trans (hF7 (89 + i) (by omega))).trans (hF6 (89 + i) (by omega))).trans (hF5 (89 + i) (by omega))).trans (hF4 (89 + i) (by omega))).trans (hF3 (89 + i) (by omega))).trans (hF2 (89 + i) (by omega)))) (fun i hi => (hE (6 + i) (by omega))))
    · exact q_kc_cut (s := 1) (t := 84) (x := 10) (by omega) (q_kc_tr (c := 11) (d := 94) hK2 (fun i hi => ((((((((hF10 (94 + i) (by omega)).trans (hF9 (94 + i) (by omega))).trans (hF8 (94 + i) (by omega))).trans (hF7 (94 + i) (by omega))).trans (hF6 (94 + i) (by omega))).trans (hF5 (94 + i) (by omega))).trans (hF4 (94 + i) (by omega))).trans (hF3 (94 + i) (by omega)))) (fun i hi => ((hF1 (11 + i) (by omega)).trans (hE (11 + i) (by omega)))))
  · rcases (show k = 0 ∨ k = 1 by omega) with rfl | rfl
    · exact q_kr_cut (s := 1) (t := 84) (x := 21) (by omega) (q_kr_tr (c := 22) (d := 105) hK5 (fun i hi => (((((hF10 (105 + i) (by omega)).trans (hF9 (105 + i) (by omega))).trans (hF8 (105 + i) (by omega))).trans (hF7 (105 + i) (by omega))).trans (hF6 (105 + i) (by omega)))) (fun i hi => (((((hF4 (22 + i) (by omega)).trans (hF3 (22 + i) (by omega))).trans (hF2 (22 + i) (by omega))).trans (hF1 (22 + i) (by omega))).trans (hE (22 + i) (by omega)))))
    · exact q_kr_cut (s := 1) (t := 84) (x := 24) (by omega) (q_kr_tr (c := 25) (d := 108) hK6 (fun i hi => ((((hF10 (108 + i) (by omega)).trans (hF9 (108 + i) (by omega))).trans (hF8 (108 + i) (by omega))).trans (hF7 (108 + i) (by omega)))) (fun i hi => ((((((hF5 (25 + i) (by omega)).trans (hF4 (25 + i) (by omega))).trans (hF3 (25 + i) (by omega))).trans (hF2 (25 + i) (by omega))).trans (hF1 (25 + i) (by omega))).trans (hE (25 + i) (by omega)))))
  · rcases (show k = 0 ∨ k = 1 by omega) with rfl | rfl
    · exact q_kr_cut (s := 1) (t := 84) (x := 27) (by omega) (q_kr_tr (c := 28) (d := 111) hK7 (fun i hi => (((hF10 (111 + i) (by omega)).trans (hF9 (111 + i) (by omega))).trans (hF8 (111 + i) (by omega)))) (fun i hi => (((((((hF6 (28 + i) (by omega)).trans (hF5 (28 + i) (by omega))).trans (hF4 (28 + i) (by omega))).trans (hF3 (28 + i) (by omega))).trans (hF2 (28 + i) (by omega))).trans (hF1 (28 + i) (by omega))).trans (hE (28 + i) (by omega)))))
    · exact q_kr_cut (s := 1) (t := 84) (x := 30) (by omega) (q_kr_tr (c := 31) (d := 114) hK8 (fun i hi => ((hF10 (114 + i) (by omega)).trans (hF9 (114 + i) (by omega)))) (fun i hi => ((((((((hF7 (31 + i) (by omega)).trans (hF6 (31 + i) (by omega))).trans (hF5 (31 + i) (by omega))).trans (hF4 (31 + i) (by omega))).trans (hF3 (31 + i) (by omega))).trans (hF2 (31 + i) (by omega))).trans (hF1 (31 + i) (by omega))).trans (hE (31 + i) (by omega)))))
  · rcases (show k = 0 ∨ k = 1 by omega) with rfl | rfl
    · exact q_kr_cut (s := 1) (t := 84) (x := 33) (by omega) (q_kr_tr (c := 34) (d := 117) hK9 (fun i hi => (hF10 (117 + i) (by omega))) (fun i hi => (((((((((hF8 (34 + i) (by omega)).trans (hF7 (34 + i) (by omega))).trans (hF6 (34 + i) (by omega))).trans (hF5 (34 + i) (by omega))).trans (hF4 (34 + i) (by omega))).trans (hF3 (34 + i) (by omega))).trans (hF2 (34 + i) (by omega))).trans (hF1 (34 + i) (by omega))).trans (hE (34 + i) (by omega)))))
    · exact q_kr_cut (s := 1) (t := 84) (x := 36) (by omega) (q_kr_tr (c := 37) (d := 120) hK10 (fun i hi => rfl) (fun i hi => ((((((((((hF9 (37 + i) (by omega)).trans (hF8 (37 + i) (by omega))).trans (hF7 (37 + i) (by omega))).trans (hF6 (37 + i) (by omega))).trans (hF5 (37 + i) (by omega))).trans (hF4 (37 + i) (by omega))).trans (hF3 (37 + i) (by omega))).trans (hF2 (37 + i) (by omega))).trans (hF1 (37 + i) (by omega))).trans (hE (37 + i) (by omega)))))
  · exact (((((((((((hF10 k (by omega)).trans (hF9 k (by omega))).trans (hF8 k (by omega))).trans (hF7 k (by omega))).trans (hF6 k (by omega))).trans (hF5 k (by omega))).trans (hF4 k (by omega))).trans (hF3 k (by omega))).trans (hF2 k (by omega))).trans (hF1 k (by omega))).trans (hE k (by omega)))
  · exact (congrFun ((((((((((hF10 (84) (by omega)).trans (hF9 (84) (by omega))).trans (hF8 (84) (by omega))).trans (hF7 (84) (by omega))).trans (hF6 (84) (by omega))).trans (hF5 (84) (by omega))).trans (hF4 (84) (by omega))).trans (hF3 (84) (by omega))).trans (hF2 (84) (by omega))).trans (hF1 (84) (by omega))) _).trans rfl
set_option maxHeartbeats 4000000 in
set_option maxRecDepth 100000 in
theorem s_stc1_84 {G : tp_G} {μ : tp_M} (hG : tp_Gf G = true) : tp_k G mX9_copyFrom [tR (some 1), tR (some 84)] μ (fun r μ' => r = none ∧ q_kS (tp_cut μ.1 84 39) (tp_cut μ'.1 1 39) ∧ (∀ k, (k < 1 ∨ 39 < k) → μ'.1 k = μ.1 k) ∧ μ'.1 1 4 = μ.1 1 4) := by
  refine tp_ok_of mX9_copyFrom_ok rfl (Nat.le_refl _) ?_
  refine g_aload_n rfl rfl ?_
  refine x_getF (r := 85) hG rfl rfl (by decide) (Or.inr ⟨_, rfl⟩) rfl ?_
  refine g_iconst rfl ⟨by decide, by decide⟩ ?_
  refine g_aload_n rfl rfl ?_
  refine x_getF (r := 2) hG rfl rfl (by decide) (Or.inr ⟨_, rfl⟩) rfl ?_
  refine g_iconst rfl ⟨by decide, by decide⟩ ?_
  refine g_sipush rfl ⟨by decide, by decide⟩ (by decide) ?_
  refine g_copy (t0 := 1) (Or.inr rfl) rfl (by decide) rfl (by decide) rfl rfl (by decide) (by decide) (by decide) (by decide) (by decide) rfl ?_
  refine g_aload_n rfl rfl ?_
  refine g_aload_n rfl rfl ?_
  refine x_geti (v := ((tp_cp μ 85 2 0 0 600).1 84 1)) rfl rfl (by decide) (Or.inl rfl) rfl ?_
  refine g_puti rfl rfl (by decide) rfl rfl ?_
  refine g_aload_n rfl rfl ?_
  refine g_aload_n rfl rfl ?_
  refine x_geti (v := ((tp_cp μ 85 2 0 0 600).1 84 2)) rfl rfl (by decide) (Or.inl rfl) rfl ?_
  refine g_puti rfl rfl (by decide) rfl rfl ?_
  refine g_aload_n rfl rfl ?_
  refine g_aload_n rfl rfl ?_
  refine x_geti (v := ((tp_cp μ 85 2 0 0 600).1 84 3)) rfl rfl (by decide) (Or.inl rfl) rfl ?_
  refine g_puti rfl rfl (by decide) rfl rfl ?_
  refine g_aload_n rfl rfl ?_
  refine x_getF (r := 88) hG rfl rfl (by decide) (Or.inr ⟨_, rfl⟩) rfl ?_
  refine g_iconst rfl ⟨by decide, by decide⟩ ?_
  refine g_aload_n rfl rfl ?_
  refine x_getF (r := 5) hG rfl rfl (by decide) (Or.inr ⟨_, rfl⟩) rfl ?_
  refine g_iconst rfl ⟨by decide, by decide⟩ ?_
  refine g_iconst rfl ⟨by decide, by decide⟩ ?_
  refine g_copy (t0 := 0) (Or.inl rfl) rfl (by decide) rfl (by decide) rfl rfl (by decide) (by decide) (by decide) (by decide) (by decide) rfl ?_
  refine g_iconst rfl ⟨by decide, by decide⟩ ?_
  refine g_istore_n rfl rfl rfl ?_
  refine g_iload_n rfl rfl ?_
  refine g_iconst rfl ⟨by decide, by decide⟩ ?_
  refine g_icmp_ge (tgt := 82) rfl (by decide) (fun hx => absurd hx (by omega)) (fun _ => ?_)
  refine g_aload_n rfl rfl ?_
  refine x_getF (r := 3) hG rfl rfl (by decide) (Or.inr ⟨_, rfl⟩) rfl ?_
  refine g_iload_n rfl rfl ?_
  refine x_aald (t0 := 4) (r := 6) hG rfl rfl rfl (by decide) (by decide) (by decide) rfl ?_
  refine g_aload_n rfl rfl ?_
  refine x_getF (r := 86) hG rfl rfl (by decide) (Or.inr ⟨_, rfl⟩) rfl ?_
  refine g_iload_n rfl rfl ?_
  refine x_aald (t0 := 4) (r := 89) hG rfl rfl rfl (by decide) (by decide) (by decide) rfl ?_
  refine g_cV (as := [tR (some 89)]) (s_ccopy hG (c := 89) (d := 6) rfl rfl (by decide) (by decide) (by decide)) rfl rfl mX0_copyFrom_ok rfl rfl rfl (by decide) rfl rfl rfl ?_
  rintro _ w1 ⟨rfl, hK1, hF1⟩ _
  refine x_iinc (z := 1) rfl rfl (by omega) ⟨by omega, by omega⟩ rfl rfl ?_
  refine g_goto (tgt := 56) rfl (by decide) ?_
  refine g_iload_n rfl rfl ?_
  refine g_iconst rfl ⟨by decide, by decide⟩ ?_
  refine g_icmp_ge (tgt := 82) rfl (by decide) (fun hx => absurd hx (by omega)) (fun _ => ?_)
  refine g_aload_n rfl rfl ?_
  refine x_getF (r := 3) hG rfl rfl (by decide) (Or.inr ⟨_, rfl⟩) rfl ?_
  refine g_iload_n rfl rfl ?_
  refine x_aald (t0 := 4) (r := 11) hG rfl rfl rfl (by decide) (by decide) (by decide) rfl ?_
  refine g_aload_n rfl rfl ?_
  refine x_getF (r := 86) hG rfl rfl (by decide) (Or.inr ⟨_, rfl⟩) rfl ?_
  refine g_iload_n rfl rfl ?_
  refine x_aald (t0 := 4) (r := 94) hG rfl rfl rfl (by decide) (by decide) (by decide) rfl ?_
  refine g_cV (as := [tR (some 94)]) (s_ccopy hG (c := 94) (d := 11) rfl rfl (by decide) (by decide) (by decide)) rfl rfl mX0_copyFrom_ok rfl rfl rfl (by decide) rfl rfl rfl ?_
  rintro _ w2 ⟨rfl, hK2, hF2⟩ _
  refine x_iinc (z := 2) rfl rfl (by omega) ⟨by omega, by omega⟩ rfl rfl ?_
  refine g_goto (tgt := 56) rfl (by decide) ?_
  refine g_iload_n rfl rfl ?_
  refine g_iconst rfl ⟨by decide, by decide⟩ ?_
  refine g_icmp_ge (tgt := 82) rfl (by decide) (fun _ => ?_) (fun hx => absurd hx (by omega))
  refine g_iconst rfl ⟨by decide, by decide⟩ ?_
  refine g_istore_n rfl rfl rfl ?_
  refine g_iload_n rfl rfl ?_
  refine g_bipush rfl ⟨by decide, by decide⟩ (by decide) ?_
  refine g_icmp_ge (tgt := 111) rfl (by decide) (fun hx => absurd hx (by omega)) (fun _ => ?_)
  refine g_aload_n rfl rfl ?_
  refine x_getF (r := 4) hG rfl rfl (by decide) (Or.inr ⟨_, rfl⟩) rfl ?_
  refine g_iload_n rfl rfl ?_
  refine x_aald (t0 := 5) (r := 16) hG rfl rfl rfl (by decide) (by decide) (by decide) rfl ?_
  refine g_aload_n rfl rfl ?_
  refine x_getF (r := 87) hG rfl rfl (by decide) (Or.inr ⟨_, rfl⟩) rfl ?_
  refine g_iload_n rfl rfl ?_
  refine x_aald (t0 := 5) (r := 99) hG rfl rfl rfl (by decide) (by decide) (by decide) rfl ?_
  refine g_mok (fun hmk => ?_)
  refine g_cV (as := [tR (some 99)]) (s_rcopy hG (c := 99) (d := 16) rfl rfl (by decide) (by decide) (by decide) rfl (tp_m32 hmk 99 2).2) rfl rfl mX6_copyFrom_ok rfl rfl rfl (by decide) rfl rfl rfl ?_
  rintro _ w3 ⟨rfl, hK3, hF3⟩ _
  refine x_iinc (z := 1) rfl rfl (by omega) ⟨by omega, by omega⟩ rfl rfl ?_
  refine g_goto (tgt := 84) rfl (by decide) ?_
  refine g_iload_n rfl rfl ?_
  refine g_bipush rfl ⟨by decide, by decide⟩ (by decide) ?_
  refine g_icmp_ge (tgt := 111) rfl (by decide) (fun hx => absurd hx (by omega)) (fun _ => ?_)
  refine g_aload_n rfl rfl ?_
  refine x_getF (r := 4) hG rfl rfl (by decide) (Or.inr ⟨_, rfl⟩) rfl ?_
  refine g_iload_n rfl rfl ?_
  refine x_aald (t0 := 5) (r := 19) hG rfl rfl rfl (by decide) (by decide) (by decide) rfl ?_
  refine g_aload_n rfl rfl ?_
  refine x_getF (r := 87) hG rfl rfl (by decide) (Or.inr ⟨_, rfl⟩) rfl ?_
  refine g_iload_n rfl rfl ?_
  refine x_aald (t0 := 5) (r := 102) hG rfl rfl rfl (by decide) (by decide) (by decide) rfl ?_
  refine g_mok (fun hmk => ?_)
  refine g_cV (as := [tR (some 102)]) (s_rcopy hG (c := 102) (d := 19) rfl rfl (by decide) (by decide) (by decide) rfl (tp_m32 hmk 102 2).2) rfl rfl mX6_copyFrom_ok rfl rfl rfl (by decide) rfl rfl rfl ?_
  rintro _ w4 ⟨rfl, hK4, hF4⟩ _
  refine x_iinc (z := 2) rfl rfl (by omega) ⟨by omega, by omega⟩ rfl rfl ?_
  refine g_goto (tgt := 84) rfl (by decide) ?_
  refine g_iload_n rfl rfl ?_
  refine g_bipush rfl ⟨by decide, by decide⟩ (by decide) ?_
  refine g_icmp_ge (tgt := 111) rfl (by decide) (fun hx => absurd hx (by omega)) (fun _ => ?_)
  refine g_aload_n rfl rfl ?_
  refine x_getF (r := 4) hG rfl rfl (by decide) (Or.inr ⟨_, rfl⟩) rfl ?_
  refine g_iload_n rfl rfl ?_
  refine x_aald (t0 := 5) (r := 22) hG rfl rfl rfl (by decide) (by decide) (by decide) rfl ?_
  refine g_aload_n rfl rfl ?_
  refine x_getF (r := 87) hG rfl rfl (by decide) (Or.inr ⟨_, rfl⟩) rfl ?_
  refine g_iload_n rfl rfl ?_
  refine x_aald (t0 := 5) (r := 105) hG rfl rfl rfl (by decide) (by decide) (by decide) rfl ?_
  refine g_mok (fun hmk => ?_)
  refine g_cV (as := [tR (some 105)]) (s_rcopy hG (c := 105) (d := 22) rfl rfl (by decide) (by decide) (by decide) rfl (tp_m32 hmk 105 2).2) rfl rfl mX6_copyFrom_ok rfl rfl rfl (by decide) rfl rfl rfl ?_
  rintro _ w5 ⟨rfl, hK5, hF5⟩ _
  refine x_iinc (z := 3) rfl rfl (by omega) ⟨by omega, by omega⟩ rfl rfl ?_
  refine g_goto (tgt := 84) rfl (by decide) ?_
  refine g_iload_n rfl rfl ?_
  refine g_bipush rfl ⟨by decide, by decide⟩ (by decide) ?_
  refine g_icmp_ge (tgt := 111) rfl (by decide) (fun hx => absurd hx (by omega)) (fun _ => ?_)
  refine g_aload_n rfl rfl ?_
  refine x_getF (r := 4) hG rfl rfl (by decide) (Or.inr ⟨_, rfl⟩) rfl ?_
  refine g_iload_n rfl rfl ?_
  refine x_aald (t0 := 5) (r := 25) hG rfl rfl rfl (by decide) (by decide) (by decide) rfl ?_
  refine g_aload_n rfl rfl ?_
  refine x_getF (r := 87) hG rfl rfl (by decide) (Or.inr ⟨_, rfl⟩) rfl ?_
  refine g_iload_n rfl rfl ?_
  refine x_aald (t0 := 5) (r := 108) hG rfl rfl rfl (by decide) (by decide) (by decide) rfl ?_
  refine g_mok (fun hmk => ?_)
  refine g_cV (as := [tR (some 108)]) (s_rcopy hG (c := 108) (d := 25) rfl rfl (by decide) (by decide) (by decide) rfl (tp_m32 hmk 108 2).2) rfl rfl mX6_copyFrom_ok rfl rfl rfl (by decide) rfl rfl rfl ?_
  rintro _ w6 ⟨rfl, hK6, hF6⟩ _
  refine x_iinc (z := 4) rfl rfl (by omega) ⟨by omega, by omega⟩ rfl rfl ?_
  refine g_goto (tgt := 84) rfl (by decide) ?_
  refine g_iload_n rfl rfl ?_
  refine g_bipush rfl ⟨by decide, by decide⟩ (by decide) ?_
  refine g_icmp_ge (tgt := 111) rfl (by decide) (fun hx => absurd hx (by omega)) (fun _ => ?_)
  refine g_aload_n rfl rfl ?_
  refine x_getF (r := 4) hG rfl rfl (by decide) (Or.inr ⟨_, rfl⟩) rfl ?_
  refine g_iload_n rfl rfl ?_
  refine x_aald (t0 := 5) (r := 28) hG rfl rfl rfl (by decide) (by decide) (by decide) rfl ?_
  refine g_aload_n rfl rfl ?_
  refine x_getF (r := 87) hG rfl rfl (by decide) (Or.inr ⟨_, rfl⟩) rfl ?_
  refine g_iload_n rfl rfl ?_
  refine x_aald (t0 := 5) (r := 111) hG rfl rfl rfl (by decide) (by decide) (by decide) rfl ?_
  refine g_mok (fun hmk => ?_)
  refine g_cV (as := [tR (some 111)]) (s_rcopy hG (c := 111) (d := 28) rfl rfl (by decide) (by decide) (by decide) rfl (tp_m32 hmk 111 2).2) rfl rfl mX6_copyFrom_ok rfl rfl rfl (by decide) rfl rfl rfl ?_
  rintro _ w7 ⟨rfl, hK7, hF7⟩ _
  refine x_iinc (z := 5) rfl rfl (by omega) ⟨by omega, by omega⟩ rfl rfl ?_
  refine g_goto (tgt := 84) rfl (by decide) ?_
  refine g_iload_n rfl rfl ?_
  refine g_bipush rfl ⟨by decide, by decide⟩ (by decide) ?_
  refine g_icmp_ge (tgt := 111) rfl (by decide) (fun hx => absurd hx (by omega)) (fun _ => ?_)
  refine g_aload_n rfl rfl ?_
  refine x_getF (r := 4) hG rfl rfl (by decide) (Or.inr ⟨_, rfl⟩) rfl ?_
  refine g_iload_n rfl rfl ?_
  refine x_aald (t0 := 5) (r := 31) hG rfl rfl rfl (by decide) (by decide) (by decide) rfl ?_
  refine g_aload_n rfl rfl ?_
  refine x_getF (r := 87) hG rfl rfl (by decide) (Or.inr ⟨_, rfl⟩) rfl ?_
  refine g_iload_n rfl rfl ?_
  refine x_aald (t0 := 5) (r := 114) hG rfl rfl rfl (by decide) (by decide) (by decide) rfl ?_
  refine g_mok (fun hmk => ?_)
  refine g_cV (as := [tR (some 114)]) (s_rcopy hG (c := 114) (d := 31) rfl rfl (by decide) (by decide) (by decide) rfl (tp_m32 hmk 114 2).2) rfl rfl mX6_copyFrom_ok rfl rfl rfl (by decide) rfl rfl rfl ?_
  rintro _ w8 ⟨rfl, hK8, hF8⟩ _
  refine x_iinc (z := 6) rfl rfl (by omega) ⟨by omega, by omega⟩ rfl rfl ?_
  refine g_goto (tgt := 84) rfl (by decide) ?_
  refine g_iload_n rfl rfl ?_
  refine g_bipush rfl ⟨by decide, by decide⟩ (by decide) ?_
  refine g_icmp_ge (tgt := 111) rfl (by decide) (fun hx => absurd hx (by omega)) (fun _ => ?_)
  refine g_aload_n rfl rfl ?_
  refine x_getF (r := 4) hG rfl rfl (by decide) (Or.inr ⟨_, rfl⟩) rfl ?_
  refine g_iload_n rfl rfl ?_
  refine x_aald (t0 := 5) (r := 34) hG rfl rfl rfl (by decide) (by decide) (by decide) rfl ?_
  refine g_aload_n rfl rfl ?_
  refine x_getF (r := 87) hG rfl rfl (by decide) (Or.inr ⟨_, rfl⟩) rfl ?_
  refine g_iload_n rfl rfl ?_
  refine x_aald (t0 := 5) (r := 117) hG rfl rfl rfl (by decide) (by decide) (by decide) rfl ?_
  refine g_mok (fun hmk => ?_)
  refine g_cV (as := [tR (some 117)]) (s_rcopy hG (c := 117) (d := 34) rfl rfl (by decide) (by decide) (by decide) rfl (tp_m32 hmk 117 2).2) rfl rfl mX6_copyFrom_ok rfl rfl rfl (by decide) rfl rfl rfl ?_
  rintro _ w9 ⟨rfl, hK9, hF9⟩ _
  refine x_iinc (z := 7) rfl rfl (by omega) ⟨by omega, by omega⟩ rfl rfl ?_
  refine g_goto (tgt := 84) rfl (by decide) ?_
  refine g_iload_n rfl rfl ?_
  refine g_bipush rfl ⟨by decide, by decide⟩ (by decide) ?_
  refine g_icmp_ge (tgt := 111) rfl (by decide) (fun hx => absurd hx (by omega)) (fun _ => ?_)
  refine g_aload_n rfl rfl ?_
  refine x_getF (r := 4) hG rfl rfl (by decide) (Or.inr ⟨_, rfl⟩) rfl ?_
  refine g_iload_n rfl rfl ?_
  refine x_aald (t0 := 5) (r := 37) hG rfl rfl rfl (by decide) (by decide) (by decide) rfl ?_
  refine g_aload_n rfl rfl ?_
  refine x_getF (r := 87) hG rfl rfl (by decide) (Or.inr ⟨_, rfl⟩) rfl ?_
  refine g_iload_n rfl rfl ?_
  refine x_aald (t0 := 5) (r := 120) hG rfl rfl rfl (by decide) (by decide) (by decide) rfl ?_
  refine g_mok (fun hmk => ?_)
  refine g_cV (as := [tR (some 120)]) (s_rcopy hG (c := 120) (d := 37) rfl rfl (by decide) (by decide) (by decide) rfl (tp_m32 hmk 120 2).2) rfl rfl mX6_copyFrom_ok rfl rfl rfl (by decide) rfl rfl rfl ?_
  rintro _ w10 ⟨rfl, hK10, hF10⟩ _
  refine x_iinc (z := 8) rfl rfl (by omega) ⟨by omega, by omega⟩ rfl rfl ?_
  refine g_goto (tgt := 84) rfl (by decide) ?_
  refine g_iload_n rfl rfl ?_
  refine g_bipush rfl ⟨by decide, by decide⟩ (by decide) ?_
  refine g_icmp_ge (tgt := 111) rfl (by decide) (fun _ => ?_) (fun hx => absurd hx (by omega))
  refine x_return rfl rfl ?_
  have hE : ∀ k, (k < 1 ∨ 5 < k) → ((tp_cp (tp_pi (tp_pi (tp_pi (tp_cp μ 85 2 0 0 600) 1 1 ((tp_cp μ 85 2 0 0 600).1 84 1)) 1 2 ((tp_cp μ 85 2 0 0 600).1 84 2)) 1 3 ((tp_cp μ 85 2 0 0 600).1 84 3)) 88 5 0 0 4)).1 k = μ.1 k := fun k hk => by rw [tp_cp_ne (by omega), tp_pi_ne (by omega), tp_pi_ne (by omega), tp_pi_ne (by omega), tp_cp_ne (by omega)]
  have hE4 : ∀ j, 0 ≤ j → j < 4 → ((tp_cp (tp_pi (tp_pi (tp_pi (tp_cp μ 85 2 0 0 600) 1 1 ((tp_cp μ 85 2 0 0 600).1 84 1)) 1 2 ((tp_cp μ 85 2 0 0 600).1 84 2)) 1 3 ((tp_cp μ 85 2 0 0 600).1 84 3)) 88 5 0 0 4)).1 5 j = μ.1 88 j := fun j j0 j1 => by rw [tp_cp_at j0 j1, tp_pi_ne (by omega), tp_pi_ne (by omega), tp_pi_ne (by omega), tp_cp_ne (by omega)]
  have hE1 : ∀ j, 0 ≤ j → j < 600 → ((tp_cp (tp_pi (tp_pi (tp_pi (tp_cp μ 85 2 0 0 600) 1 1 ((tp_cp μ 85 2 0 0 600).1 84 1)) 1 2 ((tp_cp μ 85 2 0 0 600).1 84 2)) 1 3 ((tp_cp μ 85 2 0 0 600).1 84 3)) 88 5 0 0 4)).1 2 j = μ.1 85 j := fun j j0 j1 => by rw [tp_cp_ne (by omega), tp_pi_ne (by omega), tp_pi_ne (by omega), tp_pi_ne (by omega), tp_cp_at j0 j1]
  refine ⟨rfl, ⟨⟨?_, ?_, ?_⟩, fun j j0 j1 => ?_, fun j j0 j1 => ?_, fun k hk => ?_, fun k hk => ?_, fun k hk => ?_, fun k hk => ?_⟩, fun k hk => ?_, ?_⟩
  · show w10.1 1 1 = μ.1 84 1
    exact (congrFun ((((((((((hF10 (1) (by omega)).trans (hF9 (1) (by omega))).trans (hF8 (1) (by omega))).trans (hF7 (1) (by omega))).trans (hF6 (1) (by omega))).trans (hF5 (1) (by omega))).trans (hF4 (1) (by omega))).trans (hF3 (1) (by omega))).trans (hF2 (1) (by omega))).trans (hF1 (1) (by omega))) _).trans rfl
  · show w10.1 1 2 = μ.1 84 2
    exact (congrFun ((((((((((hF10 (1) (by omega)).trans (hF9 (1) (by omega))).trans (hF8 (1) (by omega))).trans (hF7 (1) (by omega))).trans (hF6 (1) (by omega))).trans (hF5 (1) (by omega))).trans (hF4 (1) (by omega))).trans (hF3 (1) (by omega))).trans (hF2 (1) (by omega))).trans (hF1 (1) (by omega))) _).trans rfl
  · show w10.1 1 3 = μ.1 84 3
    exact (congrFun ((((((((((hF10 (1) (by omega)).trans (hF9 (1) (by omega))).trans (hF8 (1) (by omega))).trans (hF7 (1) (by omega))).trans (hF6 (1) (by omega))).trans (hF5 (1) (by omega))).trans (hF4 (1) (by omega))).trans (hF3 (1) (by omega))).trans (hF2 (1) (by omega))).trans (hF1 (1) (by omega))) _).trans rfl
  · show w10.1 2 j = μ.1 85 j
    exact (congrFun ((((((((((hF10 (2) (by omega)).trans (hF9 (2) (by omega))).trans (hF8 (2) (by omega))).trans (hF7 (2) (by omega))).trans (hF6 (2) (by omega))).trans (hF5 (2) (by omega))).trans (hF4 (2) (by omega))).trans (hF3 (2) (by omega))).trans (hF2 (2) (by omega))).trans (hF1 (2) (by omega))) _).trans (hE1 j j0 j1)
  · show w10.1 5 j = μ.1 88 j
    exact (congrFun ((((((((((hF10 (5) (by omega)).trans (hF9 (5) (by omega))).trans (hF8 (5) (by omega))).trans (hF7 (5) (by omega))).trans (hF6 (5) (by omega))).trans (hF5 (5) (by omega))).trans (hF4 (5) (by omega))).trans (hF3 (5) (by omega))).trans (hF2 (5) (by omega))).trans (hF1 (5) (by omega))) _).trans (hE4 j j0 j1)
  · rcases (show k = 0 ∨ k = 1 by omega) with rfl | rfl
    · exact q_kc_cut (s := 84) (t := 1) (x := 5) (by omega) (q_kc_tr (c := 89) (d := 6) hK1 (fun i hi => (((((((((hF10 (6 + i) (by omega)).trans (hF9 (6 + i) (by omega))).trans (hF8 (6 + i) (by omega))).trans (hF7 (6 + i) (by omega))).trans (hF6 (6 + i) (by omega))).trans (hF5 (6 + i) (by omega))).trans (hF4 (6 + i) (by omega))).trans (hF3 (6 + i) (by omega))).trans (hF2 (6 + i) (by omega)))) (fun i hi => (hE (89 + i) (by omega))))
    · exact q_kc_cut (s := 84) (t := 1) (x := 10) (by omega) (q_kc_tr (c := 94) (d := 11) hK2 (fun i hi => ((((((((hF10 (11 + i) (by omega)).trans (hF9 (11 + i) (by omega))).trans (hF8 (11 + i) (by omega))).trans (hF7 (11 + i) (by omega))).trans (hF6 (11 + i) (by omega))).trans (hF5 (11 + i) (by omega))).trans (hF4 (11 + i) (by omega))).trans (hF3 (11 + i) (by omega)))) (fun i hi => ((hF1 (94 + i) (by omega)).trans (hE (94 + i) (by omega)))))
  · rcases (show k = 0 ∨ k = 1 by omega) with rfl | rfl
    · exact q_kr_cut (s := 84) (t := 1) (x := 21) (by omega) (q_kr_tr (c := 105) (d := 22) hK5 (fun i hi => (((((hF10 (22 + i) (by omega)).trans (hF9 (22 + i) (by omega))).trans (hF8 (22 + i) (by omega))).trans (hF7 (22 + i) (by omega))).trans (hF6 (22 + i) (by omega)))) (fun i hi => (((((hF4 (105 + i) (by omega)).trans (hF3 (105 + i) (by omega))).trans (hF2 (105 + i) (by omega))).trans (hF1 (105 + i) (by omega))).trans (hE (105 + i) (by omega)))))
    · exact q_kr_cut (s := 84) (t := 1) (x := 24) (by omega) (q_kr_tr (c := 108) (d := 25) hK6 (fun i hi => ((((hF10 (25 + i) (by omega)).trans (hF9 (25 + i) (by omega))).trans (hF8 (25 + i) (by omega))).trans (hF7 (25 + i) (by omega)))) (fun i hi => ((((((hF5 (108 + i) (by omega)).trans (hF4 (108 + i) (by omega))).trans (hF3 (108 + i) (by omega))).trans (hF2 (108 + i) (by omega))).trans (hF1 (108 + i) (by omega))).trans (hE (108 + i) (by omega)))))
  · rcases (show k = 0 ∨ k = 1 by omega) with rfl | rfl
    · exact q_kr_cut (s := 84) (t := 1) (x := 27) (by omega) (q_kr_tr (c := 111) (d := 28) hK7 (fun i hi => (((hF10 (28 + i) (by omega)).trans (hF9 (28 + i) (by omega))).trans (hF8 (28 + i) (by omega)))) (fun i hi => (((((((hF6 (111 + i) (by omega)).trans (hF5 (111 + i) (by omega))).trans (hF4 (111 + i) (by omega))).trans (hF3 (111 + i) (by omega))).trans (hF2 (111 + i) (by omega))).trans (hF1 (111 + i) (by omega))).trans (hE (111 + i) (by omega)))))
    · exact q_kr_cut (s := 84) (t := 1) (x := 30) (by omega) (q_kr_tr (c := 114) (d := 31) hK8 (fun i hi => ((hF10 (31 + i) (by omega)).trans (hF9 (31 + i) (by omega)))) (fun i hi => ((((((((hF7 (114 + i) (by omega)).trans (hF6 (114 + i) (by omega))).trans (hF5 (114 + i) (by omega))).trans (hF4 (114 + i) (by omega))).trans (hF3 (114 + i) (by omega))).trans (hF2 (114 + i) (by omega))).trans (hF1 (114 + i) (by omega))).trans (hE (114 + i) (by omega)))))
  · rcases (show k = 0 ∨ k = 1 by omega) with rfl | rfl
    · exact q_kr_cut (s := 84) (t := 1) (x := 33) (by omega) (q_kr_tr (c := 117) (d := 34) hK9 (fun i hi => (hF10 (34 + i) (by omega))) (fun i hi => (((((((((hF8 (117 + i) (by omega)).trans (hF7 (117 + i) (by omega))).trans (hF6 (117 + i) (by omega))).trans (hF5 (117 + i) (by omega))).trans (hF4 (117 + i) (by omega))).trans (hF3 (117 + i) (by omega))).trans (hF2 (117 + i) (by omega))).trans (hF1 (117 + i) (by omega))).trans (hE (117 + i) (by omega)))))
    · exact q_kr_cut (s := 84) (t := 1) (x := 36) (by omega) (q_kr_tr (c := 120) (d := 37) hK10 (fun i hi => rfl) (fun i hi => ((((((((((hF9 (120 + i) (by omega)).trans (hF8 (120 + i) (by omega))).trans (hF7 (120 + i) (by omega))).trans (hF6 (120 + i) (by omega))).trans (hF5 (120 + i) (by omega))).trans (hF4 (120 + i) (by omega))).trans (hF3 (120 + i) (by omega))).trans (hF2 (120 + i) (by omega))).trans (hF1 (120 + i) (by omega))).trans (hE (120 + i) (by omega)))))
  · exact (((((((((((hF10 k (by omega)).trans (hF9 k (by omega))).trans (hF8 k (by omega))).trans (hF7 k (by omega))).trans (hF6 k (by omega))).trans (hF5 k (by omega))).trans (hF4 k (by omega))).trans (hF3 k (by omega))).trans (hF2 k (by omega))).trans (hF1 k (by omega))).trans (hE k (by omega)))
  · exact (congrFun ((((((((((hF10 (1) (by omega)).trans (hF9 (1) (by omega))).trans (hF8 (1) (by omega))).trans (hF7 (1) (by omega))).trans (hF6 (1) (by omega))).trans (hF5 (1) (by omega))).trans (hF4 (1) (by omega))).trans (hF3 (1) (by omega))).trans (hF2 (1) (by omega))).trans (hF1 (1) (by omega))) _).trans rfl
set_option maxHeartbeats 4000000 in
set_option maxRecDepth 100000 in
theorem s_stc123_1 {G : tp_G} {μ : tp_M} (hG : tp_Gf G = true) : tp_k G mX9_copyFrom [tR (some 123), tR (some 1)] μ (fun r μ' => r = none ∧ q_kS (tp_cut μ.1 1 39) (tp_cut μ'.1 123 39) ∧ (∀ k, (k < 123 ∨ 161 < k) → μ'.1 k = μ.1 k) ∧ μ'.1 123 4 = μ.1 123 4) := by
  refine tp_ok_of mX9_copyFrom_ok rfl (Nat.le_refl _) ?_
  refine g_aload_n rfl rfl ?_
  refine x_getF (r := 2) hG rfl rfl (by decide) (Or.inr ⟨_, rfl⟩) rfl ?_
  refine g_iconst rfl ⟨by decide, by decide⟩ ?_
  refine g_aload_n rfl rfl ?_
  refine x_getF (r := 124) hG rfl rfl (by decide) (Or.inr ⟨_, rfl⟩) rfl ?_
  refine g_iconst rfl ⟨by decide, by decide⟩ ?_
  refine g_sipush rfl ⟨by decide, by decide⟩ (by decide) ?_
  refine g_copy (t0 := 1) (Or.inr rfl) rfl (by decide) rfl (by decide) rfl rfl (by decide) (by decide) (by decide) (by decide) (by decide) rfl ?_
  refine g_aload_n rfl rfl ?_
  refine g_aload_n rfl rfl ?_
  refine x_geti (v := ((tp_cp μ 2 124 0 0 600).1 1 1)) rfl rfl (by decide) (Or.inl rfl) rfl ?_
  refine g_puti rfl rfl (by decide) rfl rfl ?_
  refine g_aload_n rfl rfl ?_
  refine g_aload_n rfl rfl ?_
  refine x_geti (v := ((tp_cp μ 2 124 0 0 600).1 1 2)) rfl rfl (by decide) (Or.inl rfl) rfl ?_
  refine g_puti rfl rfl (by decide) rfl rfl ?_
  refine g_aload_n rfl rfl ?_
  refine g_aload_n rfl rfl ?_
  refine x_geti (v := ((tp_cp μ 2 124 0 0 600).1 1 3)) rfl rfl (by decide) (Or.inl rfl) rfl ?_
  refine g_puti rfl rfl (by decide) rfl rfl ?_
  refine g_aload_n rfl rfl ?_
  refine x_getF (r := 5) hG rfl rfl (by decide) (Or.inr ⟨_, rfl⟩) rfl ?_
  refine g_iconst rfl ⟨by decide, by decide⟩ ?_
  refine g_aload_n rfl rfl ?_
  refine x_getF (r := 127) hG rfl rfl (by decide) (Or.inr ⟨_, rfl⟩) rfl ?_
  refine g_iconst rfl ⟨by decide, by decide⟩ ?_
  refine g_iconst rfl ⟨by decide, by decide⟩ ?_
  refine g_copy (t0 := 0) (Or.inl rfl) rfl (by decide) rfl (by decide) rfl rfl (by decide) (by decide) (by decide) (by decide) (by decide) rfl ?_
  refine g_iconst rfl ⟨by decide, by decide⟩ ?_
  refine g_istore_n rfl rfl rfl ?_
  refine g_iload_n rfl rfl ?_
  refine g_iconst rfl ⟨by decide, by decide⟩ ?_
  refine g_icmp_ge (tgt := 82) rfl (by decide) (fun hx => absurd hx (by omega)) (fun _ => ?_)
  refine g_aload_n rfl rfl ?_
  refine x_getF (r := 125) hG rfl rfl (by decide) (Or.inr ⟨_, rfl⟩) rfl ?_
  refine g_iload_n rfl rfl ?_
  refine x_aald (t0 := 4) (r := 128) hG rfl rfl rfl (by decide) (by decide) (by decide) rfl ?_
  refine g_aload_n rfl rfl ?_
  refine x_getF (r := 3) hG rfl rfl (by decide) (Or.inr ⟨_, rfl⟩) rfl ?_
  refine g_iload_n rfl rfl ?_
  refine x_aald (t0 := 4) (r := 6) hG rfl rfl rfl (by decide) (by decide) (by decide) rfl ?_
  refine g_cV (as := [tR (some 6)]) (s_ccopy hG (c := 6) (d := 128) rfl rfl (by decide) (by decide) (by decide)) rfl rfl mX0_copyFrom_ok rfl rfl rfl (by decide) rfl rfl rfl ?_
  rintro _ w1 ⟨rfl, hK1, hF1⟩ _
  refine x_iinc (z := 1) rfl rfl (by omega) ⟨by omega, by omega⟩ rfl rfl ?_
  refine g_goto (tgt := 56) rfl (by decide) ?_
  refine g_iload_n rfl rfl ?_
  refine g_iconst rfl ⟨by decide, by decide⟩ ?_
  refine g_icmp_ge (tgt := 82) rfl (by decide) (fun hx => absurd hx (by omega)) (fun _ => ?_)
  refine g_aload_n rfl rfl ?_
  refine x_getF (r := 125) hG rfl rfl (by decide) (Or.inr ⟨_, rfl⟩) rfl ?_
  refine g_iload_n rfl rfl ?_
  refine x_aald (t0 := 4) (r := 133) hG rfl rfl rfl (by decide) (by decide) (by decide) rfl ?_
  refine g_aload_n rfl rfl ?_
  refine x_getF (r := 3) hG rfl rfl (by decide) (Or.inr ⟨_, rfl⟩) rfl ?_
  refine g_iload_n rfl rfl ?_
  refine x_aald (t0 := 4) (r := 11) hG rfl rfl rfl (by decide) (by decide) (by decide) rfl ?_
  refine g_cV (as := [tR (some 11)]) (s_ccopy hG (c := 11) (d := 133) rfl rfl (by decide) (by decide) (by decide)) rfl rfl mX0_copyFrom_ok rfl rfl rfl (by decide) rfl rfl rfl ?_
  rintro _ w2 ⟨rfl, hK2, hF2⟩ _
  refine x_iinc (z := 2) rfl rfl (by omega) ⟨by omega, by omega⟩ rfl rfl ?_
  refine g_goto (tgt := 56) rfl (by decide) ?_
  refine g_iload_n rfl rfl ?_
  refine g_iconst rfl ⟨by decide, by decide⟩ ?_
  refine g_icmp_ge (tgt := 82) rfl (by decide) (fun _ => ?_) (fun hx => absurd hx (by omega))
  refine g_iconst rfl ⟨by decide, by decide⟩ ?_
  refine g_istore_n rfl rfl rfl ?_
  refine g_iload_n rfl rfl ?_
  refine g_bipush rfl ⟨by decide, by decide⟩ (by decide) ?_
  refine g_icmp_ge (tgt := 111) rfl (by decide) (fun hx => absurd hx (by omega)) (fun _ => ?_)
  refine g_aload_n rfl rfl ?_
  refine x_getF (r := 126) hG rfl rfl (by decide) (Or.inr ⟨_, rfl⟩) rfl ?_
  refine g_iload_n rfl rfl ?_
  refine x_aald (t0 := 5) (r := 138) hG rfl rfl rfl (by decide) (by decide) (by decide) rfl ?_
  refine g_aload_n rfl rfl ?_
  refine x_getF (r := 4) hG rfl rfl (by decide) (Or.inr ⟨_, rfl⟩) rfl ?_
  refine g_iload_n rfl rfl ?_
  refine x_aald (t0 := 5) (r := 16) hG rfl rfl rfl (by decide) (by decide) (by decide) rfl ?_
  refine g_mok (fun hmk => ?_)
  refine g_cV (as := [tR (some 16)]) (s_rcopy hG (c := 16) (d := 138) rfl rfl (by decide) (by decide) (by decide) rfl (tp_m32 hmk 16 2).2) rfl rfl mX6_copyFrom_ok rfl rfl rfl (by decide) rfl rfl rfl ?_
  rintro _ w3 ⟨rfl, hK3, hF3⟩ _
  refine x_iinc (z := 1) rfl rfl (by omega) ⟨by omega, by omega⟩ rfl rfl ?_
  refine g_goto (tgt := 84) rfl (by decide) ?_
  refine g_iload_n rfl rfl ?_
  refine g_bipush rfl ⟨by decide, by decide⟩ (by decide) ?_
  refine g_icmp_ge (tgt := 111) rfl (by decide) (fun hx => absurd hx (by omega)) (fun _ => ?_)
  refine g_aload_n rfl rfl ?_
  refine x_getF (r := 126) hG rfl rfl (by decide) (Or.inr ⟨_, rfl⟩) rfl ?_
  refine g_iload_n rfl rfl ?_
  refine x_aald (t0 := 5) (r := 141) hG rfl rfl rfl (by decide) (by decide) (by decide) rfl ?_
  refine g_aload_n rfl rfl ?_
  refine x_getF (r := 4) hG rfl rfl (by decide) (Or.inr ⟨_, rfl⟩) rfl ?_
  refine g_iload_n rfl rfl ?_
  refine x_aald (t0 := 5) (r := 19) hG rfl rfl rfl (by decide) (by decide) (by decide) rfl ?_
  refine g_mok (fun hmk => ?_)
  refine g_cV (as := [tR (some 19)]) (s_rcopy hG (c := 19) (d := 141) rfl rfl (by decide) (by decide) (by decide) rfl (tp_m32 hmk 19 2).2) rfl rfl mX6_copyFrom_ok rfl rfl rfl (by decide) rfl rfl rfl ?_
  rintro _ w4 ⟨rfl, hK4, hF4⟩ _
  refine x_iinc (z := 2) rfl rfl (by omega) ⟨by omega, by omega⟩ rfl rfl ?_
  refine g_goto (tgt := 84) rfl (by decide) ?_
  refine g_iload_n rfl rfl ?_
  refine g_bipush rfl ⟨by decide, by decide⟩ (by decide) ?_
  refine g_icmp_ge (tgt := 111) rfl (by decide) (fun hx => absurd hx (by omega)) (fun _ => ?_)
  refine g_aload_n rfl rfl ?_
  refine x_getF (r := 126) hG rfl rfl (by decide) (Or.inr ⟨_, rfl⟩) rfl ?_
  refine g_iload_n rfl rfl ?_
  refine x_aald (t0 := 5) (r := 144) hG rfl rfl rfl (by decide) (by decide) (by decide) rfl ?_
  refine g_aload_n rfl rfl ?_
  refine x_getF (r := 4) hG rfl rfl (by decide) (Or.inr ⟨_, rfl⟩) rfl ?_
  refine g_iload_n rfl rfl ?_
  refine x_aald (t0 := 5) (r := 22) hG rfl rfl rfl (by decide) (by decide) (by decide) rfl ?_
  refine g_mok (fun hmk => ?_)
  refine g_cV (as := [tR (some 22)]) (s_rcopy hG (c := 22) (d := 144) rfl rfl (by decide) (by decide) (by decide) rfl (tp_m32 hmk 22 2).2) rfl rfl mX6_copyFrom_ok rfl rfl rfl (by decide) rfl rfl rfl ?_
  rintro _ w5 ⟨rfl, hK5, hF5⟩ _
  refine x_iinc (z := 3) rfl rfl (by omega) ⟨by omega, by omega⟩ rfl rfl ?_
  refine g_goto (tgt := 84) rfl (by decide) ?_
  refine g_iload_n rfl rfl ?_
  refine g_bipush rfl ⟨by decide, by decide⟩ (by decide) ?_
  refine g_icmp_ge (tgt := 111) rfl (by decide) (fun hx => absurd hx (by omega)) (fun _ => ?_)
  refine g_aload_n rfl rfl ?_
  refine x_getF (r := 126) hG rfl rfl (by decide) (Or.inr ⟨_, rfl⟩) rfl ?_
  refine g_iload_n rfl rfl ?_
  refine x_aald (t0 := 5) (r := 147) hG rfl rfl rfl (by decide) (by decide) (by decide) rfl ?_
  refine g_aload_n rfl rfl ?_
  refine x_getF (r := 4) hG rfl rfl (by decide) (Or.inr ⟨_, rfl⟩) rfl ?_
  refine g_iload_n rfl rfl ?_
  refine x_aald (t0 := 5) (r := 25) hG rfl rfl rfl (by decide) (by decide) (by decide) rfl ?_
  refine g_mok (fun hmk => ?_)
  refine g_cV (as := [tR (some 25)]) (s_rcopy hG (c := 25) (d := 147) rfl rfl (by decide) (by decide) (by decide) rfl (tp_m32 hmk 25 2).2) rfl rfl mX6_copyFrom_ok rfl rfl rfl (by decide) rfl rfl rfl ?_
  rintro _ w6 ⟨rfl, hK6, hF6⟩ _
  refine x_iinc (z := 4) rfl rfl (by omega) ⟨by omega, by omega⟩ rfl rfl ?_
  refine g_goto (tgt := 84) rfl (by decide) ?_
  refine g_iload_n rfl rfl ?_
  refine g_bipush rfl ⟨by decide, by decide⟩ (by decide) ?_
  refine g_icmp_ge (tgt := 111) rfl (by decide) (fun hx => absurd hx (by omega)) (fun _ => ?_)
  refine g_aload_n rfl rfl ?_
  refine x_getF (r := 126) hG rfl rfl (by decide) (Or.inr ⟨_, rfl⟩) rfl ?_
  refine g_iload_n rfl rfl ?_
  refine x_aald (t0 := 5) (r := 150) hG rfl rfl rfl (by decide) (by decide) (by decide) rfl ?_
  refine g_aload_n rfl rfl ?_
  refine x_getF (r := 4) hG rfl rfl (by decide) (Or.inr ⟨_, rfl⟩) rfl ?_
  refine g_iload_n rfl rfl ?_
  refine x_aald (t0 := 5) (r := 28) hG rfl rfl rfl (by decide) (by decide) (by decide) rfl ?_
  refine g_mok (fun hmk => ?_)
  refine g_cV (as := [tR (some 28)]) (s_rcopy hG (c := 28) (d := 150) rfl rfl (by decide) (by decide) (by decide) rfl (tp_m32 hmk 28 2).2) rfl rfl mX6_copyFrom_ok rfl rfl rfl (by decide) rfl rfl rfl ?_
  rintro _ w7 ⟨rfl, hK7, hF7⟩ _
  refine x_iinc (z := 5) rfl rfl (by omega) ⟨by omega, by omega⟩ rfl rfl ?_
  refine g_goto (tgt := 84) rfl (by decide) ?_
  refine g_iload_n rfl rfl ?_
  refine g_bipush rfl ⟨by decide, by decide⟩ (by decide) ?_
  refine g_icmp_ge (tgt := 111) rfl (by decide) (fun hx => absurd hx (by omega)) (fun _ => ?_)
  refine g_aload_n rfl rfl ?_
  refine x_getF (r := 126) hG rfl rfl (by decide) (Or.inr ⟨_, rfl⟩) rfl ?_
  refine g_iload_n rfl rfl ?_
  refine x_aald (t0 := 5) (r := 153) hG rfl rfl rfl (by decide) (by decide) (by decide) rfl ?_
  refine g_aload_n rfl rfl ?_
  refine x_getF (r := 4) hG rfl rfl (by decide) (Or.inr ⟨_, rfl⟩) rfl ?_
  refine g_iload_n rfl rfl ?_
  refine x_aald (t0 := 5) (r := 31) hG rfl rfl rfl (by decide) (by decide) (by decide) rfl ?_
  refine g_mok (fun hmk => ?_)
  refine g_cV (as := [tR (some 31)]) (s_rcopy hG (c := 31) (d := 153) rfl rfl (by decide) (by decide) (by decide) rfl (tp_m32 hmk 31 2).2) rfl rfl mX6_copyFrom_ok rfl rfl rfl (by decide) rfl rfl rfl ?_
  rintro _ w8 ⟨rfl, hK8, hF8⟩ _
  refine x_iinc (z := 6) rfl rfl (by omega) ⟨by omega, by omega⟩ rfl rfl ?_
  refine g_goto (tgt := 84) rfl (by decide) ?_
  refine g_iload_n rfl rfl ?_
  refine g_bipush rfl ⟨by decide, by decide⟩ (by decide) ?_
  refine g_icmp_ge (tgt := 111) rfl (by decide) (fun hx => absurd hx (by omega)) (fun _ => ?_)
  refine g_aload_n rfl rfl ?_
  refine x_getF (r := 126) hG rfl rfl (by decide) (Or.inr ⟨_, rfl⟩) rfl ?_
  refine g_iload_n rfl rfl ?_
  refine x_aald (t0 := 5) (r := 156) hG rfl rfl rfl (by decide) (by decide) (by decide) rfl ?_
  refine g_aload_n rfl rfl ?_
  refine x_getF (r := 4) hG rfl rfl (by decide) (Or.inr ⟨_, rfl⟩) rfl ?_
  refine g_iload_n rfl rfl ?_
  refine x_aald (t0 := 5) (r := 34) hG rfl rfl rfl (by decide) (by decide) (by decide) rfl ?_
  refine g_mok (fun hmk => ?_)
  refine g_cV (as := [tR (some 34)]) (s_rcopy hG (c := 34) (d := 156) rfl rfl (by decide) (by decide) (by decide) rfl (tp_m32 hmk 34 2).2) rfl rfl mX6_copyFrom_ok rfl rfl rfl (by decide) rfl rfl rfl ?_
  rintro _ w9 ⟨rfl, hK9, hF9⟩ _
  refine x_iinc (z := 7) rfl rfl (by omega) ⟨by omega, by omega⟩ rfl rfl ?_
  refine g_goto (tgt := 84) rfl (by decide) ?_
  refine g_iload_n rfl rfl ?_
  refine g_bipush rfl ⟨by decide, by decide⟩ (by decide) ?_
  refine g_icmp_ge (tgt := 111) rfl (by decide) (fun hx => absurd hx (by omega)) (fun _ => ?_)
  refine g_aload_n rfl rfl ?_
  refine x_getF (r := 126) hG rfl rfl (by decide) (Or.inr ⟨_, rfl⟩) rfl ?_
  refine g_iload_n rfl rfl ?_
  refine x_aald (t0 := 5) (r := 159) hG rfl rfl rfl (by decide) (by decide) (by decide) rfl ?_
  refine g_aload_n rfl rfl ?_
  refine x_getF (r := 4) hG rfl rfl (by decide) (Or.inr ⟨_, rfl⟩) rfl ?_
  refine g_iload_n rfl rfl ?_
  refine x_aald (t0 := 5) (r := 37) hG rfl rfl rfl (by decide) (by decide) (by decide) rfl ?_
  refine g_mok (fun hmk => ?_)
  refine g_cV (as := [tR (some 37)]) (s_rcopy hG (c := 37) (d := 159) rfl rfl (by decide) (by decide) (by decide) rfl (tp_m32 hmk 37 2).2) rfl rfl mX6_copyFrom_ok rfl rfl rfl (by decide) rfl rfl rfl ?_
  rintro _ w10 ⟨rfl, hK10, hF10⟩ _
  refine x_iinc (z := 8) rfl rfl (by omega) ⟨by omega, by omega⟩ rfl rfl ?_
  refine g_goto (tgt := 84) rfl (by decide) ?_
  refine g_iload_n rfl rfl ?_
  refine g_bipush rfl ⟨by decide, by decide⟩ (by decide) ?_
  refine g_icmp_ge (tgt := 111) rfl (by decide) (fun _ => ?_) (fun hx => absurd hx (by omega))
  refine x_return rfl rfl ?_
  have hE : ∀ k, (k < 123 ∨ 127 < k) → ((tp_cp (tp_pi (tp_pi (tp_pi (tp_cp μ 2 124 0 0 600) 123 1 ((tp_cp μ 2 124 0 0 600).1 1 1)) 123 2 ((tp_cp μ 2 124 0 0 600).1 1 2)) 123 3 ((tp_cp μ 2 124 0 0 600).1 1 3)) 5 127 0 0 4)).1 k = μ.1 k := fun k hk => by rw [tp_cp_ne (by omega), tp_pi_ne (by omega), tp_pi_ne (by omega), tp_pi_ne (by omega), tp_cp_ne (by omega)]
  have hE4 : ∀ j, 0 ≤ j → j < 4 → ((tp_cp (tp_pi (tp_pi (tp_pi (tp_cp μ 2 124 0 0 600) 123 1 ((tp_cp μ 2 124 0 0 600).1 1 1)) 123 2 ((tp_cp μ 2 124 0 0 600).1 1 2)) 123 3 ((tp_cp μ 2 124 0 0 600).1 1 3)) 5 127 0 0 4)).1 127 j = μ.1 5 j := fun j j0 j1 => by rw [tp_cp_at j0 j1, tp_pi_ne (by omega), tp_pi_ne (by omega), tp_pi_ne (by omega), tp_cp_ne (by omega)]
  have hE1 : ∀ j, 0 ≤ j → j < 600 → ((tp_cp (tp_pi (tp_pi (tp_pi (tp_cp μ 2 124 0 0 600) 123 1 ((tp_cp μ 2 124 0 0 600).1 1 1)) 123 2 ((tp_cp μ 2 124 0 0 600).1 1 2)) 123 3 ((tp_cp μ 2 124 0 0 600).1 1 3)) 5 127 0 0 4)).1 124 j = μ.1 2 j := fun j j0 j1 => by rw [tp_cp_ne (by omega), tp_pi_ne (by omega), tp_pi_ne (by omega), tp_pi_ne (by omega), tp_cp_at j0 j1]
  refine ⟨rfl, ⟨⟨?_, ?_, ?_⟩, fun j j0 j1 => ?_, fun j j0 j1 => ?_, fun k hk => ?_, fun k hk => ?_, fun k hk => ?_, fun k hk => ?_⟩, fun k hk => ?_, ?_⟩
  · show w10.1 123 1 = μ.1 1 1
    exact (congrFun ((((((((((hF10 (123) (by omega)).trans (hF9 (123) (by omega))).trans (hF8 (123) (by omega))).trans (hF7 (123) (by omega))).trans (hF6 (123) (by omega))).trans (hF5 (123) (by omega))).trans (hF4 (123) (by omega))).trans (hF3 (123) (by omega))).trans (hF2 (123) (by omega))).trans (hF1 (123) (by omega))) _).trans rfl
  · show w10.1 123 2 = μ.1 1 2
    exact (congrFun ((((((((((hF10 (123) (by omega)).trans (hF9 (123) (by omega))).trans (hF8 (123) (by omega))).trans (hF7 (123) (by omega))).trans (hF6 (123) (by omega))).trans (hF5 (123) (by omega))).trans (hF4 (123) (by omega))).trans (hF3 (123) (by omega))).trans (hF2 (123) (by omega))).trans (hF1 (123) (by omega))) _).trans rfl
  · show w10.1 123 3 = μ.1 1 3
    exact (congrFun ((((((((((hF10 (123) (by omega)).trans (hF9 (123) (by omega))).trans (hF8 (123) (by omega))).trans (hF7 (123) (by omega))).trans (hF6 (123) (by omega))).trans (hF5 (123) (by omega))).trans (hF4 (123) (by omega))).trans (hF3 (123) (by omega))).trans (hF2 (123) (by omega))).trans (hF1 (123) (by omega))) _).trans rfl
  · show w10.1 124 j = μ.1 2 j
    exact (congrFun ((((((((((hF10 (124) (by omega)).trans (hF9 (124) (by omega))).trans (hF8 (124) (by omega))).trans (hF7 (124) (by omega))).trans (hF6 (124) (by omega))).trans (hF5 (124) (by omega))).trans (hF4 (124) (by omega))).trans (hF3 (124) (by omega))).trans (hF2 (124) (by omega))).trans (hF1 (124) (by omega))) _).trans (hE1 j j0 j1)
  · show w10.1 127 j = μ.1 5 j
    exact (congrFun ((((((((((hF10 (127) (by omega)).trans (hF9 (127) (by omega))).trans (hF8 (127) (by omega))).trans (hF7 (127) (by omega))).trans (hF6 (127) (by omega))).trans (hF5 (127) (by omega))).trans (hF4 (127) (by omega))).trans (hF3 (127) (by omega))).trans (hF2 (127) (by omega))).trans (hF1 (127) (by omega))) _).trans (hE4 j j0 j1)
  · rcases (show k = 0 ∨ k = 1 by omega) with rfl | rfl
    · exact q_kc_cut (s := 1) (t := 123) (x := 5) (by omega) (q_kc_tr (c := 6) (d := 128) hK1 (fun i hi => (((((((((hF10 (128 + i) (by omega)).trans (hF9 (128 + i) (by omega))).trans (hF8 (128 + i) (by omega))).trans (hF7 (128 + i) (by omega))).trans (hF6 (128 + i) (by omega))).trans (hF5 (128 + i) (by omega))).trans (hF4 (128 + i) (by omega))).trans (hF3 (128 + i) (by omega))).trans (hF2 (128 + i) (by omega)))) (fun i hi => (hE (6 + i) (by omega))))
    · exact q_kc_cut (s := 1) (t := 123) (x := 10) (by omega) (q_kc_tr (c := 11) (d := 133) hK2 (fun i hi => ((((((((hF10 (133 + i) (by omega)).trans (hF9 (133 + i) (by omega))).trans (hF8 (133 + i) (by omega))).trans (hF7 (133 + i) (by omega))).trans (hF6 (133 + i) (by omega))).trans (hF5 (133 + i) (by omega))).trans (hF4 (133 + i) (by omega))).trans (hF3 (133 + i) (by omega)))) (fun i hi => ((hF1 (11 + i) (by omega)).trans (hE (11 + i) (by omega)))))
  · rcases (show k = 0 ∨ k = 1 by omega) with rfl | rfl
    · exact q_kr_cut (s := 1) (t := 123) (x := 21) (by omega) (q_kr_tr (c := 22) (d := 144) hK5 (fun i hi => (((((hF10 (144 + i) (by omega)).trans (hF9 (144 + i) (by omega))).trans (hF8 (144 + i) (by omega))).trans (hF7 (144 + i) (by omega))).trans (hF6 (144 + i) (by omega)))) (fun i hi => (((((hF4 (22 + i) (by omega)).trans (hF3 (22 + i) (by omega))).trans (hF2 (22 + i) (by omega))).trans (hF1 (22 + i) (by omega))).trans (hE (22 + i) (by omega)))))
    · exact q_kr_cut (s := 1) (t := 123) (x := 24) (by omega) (q_kr_tr (c := 25) (d := 147) hK6 (fun i hi => ((((hF10 (147 + i) (by omega)).trans (hF9 (147 + i) (by omega))).trans (hF8 (147 + i) (by omega))).trans (hF7 (147 + i) (by omega)))) (fun i hi => ((((((hF5 (25 + i) (by omega)).trans (hF4 (25 + i) (by omega))).trans (hF3 (25 + i) (by omega))).trans (hF2 (25 + i) (by omega))).trans (hF1 (25 + i) (by omega))).trans (hE (25 + i) (by omega)))))
  · rcases (show k = 0 ∨ k = 1 by omega) with rfl | rfl
    · exact q_kr_cut (s := 1) (t := 123) (x := 27) (by omega) (q_kr_tr (c := 28) (d := 150) hK7 (fun i hi => (((hF10 (150 + i) (by omega)).trans (hF9 (150 + i) (by omega))).trans (hF8 (150 + i) (by omega)))) (fun i hi => (((((((hF6 (28 + i) (by omega)).trans (hF5 (28 + i) (by omega))).trans (hF4 (28 + i) (by omega))).trans (hF3 (28 + i) (by omega))).trans (hF2 (28 + i) (by omega))).trans (hF1 (28 + i) (by omega))).trans (hE (28 + i) (by omega)))))
    · exact q_kr_cut (s := 1) (t := 123) (x := 30) (by omega) (q_kr_tr (c := 31) (d := 153) hK8 (fun i hi => ((hF10 (153 + i) (by omega)).trans (hF9 (153 + i) (by omega)))) (fun i hi => ((((((((hF7 (31 + i) (by omega)).trans (hF6 (31 + i) (by omega))).trans (hF5 (31 + i) (by omega))).trans (hF4 (31 + i) (by omega))).trans (hF3 (31 + i) (by omega))).trans (hF2 (31 + i) (by omega))).trans (hF1 (31 + i) (by omega))).trans (hE (31 + i) (by omega)))))
  · rcases (show k = 0 ∨ k = 1 by omega) with rfl | rfl
    · exact q_kr_cut (s := 1) (t := 123) (x := 33) (by omega) (q_kr_tr (c := 34) (d := 156) hK9 (fun i hi => (hF10 (156 + i) (by omega))) (fun i hi => (((((((((hF8 (34 + i) (by omega)).trans (hF7 (34 + i) (by omega))).trans (hF6 (34 + i) (by omega))).trans (hF5 (34 + i) (by omega))).trans (hF4 (34 + i) (by omega))).trans (hF3 (34 + i) (by omega))).trans (hF2 (34 + i) (by omega))).trans (hF1 (34 + i) (by omega))).trans (hE (34 + i) (by omega)))))
    · exact q_kr_cut (s := 1) (t := 123) (x := 36) (by omega) (q_kr_tr (c := 37) (d := 159) hK10 (fun i hi => rfl) (fun i hi => ((((((((((hF9 (37 + i) (by omega)).trans (hF8 (37 + i) (by omega))).trans (hF7 (37 + i) (by omega))).trans (hF6 (37 + i) (by omega))).trans (hF5 (37 + i) (by omega))).trans (hF4 (37 + i) (by omega))).trans (hF3 (37 + i) (by omega))).trans (hF2 (37 + i) (by omega))).trans (hF1 (37 + i) (by omega))).trans (hE (37 + i) (by omega)))))
  · exact (((((((((((hF10 k (by omega)).trans (hF9 k (by omega))).trans (hF8 k (by omega))).trans (hF7 k (by omega))).trans (hF6 k (by omega))).trans (hF5 k (by omega))).trans (hF4 k (by omega))).trans (hF3 k (by omega))).trans (hF2 k (by omega))).trans (hF1 k (by omega))).trans (hE k (by omega)))
  · exact (congrFun ((((((((((hF10 (123) (by omega)).trans (hF9 (123) (by omega))).trans (hF8 (123) (by omega))).trans (hF7 (123) (by omega))).trans (hF6 (123) (by omega))).trans (hF5 (123) (by omega))).trans (hF4 (123) (by omega))).trans (hF3 (123) (by omega))).trans (hF2 (123) (by omega))).trans (hF1 (123) (by omega))) _).trans rfl
set_option maxHeartbeats 4000000 in
set_option maxRecDepth 100000 in
theorem s_stc1_123 {G : tp_G} {μ : tp_M} (hG : tp_Gf G = true) : tp_k G mX9_copyFrom [tR (some 1), tR (some 123)] μ (fun r μ' => r = none ∧ q_kS (tp_cut μ.1 123 39) (tp_cut μ'.1 1 39) ∧ (∀ k, (k < 1 ∨ 39 < k) → μ'.1 k = μ.1 k) ∧ μ'.1 1 4 = μ.1 1 4) := by
  refine tp_ok_of mX9_copyFrom_ok rfl (Nat.le_refl _) ?_
  refine g_aload_n rfl rfl ?_
  refine x_getF (r := 124) hG rfl rfl (by decide) (Or.inr ⟨_, rfl⟩) rfl ?_
  refine g_iconst rfl ⟨by decide, by decide⟩ ?_
  refine g_aload_n rfl rfl ?_
  refine x_getF (r := 2) hG rfl rfl (by decide) (Or.inr ⟨_, rfl⟩) rfl ?_
  refine g_iconst rfl ⟨by decide, by decide⟩ ?_
  refine g_sipush rfl ⟨by decide, by decide⟩ (by decide) ?_
  refine g_copy (t0 := 1) (Or.inr rfl) rfl (by decide) rfl (by decide) rfl rfl (by decide) (by decide) (by decide) (by decide) (by decide) rfl ?_
  refine g_aload_n rfl rfl ?_
  refine g_aload_n rfl rfl ?_
  refine x_geti (v := ((tp_cp μ 124 2 0 0 600).1 123 1)) rfl rfl (by decide) (Or.inl rfl) rfl ?_
  refine g_puti rfl rfl (by decide) rfl rfl ?_
  refine g_aload_n rfl rfl ?_
  refine g_aload_n rfl rfl ?_
  refine x_geti (v := ((tp_cp μ 124 2 0 0 600).1 123 2)) rfl rfl (by decide) (Or.inl rfl) rfl ?_
  refine g_puti rfl rfl (by decide) rfl rfl ?_
  refine g_aload_n rfl rfl ?_
  refine g_aload_n rfl rfl ?_
  refine x_geti (v := ((tp_cp μ 124 2 0 0 600).1 123 3)) rfl rfl (by decide) (Or.inl rfl) rfl ?_
  refine g_puti rfl rfl (by decide) rfl rfl ?_
  refine g_aload_n rfl rfl ?_
  refine x_getF (r := 127) hG rfl rfl (by decide) (Or.inr ⟨_, rfl⟩) rfl ?_
  refine g_iconst rfl ⟨by decide, by decide⟩ ?_
  refine g_aload_n rfl rfl ?_
  refine x_getF (r := 5) hG rfl rfl (by decide) (Or.inr ⟨_, rfl⟩) rfl ?_
  refine g_iconst rfl ⟨by decide, by decide⟩ ?_
  refine g_iconst rfl ⟨by decide, by decide⟩ ?_
  refine g_copy (t0 := 0) (Or.inl rfl) rfl (by decide) rfl (by decide) rfl rfl (by decide) (by decide) (by decide) (by decide) (by decide) rfl ?_
  refine g_iconst rfl ⟨by decide, by decide⟩ ?_
  refine g_istore_n rfl rfl rfl ?_
  refine g_iload_n rfl rfl ?_
  refine g_iconst rfl ⟨by decide, by decide⟩ ?_
  refine g_icmp_ge (tgt := 82) rfl (by decide) (fun hx => absurd hx (by omega)) (fun _ => ?_)
  refine g_aload_n rfl rfl ?_
  refine x_getF (r := 3) hG rfl rfl (by decide) (Or.inr ⟨_, rfl⟩) rfl ?_
  refine g_iload_n rfl rfl ?_
  refine x_aald (t0 := 4) (r := 6) hG rfl rfl rfl (by decide) (by decide) (by decide) rfl ?_
  refine g_aload_n rfl rfl ?_
  refine x_getF (r := 125) hG rfl rfl (by decide) (Or.inr ⟨_, rfl⟩) rfl ?_
  refine g_iload_n rfl rfl ?_
  refine x_aald (t0 := 4) (r := 128) hG rfl rfl rfl (by decide) (by decide) (by decide) rfl ?_
  refine g_cV (as := [tR (some 128)]) (s_ccopy hG (c := 128) (d := 6) rfl rfl (by decide) (by decide) (by decide)) rfl rfl mX0_copyFrom_ok rfl rfl rfl (by decide) rfl rfl rfl ?_
  rintro _ w1 ⟨rfl, hK1, hF1⟩ _
  refine x_iinc (z := 1) rfl rfl (by omega) ⟨by omega, by omega⟩ rfl rfl ?_
  refine g_goto (tgt := 56) rfl (by decide) ?_
  refine g_iload_n rfl rfl ?_
  refine g_iconst rfl ⟨by decide, by decide⟩ ?_
  refine g_icmp_ge (tgt := 82) rfl (by decide) (fun hx => absurd hx (by omega)) (fun _ => ?_)
  refine g_aload_n rfl rfl ?_
  refine x_getF (r := 3) hG rfl rfl (by decide) (Or.inr ⟨_, rfl⟩) rfl ?_
  refine g_iload_n rfl rfl ?_
  refine x_aald (t0 := 4) (r := 11) hG rfl rfl rfl (by decide) (by decide) (by decide) rfl ?_
  refine g_aload_n rfl rfl ?_
  refine x_getF (r := 125) hG rfl rfl (by decide) (Or.inr ⟨_, rfl⟩) rfl ?_
  refine g_iload_n rfl rfl ?_
  refine x_aald (t0 := 4) (r := 133) hG rfl rfl rfl (by decide) (by decide) (by decide) rfl ?_
  refine g_cV (as := [tR (some 133)]) (s_ccopy hG (c := 133) (d := 11) rfl rfl (by decide) (by decide) (by decide)) rfl rfl mX0_copyFrom_ok rfl rfl rfl (by decide) rfl rfl rfl ?_
  rintro _ w2 ⟨rfl, hK2, hF2⟩ _
  refine x_iinc (z := 2) rfl rfl (by omega) ⟨by omega, by omega⟩ rfl rfl ?_
  refine g_goto (tgt := 56) rfl (by decide) ?_
  refine g_iload_n rfl rfl ?_
  refine g_iconst rfl ⟨by decide, by decide⟩ ?_
  refine g_icmp_ge (tgt := 82) rfl (by decide) (fun _ => ?_) (fun hx => absurd hx (by omega))
  refine g_iconst rfl ⟨by decide, by decide⟩ ?_
  refine g_istore_n rfl rfl rfl ?_
  refine g_iload_n rfl rfl ?_
  refine g_bipush rfl ⟨by decide, by decide⟩ (by decide) ?_
  refine g_icmp_ge (tgt := 111) rfl (by decide) (fun hx => absurd hx (by omega)) (fun _ => ?_)
  refine g_aload_n rfl rfl ?_
  refine x_getF (r := 4) hG rfl rfl (by decide) (Or.inr ⟨_, rfl⟩) rfl ?_
  refine g_iload_n rfl rfl ?_
  refine x_aald (t0 := 5) (r := 16) hG rfl rfl rfl (by decide) (by decide) (by decide) rfl ?_
  refine g_aload_n rfl rfl ?_
  refine x_getF (r := 126) hG rfl rfl (by decide) (Or.inr ⟨_, rfl⟩) rfl ?_
  refine g_iload_n rfl rfl ?_
  refine x_aald (t0 := 5) (r := 138) hG rfl rfl rfl (by decide) (by decide) (by decide) rfl ?_
  refine g_mok (fun hmk => ?_)
  refine g_cV (as := [tR (some 138)]) (s_rcopy hG (c := 138) (d := 16) rfl rfl (by decide) (by decide) (by decide) rfl (tp_m32 hmk 138 2).2) rfl rfl mX6_copyFrom_ok rfl rfl rfl (by decide) rfl rfl rfl ?_
  rintro _ w3 ⟨rfl, hK3, hF3⟩ _
  refine x_iinc (z := 1) rfl rfl (by omega) ⟨by omega, by omega⟩ rfl rfl ?_
  refine g_goto (tgt := 84) rfl (by decide) ?_
  refine g_iload_n rfl rfl ?_
  refine g_bipush rfl ⟨by decide, by decide⟩ (by decide) ?_
  refine g_icmp_ge (tgt := 111) rfl (by decide) (fun hx => absurd hx (by omega)) (fun _ => ?_)
  refine g_aload_n rfl rfl ?_
  refine x_getF (r := 4) hG rfl rfl (by decide) (Or.inr ⟨_, rfl⟩) rfl ?_
  refine g_iload_n rfl rfl ?_
  refine x_aald (t0 := 5) (r := 19) hG rfl rfl rfl (by decide) (by decide) (by decide) rfl ?_
  refine g_aload_n rfl rfl ?_
  refine x_getF (r := 126) hG rfl rfl (by decide) (Or.inr ⟨_, rfl⟩) rfl ?_
  refine g_iload_n rfl rfl ?_
  refine x_aald (t0 := 5) (r := 141) hG rfl rfl rfl (by decide) (by decide) (by decide) rfl ?_
  refine g_mok (fun hmk => ?_)
  refine g_cV (as := [tR (some 141)]) (s_rcopy hG (c := 141) (d := 19) rfl rfl (by decide) (by decide) (by decide) rfl (tp_m32 hmk 141 2).2) rfl rfl mX6_copyFrom_ok rfl rfl rfl (by decide) rfl rfl rfl ?_
  rintro _ w4 ⟨rfl, hK4, hF4⟩ _
  refine x_iinc (z := 2) rfl rfl (by omega) ⟨by omega, by omega⟩ rfl rfl ?_
  refine g_goto (tgt := 84) rfl (by decide) ?_
  refine g_iload_n rfl rfl ?_
  refine g_bipush rfl ⟨by decide, by decide⟩ (by decide) ?_
  refine g_icmp_ge (tgt := 111) rfl (by decide) (fun hx => absurd hx (by omega)) (fun _ => ?_)
  refine g_aload_n rfl rfl ?_
  refine x_getF (r := 4) hG rfl rfl (by decide) (Or.inr ⟨_, rfl⟩) rfl ?_
  refine g_iload_n rfl rfl ?_
  refine x_aald (t0 := 5) (r := 22) hG rfl rfl rfl (by decide) (by decide) (by decide) rfl ?_
  refine g_aload_n rfl rfl ?_
  refine x_getF (r := 126) hG rfl rfl (by decide) (Or.inr ⟨_, rfl⟩) rfl ?_
  refine g_iload_n rfl rfl ?_
  refine x_aald (t0 := 5) (r := 144) hG rfl rfl rfl (by decide) (by decide) (by decide) rfl ?_
  refine g_mok (fun hmk => ?_)
  refine g_cV (as := [tR (some 144)]) (s_rcopy hG (c := 144) (d := 22) rfl rfl (by decide) (by decide) (by decide) rfl (tp_m32 hmk 144 2).2) rfl rfl mX6_copyFrom_ok rfl rfl rfl (by decide) rfl rfl rfl ?_
  rintro _ w5 ⟨rfl, hK5, hF5⟩ _
  refine x_iinc (z := 3) rfl rfl (by omega) ⟨by omega, by omega⟩ rfl rfl ?_
  refine g_goto (tgt := 84) rfl (by decide) ?_
  refine g_iload_n rfl rfl ?_
  refine g_bipush rfl ⟨by decide, by decide⟩ (by decide) ?_
  refine g_icmp_ge (tgt := 111) rfl (by decide) (fun hx => absurd hx (by omega)) (fun _ => ?_)
  refine g_aload_n rfl rfl ?_
  refine x_getF (r := 4) hG rfl rfl (by decide) (Or.inr ⟨_, rfl⟩) rfl ?_
  refine g_iload_n rfl rfl ?_
  refine x_aald (t0 := 5) (r := 25) hG rfl rfl rfl (by decide) (by decide) (by decide) rfl ?_
  refine g_aload_n rfl rfl ?_
  refine x_getF (r := 126) hG rfl rfl (by decide) (Or.inr ⟨_, rfl⟩) rfl ?_
  refine g_iload_n rfl rfl ?_
  refine x_aald (t0 := 5) (r := 147) hG rfl rfl rfl (by decide) (by decide) (by decide) rfl ?_
  refine g_mok (fun hmk => ?_)
  refine g_cV (as := [tR (some 147)]) (s_rcopy hG (c := 147) (d := 25) rfl rfl (by decide) (by decide) (by decide) rfl (tp_m32 hmk 147 2).2) rfl rfl mX6_copyFrom_ok rfl rfl rfl (by decide) rfl rfl rfl ?_
  rintro _ w6 ⟨rfl, hK6, hF6⟩ _
  refine x_iinc (z := 4) rfl rfl (by omega) ⟨by omega, by omega⟩ rfl rfl ?_
  refine g_goto (tgt := 84) rfl (by decide) ?_
  refine g_iload_n rfl rfl ?_
  refine g_bipush rfl ⟨by decide, by decide⟩ (by decide) ?_
  refine g_icmp_ge (tgt := 111) rfl (by decide) (fun hx => absurd hx (by omega)) (fun _ => ?_)
  refine g_aload_n rfl rfl ?_
  refine x_getF (r := 4) hG rfl rfl (by decide) (Or.inr ⟨_, rfl⟩) rfl ?_
  refine g_iload_n rfl rfl ?_
  refine x_aald (t0 := 5) (r := 28) hG rfl rfl rfl (by decide) (by decide) (by decide) rfl ?_
  refine g_aload_n rfl rfl ?_
  refine x_getF (r := 126) hG rfl rfl (by decide) (Or.inr ⟨_, rfl⟩) rfl ?_
  refine g_iload_n rfl rfl ?_
  refine x_aald (t0 := 5) (r := 150) hG rfl rfl rfl (by decide) (by decide) (by decide) rfl ?_
  refine g_mok (fun hmk => ?_)
  refine g_cV (as := [tR (some 150)]) (s_rcopy hG (c := 150) (d := 28) rfl rfl (by decide) (by decide) (by decide) rfl (tp_m32 hmk 150 2).2) rfl rfl mX6_copyFrom_ok rfl rfl rfl (by decide) rfl rfl rfl ?_
  rintro _ w7 ⟨rfl, hK7, hF7⟩ _
  refine x_iinc (z := 5) rfl rfl (by omega) ⟨by omega, by omega⟩ rfl rfl ?_
  refine g_goto (tgt := 84) rfl (by decide) ?_
  refine g_iload_n rfl rfl ?_
  refine g_bipush rfl ⟨by decide, by decide⟩ (by decide) ?_
  refine g_icmp_ge (tgt := 111) rfl (by decide) (fun hx => absurd hx (by omega)) (fun _ => ?_)
  refine g_aload_n rfl rfl ?_
  refine x_getF (r := 4) hG rfl rfl (by decide) (Or.inr ⟨_, rfl⟩) rfl ?_
  refine g_iload_n rfl rfl ?_
  refine x_aald (t0 := 5) (r := 31) hG rfl rfl rfl (by decide) (by decide) (by decide) rfl ?_
  refine g_aload_n rfl rfl ?_
  refine x_getF (r := 126) hG rfl rfl (by decide) (Or.inr ⟨_, rfl⟩) rfl ?_
  refine g_iload_n rfl rfl ?_
  refine x_aald (t0 := 5) (r := 153) hG rfl rfl rfl (by decide) (by decide) (by decide) rfl ?_
  refine g_mok (fun hmk => ?_)
  refine g_cV (as := [tR (some 153)]) (s_rcopy hG (c := 153) (d := 31) rfl rfl (by decide) (by decide) (by decide) rfl (tp_m32 hmk 153 2).2) rfl rfl mX6_copyFrom_ok rfl rfl rfl (by decide) rfl rfl rfl ?_
  rintro _ w8 ⟨rfl, hK8, hF8⟩ _
  refine x_iinc (z := 6) rfl rfl (by omega) ⟨by omega, by omega⟩ rfl rfl ?_
  refine g_goto (tgt := 84) rfl (by decide) ?_
  refine g_iload_n rfl rfl ?_
  refine g_bipush rfl ⟨by decide, by decide⟩ (by decide) ?_
  refine g_icmp_ge (tgt := 111) rfl (by decide) (fun hx => absurd hx (by omega)) (fun _ => ?_)
  refine g_aload_n rfl rfl ?_
  refine x_getF (r := 4) hG rfl rfl (by decide) (Or.inr ⟨_, rfl⟩) rfl ?_
  refine g_iload_n rfl rfl ?_
  refine x_aald (t0 := 5) (r := 34) hG rfl rfl rfl (by decide) (by decide) (by decide) rfl ?_
  refine g_aload_n rfl rfl ?_
  refine x_getF (r := 126) hG rfl rfl (by decide) (Or.inr ⟨_, rfl⟩) rfl ?_
  refine g_iload_n rfl rfl ?_
  refine x_aald (t0 := 5) (r := 156) hG rfl rfl rfl (by decide) (by decide) (by decide) rfl ?_
  refine g_mok (fun hmk => ?_)
  refine g_cV (as := [tR (some 156)]) (s_rcopy hG (c := 156) (d := 34) rfl rfl (by decide) (by decide) (by decide) rfl (tp_m32 hmk 156 2).2) rfl rfl mX6_copyFrom_ok rfl rfl rfl (by decide) rfl rfl rfl ?_
  rintro _ w9 ⟨rfl, hK9, hF9⟩ _
  refine x_iinc (z := 7) rfl rfl (by omega) ⟨by omega, by omega⟩ rfl rfl ?_
  refine g_goto (tgt := 84) rfl (by decide) ?_
  refine g_iload_n rfl rfl ?_
  refine g_bipush rfl ⟨by decide, by decide⟩ (by decide) ?_
  refine g_icmp_ge (tgt := 111) rfl (by decide) (fun hx => absurd hx (by omega)) (fun _ => ?_)
  refine g_aload_n rfl rfl ?_
  refine x_getF (r := 4) hG rfl rfl (by decide) (Or.inr ⟨_, rfl⟩) rfl ?_
  refine g_iload_n rfl rfl ?_
  refine x_aald (t0 := 5) (r := 37) hG rfl rfl rfl (by decide) (by decide) (by decide) rfl ?_
  refine g_aload_n rfl rfl ?_
  refine x_getF (r := 126) hG rfl rfl (by decide) (Or.inr ⟨_, rfl⟩) rfl ?_
  refine g_iload_n rfl rfl ?_
  refine x_aald (t0 := 5) (r := 159) hG rfl rfl rfl (by decide) (by decide) (by decide) rfl ?_
  refine g_mok (fun hmk => ?_)
  refine g_cV (as := [tR (some 159)]) (s_rcopy hG (c := 159) (d := 37) rfl rfl (by decide) (by decide) (by decide) rfl (tp_m32 hmk 159 2).2) rfl rfl mX6_copyFrom_ok rfl rfl rfl (by decide) rfl rfl rfl ?_
  rintro _ w10 ⟨rfl, hK10, hF10⟩ _
  refine x_iinc (z := 8) rfl rfl (by omega) ⟨by omega, by omega⟩ rfl rfl ?_
  refine g_goto (tgt := 84) rfl (by decide) ?_
  refine g_iload_n rfl rfl ?_
  refine g_bipush rfl ⟨by decide, by decide⟩ (by decide) ?_
  refine g_icmp_ge (tgt := 111) rfl (by decide) (fun _ => ?_) (fun hx => absurd hx (by omega))
  refine x_return rfl rfl ?_
  have hE : ∀ k, (k < 1 ∨ 5 < k) → ((tp_cp (tp_pi (tp_pi (tp_pi (tp_cp μ 124 2 0 0 600) 1 1 ((tp_cp μ 124 2 0 0 600).1 123 1)) 1 2 ((tp_cp μ 124 2 0 0 600).1 123 2)) 1 3 ((tp_cp μ 124 2 0 0 600).1 123 3)) 127 5 0 0 4)).1 k = μ.1 k := fun k hk => by rw [tp_cp_ne (by omega), tp_pi_ne (by omega), tp_pi_ne (by omega), tp_pi_ne (by omega), tp_cp_ne (by omega)]
  have hE4 : ∀ j, 0 ≤ j → j < 4 → ((tp_cp (tp_pi (tp_pi (tp_pi (tp_cp μ 124 2 0 0 600) 1 1 ((tp_cp μ 124 2 0 0 600).1 123 1)) 1 2 ((tp_cp μ 124 2 0 0 600).1 123 2)) 1 3 ((tp_cp μ 124 2 0 0 600).1 123 3)) 127 5 0 0 4)).1 5 j = μ.1 127 j := fun j j0 j1 => by rw [tp_cp_at j0 j1, tp_pi_ne (by omega), tp_pi_ne (by omega), tp_pi_ne (by omega), tp_cp_ne (by omega)]
  have hE1 : ∀ j, 0 ≤ j → j < 600 → ((tp_cp (tp_pi (tp_pi (tp_pi (tp_cp μ 124 2 0 0 600) 1 1 ((tp_cp μ 124 2 0 0 600).1 123 1)) 1 2 ((tp_cp μ 124 2 0 0 600).1 123 2)) 1 3 ((tp_cp μ 124 2 0 0 600).1 123 3)) 127 5 0 0 4)).1 2 j = μ.1 124 j := fun j j0 j1 => by rw [tp_cp_ne (by omega), tp_pi_ne (by omega), tp_pi_ne (by omega), tp_pi_ne (by omega), tp_cp_at j0 j1]
  refine ⟨rfl, ⟨⟨?_, ?_, ?_⟩, fun j j0 j1 => ?_, fun j j0 j1 => ?_, fun k hk => ?_, fun k hk => ?_, fun k hk => ?_, fun k hk => ?_⟩, fun k hk => ?_, ?_⟩
  · show w10.1 1 1 = μ.1 123 1
    exact (congrFun ((((((((((hF10 (1) (by omega)).trans (hF9 (1) (by omega))).trans (hF8 (1) (by omega))).trans (hF7 (1) (by omega))).trans (hF6 (1) (by omega))).trans (hF5 (1) (by omega))).trans (hF4 (1) (by omega))).trans (hF3 (1) (by omega))).trans (hF2 (1) (by omega))).trans (hF1 (1) (by omega))) _).trans rfl
  · show w10.1 1 2 = μ.1 123 2
    exact (congrFun ((((((((((hF10 (1) (by omega)).trans (hF9 (1) (by omega))).trans (hF8 (1) (by omega))).trans (hF7 (1) (by omega))).trans (hF6 (1) (by omega))).trans (hF5 (1) (by omega))).trans (hF4 (1) (by omega))).trans (hF3 (1) (by omega))).trans (hF2 (1) (by omega))).trans (hF1 (1) (by omega))) _).trans rfl
  · show w10.1 1 3 = μ.1 123 3
    exact (congrFun ((((((((((hF10 (1) (by omega)).trans (hF9 (1) (by omega))).trans (hF8 (1) (by omega))).trans (hF7 (1) (by omega))).trans (hF6 (1) (by omega))).trans (hF5 (1) (by omega))).trans (hF4 (1) (by omega))).trans (hF3 (1) (by omega))).trans (hF2 (1) (by omega))).trans (hF1 (1) (by omega))) _).trans rfl
  · show w10.1 2 j = μ.1 124 j
    exact (congrFun ((((((((((hF10 (2) (by omega)).trans (hF9 (2) (by omega))).trans (hF8 (2) (by omega))).trans (hF7 (2) (by omega))).trans (hF6 (2) (by omega))).trans (hF5 (2) (by omega))).trans (hF4 (2) (by omega))).trans (hF3 (2) (by omega))).trans (hF2 (2) (by omega))).trans (hF1 (2) (by omega))) _).trans (hE1 j j0 j1)
  · show w10.1 5 j = μ.1 127 j
    exact (congrFun ((((((((((hF10 (5) (by omega)).trans (hF9 (5) (by omega))).trans (hF8 (5) (by omega))).trans (hF7 (5) (by omega))).trans (hF6 (5) (by omega))).trans (hF5 (5) (by omega))).trans (hF4 (5) (by omega))).trans (hF3 (5) (by omega))).trans (hF2 (5) (by omega))).trans (hF1 (5) (by omega))) _).trans (hE4 j j0 j1)
  · rcases (show k = 0 ∨ k = 1 by omega) with rfl | rfl
    · exact q_kc_cut (s := 123) (t := 1) (x := 5) (by omega) (q_kc_tr (c := 128) (d := 6) hK1 (fun i hi => (((((((((hF10 (6 + i) (by omega)).trans (hF9 (6 + i) (by omega))).trans (hF8 (6 + i) (by omega))).trans (hF7 (6 + i) (by omega))).trans (hF6 (6 + i) (by omega))).trans (hF5 (6 + i) (by omega))).trans (hF4 (6 + i) (by omega))).trans (hF3 (6 + i) (by omega))).trans (hF2 (6 + i) (by omega)))) (fun i hi => (hE (128 + i) (by omega))))
    · exact q_kc_cut (s := 123) (t := 1) (x := 10) (by omega) (q_kc_tr (c := 133) (d := 11) hK2 (fun i hi => ((((((((hF10 (11 + i) (by omega)).trans (hF9 (11 + i) (by omega))).trans (hF8 (11 + i) (by omega))).trans (hF7 (11 + i) (by omega))).trans (hF6 (11 + i) (by omega))).trans (hF5 (11 + i) (by omega))).trans (hF4 (11 + i) (by omega))).trans (hF3 (11 + i) (by omega)))) (fun i hi => ((hF1 (133 + i) (by omega)).trans (hE (133 + i) (by omega)))))
  · rcases (show k = 0 ∨ k = 1 by omega) with rfl | rfl
    · exact q_kr_cut (s := 123) (t := 1) (x := 21) (by omega) (q_kr_tr (c := 144) (d := 22) hK5 (fun i hi => (((((hF10 (22 + i) (by omega)).trans (hF9 (22 + i) (by omega))).trans (hF8 (22 + i) (by omega))).trans (hF7 (22 + i) (by omega))).trans (hF6 (22 + i) (by omega)))) (fun i hi => (((((hF4 (144 + i) (by omega)).trans (hF3 (144 + i) (by omega))).trans (hF2 (144 + i) (by omega))).trans (hF1 (144 + i) (by omega))).trans (hE (144 + i) (by omega)))))
    · exact q_kr_cut (s := 123) (t := 1) (x := 24) (by omega) (q_kr_tr (c := 147) (d := 25) hK6 (fun i hi => ((((hF10 (25 + i) (by omega)).trans (hF9 (25 + i) (by omega))).trans (hF8 (25 + i) (by omega))).trans (hF7 (25 + i) (by omega)))) (fun i hi => ((((((hF5 (147 + i) (by omega)).trans (hF4 (147 + i) (by omega))).trans (hF3 (147 + i) (by omega))).trans (hF2 (147 + i) (by omega))).trans (hF1 (147 + i) (by omega))).trans (hE (147 + i) (by omega)))))
  · rcases (show k = 0 ∨ k = 1 by omega) with rfl | rfl
    · exact q_kr_cut (s := 123) (t := 1) (x := 27) (by omega) (q_kr_tr (c := 150) (d := 28) hK7 (fun i hi => (((hF10 (28 + i) (by omega)).trans (hF9 (28 + i) (by omega))).trans (hF8 (28 + i) (by omega)))) (fun i hi => (((((((hF6 (150 + i) (by omega)).trans (hF5 (150 + i) (by omega))).trans (hF4 (150 + i) (by omega))).trans (hF3 (150 + i) (by omega))).trans (hF2 (150 + i) (by omega))).trans (hF1 (150 + i) (by omega))).trans (hE (150 + i) (by omega)))))
    · exact q_kr_cut (s := 123) (t := 1) (x := 30) (by omega) (q_kr_tr (c := 153) (d := 31) hK8 (fun i hi => ((hF10 (31 + i) (by omega)).trans (hF9 (31 + i) (by omega)))) (fun i hi => ((((((((hF7 (153 + i) (by omega)).trans (hF6 (153 + i) (by omega))).trans (hF5 (153 + i) (by omega))).trans (hF4 (153 + i) (by omega))).trans (hF3 (153 + i) (by omega))).trans (hF2 (153 + i) (by omega))).trans (hF1 (153 + i) (by omega))).trans (hE (153 + i) (by omega)))))
  · rcases (show k = 0 ∨ k = 1 by omega) with rfl | rfl
    · exact q_kr_cut (s := 123) (t := 1) (x := 33) (by omega) (q_kr_tr (c := 156) (d := 34) hK9 (fun i hi => (hF10 (34 + i) (by omega))) (fun i hi => (((((((((hF8 (156 + i) (by omega)).trans (hF7 (156 + i) (by omega))).trans (hF6 (156 + i) (by omega))).trans (hF5 (156 + i) (by omega))).trans (hF4 (156 + i) (by omega))).trans (hF3 (156 + i) (by omega))).trans (hF2 (156 + i) (by omega))).trans (hF1 (156 + i) (by omega))).trans (hE (156 + i) (by omega)))))
    · exact q_kr_cut (s := 123) (t := 1) (x := 36) (by omega) (q_kr_tr (c := 159) (d := 37) hK10 (fun i hi => rfl) (fun i hi => ((((((((((hF9 (159 + i) (by omega)).trans (hF8 (159 + i) (by omega))).trans (hF7 (159 + i) (by omega))).trans (hF6 (159 + i) (by omega))).trans (hF5 (159 + i) (by omega))).trans (hF4 (159 + i) (by omega))).trans (hF3 (159 + i) (by omega))).trans (hF2 (159 + i) (by omega))).trans (hF1 (159 + i) (by omega))).trans (hE (159 + i) (by omega)))))
  · exact (((((((((((hF10 k (by omega)).trans (hF9 k (by omega))).trans (hF8 k (by omega))).trans (hF7 k (by omega))).trans (hF6 k (by omega))).trans (hF5 k (by omega))).trans (hF4 k (by omega))).trans (hF3 k (by omega))).trans (hF2 k (by omega))).trans (hF1 k (by omega))).trans (hE k (by omega)))
  · exact (congrFun ((((((((((hF10 (1) (by omega)).trans (hF9 (1) (by omega))).trans (hF8 (1) (by omega))).trans (hF7 (1) (by omega))).trans (hF6 (1) (by omega))).trans (hF5 (1) (by omega))).trans (hF4 (1) (by omega))).trans (hF3 (1) (by omega))).trans (hF2 (1) (by omega))).trans (hF1 (1) (by omega))) _).trans rfl
set_option maxHeartbeats 4000000 in
set_option maxRecDepth 100000 in
theorem s_stc162_1 {G : tp_G} {μ : tp_M} (hG : tp_Gf G = true) : tp_k G mX9_copyFrom [tR (some 162), tR (some 1)] μ (fun r μ' => r = none ∧ q_kS (tp_cut μ.1 1 39) (tp_cut μ'.1 162 39) ∧ (∀ k, (k < 162 ∨ 200 < k) → μ'.1 k = μ.1 k) ∧ μ'.1 162 4 = μ.1 162 4) := by
  refine tp_ok_of mX9_copyFrom_ok rfl (Nat.le_refl _) ?_
  refine g_aload_n rfl rfl ?_
  refine x_getF (r := 2) hG rfl rfl (by decide) (Or.inr ⟨_, rfl⟩) rfl ?_
  refine g_iconst rfl ⟨by decide, by decide⟩ ?_
  refine g_aload_n rfl rfl ?_
  refine x_getF (r := 163) hG rfl rfl (by decide) (Or.inr ⟨_, rfl⟩) rfl ?_
  refine g_iconst rfl ⟨by decide, by decide⟩ ?_
  refine g_sipush rfl ⟨by decide, by decide⟩ (by decide) ?_
  refine g_copy (t0 := 1) (Or.inr rfl) rfl (by decide) rfl (by decide) rfl rfl (by decide) (by decide) (by decide) (by decide) (by decide) rfl ?_
  refine g_aload_n rfl rfl ?_
  refine g_aload_n rfl rfl ?_
  refine x_geti (v := ((tp_cp μ 2 163 0 0 600).1 1 1)) rfl rfl (by decide) (Or.inl rfl) rfl ?_
  refine g_puti rfl rfl (by decide) rfl rfl ?_
  refine g_aload_n rfl rfl ?_
  refine g_aload_n rfl rfl ?_
  refine x_geti (v := ((tp_cp μ 2 163 0 0 600).1 1 2)) rfl rfl (by decide) (Or.inl rfl) rfl ?_
  refine g_puti rfl rfl (by decide) rfl rfl ?_
  refine g_aload_n rfl rfl ?_
  refine g_aload_n rfl rfl ?_
  refine x_geti (v := ((tp_cp μ 2 163 0 0 600).1 1 3)) rfl rfl (by decide) (Or.inl rfl) rfl ?_
  refine g_puti rfl rfl (by decide) rfl rfl ?_
  refine g_aload_n rfl rfl ?_
  refine x_getF (r := 5) hG rfl rfl (by decide) (Or.inr ⟨_, rfl⟩) rfl ?_
  refine g_iconst rfl ⟨by decide, by decide⟩ ?_
  refine g_aload_n rfl rfl ?_
  refine x_getF (r := 166) hG rfl rfl (by decide) (Or.inr ⟨_, rfl⟩) rfl ?_
  refine g_iconst rfl ⟨by decide, by decide⟩ ?_
  refine g_iconst rfl ⟨by decide, by decide⟩ ?_
  refine g_copy (t0 := 0) (Or.inl rfl) rfl (by decide) rfl (by decide) rfl rfl (by decide) (by decide) (by decide) (by decide) (by decide) rfl ?_
  refine g_iconst rfl ⟨by decide, by decide⟩ ?_
  refine g_istore_n rfl rfl rfl ?_
  refine g_iload_n rfl rfl ?_
  refine g_iconst rfl ⟨by decide, by decide⟩ ?_
  refine g_icmp_ge (tgt := 82) rfl (by decide) (fun hx => absurd hx (by omega)) (fun _ => ?_)
  refine g_aload_n rfl rfl ?_
  refine x_getF (r := 164) hG rfl rfl (by decide) (Or.inr ⟨_, rfl⟩) rfl ?_
  refine g_iload_n rfl rfl ?_
  refine x_aald (t0 := 4) (r := 167) hG rfl rfl rfl (by decide) (by decide) (by decide) rfl ?_
  refine g_aload_n rfl rfl ?_
  refine x_getF (r := 3) hG rfl rfl (by decide) (Or.inr ⟨_, rfl⟩) rfl ?_
  refine g_iload_n rfl rfl ?_
  refine x_aald (t0 := 4) (r := 6) hG rfl rfl rfl (by decide) (by decide) (by decide) rfl ?_
  refine g_cV (as := [tR (some 6)]) (s_ccopy hG (c := 6) (d := 167) rfl rfl (by decide) (by decide) (by decide)) rfl rfl mX0_copyFrom_ok rfl rfl rfl (by decide) rfl rfl rfl ?_
  rintro _ w1 ⟨rfl, hK1, hF1⟩ _
  refine x_iinc (z := 1) rfl rfl (by omega) ⟨by omega, by omega⟩ rfl rfl ?_
  refine g_goto (tgt := 56) rfl (by decide) ?_
  refine g_iload_n rfl rfl ?_
  refine g_iconst rfl ⟨by decide, by decide⟩ ?_
  refine g_icmp_ge (tgt := 82) rfl (by decide) (fun hx => absurd hx (by omega)) (fun _ => ?_)
  refine g_aload_n rfl rfl ?_
  refine x_getF (r := 164) hG rfl rfl (by decide) (Or.inr ⟨_, rfl⟩) rfl ?_
  refine g_iload_n rfl rfl ?_
  refine x_aald (t0 := 4) (r := 172) hG rfl rfl rfl (by decide) (by decide) (by decide) rfl ?_
  refine g_aload_n rfl rfl ?_
  refine x_getF (r := 3) hG rfl rfl (by decide) (Or.inr ⟨_, rfl⟩) rfl ?_
  refine g_iload_n rfl rfl ?_
  refine x_aald (t0 := 4) (r := 11) hG rfl rfl rfl (by decide) (by decide) (by decide) rfl ?_
  refine g_cV (as := [tR (some 11)]) (s_ccopy hG (c := 11) (d := 172) rfl rfl (by decide) (by decide) (by decide)) rfl rfl mX0_copyFrom_ok rfl rfl rfl (by decide) rfl rfl rfl ?_
  rintro _ w2 ⟨rfl, hK2, hF2⟩ _
  refine x_iinc (z := 2) rfl rfl (by omega) ⟨by omega, by omega⟩ rfl rfl ?_
  refine g_goto (tgt := 56) rfl (by decide) ?_
  refine g_iload_n rfl rfl ?_
  refine g_iconst rfl ⟨by decide, by decide⟩ ?_
  refine g_icmp_ge (tgt := 82) rfl (by decide) (fun _ => ?_) (fun hx => absurd hx (by omega))
  refine g_iconst rfl ⟨by decide, by decide⟩ ?_
  refine g_istore_n rfl rfl rfl ?_
  refine g_iload_n rfl rfl ?_
  refine g_bipush rfl ⟨by decide, by decide⟩ (by decide) ?_
  refine g_icmp_ge (tgt := 111) rfl (by decide) (fun hx => absurd hx (by omega)) (fun _ => ?_)
  refine g_aload_n rfl rfl ?_
  refine x_getF (r := 165) hG rfl rfl (by decide) (Or.inr ⟨_, rfl⟩) rfl ?_
  refine g_iload_n rfl rfl ?_
  refine x_aald (t0 := 5) (r := 177) hG rfl rfl rfl (by decide) (by decide) (by decide) rfl ?_
  refine g_aload_n rfl rfl ?_
  refine x_getF (r := 4) hG rfl rfl (by decide) (Or.inr ⟨_, rfl⟩) rfl ?_
  refine g_iload_n rfl rfl ?_
  refine x_aald (t0 := 5) (r := 16) hG rfl rfl rfl (by decide) (by decide) (by decide) rfl ?_
  refine g_mok (fun hmk => ?_)
  refine g_cV (as := [tR (some 16)]) (s_rcopy hG (c := 16) (d := 177) rfl rfl (by decide) (by decide) (by decide) rfl (tp_m32 hmk 16 2).2) rfl rfl mX6_copyFrom_ok rfl rfl rfl (by decide) rfl rfl rfl ?_
  rintro _ w3 ⟨rfl, hK3, hF3⟩ _
  refine x_iinc (z := 1) rfl rfl (by omega) ⟨by omega, by omega⟩ rfl rfl ?_
  refine g_goto (tgt := 84) rfl (by decide) ?_
  refine g_iload_n rfl rfl ?_
  refine g_bipush rfl ⟨by decide, by decide⟩ (by decide) ?_
  refine g_icmp_ge (tgt := 111) rfl (by decide) (fun hx => absurd hx (by omega)) (fun _ => ?_)
  refine g_aload_n rfl rfl ?_
  refine x_getF (r := 165) hG rfl rfl (by decide) (Or.inr ⟨_, rfl⟩) rfl ?_
  refine g_iload_n rfl rfl ?_
  refine x_aald (t0 := 5) (r := 180) hG rfl rfl rfl (by decide) (by decide) (by decide) rfl ?_
  refine g_aload_n rfl rfl ?_
  refine x_getF (r := 4) hG rfl rfl (by decide) (Or.inr ⟨_, rfl⟩) rfl ?_
  refine g_iload_n rfl rfl ?_
  refine x_aald (t0 := 5) (r := 19) hG rfl rfl rfl (by decide) (by decide) (by decide) rfl ?_
  refine g_mok (fun hmk => ?_)
  refine g_cV (as := [tR (some 19)]) (s_rcopy hG (c := 19) (d := 180) rfl rfl (by decide) (by decide) (by decide) rfl (tp_m32 hmk 19 2).2) rfl rfl mX6_copyFrom_ok rfl rfl rfl (by decide) rfl rfl rfl ?_
  rintro _ w4 ⟨rfl, hK4, hF4⟩ _
  refine x_iinc (z := 2) rfl rfl (by omega) ⟨by omega, by omega⟩ rfl rfl ?_
  refine g_goto (tgt := 84) rfl (by decide) ?_
  refine g_iload_n rfl rfl ?_
  refine g_bipush rfl ⟨by decide, by decide⟩ (by decide) ?_
  refine g_icmp_ge (tgt := 111) rfl (by decide) (fun hx => absurd hx (by omega)) (fun _ => ?_)
  refine g_aload_n rfl rfl ?_
  refine x_getF (r := 165) hG rfl rfl (by decide) (Or.inr ⟨_, rfl⟩) rfl ?_
  refine g_iload_n rfl rfl ?_
  refine x_aald (t0 := 5) (r := 183) hG rfl rfl rfl (by decide) (by decide) (by decide) rfl ?_
  refine g_aload_n rfl rfl ?_
  refine x_getF (r := 4) hG rfl rfl (by decide) (Or.inr ⟨_, rfl⟩) rfl ?_
  refine g_iload_n rfl rfl ?_
  refine x_aald (t0 := 5) (r := 22) hG rfl rfl rfl (by decide) (by decide) (by decide) rfl ?_
  refine g_mok (fun hmk => ?_)
  refine g_cV (as := [tR (some 22)]) (s_rcopy hG (c := 22) (d := 183) rfl rfl (by decide) (by decide) (by decide) rfl (tp_m32 hmk 22 2).2) rfl rfl mX6_copyFrom_ok rfl rfl rfl (by decide) rfl rfl rfl ?_
  rintro _ w5 ⟨rfl, hK5, hF5⟩ _
  refine x_iinc (z := 3) rfl rfl (by omega) ⟨by omega, by omega⟩ rfl rfl ?_
  refine g_goto (tgt := 84) rfl (by decide) ?_
  refine g_iload_n rfl rfl ?_
  refine g_bipush rfl ⟨by decide, by decide⟩ (by decide) ?_
  refine g_icmp_ge (tgt := 111) rfl (by decide) (fun hx => absurd hx (by omega)) (fun _ => ?_)
  refine g_aload_n rfl rfl ?_
  refine x_getF (r := 165) hG rfl rfl (by decide) (Or.inr ⟨_, rfl⟩) rfl ?_
  refine g_iload_n rfl rfl ?_
  refine x_aald (t0 := 5) (r := 186) hG rfl rfl rfl (by decide) (by decide) (by decide) rfl ?_
  refine g_aload_n rfl rfl ?_
  refine x_getF (r := 4) hG rfl rfl (by decide) (Or.inr ⟨_, rfl⟩) rfl ?_
  refine g_iload_n rfl rfl ?_
  refine x_aald (t0 := 5) (r := 25) hG rfl rfl rfl (by decide) (by decide) (by decide) rfl ?_
  refine g_mok (fun hmk => ?_)
  refine g_cV (as := [tR (some 25)]) (s_rcopy hG (c := 25) (d := 186) rfl rfl (by decide) (by decide) (by decide) rfl (tp_m32 hmk 25 2).2) rfl rfl mX6_copyFrom_ok rfl rfl rfl (by decide) rfl rfl rfl ?_
  rintro _ w6 ⟨rfl, hK6, hF6⟩ _
  refine x_iinc (z := 4) rfl rfl (by omega) ⟨by omega, by omega⟩ rfl rfl ?_
  refine g_goto (tgt := 84) rfl (by decide) ?_
  refine g_iload_n rfl rfl ?_
  refine g_bipush rfl ⟨by decide, by decide⟩ (by decide) ?_
  refine g_icmp_ge (tgt := 111) rfl (by decide) (fun hx => absurd hx (by omega)) (fun _ => ?_)
  refine g_aload_n rfl rfl ?_
  refine x_getF (r := 165) hG rfl rfl (by decide) (Or.inr ⟨_, rfl⟩) rfl ?_
  refine g_iload_n rfl rfl ?_
  refine x_aald (t0 := 5) (r := 189) hG rfl rfl rfl (by decide) (by decide) (by decide) rfl ?_
  refine g_aload_n rfl rfl ?_
  refine x_getF (r := 4) hG rfl rfl (by decide) (Or.inr ⟨_, rfl⟩) rfl ?_
  refine g_iload_n rfl rfl ?_
  refine x_aald (t0 := 5) (r := 28) hG rfl rfl rfl (by decide) (by decide) (by decide) rfl ?_
  refine g_mok (fun hmk => ?_)
  refine g_cV (as := [tR (some 28)]) (s_rcopy hG (c := 28) (d := 189) rfl rfl (by decide) (by decide) (by decide) rfl (tp_m32 hmk 28 2).2) rfl rfl mX6_copyFrom_ok rfl rfl rfl (by decide) rfl rfl rfl ?_
  rintro _ w7 ⟨rfl, hK7, hF7⟩ _
  refine x_iinc (z := 5) rfl rfl (by omega) ⟨by omega, by omega⟩ rfl rfl ?_
  refine g_goto (tgt := 84) rfl (by decide) ?_
  refine g_iload_n rfl rfl ?_
  refine g_bipush rfl ⟨by decide, by decide⟩ (by decide) ?_
  refine g_icmp_ge (tgt := 111) rfl (by decide) (fun hx => absurd hx (by omega)) (fun _ => ?_)
  refine g_aload_n rfl rfl ?_
  refine x_getF (r := 165) hG rfl rfl (by decide) (Or.inr ⟨_, rfl⟩) rfl ?_
  refine g_iload_n rfl rfl ?_
  refine x_aald (t0 := 5) (r := 192) hG rfl rfl rfl (by decide) (by decide) (by decide) rfl ?_
  refine g_aload_n rfl rfl ?_
  refine x_getF (r := 4) hG rfl rfl (by decide) (Or.inr ⟨_, rfl⟩) rfl ?_
  refine g_iload_n rfl rfl ?_
  refine x_aald (t0 := 5) (r := 31) hG rfl rfl rfl (by decide) (by decide) (by decide) rfl ?_
  refine g_mok (fun hmk => ?_)
  refine g_cV (as := [tR (some 31)]) (s_rcopy hG (c := 31) (d := 192) rfl rfl (by decide) (by decide) (by decide) rfl (tp_m32 hmk 31 2).2) rfl rfl mX6_copyFrom_ok rfl rfl rfl (by decide) rfl rfl rfl ?_
  rintro _ w8 ⟨rfl, hK8, hF8⟩ _
  refine x_iinc (z := 6) rfl rfl (by omega) ⟨by omega, by omega⟩ rfl rfl ?_
  refine g_goto (tgt := 84) rfl (by decide) ?_
  refine g_iload_n rfl rfl ?_
  refine g_bipush rfl ⟨by decide, by decide⟩ (by decide) ?_
  refine g_icmp_ge (tgt := 111) rfl (by decide) (fun hx => absurd hx (by omega)) (fun _ => ?_)
  refine g_aload_n rfl rfl ?_
  refine x_getF (r := 165) hG rfl rfl (by decide) (Or.inr ⟨_, rfl⟩) rfl ?_
  refine g_iload_n rfl rfl ?_
  refine x_aald (t0 := 5) (r := 195) hG rfl rfl rfl (by decide) (by decide) (by decide) rfl ?_
  refine g_aload_n rfl rfl ?_
  refine x_getF (r := 4) hG rfl rfl (by decide) (Or.inr ⟨_, rfl⟩) rfl ?_
  refine g_iload_n rfl rfl ?_
  refine x_aald (t0 := 5) (r := 34) hG rfl rfl rfl (by decide) (by decide) (by decide) rfl ?_
  refine g_mok (fun hmk => ?_)
  refine g_cV (as := [tR (some 34)]) (s_rcopy hG (c := 34) (d := 195) rfl rfl (by decide) (by decide) (by decide) rfl (tp_m32 hmk 34 2).2) rfl rfl mX6_copyFrom_ok rfl rfl rfl (by decide) rfl rfl rfl ?_
  rintro _ w9 ⟨rfl, hK9, hF9⟩ _
  refine x_iinc (z := 7) rfl rfl (by omega) ⟨by omega, by omega⟩ rfl rfl ?_
  refine g_goto (tgt := 84) rfl (by decide) ?_
  refine g_iload_n rfl rfl ?_
  refine g_bipush rfl ⟨by decide, by decide⟩ (by decide) ?_
  refine g_icmp_ge (tgt := 111) rfl (by decide) (fun hx => absurd hx (by omega)) (fun _ => ?_)
  refine g_aload_n rfl rfl ?_
  refine x_getF (r := 165) hG rfl rfl (by decide) (Or.inr ⟨_, rfl⟩) rfl ?_
  refine g_iload_n rfl rfl ?_
  refine x_aald (t0 := 5) (r := 198) hG rfl rfl rfl (by decide) (by decide) (by decide) rfl ?_
  refine g_aload_n rfl rfl ?_
  refine x_getF (r := 4) hG rfl rfl (by decide) (Or.inr ⟨_, rfl⟩) rfl ?_
  refine g_iload_n rfl rfl ?_
  refine x_aald (t0 := 5) (r := 37) hG rfl rfl rfl (by decide) (by decide) (by decide) rfl ?_
  refine g_mok (fun hmk => ?_)
  refine g_cV (as := [tR (some 37)]) (s_rcopy hG (c := 37) (d := 198) rfl rfl (by decide) (by decide) (by decide) rfl (tp_m32 hmk 37 2).2) rfl rfl mX6_copyFrom_ok rfl rfl rfl (by decide) rfl rfl rfl ?_
  rintro _ w10 ⟨rfl, hK10, hF10⟩ _
  refine x_iinc (z := 8) rfl rfl (by omega) ⟨by omega, by omega⟩ rfl rfl ?_
  refine g_goto (tgt := 84) rfl (by decide) ?_
  refine g_iload_n rfl rfl ?_
  refine g_bipush rfl ⟨by decide, by decide⟩ (by decide) ?_
  refine g_icmp_ge (tgt := 111) rfl (by decide) (fun _ => ?_) (fun hx => absurd hx (by omega))
  refine x_return rfl rfl ?_
  have hE : ∀ k, (k < 162 ∨ 166 < k) → ((tp_cp (tp_pi (tp_pi (tp_pi (tp_cp μ 2 163 0 0 600) 162 1 ((tp_cp μ 2 163 0 0 600).1 1 1)) 162 2 ((tp_cp μ 2 163 0 0 600).1 1 2)) 162 3 ((tp_cp μ 2 163 0 0 600).1 1 3)) 5 166 0 0 4)).1 k = μ.1 k := fun k hk => by rw [tp_cp_ne (by omega), tp_pi_ne (by omega), tp_pi_ne (by omega), tp_pi_ne (by omega), tp_cp_ne (by omega)]
  have hE4 : ∀ j, 0 ≤ j → j < 4 → ((tp_cp (tp_pi (tp_pi (tp_pi (tp_cp μ 2 163 0 0 600) 162 1 ((tp_cp μ 2 163 0 0 600).1 1 1)) 162 2 ((tp_cp μ 2 163 0 0 600).1 1 2)) 162 3 ((tp_cp μ 2 163 0 0 600).1 1 3)) 5 166 0 0 4)).1 166 j = μ.1 5 j := fun j j0 j1 => by rw [tp_cp_at j0 j1, tp_pi_ne (by omega), tp_pi_ne (by omega), tp_pi_ne (by omega), tp_cp_ne (by omega)]
  have hE1 : ∀ j, 0 ≤ j → j < 600 → ((tp_cp (tp_pi (tp_pi (tp_pi (tp_cp μ 2 163 0 0 600) 162 1 ((tp_cp μ 2 163 0 0 600).1 1 1)) 162 2 ((tp_cp μ 2 163 0 0 600).1 1 2)) 162 3 ((tp_cp μ 2 163 0 0 600).1 1 3)) 5 166 0 0 4)).1 163 j = μ.1 2 j := fun j j0 j1 => by rw [tp_cp_ne (by omega), tp_pi_ne (by omega), tp_pi_ne (by omega), tp_pi_ne (by omega), tp_cp_at j0 j1]
  refine ⟨rfl, ⟨⟨?_, ?_, ?_⟩, fun j j0 j1 => ?_, fun j j0 j1 => ?_, fun k hk => ?_, fun k hk => ?_, fun k hk => ?_, fun k hk => ?_⟩, fun k hk => ?_, ?_⟩
  · show w10.1 162 1 = μ.1 1 1
    exact (congrFun ((((((((((hF10 (162) (by omega)).trans (hF9 (162) (by omega))).trans (hF8 (162) (by omega))).trans (hF7 (162) (by omega))).trans (hF6 (162) (by omega))).trans (hF5 (162) (by omega))).trans (hF4 (162) (by omega))).trans (hF3 (162) (by omega))).trans (hF2 (162) (by omega))).trans (hF1 (162) (by omega))) _).trans rfl
  · show w10.1 162 2 = μ.1 1 2
    exact (congrFun ((((((((((hF10 (162) (by omega)).trans (hF9 (162) (by omega))).trans (hF8 (162) (by omega))).trans (hF7 (162) (by omega))).trans (hF6 (162) (by omega))).trans (hF5 (162) (by omega))).trans (hF4 (162) (by omega))).trans (hF3 (162) (by omega))).trans (hF2 (162) (by omega))).trans (hF1 (162) (by omega))) _).trans rfl
  · show w10.1 162 3 = μ.1 1 3
    exact (congrFun ((((((((((hF10 (162) (by omega)).trans (hF9 (162) (by omega))).trans (hF8 (162) (by omega))).trans (hF7 (162) (by omega))).trans (hF6 (162) (by omega))).trans (hF5 (162) (by omega))).trans (hF4 (162) (by omega))).trans (hF3 (162) (by omega))).trans (hF2 (162) (by omega))).trans (hF1 (162) (by omega))) _).trans rfl
  · show w10.1 163 j = μ.1 2 j
    exact (congrFun ((((((((((hF10 (163) (by omega)).trans (hF9 (163) (by omega))).trans (hF8 (163) (by omega))).trans (hF7 (163) (by omega))).trans (hF6 (163) (by omega))).trans (hF5 (163) (by omega))).trans (hF4 (163) (by omega))).trans (hF3 (163) (by omega))).trans (hF2 (163) (by omega))).trans (hF1 (163) (by omega))) _).trans (hE1 j j0 j1)
  · show w10.1 166 j = μ.1 5 j
    exact (congrFun ((((((((((hF10 (166) (by omega)).trans (hF9 (166) (by omega))).trans (hF8 (166) (by omega))).trans (hF7 (166) (by omega))).trans (hF6 (166) (by omega))).trans (hF5 (166) (by omega))).trans (hF4 (166) (by omega))).trans (hF3 (166) (by omega))).trans (hF2 (166) (by omega))).trans (hF1 (166) (by omega))) _).trans (hE4 j j0 j1)
  · rcases (show k = 0 ∨ k = 1 by omega) with rfl | rfl
    · exact q_kc_cut (s := 1) (t := 162) (x := 5) (by omega) (q_kc_tr (c := 6) (d := 167) hK1 (fun i hi => (((((((((hF10 (167 + i) (by omega)).trans (hF9 (167 + i) (by omega))).trans (hF8 (167 + i) (by omega))).trans (hF7 (167 + i) (by omega))).trans (hF6 (167 + i) (by omega))).trans (hF5 (167 + i) (by omega))).trans (hF4 (167 + i) (by omega))).trans (hF3 (167 + i) (by omega))).trans (hF2 (167 + i) (by omega)))) (fun i hi => (hE (6 + i) (by omega))))
    · exact q_kc_cut (s := 1) (t := 162) (x := 10) (by omega) (q_kc_tr (c := 11) (d := 172) hK2 (fun i hi => ((((((((hF10 (172 + i) (by omega)).trans (hF9 (172 + i) (by omega))).trans (hF8 (172 + i) (by omega))).trans (hF7 (172 + i) (by omega))).trans (hF6 (172 + i) (by omega))).trans (hF5 (172 + i) (by omega))).trans (hF4 (172 + i) (by omega))).trans (hF3 (172 + i) (by omega)))) (fun i hi => ((hF1 (11 + i) (by omega)).trans (hE (11 + i) (by omega)))))
  · rcases (show k = 0 ∨ k = 1 by omega) with rfl | rfl
    · exact q_kr_cut (s := 1) (t := 162) (x := 21) (by omega) (q_kr_tr (c := 22) (d := 183) hK5 (fun i hi => (((((hF10 (183 + i) (by omega)).trans (hF9 (183 + i) (by omega))).trans (hF8 (183 + i) (by omega))).trans (hF7 (183 + i) (by omega))).trans (hF6 (183 + i) (by omega)))) (fun i hi => (((((hF4 (22 + i) (by omega)).trans (hF3 (22 + i) (by omega))).trans (hF2 (22 + i) (by omega))).trans (hF1 (22 + i) (by omega))).trans (hE (22 + i) (by omega)))))
    · exact q_kr_cut (s := 1) (t := 162) (x := 24) (by omega) (q_kr_tr (c := 25) (d := 186) hK6 (fun i hi => ((((hF10 (186 + i) (by omega)).trans (hF9 (186 + i) (by omega))).trans (hF8 (186 + i) (by omega))).trans (hF7 (186 + i) (by omega)))) (fun i hi => ((((((hF5 (25 + i) (by omega)).trans (hF4 (25 + i) (by omega))).trans (hF3 (25 + i) (by omega))).trans (hF2 (25 + i) (by omega))).trans (hF1 (25 + i) (by omega))).trans (hE (25 + i) (by omega)))))
  · rcases (show k = 0 ∨ k = 1 by omega) with rfl | rfl
    · exact q_kr_cut (s := 1) (t := 162) (x := 27) (by omega) (q_kr_tr (c := 28) (d := 189) hK7 (fun i hi => (((hF10 (189 + i) (by omega)).trans (hF9 (189 + i) (by omega))).trans (hF8 (189 + i) (by omega)))) (fun i hi => (((((((hF6 (28 + i) (by omega)).trans (hF5 (28 + i) (by omega))).trans (hF4 (28 + i) (by omega))).trans (hF3 (28 + i) (by omega))).trans (hF2 (28 + i) (by omega))).trans (hF1 (28 + i) (by omega))).trans (hE (28 + i) (by omega)))))
    · exact q_kr_cut (s := 1) (t := 162) (x := 30) (by omega) (q_kr_tr (c := 31) (d := 192) hK8 (fun i hi => ((hF10 (192 + i) (by omega)).trans (hF9 (192 + i) (by omega)))) (fun i hi => ((((((((hF7 (31 + i) (by omega)).trans (hF6 (31 + i) (by omega))).trans (hF5 (31 + i) (by omega))).trans (hF4 (31 + i) (by omega))).trans (hF3 (31 + i) (by omega))).trans (hF2 (31 + i) (by omega))).trans (hF1 (31 + i) (by omega))).trans (hE (31 + i) (by omega)))))
  · rcases (show k = 0 ∨ k = 1 by omega) with rfl | rfl
    · exact q_kr_cut (s := 1) (t := 162) (x := 33) (by omega) (q_kr_tr (c := 34) (d := 195) hK9 (fun i hi => (hF10 (195 + i) (by omega))) (fun i hi => (((((((((hF8 (34 + i) (by omega)).trans (hF7 (34 + i) (by omega))).trans (hF6 (34 + i) (by omega))).trans (hF5 (34 + i) (by omega))).trans (hF4 (34 + i) (by omega))).trans (hF3 (34 + i) (by omega))).trans (hF2 (34 + i) (by omega))).trans (hF1 (34 + i) (by omega))).trans (hE (34 + i) (by omega)))))
    · exact q_kr_cut (s := 1) (t := 162) (x := 36) (by omega) (q_kr_tr (c := 37) (d := 198) hK10 (fun i hi => rfl) (fun i hi => ((((((((((hF9 (37 + i) (by omega)).trans (hF8 (37 + i) (by omega))).trans (hF7 (37 + i) (by omega))).trans (hF6 (37 + i) (by omega))).trans (hF5 (37 + i) (by omega))).trans (hF4 (37 + i) (by omega))).trans (hF3 (37 + i) (by omega))).trans (hF2 (37 + i) (by omega))).trans (hF1 (37 + i) (by omega))).trans (hE (37 + i) (by omega)))))
  · exact (((((((((((hF10 k (by omega)).trans (hF9 k (by omega))).trans (hF8 k (by omega))).trans (hF7 k (by omega))).trans (hF6 k (by omega))).trans (hF5 k (by omega))).trans (hF4 k (by omega))).trans (hF3 k (by omega))).trans (hF2 k (by omega))).trans (hF1 k (by omega))).trans (hE k (by omega)))
  · exact (congrFun ((((((((((hF10 (162) (by omega)).trans (hF9 (162) (by omega))).trans (hF8 (162) (by omega))).trans (hF7 (162) (by omega))).trans (hF6 (162) (by omega))).trans (hF5 (162) (by omega))).trans (hF4 (162) (by omega))).trans (hF3 (162) (by omega))).trans (hF2 (162) (by omega))).trans (hF1 (162) (by omega))) _).trans rfl
set_option maxHeartbeats 4000000 in
set_option maxRecDepth 100000 in
theorem s_stc1_162 {G : tp_G} {μ : tp_M} (hG : tp_Gf G = true) : tp_k G mX9_copyFrom [tR (some 1), tR (some 162)] μ (fun r μ' => r = none ∧ q_kS (tp_cut μ.1 162 39) (tp_cut μ'.1 1 39) ∧ (∀ k, (k < 1 ∨ 39 < k) → μ'.1 k = μ.1 k) ∧ μ'.1 1 4 = μ.1 1 4) := by
  refine tp_ok_of mX9_copyFrom_ok rfl (Nat.le_refl _) ?_
  refine g_aload_n rfl rfl ?_
  refine x_getF (r := 163) hG rfl rfl (by decide) (Or.inr ⟨_, rfl⟩) rfl ?_
  refine g_iconst rfl ⟨by decide, by decide⟩ ?_
  refine g_aload_n rfl rfl ?_
  refine x_getF (r := 2) hG rfl rfl (by decide) (Or.inr ⟨_, rfl⟩) rfl ?_
  refine g_iconst rfl ⟨by decide, by decide⟩ ?_
  refine g_sipush rfl ⟨by decide, by decide⟩ (by decide) ?_
  refine g_copy (t0 := 1) (Or.inr rfl) rfl (by decide) rfl (by decide) rfl rfl (by decide) (by decide) (by decide) (by decide) (by decide) rfl ?_
  refine g_aload_n rfl rfl ?_
  refine g_aload_n rfl rfl ?_
  refine x_geti (v := ((tp_cp μ 163 2 0 0 600).1 162 1)) rfl rfl (by decide) (Or.inl rfl) rfl ?_
  refine g_puti rfl rfl (by decide) rfl rfl ?_
  refine g_aload_n rfl rfl ?_
  refine g_aload_n rfl rfl ?_
  refine x_geti (v := ((tp_cp μ 163 2 0 0 600).1 162 2)) rfl rfl (by decide) (Or.inl rfl) rfl ?_
  refine g_puti rfl rfl (by decide) rfl rfl ?_
  refine g_aload_n rfl rfl ?_
  refine g_aload_n rfl rfl ?_
  refine x_geti (v := ((tp_cp μ 163 2 0 0 600).1 162 3)) rfl rfl (by decide) (Or.inl rfl) rfl ?_
  refine g_puti rfl rfl (by decide) rfl rfl ?_
  refine g_aload_n rfl rfl ?_
  refine x_getF (r := 166) hG rfl rfl (by decide) (Or.inr ⟨_, rfl⟩) rfl ?_
  refine g_iconst rfl ⟨by decide, by decide⟩ ?_
  refine g_aload_n rfl rfl ?_
  refine x_getF (r := 5) hG rfl rfl (by decide) (Or.inr ⟨_, rfl⟩) rfl ?_
  refine g_iconst rfl ⟨by decide, by decide⟩ ?_
  refine g_iconst rfl ⟨by decide, by decide⟩ ?_
  refine g_copy (t0 := 0) (Or.inl rfl) rfl (by decide) rfl (by decide) rfl rfl (by decide) (by decide) (by decide) (by decide) (by decide) rfl ?_
  refine g_iconst rfl ⟨by decide, by decide⟩ ?_
  refine g_istore_n rfl rfl rfl ?_
  refine g_iload_n rfl rfl ?_
  refine g_iconst rfl ⟨by decide, by decide⟩ ?_
  refine g_icmp_ge (tgt := 82) rfl (by decide) (fun hx => absurd hx (by omega)) (fun _ => ?_)
  refine g_aload_n rfl rfl ?_
  refine x_getF (r := 3) hG rfl rfl (by decide) (Or.inr ⟨_, rfl⟩) rfl ?_
  refine g_iload_n rfl rfl ?_
  refine x_aald (t0 := 4) (r := 6) hG rfl rfl rfl (by decide) (by decide) (by decide) rfl ?_
  refine g_aload_n rfl rfl ?_
  refine x_getF (r := 164) hG rfl rfl (by decide) (Or.inr ⟨_, rfl⟩) rfl ?_
  refine g_iload_n rfl rfl ?_
  refine x_aald (t0 := 4) (r := 167) hG rfl rfl rfl (by decide) (by decide) (by decide) rfl ?_
  refine g_cV (as := [tR (some 167)]) (s_ccopy hG (c := 167) (d := 6) rfl rfl (by decide) (by decide) (by decide)) rfl rfl mX0_copyFrom_ok rfl rfl rfl (by decide) rfl rfl rfl ?_
  rintro _ w1 ⟨rfl, hK1, hF1⟩ _
  refine x_iinc (z := 1) rfl rfl (by omega) ⟨by omega, by omega⟩ rfl rfl ?_
  refine g_goto (tgt := 56) rfl (by decide) ?_
  refine g_iload_n rfl rfl ?_
  refine g_iconst rfl ⟨by decide, by decide⟩ ?_
  refine g_icmp_ge (tgt := 82) rfl (by decide) (fun hx => absurd hx (by omega)) (fun _ => ?_)
  refine g_aload_n rfl rfl ?_
  refine x_getF (r := 3) hG rfl rfl (by decide) (Or.inr ⟨_, rfl⟩) rfl ?_
  refine g_iload_n rfl rfl ?_
  refine x_aald (t0 := 4) (r := 11) hG rfl rfl rfl (by decide) (by decide) (by decide) rfl ?_
  refine g_aload_n rfl rfl ?_
  refine x_getF (r := 164) hG rfl rfl (by decide) (Or.inr ⟨_, rfl⟩) rfl ?_
  refine g_iload_n rfl rfl ?_
  refine x_aald (t0 := 4) (r := 172) hG rfl rfl rfl (by decide) (by decide) (by decide) rfl ?_
  refine g_cV (as := [tR (some 172)]) (s_ccopy hG (c := 172) (d := 11) rfl rfl (by decide) (by decide) (by decide)) rfl rfl mX0_copyFrom_ok rfl rfl rfl (by decide) rfl rfl rfl ?_
  rintro _ w2 ⟨rfl, hK2, hF2⟩ _
  refine x_iinc (z := 2) rfl rfl (by omega) ⟨by omega, by omega⟩ rfl rfl ?_
  refine g_goto (tgt := 56) rfl (by decide) ?_
  refine g_iload_n rfl rfl ?_
  refine g_iconst rfl ⟨by decide, by decide⟩ ?_
  refine g_icmp_ge (tgt := 82) rfl (by decide) (fun _ => ?_) (fun hx => absurd hx (by omega))
  refine g_iconst rfl ⟨by decide, by decide⟩ ?_
  refine g_istore_n rfl rfl rfl ?_
  refine g_iload_n rfl rfl ?_
  refine g_bipush rfl ⟨by decide, by decide⟩ (by decide) ?_
  refine g_icmp_ge (tgt := 111) rfl (by decide) (fun hx => absurd hx (by omega)) (fun _ => ?_)
  refine g_aload_n rfl rfl ?_
  refine x_getF (r := 4) hG rfl rfl (by decide) (Or.inr ⟨_, rfl⟩) rfl ?_
  refine g_iload_n rfl rfl ?_
  refine x_aald (t0 := 5) (r := 16) hG rfl rfl rfl (by decide) (by decide) (by decide) rfl ?_
  refine g_aload_n rfl rfl ?_
  refine x_getF (r := 165) hG rfl rfl (by decide) (Or.inr ⟨_, rfl⟩) rfl ?_
  refine g_iload_n rfl rfl ?_
  refine x_aald (t0 := 5) (r := 177) hG rfl rfl rfl (by decide) (by decide) (by decide) rfl ?_
  refine g_mok (fun hmk => ?_)
  refine g_cV (as := [tR (some 177)]) (s_rcopy hG (c := 177) (d := 16) rfl rfl (by decide) (by decide) (by decide) rfl (tp_m32 hmk 177 2).2) rfl rfl mX6_copyFrom_ok rfl rfl rfl (by decide) rfl rfl rfl ?_
  rintro _ w3 ⟨rfl, hK3, hF3⟩ _
  refine x_iinc (z := 1) rfl rfl (by omega) ⟨by omega, by omega⟩ rfl rfl ?_
  refine g_goto (tgt := 84) rfl (by decide) ?_
  refine g_iload_n rfl rfl ?_
  refine g_bipush rfl ⟨by decide, by decide⟩ (by decide) ?_
  refine g_icmp_ge (tgt := 111) rfl (by decide) (fun hx => absurd hx (by omega)) (fun _ => ?_)
  refine g_aload_n rfl rfl ?_
  refine x_getF (r := 4) hG rfl rfl (by decide) (Or.inr ⟨_, rfl⟩) rfl ?_
  refine g_iload_n rfl rfl ?_
  refine x_aald (t0 := 5) (r := 19) hG rfl rfl rfl (by decide) (by decide) (by decide) rfl ?_
  refine g_aload_n rfl rfl ?_
  refine x_getF (r := 165) hG rfl rfl (by decide) (Or.inr ⟨_, rfl⟩) rfl ?_
  refine g_iload_n rfl rfl ?_
  refine x_aald (t0 := 5) (r := 180) hG rfl rfl rfl (by decide) (by decide) (by decide) rfl ?_
  refine g_mok (fun hmk => ?_)
  refine g_cV (as := [tR (some 180)]) (s_rcopy hG (c := 180) (d := 19) rfl rfl (by decide) (by decide) (by decide) rfl (tp_m32 hmk 180 2).2) rfl rfl mX6_copyFrom_ok rfl rfl rfl (by decide) rfl rfl rfl ?_
  rintro _ w4 ⟨rfl, hK4, hF4⟩ _
  refine x_iinc (z := 2) rfl rfl (by omega) ⟨by omega, by omega⟩ rfl rfl ?_
  refine g_goto (tgt := 84) rfl (by decide) ?_
  refine g_iload_n rfl rfl ?_
  refine g_bipush rfl ⟨by decide, by decide⟩ (by decide) ?_
  refine g_icmp_ge (tgt := 111) rfl (by decide) (fun hx => absurd hx (by omega)) (fun _ => ?_)
  refine g_aload_n rfl rfl ?_
  refine x_getF (r := 4) hG rfl rfl (by decide) (Or.inr ⟨_, rfl⟩) rfl ?_
  refine g_iload_n rfl rfl ?_
  refine x_aald (t0 := 5) (r := 22) hG rfl rfl rfl (by decide) (by decide) (by decide) rfl ?_
  refine g_aload_n rfl rfl ?_
  refine x_getF (r := 165) hG rfl rfl (by decide) (Or.inr ⟨_, rfl⟩) rfl ?_
  refine g_iload_n rfl rfl ?_
  refine x_aald (t0 := 5) (r := 183) hG rfl rfl rfl (by decide) (by decide) (by decide) rfl ?_
  refine g_mok (fun hmk => ?_)
  refine g_cV (as := [tR (some 183)]) (s_rcopy hG (c := 183) (d := 22) rfl rfl (by decide) (by decide) (by decide) rfl (tp_m32 hmk 183 2).2) rfl rfl mX6_copyFrom_ok rfl rfl rfl (by decide) rfl rfl rfl ?_
  rintro _ w5 ⟨rfl, hK5, hF5⟩ _
  refine x_iinc (z := 3) rfl rfl (by omega) ⟨by omega, by omega⟩ rfl rfl ?_
  refine g_goto (tgt := 84) rfl (by decide) ?_
  refine g_iload_n rfl rfl ?_
  refine g_bipush rfl ⟨by decide, by decide⟩ (by decide) ?_
  refine g_icmp_ge (tgt := 111) rfl (by decide) (fun hx => absurd hx (by omega)) (fun _ => ?_)
  refine g_aload_n rfl rfl ?_
  refine x_getF (r := 4) hG rfl rfl (by decide) (Or.inr ⟨_, rfl⟩) rfl ?_
  refine g_iload_n rfl rfl ?_
  refine x_aald (t0 := 5) (r := 25) hG rfl rfl rfl (by decide) (by decide) (by decide) rfl ?_
  refine g_aload_n rfl rfl ?_
  refine x_getF (r := 165) hG rfl rfl (by decide) (Or.inr ⟨_, rfl⟩) rfl ?_
  refine g_iload_n rfl rfl ?_
  refine x_aald (t0 := 5) (r := 186) hG rfl rfl rfl (by decide) (by decide) (by decide) rfl ?_
  refine g_mok (fun hmk => ?_)
  refine g_cV (as := [tR (some 186)]) (s_rcopy hG (c := 186) (d := 25) rfl rfl (by decide) (by decide) (by decide) rfl (tp_m32 hmk 186 2).2) rfl rfl mX6_copyFrom_ok rfl rfl rfl (by decide) rfl rfl rfl ?_
  rintro _ w6 ⟨rfl, hK6, hF6⟩ _
  refine x_iinc (z := 4) rfl rfl (by omega) ⟨by omega, by omega⟩ rfl rfl ?_
  refine g_goto (tgt := 84) rfl (by decide) ?_
  refine g_iload_n rfl rfl ?_
  refine g_bipush rfl ⟨by decide, by decide⟩ (by decide) ?_
  refine g_icmp_ge (tgt := 111) rfl (by decide) (fun hx => absurd hx (by omega)) (fun _ => ?_)
  refine g_aload_n rfl rfl ?_
  refine x_getF (r := 4) hG rfl rfl (by decide) (Or.inr ⟨_, rfl⟩) rfl ?_
  refine g_iload_n rfl rfl ?_
  refine x_aald (t0 := 5) (r := 28) hG rfl rfl rfl (by decide) (by decide) (by decide) rfl ?_
  refine g_aload_n rfl rfl ?_
  refine x_getF (r := 165) hG rfl rfl (by decide) (Or.inr ⟨_, rfl⟩) rfl ?_
  refine g_iload_n rfl rfl ?_
  refine x_aald (t0 := 5) (r := 189) hG rfl rfl rfl (by decide) (by decide) (by decide) rfl ?_
  refine g_mok (fun hmk => ?_)
  refine g_cV (as := [tR (some 189)]) (s_rcopy hG (c := 189) (d := 28) rfl rfl (by decide) (by decide) (by decide) rfl (tp_m32 hmk 189 2).2) rfl rfl mX6_copyFrom_ok rfl rfl rfl (by decide) rfl rfl rfl ?_
  rintro _ w7 ⟨rfl, hK7, hF7⟩ _
  refine x_iinc (z := 5) rfl rfl (by omega) ⟨by omega, by omega⟩ rfl rfl ?_
  refine g_goto (tgt := 84) rfl (by decide) ?_
  refine g_iload_n rfl rfl ?_
  refine g_bipush rfl ⟨by decide, by decide⟩ (by decide) ?_
  refine g_icmp_ge (tgt := 111) rfl (by decide) (fun hx => absurd hx (by omega)) (fun _ => ?_)
  refine g_aload_n rfl rfl ?_
  refine x_getF (r := 4) hG rfl rfl (by decide) (Or.inr ⟨_, rfl⟩) rfl ?_
  refine g_iload_n rfl rfl ?_
  refine x_aald (t0 := 5) (r := 31) hG rfl rfl rfl (by decide) (by decide) (by decide) rfl ?_
  refine g_aload_n rfl rfl ?_
  refine x_getF (r := 165) hG rfl rfl (by decide) (Or.inr ⟨_, rfl⟩) rfl ?_
  refine g_iload_n rfl rfl ?_
  refine x_aald (t0 := 5) (r := 192) hG rfl rfl rfl (by decide) (by decide) (by decide) rfl ?_
  refine g_mok (fun hmk => ?_)
  refine g_cV (as := [tR (some 192)]) (s_rcopy hG (c := 192) (d := 31) rfl rfl (by decide) (by decide) (by decide) rfl (tp_m32 hmk 192 2).2) rfl rfl mX6_copyFrom_ok rfl rfl rfl (by decide) rfl rfl rfl ?_
  rintro _ w8 ⟨rfl, hK8, hF8⟩ _
  refine x_iinc (z := 6) rfl rfl (by omega) ⟨by omega, by omega⟩ rfl rfl ?_
  refine g_goto (tgt := 84) rfl (by decide) ?_
  refine g_iload_n rfl rfl ?_
  refine g_bipush rfl ⟨by decide, by decide⟩ (by decide) ?_
  refine g_icmp_ge (tgt := 111) rfl (by decide) (fun hx => absurd hx (by omega)) (fun _ => ?_)
  refine g_aload_n rfl rfl ?_
  refine x_getF (r := 4) hG rfl rfl (by decide) (Or.inr ⟨_, rfl⟩) rfl ?_
  refine g_iload_n rfl rfl ?_
  refine x_aald (t0 := 5) (r := 34) hG rfl rfl rfl (by decide) (by decide) (by decide) rfl ?_
  refine g_aload_n rfl rfl ?_
  refine x_getF (r := 165) hG rfl rfl (by decide) (Or.inr ⟨_, rfl⟩) rfl ?_
  refine g_iload_n rfl rfl ?_
  refine x_aald (t0 := 5) (r := 195) hG rfl rfl rfl (by decide) (by decide) (by decide) rfl ?_
  refine g_mok (fun hmk => ?_)
  refine g_cV (as := [tR (some 195)]) (s_rcopy hG (c := 195) (d := 34) rfl rfl (by decide) (by decide) (by decide) rfl (tp_m32 hmk 195 2).2) rfl rfl mX6_copyFrom_ok rfl rfl rfl (by decide) rfl rfl rfl ?_
  rintro _ w9 ⟨rfl, hK9, hF9⟩ _
  refine x_iinc (z := 7) rfl rfl (by omega) ⟨by omega, by omega⟩ rfl rfl ?_
  refine g_goto (tgt := 84) rfl (by decide) ?_
  refine g_iload_n rfl rfl ?_
  refine g_bipush rfl ⟨by decide, by decide⟩ (by decide) ?_
  refine g_icmp_ge (tgt := 111) rfl (by decide) (fun hx => absurd hx (by omega)) (fun _ => ?_)
  refine g_aload_n rfl rfl ?_
  refine x_getF (r := 4) hG rfl rfl (by decide) (Or.inr ⟨_, rfl⟩) rfl ?_
  refine g_iload_n rfl rfl ?_
  refine x_aald (t0 := 5) (r := 37) hG rfl rfl rfl (by decide) (by decide) (by decide) rfl ?_
  refine g_aload_n rfl rfl ?_
  refine x_getF (r := 165) hG rfl rfl (by decide) (Or.inr ⟨_, rfl⟩) rfl ?_
  refine g_iload_n rfl rfl ?_
  refine x_aald (t0 := 5) (r := 198) hG rfl rfl rfl (by decide) (by decide) (by decide) rfl ?_
  refine g_mok (fun hmk => ?_)
  refine g_cV (as := [tR (some 198)]) (s_rcopy hG (c := 198) (d := 37) rfl rfl (by decide) (by decide) (by decide) rfl (tp_m32 hmk 198 2).2) rfl rfl mX6_copyFrom_ok rfl rfl rfl (by decide) rfl rfl rfl ?_
  rintro _ w10 ⟨rfl, hK10, hF10⟩ _
  refine x_iinc (z := 8) rfl rfl (by omega) ⟨by omega, by omega⟩ rfl rfl ?_
  refine g_goto (tgt := 84) rfl (by decide) ?_
  refine g_iload_n rfl rfl ?_
  refine g_bipush rfl ⟨by decide, by decide⟩ (by decide) ?_
  refine g_icmp_ge (tgt := 111) rfl (by decide) (fun _ => ?_) (fun hx => absurd hx (by omega))
  refine x_return rfl rfl ?_
  have hE : ∀ k, (k < 1 ∨ 5 < k) → ((tp_cp (tp_pi (tp_pi (tp_pi (tp_cp μ 163 2 0 0 600) 1 1 ((tp_cp μ 163 2 0 0 600).1 162 1)) 1 2 ((tp_cp μ 163 2 0 0 600).1 162 2)) 1 3 ((tp_cp μ 163 2 0 0 600).1 162 3)) 166 5 0 0 4)).1 k = μ.1 k := fun k hk => by rw [tp_cp_ne (by omega), tp_pi_ne (by omega), tp_pi_ne (by omega), tp_pi_ne (by omega), tp_cp_ne (by omega)]
  have hE4 : ∀ j, 0 ≤ j → j < 4 → ((tp_cp (tp_pi (tp_pi (tp_pi (tp_cp μ 163 2 0 0 600) 1 1 ((tp_cp μ 163 2 0 0 600).1 162 1)) 1 2 ((tp_cp μ 163 2 0 0 600).1 162 2)) 1 3 ((tp_cp μ 163 2 0 0 600).1 162 3)) 166 5 0 0 4)).1 5 j = μ.1 166 j := fun j j0 j1 => by rw [tp_cp_at j0 j1, tp_pi_ne (by omega), tp_pi_ne (by omega), tp_pi_ne (by omega), tp_cp_ne (by omega)]
  have hE1 : ∀ j, 0 ≤ j → j < 600 → ((tp_cp (tp_pi (tp_pi (tp_pi (tp_cp μ 163 2 0 0 600) 1 1 ((tp_cp μ 163 2 0 0 600).1 162 1)) 1 2 ((tp_cp μ 163 2 0 0 600).1 162 2)) 1 3 ((tp_cp μ 163 2 0 0 600).1 162 3)) 166 5 0 0 4)).1 2 j = μ.1 163 j := fun j j0 j1 => by rw [tp_cp_ne (by omega), tp_pi_ne (by omega), tp_pi_ne (by omega), tp_pi_ne (by omega), tp_cp_at j0 j1]
  refine ⟨rfl, ⟨⟨?_, ?_, ?_⟩, fun j j0 j1 => ?_, fun j j0 j1 => ?_, fun k hk => ?_, fun k hk => ?_, fun k hk => ?_, fun k hk => ?_⟩, fun k hk => ?_, ?_⟩
  · show w10.1 1 1 = μ.1 162 1
    exact (congrFun ((((((((((hF10 (1) (by omega)).trans (hF9 (1) (by omega))).trans (hF8 (1) (by omega))).trans (hF7 (1) (by omega))).trans (hF6 (1) (by omega))).trans (hF5 (1) (by omega))).trans (hF4 (1) (by omega))).trans (hF3 (1) (by omega))).trans (hF2 (1) (by omega))).trans (hF1 (1) (by omega))) _).trans rfl
  · show w10.1 1 2 = μ.1 162 2
    exact (congrFun ((((((((((hF10 (1) (by omega)).trans (hF9 (1) (by omega))).trans (hF8 (1) (by omega))).trans (hF7 (1) (by omega))).trans (hF6 (1) (by omega))).trans (hF5 (1) (by omega))).trans (hF4 (1) (by omega))).trans (hF3 (1) (by omega))).trans (hF2 (1) (by omega))).trans (hF1 (1) (by omega))) _).trans rfl
  · show w10.1 1 3 = μ.1 162 3
    exact (congrFun ((((((((((hF10 (1) (by omega)).trans (hF9 (1) (by omega))).trans (hF8 (1) (by omega))).trans (hF7 (1) (by omega))).trans (hF6 (1) (by omega))).trans (hF5 (1) (by omega))).trans (hF4 (1) (by omega))).trans (hF3 (1) (by omega))).trans (hF2 (1) (by omega))).trans (hF1 (1) (by omega))) _).trans rfl
  · show w10.1 2 j = μ.1 163 j
    exact (congrFun ((((((((((hF10 (2) (by omega)).trans (hF9 (2) (by omega))).trans (hF8 (2) (by omega))).trans (hF7 (2) (by omega))).trans (hF6 (2) (by omega))).trans (hF5 (2) (by omega))).trans (hF4 (2) (by omega))).trans (hF3 (2) (by omega))).trans (hF2 (2) (by omega))).trans (hF1 (2) (by omega))) _).trans (hE1 j j0 j1)
  · show w10.1 5 j = μ.1 166 j
    exact (congrFun ((((((((((hF10 (5) (by omega)).trans (hF9 (5) (by omega))).trans (hF8 (5) (by omega))).trans (hF7 (5) (by omega))).trans (hF6 (5) (by omega))).trans (hF5 (5) (by omega))).trans (hF4 (5) (by omega))).trans (hF3 (5) (by omega))).trans (hF2 (5) (by omega))).trans (hF1 (5) (by omega))) _).trans (hE4 j j0 j1)
  · rcases (show k = 0 ∨ k = 1 by omega) with rfl | rfl
    · exact q_kc_cut (s := 162) (t := 1) (x := 5) (by omega) (q_kc_tr (c := 167) (d := 6) hK1 (fun i hi => (((((((((hF10 (6 + i) (by omega)).trans (hF9 (6 + i) (by omega))).trans (hF8 (6 + i) (by omega))).trans (hF7 (6 + i) (by omega))).trans (hF6 (6 + i) (by omega))).trans (hF5 (6 + i) (by omega))).trans (hF4 (6 + i) (by omega))).trans (hF3 (6 + i) (by omega))).trans (hF2 (6 + i) (by omega)))) (fun i hi => (hE (167 + i) (by omega))))
    · exact q_kc_cut (s := 162) (t := 1) (x := 10) (by omega) (q_kc_tr (c := 172) (d := 11) hK2 (fun i hi => ((((((((hF10 (11 + i) (by omega)).trans (hF9 (11 + i) (by omega))).trans (hF8 (11 + i) (by omega))).trans (hF7 (11 + i) (by omega))).trans (hF6 (11 + i) (by omega))).trans (hF5 (11 + i) (by omega))).trans (hF4 (11 + i) (by omega))).trans (hF3 (11 + i) (by omega)))) (fun i hi => ((hF1 (172 + i) (by omega)).trans (hE (172 + i) (by omega)))))
  · rcases (show k = 0 ∨ k = 1 by omega) with rfl | rfl
    · exact q_kr_cut (s := 162) (t := 1) (x := 21) (by omega) (q_kr_tr (c := 183) (d := 22) hK5 (fun i hi => (((((hF10 (22 + i) (by omega)).trans (hF9 (22 + i) (by omega))).trans (hF8 (22 + i) (by omega))).trans (hF7 (22 + i) (by omega))).trans (hF6 (22 + i) (by omega)))) (fun i hi => (((((hF4 (183 + i) (by omega)).trans (hF3 (183 + i) (by omega))).trans (hF2 (183 + i) (by omega))).trans (hF1 (183 + i) (by omega))).trans (hE (183 + i) (by omega)))))
    · exact q_kr_cut (s := 162) (t := 1) (x := 24) (by omega) (q_kr_tr (c := 186) (d := 25) hK6 (fun i hi => ((((hF10 (25 + i) (by omega)).trans (hF9 (25 + i) (by omega))).trans (hF8 (25 + i) (by omega))).trans (hF7 (25 + i) (by omega)))) (fun i hi => ((((((hF5 (186 + i) (by omega)).trans (hF4 (186 + i) (by omega))).trans (hF3 (186 + i) (by omega))).trans (hF2 (186 + i) (by omega))).trans (hF1 (186 + i) (by omega))).trans (hE (186 + i) (by omega)))))
  · rcases (show k = 0 ∨ k = 1 by omega) with rfl | rfl
    · exact q_kr_cut (s := 162) (t := 1) (x := 27) (by omega) (q_kr_tr (c := 189) (d := 28) hK7 (fun i hi => (((hF10 (28 + i) (by omega)).trans (hF9 (28 + i) (by omega))).trans (hF8 (28 + i) (by omega)))) (fun i hi => (((((((hF6 (189 + i) (by omega)).trans (hF5 (189 + i) (by omega))).trans (hF4 (189 + i) (by omega))).trans (hF3 (189 + i) (by omega))).trans (hF2 (189 + i) (by omega))).trans (hF1 (189 + i) (by omega))).trans (hE (189 + i) (by omega)))))
    · exact q_kr_cut (s := 162) (t := 1) (x := 30) (by omega) (q_kr_tr (c := 192) (d := 31) hK8 (fun i hi => ((hF10 (31 + i) (by omega)).trans (hF9 (31 + i) (by omega)))) (fun i hi => ((((((((hF7 (192 + i) (by omega)).trans (hF6 (192 + i) (by omega))).trans (hF5 (192 + i) (by omega))).trans (hF4 (192 + i) (by omega))).trans (hF3 (192 + i) (by omega))).trans (hF2 (192 + i) (by omega))).trans (hF1 (192 + i) (by omega))).trans (hE (192 + i) (by omega)))))
  · rcases (show k = 0 ∨ k = 1 by omega) with rfl | rfl
    · exact q_kr_cut (s := 162) (t := 1) (x := 33) (by omega) (q_kr_tr (c := 195) (d := 34) hK9 (fun i hi => (hF10 (34 + i) (by omega))) (fun i hi => (((((((((hF8 (195 + i) (by omega)).trans (hF7 (195 + i) (by omega))).trans (hF6 (195 + i) (by omega))).trans (hF5 (195 + i) (by omega))).trans (hF4 (195 + i) (by omega))).trans (hF3 (195 + i) (by omega))).trans (hF2 (195 + i) (by omega))).trans (hF1 (195 + i) (by omega))).trans (hE (195 + i) (by omega)))))
    · exact q_kr_cut (s := 162) (t := 1) (x := 36) (by omega) (q_kr_tr (c := 198) (d := 37) hK10 (fun i hi => rfl) (fun i hi => ((((((((((hF9 (198 + i) (by omega)).trans (hF8 (198 + i) (by omega))).trans (hF7 (198 + i) (by omega))).trans (hF6 (198 + i) (by omega))).trans (hF5 (198 + i) (by omega))).trans (hF4 (198 + i) (by omega))).trans (hF3 (198 + i) (by omega))).trans (hF2 (198 + i) (by omega))).trans (hF1 (198 + i) (by omega))).trans (hE (198 + i) (by omega)))))
  · exact (((((((((((hF10 k (by omega)).trans (hF9 k (by omega))).trans (hF8 k (by omega))).trans (hF7 k (by omega))).trans (hF6 k (by omega))).trans (hF5 k (by omega))).trans (hF4 k (by omega))).trans (hF3 k (by omega))).trans (hF2 k (by omega))).trans (hF1 k (by omega))).trans (hE k (by omega)))
  · exact (congrFun ((((((((((hF10 (1) (by omega)).trans (hF9 (1) (by omega))).trans (hF8 (1) (by omega))).trans (hF7 (1) (by omega))).trans (hF6 (1) (by omega))).trans (hF5 (1) (by omega))).trans (hF4 (1) (by omega))).trans (hF3 (1) (by omega))).trans (hF2 (1) (by omega))).trans (hF1 (1) (by omega))) _).trans rfl
