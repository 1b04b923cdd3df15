theorem q_kS_c {A A' A'' : Nat → Int → Int} (h : q_kS A A') (h0 : A'' 0 1 = A' 0 1 ∧ A'' 0 2 = A' 0 2 ∧ A'' 0 3 = A' 0 3) (h1 : ∀ i, 1 ≤ i → A'' i = A' i) : q_kS A A'' := by
  unfold q_kS q_kc q_kr
  rw [h0.1, h0.2.1, h0.2.2, h1 1 (by omega), h1 4 (by omega)]
  obtain ⟨k1, k2, k3, k5, k6, k7, k8⟩ := h
  refine ⟨k1, k2, k3, fun k hk => ?_, fun k hk => ?_, fun k hk => ?_, fun k hk => ?_⟩
  · rw [h1 (5 + 5 * k) (by omega), h1 (5 + 5 * k + 1) (by omega), h1 (5 + 5 * k + 2) (by omega), h1 (5 + 5 * k + 3) (by omega), h1 (5 + 5 * k + 4) (by omega)]
    exact k5 k hk
  · rw [h1 (21 + 3 * k) (by omega), h1 (21 + 3 * k + 1) (by omega), h1 (21 + 3 * k + 2) (by omega)]
    exact k6 k hk
  · rw [h1 (27 + 3 * k) (by omega), h1 (27 + 3 * k + 1) (by omega), h1 (27 + 3 * k + 2) (by omega)]
    exact k7 k hk
  · rw [h1 (33 + 3 * k) (by omega), h1 (33 + 3 * k + 1) (by omega), h1 (33 + 3 * k + 2) (by omega)]
    exact k8 k hk
theorem q_img {μ μf : tp_M} (hR : tp_R μ) {k : Nat} (hS : q_kS (tp_cut μ.1 1 39) (tp_cut μf.1 (84 + 39 * k) 39)) (hmv : q_mv (tp_cut μ.1 202 9) (tp_cut μf.1 202 9) 0 (1 + (k : Int))) (hmo : ∀ q, (0 ≤ q ∧ q ≤ 3) → q ≠ 1 + (k : Int) → q_mv (tp_cut μ.1 202 9) (tp_cut μf.1 202 9) q q) (hst : ∀ c, 1 ≤ c → c < 40 → μf.1 c = μ.1 c) (hot : ∀ i : Nat, i < 3 → i ≠ k → (∀ c, 84 + 39 * i ≤ c → c < 84 + 39 * i + 39 → μf.1 c = μ.1 c) ∧ μf.1 233 (i : Int) = μ.1 233 (i : Int)) (hmd : μf.1 (84 + 39 * k) 4 = 1 ∧ μf.1 233 (k : Int) = 1) : tp_R μf := by
  refine ⟨?_, fun i hi => ?_⟩
  · rw [tp_cut_eq (M := μ.1) (M' := μf.1) (s := 1) (n := 39) (fun c h1 h2 => hst c h1 (by omega))]
    exact tp_St_mv hR.1 (hmo 0 (by omega) (by omega))
  · by_cases e : i = k
    · subst e
      exact ⟨by rw [hmd.1, hmd.2], fun _ => tp_St_mv (tp_St_cp hR.1 hS) hmv⟩
    · obtain ⟨a, b⟩ := hot i hi e
      have c := hR.2 i hi
      rw [tp_cut_eq (M := μ.1) (M' := μf.1) (s := 84 + 39 * i) (n := 39) a, a (84 + 39 * i) (by omega) (by omega), b]
      exact ⟨c.1, fun z => tp_St_mv (c.2 z) (hmo _ (by omega) (by omega))⟩
theorem q_agn {μ μf : tp_M} (hR : tp_R μ) {k : Nat} (hk : k < 3) (hs : μ.1 233 (k : Int) = 1) (hS : q_kS (tp_cut μ.1 (84 + 39 * k) 39) (tp_cut μf.1 1 39)) (hmv : q_mv (tp_cut μ.1 202 9) (tp_cut μf.1 202 9) (1 + (k : Int)) 0) (hmo : ∀ q, (0 ≤ q ∧ q ≤ 3) → q ≠ 0 → q_mv (tp_cut μ.1 202 9) (tp_cut μf.1 202 9) q q) (hot : ∀ i : Nat, i < 3 → (∀ c, 84 + 39 * i ≤ c → c < 84 + 39 * i + 39 → μf.1 c = μ.1 c) ∧ μf.1 233 (i : Int) = μ.1 233 (i : Int)) : tp_R μf := by
  refine ⟨tp_St_mv (tp_St_cp ((hR.2 k hk).2 hs) hS) hmv, fun i hi => ?_⟩
  obtain ⟨a, b⟩ := hot i hi
  have c := hR.2 i hi
  rw [tp_cut_eq (M := μ.1) (M' := μf.1) (s := 84 + 39 * i) (n := 39) a, a (84 + 39 * i) (by omega) (by omega), b]
  exact ⟨c.1, fun z => tp_St_mv (c.2 z) (hmo _ (by omega) (by omega))⟩
set_option maxHeartbeats 4000000 in
set_option maxRecDepth 100000 in
theorem p_image {G : tp_G} (hG : tp_Gf G = true) {k : Int} : tp_pair G mX11_image mX12_image [tI k] := by
  intro μ hR
  rcases (show k = 0 ∨ k = 1 ∨ k = 2 ∨ k < 0 ∨ 3 ≤ k by omega) with rfl | rfl | rfl | hk | hk
  · refine tp_ok_of mX11_image_ok rfl (Nat.le_refl _) ?_
    refine g_aload_n rfl rfl ?_
    refine g_iload_n rfl rfl ?_
    refine g_iV (as := [tI 0]) mX11_imageOf_ok rfl rfl rfl rfl rfl rfl (by decide) rfl rfl rfl ?_
    refine g_iload_n rfl rfl ?_
    refine g_if_lt (tgt := 9) rfl (by decide) (fun hx => absurd hx (by omega)) (fun _ => ?_)
    refine g_iload_n rfl rfl ?_
    refine g_iconst rfl ⟨by decide, by decide⟩ ?_
    refine g_icmp_lt (tgt := 13) rfl (by decide) (fun _ => ?_) (fun hx => absurd hx (by omega))
    refine g_aload_n rfl rfl ?_
    refine x_getF (r := 40) hG rfl rfl (by decide) (Or.inr ⟨_, rfl⟩) rfl ?_
    refine g_iload_n rfl rfl ?_
    refine x_aald (t0 := 6) (r := 84) hG rfl rfl rfl (by decide) (by decide) (by decide) rfl ?_
    refine x_areturn rfl rfl ?_
    intro _
    refine g_astore_n rfl rfl rfl ?_
    refine g_aload_n rfl rfl ?_
    refine g_ifnonnull (tgt := 12) rfl (by decide) (fun _ _ => ?_) (fun hx => by cases hx)
    refine g_aload_n rfl rfl ?_
    refine g_aload_n rfl rfl ?_
    refine x_getF (r := 1) hG rfl rfl (by decide) (Or.inl ⟨_, rfl⟩) rfl ?_
    refine g_cV (as := [tR (some 1)]) (s_stc84_1 hG) rfl rfl mX9_copyFrom_ok rfl rfl rfl (by decide) rfl rfl rfl ?_
    rintro _ w1 ⟨rfl, hS1, hF1, _⟩ _
    refine g_aload_n rfl rfl ?_
    refine g_iconst rfl ⟨by decide, by decide⟩ ?_
    refine g_putz rfl rfl (by decide) rfl rfl (Or.inr rfl) ?_
    refine g_iconst rfl ⟨by decide, by decide⟩ ?_
    refine x_zreturn rfl rfl (Or.inr rfl) ?_
    refine ⟨_, rfl, ?_⟩
    refine tp_ok_of mX12_image_ok rfl (Nat.le_refl _) ?_
    refine g_aload_n rfl rfl ?_
    refine g_iconst rfl ⟨by decide, by decide⟩ ?_
    refine g_puti rfl rfl (by decide) rfl rfl ?_
    refine g_iload_n rfl rfl ?_
    refine g_iconst rfl ⟨by decide, by decide⟩ ?_
    refine g_iconst rfl ⟨by decide, by decide⟩ ?_
    refine g_iS (as := [tI 0, tI 0, tI 2]) mX12_in_ok rfl rfl rfl rfl rfl rfl rfl ?_
    refine g_iload_n rfl rfl ?_
    refine g_iload_n rfl rfl ?_
    refine g_icmp_lt (tgt := 14) rfl (by decide) (fun hx => absurd hx (by omega)) (fun _ => ?_)
    refine g_iload_n rfl rfl ?_
    refine g_iload_n rfl rfl ?_
    refine g_icmp_gt (tgt := 14) rfl (by decide) (fun hx => absurd hx (by omega)) (fun _ => ?_)
    refine g_iconst rfl ⟨by decide, by decide⟩ ?_
    refine g_goto (tgt := 15) rfl (by decide) ?_
    refine x_zreturn rfl rfl (Or.inr rfl) ?_
    intro _
    refine g_if_ne (tgt := 16) rfl (by decide) (fun _ => ?_) (fun hx => absurd hx (by omega))
    refine g_aload_n rfl rfl ?_
    refine g_iconst rfl ⟨by decide, by decide⟩ ?_
    refine g_iload_n rfl rfl ?_
    refine g_iconst rfl ⟨by decide, by decide⟩ ?_
    refine x_iadd (z := 1) rfl (by omega) ⟨by omega, by omega⟩ ?_
    refine g_cV (as := [tI 0, tI 1]) (s_cpAll hG (by omega) (by omega) (by omega)) rfl rfl mX12_copyAll_ok rfl rfl rfl (by decide) rfl rfl rfl ?_
    rintro _ w2 ⟨rfl, hmv, hmo, hF2⟩ _
    refine g_aload_n rfl rfl ?_
    refine x_getF (r := 233) hG rfl rfl (by decide) (Or.inr ⟨_, rfl⟩) rfl ?_
    refine g_iload_n rfl rfl ?_
    refine g_iconst rfl ⟨by decide, by decide⟩ ?_
    refine g_zast rfl rfl (by decide) (by decide) (by decide) ?_
    refine g_iconst rfl ⟨by decide, by decide⟩ ?_
    refine x_zreturn rfl rfl (Or.inr rfl) ?_
    have hA : ∀ c, (c < 202 ∨ 210 < c) → c ≠ 201 → c ≠ 233 → c ≠ 84 → ((tp_pi w2 233 0 (tp_z 1))).1 c = w1.1 c := fun c z1 z2 z3 z4 => by rw [tp_pi_ne z3, hF2 c z1, tp_pi_ne z2, tp_pi_ne z4]
    have hB : ((tp_pi w2 233 0 (tp_z 1))).1 84 = (tp_pi w1 84 4 1).1 84 := by rw [tp_pi_ne (by omega), hF2 84 (by omega), tp_pi_ne (by omega)]; rfl
    have hC : tp_cut ((tp_pi w2 233 0 (tp_z 1))).1 202 9 = tp_cut w2.1 202 9 := tp_cut_eq (fun c h1 h2 => tp_pi_ne (by omega))
    have hD : tp_cut (tp_pi (tp_pi w1 84 4 1) 201 0 0).1 202 9 = tp_cut μ.1 202 9 := tp_cut_eq (fun c h1 h2 => by rw [tp_pi_ne (by omega), tp_pi_ne (by omega)]; exact hF1 c (by omega))
    have hmv : q_mv (tp_cut (tp_pi (tp_pi w1 84 4 1) 201 0 0).1 202 9) (tp_cut w2.1 202 9) 0 1 := hmv
    have hmo : ∀ q, (0 ≤ q ∧ q ≤ 3) → q ≠ 1 → q_mv (tp_cut (tp_pi (tp_pi w1 84 4 1) 201 0 0).1 202 9) (tp_cut w2.1 202 9) q q := hmo
    rw [hD, ← hC] at hmv hmo
    refine ⟨rfl, q_img (k := 0) hR ?_ hmv hmo (fun c h1 h2 => (hA c (by omega) (by omega) (by omega) (by omega)).trans (hF1 c (by omega))) (fun i hi he => ⟨fun c h1 h2 => (hA c (by omega) (by omega) (by omega) (by omega)).trans (hF1 c (by omega)), ?_⟩) ⟨?_, ?_⟩⟩
    · refine q_kS_c hS1 ⟨?_, ?_, ?_⟩ (fun i hi => ?_)
      · exact (congrFun hB 1).trans rfl
      · exact (congrFun hB 2).trans rfl
      · exact (congrFun hB 3).trans rfl
      · unfold tp_cut
        by_cases z : i < 39
        · rw [if_pos z, if_pos z]
          exact hA (84 + 39 * 0 + i) (by omega) (by omega) (by omega) (by omega)
        · rw [if_neg z, if_neg z]
    · rw [tp_pi_ix (by omega), hF2 233 (by omega), tp_pi_ne (by omega), tp_pi_ne (by omega), hF1 233 (by omega)]
    · exact (congrFun hB 4).trans rfl
    · exact (tp_pi_at (j := 0)).trans tp_z1
  · refine tp_ok_of mX11_image_ok rfl (Nat.le_refl _) ?_
    refine g_aload_n rfl rfl ?_
    refine g_iload_n rfl rfl ?_
    refine g_iV (as := [tI 1]) mX11_imageOf_ok rfl rfl rfl rfl rfl rfl (by decide) rfl rfl rfl ?_
    refine g_iload_n rfl rfl ?_
    refine g_if_lt (tgt := 9) rfl (by decide) (fun hx => absurd hx (by omega)) (fun _ => ?_)
    refine g_iload_n rfl rfl ?_
    refine g_iconst rfl ⟨by decide, by decide⟩ ?_
    refine g_icmp_lt (tgt := 13) rfl (by decide) (fun _ => ?_) (fun hx => absurd hx (by omega))
    refine g_aload_n rfl rfl ?_
    refine x_getF (r := 40) hG rfl rfl (by decide) (Or.inr ⟨_, rfl⟩) rfl ?_
    refine g_iload_n rfl rfl ?_
    refine x_aald (t0 := 6) (r := 123) hG rfl rfl rfl (by decide) (by decide) (by decide) rfl ?_
    refine x_areturn rfl rfl ?_
    intro _
    refine g_astore_n rfl rfl rfl ?_
    refine g_aload_n rfl rfl ?_
    refine g_ifnonnull (tgt := 12) rfl (by decide) (fun _ _ => ?_) (fun hx => by cases hx)
    refine g_aload_n rfl rfl ?_
    refine g_aload_n rfl rfl ?_
    refine x_getF (r := 1) hG rfl rfl (by decide) (Or.inl ⟨_, rfl⟩) rfl ?_
    refine g_cV (as := [tR (some 1)]) (s_stc123_1 hG) rfl rfl mX9_copyFrom_ok rfl rfl rfl (by decide) rfl rfl rfl ?_
    rintro _ w1 ⟨rfl, hS1, hF1, _⟩ _
    refine g_aload_n rfl rfl ?_
    refine g_iconst rfl ⟨by decide, by decide⟩ ?_
    refine g_putz rfl rfl (by decide) rfl rfl (Or.inr rfl) ?_
    refine g_iconst rfl ⟨by decide, by decide⟩ ?_
    refine x_zreturn rfl rfl (Or.inr rfl) ?_
    refine ⟨_, rfl, ?_⟩
    refine tp_ok_of mX12_image_ok rfl (Nat.le_refl _) ?_
    refine g_aload_n rfl rfl ?_
    refine g_iconst rfl ⟨by decide, by decide⟩ ?_
    refine g_puti rfl rfl (by decide) rfl rfl ?_
    refine g_iload_n rfl rfl ?_
    refine g_iconst rfl ⟨by decide, by decide⟩ ?_
    refine g_iconst rfl ⟨by decide, by decide⟩ ?_
    refine g_iS (as := [tI 1, tI 0, tI 2]) mX12_in_ok rfl rfl rfl rfl rfl rfl rfl ?_
    refine g_iload_n rfl rfl ?_
    refine g_iload_n rfl rfl ?_
    refine g_icmp_lt (tgt := 14) rfl (by decide) (fun hx => absurd hx (by omega)) (fun _ => ?_)
    refine g_iload_n rfl rfl ?_
    refine g_iload_n rfl rfl ?_
    refine g_icmp_gt (tgt := 14) rfl (by decide) (fun hx => absurd hx (by omega)) (fun _ => ?_)
    refine g_iconst rfl ⟨by decide, by decide⟩ ?_
    refine g_goto (tgt := 15) rfl (by decide) ?_
    refine x_zreturn rfl rfl (Or.inr rfl) ?_
    intro _
    refine g_if_ne (tgt := 16) rfl (by decide) (fun _ => ?_) (fun hx => absurd hx (by omega))
    refine g_aload_n rfl rfl ?_
    refine g_iconst rfl ⟨by decide, by decide⟩ ?_
    refine g_iload_n rfl rfl ?_
    refine g_iconst rfl ⟨by decide, by decide⟩ ?_
    refine x_iadd (z := 2) rfl (by omega) ⟨by omega, by omega⟩ ?_
    refine g_cV (as := [tI 0, tI 2]) (s_cpAll hG (by omega) (by omega) (by omega)) rfl rfl mX12_copyAll_ok rfl rfl rfl (by decide) rfl rfl rfl ?_
    rintro _ w2 ⟨rfl, hmv, hmo, hF2⟩ _
    refine g_aload_n rfl rfl ?_
    refine x_getF (r := 233) hG rfl rfl (by decide) (Or.inr ⟨_, rfl⟩) rfl ?_
    refine g_iload_n rfl rfl ?_
    refine g_iconst rfl ⟨by decide, by decide⟩ ?_
    refine g_zast rfl rfl (by decide) (by decide) (by decide) ?_
    refine g_iconst rfl ⟨by decide, by decide⟩ ?_
    refine x_zreturn rfl rfl (Or.inr rfl) ?_
    have hA : ∀ c, (c < 202 ∨ 210 < c) → c ≠ 201 → c ≠ 233 → c ≠ 123 → ((tp_pi w2 233 1 (tp_z 1))).1 c = w1.1 c := fun c z1 z2 z3 z4 => by rw [tp_pi_ne z3, hF2 c z1, tp_pi_ne z2, tp_pi_ne z4]
    have hB : ((tp_pi w2 233 1 (tp_z 1))).1 123 = (tp_pi w1 123 4 1).1 123 := by rw [tp_pi_ne (by omega), hF2 123 (by omega), tp_pi_ne (by omega)]; rfl
    have hC : tp_cut ((tp_pi w2 233 1 (tp_z 1))).1 202 9 = tp_cut w2.1 202 9 := tp_cut_eq (fun c h1 h2 => tp_pi_ne (by omega))
    have hD : tp_cut (tp_pi (tp_pi w1 123 4 1) 201 0 0).1 202 9 = tp_cut μ.1 202 9 := tp_cut_eq (fun c h1 h2 => by rw [tp_pi_ne (by omega), tp_pi_ne (by omega)]; exact hF1 c (by omega))
    have hmv : q_mv (tp_cut (tp_pi (tp_pi w1 123 4 1) 201 0 0).1 202 9) (tp_cut w2.1 202 9) 0 2 := hmv
    have hmo : ∀ q, (0 ≤ q ∧ q ≤ 3) → q ≠ 2 → q_mv (tp_cut (tp_pi (tp_pi w1 123 4 1) 201 0 0).1 202 9) (tp_cut w2.1 202 9) q q := hmo
    rw [hD, ← hC] at hmv hmo
    refine ⟨rfl, q_img (k := 1) hR ?_ hmv hmo (fun c h1 h2 => (hA c (by omega) (by omega) (by omega) (by omega)).trans (hF1 c (by omega))) (fun i hi he => ⟨fun c h1 h2 => (hA c (by omega) (by omega) (by omega) (by omega)).trans (hF1 c (by omega)), ?_⟩) ⟨?_, ?_⟩⟩
    · refine q_kS_c hS1 ⟨?_, ?_, ?_⟩ (fun i hi => ?_)
      · exact (congrFun hB 1).trans rfl
      · exact (congrFun hB 2).trans rfl
      · exact (congrFun hB 3).trans rfl
      · unfold tp_cut
        by_cases z : i < 39
        · rw [if_pos z, if_pos z]
          exact hA (84 + 39 * 1 + i) (by omega) (by omega) (by omega) (by omega)
        · rw [if_neg z, if_neg z]
    · rw [tp_pi_ix (by omega), hF2 233 (by omega), tp_pi_ne (by omega), tp_pi_ne (by omega), hF1 233 (by omega)]
    · exact (congrFun hB 4).trans rfl
    · exact (tp_pi_at (j := 1)).trans tp_z1
  · refine tp_ok_of mX11_image_ok rfl (Nat.le_refl _) ?_
    refine g_aload_n rfl rfl ?_
    refine g_iload_n rfl rfl ?_
    refine g_iV (as := [tI 2]) mX11_imageOf_ok rfl rfl rfl rfl rfl rfl (by decide) rfl rfl rfl ?_
    refine g_iload_n rfl rfl ?_
    refine g_if_lt (tgt := 9) rfl (by decide) (fun hx => absurd hx (by omega)) (fun _ => ?_)
    refine g_iload_n rfl rfl ?_
    refine g_iconst rfl ⟨by decide, by decide⟩ ?_
    refine g_icmp_lt (tgt := 13) rfl (by decide) (fun _ => ?_) (fun hx => absurd hx (by omega))
    refine g_aload_n rfl rfl ?_
    refine x_getF (r := 40) hG rfl rfl (by decide) (Or.inr ⟨_, rfl⟩) rfl ?_
    refine g_iload_n rfl rfl ?_
    refine x_aald (t0 := 6) (r := 162) hG rfl rfl rfl (by decide) (by decide) (by decide) rfl ?_
    refine x_areturn rfl rfl ?_
    intro _
    refine g_astore_n rfl rfl rfl ?_
    refine g_aload_n rfl rfl ?_
    refine g_ifnonnull (tgt := 12) rfl (by decide) (fun _ _ => ?_) (fun hx => by cases hx)
    refine g_aload_n rfl rfl ?_
    refine g_aload_n rfl rfl ?_
    refine x_getF (r := 1) hG rfl rfl (by decide) (Or.inl ⟨_, rfl⟩) rfl ?_
    refine g_cV (as := [tR (some 1)]) (s_stc162_1 hG) rfl rfl mX9_copyFrom_ok rfl rfl rfl (by decide) rfl rfl rfl ?_
    rintro _ w1 ⟨rfl, hS1, hF1, _⟩ _
    refine g_aload_n rfl rfl ?_
    refine g_iconst rfl ⟨by decide, by decide⟩ ?_
    refine g_putz rfl rfl (by decide) rfl rfl (Or.inr rfl) ?_
    refine g_iconst rfl ⟨by decide, by decide⟩ ?_
    refine x_zreturn rfl rfl (Or.inr rfl) ?_
    refine ⟨_, rfl, ?_⟩
    refine tp_ok_of mX12_image_ok rfl (Nat.le_refl _) ?_
    refine g_aload_n rfl rfl ?_
    refine g_iconst rfl ⟨by decide, by decide⟩ ?_
    refine g_puti rfl rfl (by decide) rfl rfl ?_
    refine g_iload_n rfl rfl ?_
    refine g_iconst rfl ⟨by decide, by decide⟩ ?_
    refine g_iconst rfl ⟨by decide, by decide⟩ ?_
    refine g_iS (as := [tI 2, tI 0, tI 2]) mX12_in_ok rfl rfl rfl rfl rfl rfl rfl ?_
    refine g_iload_n rfl rfl ?_
    refine g_iload_n rfl rfl ?_
    refine g_icmp_lt (tgt := 14) rfl (by decide) (fun hx => absurd hx (by omega)) (fun _ => ?_)
    refine g_iload_n rfl rfl ?_
    refine g_iload_n rfl rfl ?_
    refine g_icmp_gt (tgt := 14) rfl (by decide) (fun hx => absurd hx (by omega)) (fun _ => ?_)
    refine g_iconst rfl ⟨by decide, by decide⟩ ?_
    refine g_goto (tgt := 15) rfl (by decide) ?_
    refine x_zreturn rfl rfl (Or.inr rfl) ?_
    intro _
    refine g_if_ne (tgt := 16) rfl (by decide) (fun _ => ?_) (fun hx => absurd hx (by omega))
    refine g_aload_n rfl rfl ?_
    refine g_iconst rfl ⟨by decide, by decide⟩ ?_
    refine g_iload_n rfl rfl ?_
    refine g_iconst rfl ⟨by decide, by decide⟩ ?_
    refine x_iadd (z := 3) rfl (by omega) ⟨by omega, by omega⟩ ?_
    refine g_cV (as := [tI 0, tI 3]) (s_cpAll hG (by omega) (by omega) (by omega)) rfl rfl mX12_copyAll_ok rfl rfl rfl (by decide) rfl rfl rfl ?_
    rintro _ w2 ⟨rfl, hmv, hmo, hF2⟩ _
    refine g_aload_n rfl rfl ?_
    refine x_getF (r := 233) hG rfl rfl (by decide) (Or.inr ⟨_, rfl⟩) rfl ?_
    refine g_iload_n rfl rfl ?_
    refine g_iconst rfl ⟨by decide, by decide⟩ ?_
    refine g_zast rfl rfl (by decide) (by decide) (by decide) ?_
    refine g_iconst rfl ⟨by decide, by decide⟩ ?_
    refine x_zreturn rfl rfl (Or.inr rfl) ?_
    have hA : ∀ c, (c < 202 ∨ 210 < c) → c ≠ 201 → c ≠ 233 → c ≠ 162 → ((tp_pi w2 233 2 (tp_z 1))).1 c = w1.1 c := fun c z1 z2 z3 z4 => by rw [tp_pi_ne z3, hF2 c z1, tp_pi_ne z2, tp_pi_ne z4]
    have hB : ((tp_pi w2 233 2 (tp_z 1))).1 162 = (tp_pi w1 162 4 1).1 162 := by rw [tp_pi_ne (by omega), hF2 162 (by omega), tp_pi_ne (by omega)]; rfl
    have hC : tp_cut ((tp_pi w2 233 2 (tp_z 1))).1 202 9 = tp_cut w2.1 202 9 := tp_cut_eq (fun c h1 h2 => tp_pi_ne (by omega))
    have hD : tp_cut (tp_pi (tp_pi w1 162 4 1) 201 0 0).1 202 9 = tp_cut μ.1 202 9 := tp_cut_eq (fun c h1 h2 => by rw [tp_pi_ne (by omega), tp_pi_ne (by omega)]; exact hF1 c (by omega))
    have hmv : q_mv (tp_cut (tp_pi (tp_pi w1 162 4 1) 201 0 0).1 202 9) (tp_cut w2.1 202 9) 0 3 := hmv
    have hmo : ∀ q, (0 ≤ q ∧ q ≤ 3) → q ≠ 3 → q_mv (tp_cut (tp_pi (tp_pi w1 162 4 1) 201 0 0).1 202 9) (tp_cut w2.1 202 9) q q := hmo
    rw [hD, ← hC] at hmv hmo
    refine ⟨rfl, q_img (k := 2) hR ?_ hmv hmo (fun c h1 h2 => (hA c (by omega) (by omega) (by omega) (by omega)).trans (hF1 c (by omega))) (fun i hi he => ⟨fun c h1 h2 => (hA c (by omega) (by omega) (by omega) (by omega)).trans (hF1 c (by omega)), ?_⟩) ⟨?_, ?_⟩⟩
    · refine q_kS_c hS1 ⟨?_, ?_, ?_⟩ (fun i hi => ?_)
      · exact (congrFun hB 1).trans rfl
      · exact (congrFun hB 2).trans rfl
      · exact (congrFun hB 3).trans rfl
      · unfold tp_cut
        by_cases z : i < 39
        · rw [if_pos z, if_pos z]
          exact hA (84 + 39 * 2 + i) (by omega) (by omega) (by omega) (by omega)
        · rw [if_neg z, if_neg z]
    · rw [tp_pi_ix (by omega), hF2 233 (by omega), tp_pi_ne (by omega), tp_pi_ne (by omega), hF1 233 (by omega)]
    · exact (congrFun hB 4).trans rfl
    · exact (tp_pi_at (j := 2)).trans tp_z1
  · refine tp_ok_of mX11_image_ok rfl (Nat.le_refl _) ?_
    refine g_aload_n rfl rfl ?_
    refine g_iload_n rfl rfl ?_
    refine g_iV (as := [tI k]) mX11_imageOf_ok rfl rfl rfl rfl rfl rfl (by decide) rfl rfl rfl ?_
    refine g_iload_n rfl rfl ?_
    refine g_if_lt (tgt := 9) rfl (by decide) (fun _ => ?_) (fun hx => absurd hx (by omega))
    refine g_null rfl ?_
    refine g_goto (tgt := 19) rfl (by decide) ?_
    refine x_areturn rfl rfl ?_
    intro _
    refine g_astore_n rfl rfl rfl ?_
    refine g_aload_n rfl rfl ?_
    refine g_ifnonnull (tgt := 12) rfl (by decide) (fun _ hx => by cases hx) (fun _ => ?_)
    refine g_iconst rfl ⟨by decide, by decide⟩ ?_
    refine x_zreturn rfl rfl (Or.inl rfl) ?_
    refine ⟨_, rfl, ?_⟩
    refine tp_ok_of mX12_image_ok rfl (Nat.le_refl _) ?_
    refine g_aload_n rfl rfl ?_
    refine g_iconst rfl ⟨by decide, by decide⟩ ?_
    refine g_puti rfl rfl (by decide) rfl rfl ?_
    refine g_iload_n rfl rfl ?_
    refine g_iconst rfl ⟨by decide, by decide⟩ ?_
    refine g_iconst rfl ⟨by decide, by decide⟩ ?_
    refine g_iS (as := [tI k, tI 0, tI 2]) mX12_in_ok rfl rfl rfl rfl rfl rfl rfl ?_
    refine g_iload_n rfl rfl ?_
    refine g_iload_n rfl rfl ?_
    refine g_icmp_lt (tgt := 14) rfl (by decide) (fun _ => ?_) (fun hx => absurd hx (by omega))
    refine g_iconst rfl ⟨by decide, by decide⟩ ?_
    refine x_zreturn rfl rfl (Or.inl rfl) ?_
    intro _
    refine g_if_ne (tgt := 16) rfl (by decide) (fun hx => absurd hx (by omega)) (fun _ => ?_)
    refine g_iconst rfl ⟨by decide, by decide⟩ ?_
    refine x_zreturn rfl rfl (Or.inl rfl) ?_
    exact ⟨rfl, tp_R_kp hR (tp_kp_pi (by decide) tp_kp_rf)⟩
  · refine tp_ok_of mX11_image_ok rfl (Nat.le_refl _) ?_
    refine g_aload_n rfl rfl ?_
    refine g_iload_n rfl rfl ?_
    refine g_iV (as := [tI k]) mX11_imageOf_ok rfl rfl rfl rfl rfl rfl (by decide) rfl rfl rfl ?_
    refine g_iload_n rfl rfl ?_
    refine g_if_lt (tgt := 9) rfl (by decide) (fun hx => absurd hx (by omega)) (fun _ => ?_)
    refine g_iload_n rfl rfl ?_
    refine g_iconst rfl ⟨by decide, by decide⟩ ?_
    refine g_icmp_lt (tgt := 13) rfl (by decide) (fun hx => absurd hx (by omega)) (fun _ => ?_)
    refine g_null rfl ?_
    refine g_goto (tgt := 19) rfl (by decide) ?_
    refine x_areturn rfl rfl ?_
    intro _
    refine g_astore_n rfl rfl rfl ?_
    refine g_aload_n rfl rfl ?_
    refine g_ifnonnull (tgt := 12) rfl (by decide) (fun _ hx => by cases hx) (fun _ => ?_)
    refine g_iconst rfl ⟨by decide, by decide⟩ ?_
    refine x_zreturn rfl rfl (Or.inl rfl) ?_
    refine ⟨_, rfl, ?_⟩
    refine tp_ok_of mX12_image_ok rfl (Nat.le_refl _) ?_
    refine g_aload_n rfl rfl ?_
    refine g_iconst rfl ⟨by decide, by decide⟩ ?_
    refine g_puti rfl rfl (by decide) rfl rfl ?_
    refine g_iload_n rfl rfl ?_
    refine g_iconst rfl ⟨by decide, by decide⟩ ?_
    refine g_iconst rfl ⟨by decide, by decide⟩ ?_
    refine g_iS (as := [tI k, tI 0, tI 2]) mX12_in_ok rfl rfl rfl rfl rfl rfl rfl ?_
    refine g_iload_n rfl rfl ?_
    refine g_iload_n rfl rfl ?_
    refine g_icmp_lt (tgt := 14) rfl (by decide) (fun hx => absurd hx (by omega)) (fun _ => ?_)
    refine g_iload_n rfl rfl ?_
    refine g_iload_n rfl rfl ?_
    refine g_icmp_gt (tgt := 14) rfl (by decide) (fun _ => ?_) (fun hx => absurd hx (by omega))
    refine g_iconst rfl ⟨by decide, by decide⟩ ?_
    refine x_zreturn rfl rfl (Or.inl rfl) ?_
    intro _
    refine g_if_ne (tgt := 16) rfl (by decide) (fun hx => absurd hx (by omega)) (fun _ => ?_)
    refine g_iconst rfl ⟨by decide, by decide⟩ ?_
    refine x_zreturn rfl rfl (Or.inl rfl) ?_
    exact ⟨rfl, tp_R_kp hR (tp_kp_pi (by decide) tp_kp_rf)⟩
theorem tp_ok_m {G : tp_G} {d : tp_D} {as : List tp_V} {μ : tp_M} {Φ : Option tp_V → tp_M → Prop} (k : tp_mok μ → tp_k G d as μ Φ) : tp_k G d as μ Φ := ⟨Nat.le_refl _, fun hm hf => (k hm).2 hm hf⟩
set_option maxHeartbeats 4000000 in
set_option maxRecDepth 100000 in
theorem p_again {G : tp_G} (hG : tp_Gf G = true) {k : Int} : tp_pair G mX11_again mX12_again [tI k] := by
  intro μ hR
  rcases (show k = 0 ∨ k = 1 ∨ k = 2 ∨ k < 0 ∨ 3 ≤ k by omega) with rfl | rfl | rfl | hk | hk
  · have h9 : μ.1 84 4 = μ.1 233 0 := (hR.2 0 (by omega)).1
    by_cases hsv : μ.1 233 0 = 1
    · refine tp_ok_of mX11_again_ok rfl (Nat.le_refl _) ?_
      refine g_aload_n rfl rfl ?_
      refine g_iload_n rfl rfl ?_
      refine g_iV (as := [tI 0]) mX11_imageOf_ok rfl rfl rfl rfl rfl rfl (by decide) rfl rfl rfl ?_
      refine g_iload_n rfl rfl ?_
      refine g_if_lt (tgt := 9) rfl (by decide) (fun hx => absurd hx (by omega)) (fun _ => ?_)
      refine g_iload_n rfl rfl ?_
      refine g_iconst rfl ⟨by decide, by decide⟩ ?_
      refine g_icmp_lt (tgt := 13) rfl (by decide) (fun _ => ?_) (fun hx => absurd hx (by omega))
      refine g_aload_n rfl rfl ?_
      refine x_getF (r := 40) hG rfl rfl (by decide) (Or.inr ⟨_, rfl⟩) rfl ?_
      refine g_iload_n rfl rfl ?_
      refine x_aald (t0 := 6) (r := 84) hG rfl rfl rfl (by decide) (by decide) (by decide) rfl ?_
      refine x_areturn rfl rfl ?_
      intro _
      refine g_astore_n rfl rfl rfl ?_
      refine g_aload_n rfl rfl ?_
      refine g_ifnull (tgt := 17) rfl (by decide) (fun hx => by cases hx) (fun _ _ => ?_)
      refine g_aload_n rfl rfl ?_
      refine x_geti (v := (μ.1 84 4)) rfl rfl (by decide) (Or.inr (Or.inl rfl)) rfl ?_
      refine g_if_ne (tgt := 19) rfl (by decide) (fun _ => ?_) (fun hx => absurd hx (by omega))
      refine g_aload_n rfl rfl ?_
      refine x_getF (r := 1) hG rfl rfl (by decide) (Or.inl ⟨_, rfl⟩) rfl ?_
      refine g_aload_n rfl rfl ?_
      refine g_cV (as := [tR (some 84)]) (s_stc1_84 hG) rfl rfl mX9_copyFrom_ok rfl rfl rfl (by decide) rfl rfl rfl ?_
      rintro _ w1 ⟨rfl, hS1, hF1, _⟩ _
      have hsv1 : w1.1 233 0 = 1 := by rw [hF1 233 (by omega)]; exact hsv
      refine g_iconst rfl ⟨by decide, by decide⟩ ?_
      refine x_zreturn rfl rfl (Or.inr rfl) ?_
      refine ⟨_, rfl, ?_⟩
      refine tp_ok_of mX12_again_ok rfl (Nat.le_refl _) ?_
      refine g_aload_n rfl rfl ?_
      refine g_iconst rfl ⟨by decide, by decide⟩ ?_
      refine g_puti rfl rfl (by decide) rfl rfl ?_
      refine g_iload_n rfl rfl ?_
      refine g_iconst rfl ⟨by decide, by decide⟩ ?_
      refine g_iconst rfl ⟨by decide, by decide⟩ ?_
      refine g_iS (as := [tI 0, tI 0, tI 2]) mX12_in_ok rfl rfl rfl rfl rfl rfl rfl ?_
      refine g_iload_n rfl rfl ?_
      refine g_iload_n rfl rfl ?_
      refine g_icmp_lt (tgt := 14) rfl (by decide) (fun hx => absurd hx (by omega)) (fun _ => ?_)
      refine g_iload_n rfl rfl ?_
      refine g_iload_n rfl rfl ?_
      refine g_icmp_gt (tgt := 14) rfl (by decide) (fun hx => absurd hx (by omega)) (fun _ => ?_)
      refine g_iconst rfl ⟨by decide, by decide⟩ ?_
      refine g_goto (tgt := 15) rfl (by decide) ?_
      refine x_zreturn rfl rfl (Or.inr rfl) ?_
      intro _
      refine g_if_eq (tgt := 23) rfl (by decide) (fun hx => absurd hx (by omega)) (fun _ => ?_)
      refine g_aload_n rfl rfl ?_
      refine x_getF (r := 233) hG rfl rfl (by decide) (Or.inr ⟨_, rfl⟩) rfl ?_
      refine g_iload_n rfl rfl ?_
      refine x_zald (v := (w1.1 233 0)) rfl rfl (by decide) (by decide) (by decide) rfl ?_
      refine g_if_ne (tgt := 25) rfl (by decide) (fun _ => ?_) (fun hx => absurd hx (by omega))
      refine g_aload_n rfl rfl ?_
      refine g_iload_n rfl rfl ?_
      refine g_iconst rfl ⟨by decide, by decide⟩ ?_
      refine x_iadd (z := 1) rfl (by omega) ⟨by omega, by omega⟩ ?_
      refine g_iconst rfl ⟨by decide, by decide⟩ ?_
      refine g_cV (as := [tI 1, tI 0]) (s_cpAll hG (by omega) (by omega) (by omega)) rfl rfl mX12_copyAll_ok rfl rfl rfl (by decide) rfl rfl rfl ?_
      rintro _ w2 ⟨rfl, hmv, hmo, hF2⟩ _
      refine g_iconst rfl ⟨by decide, by decide⟩ ?_
      refine x_zreturn rfl rfl (Or.inr rfl) ?_
      have hC : tp_cut (tp_pi w1 201 0 0).1 202 9 = tp_cut μ.1 202 9 := tp_cut_eq (fun c h1 h2 => by rw [tp_pi_ne (by omega)]; exact hF1 c (by omega))
      have hmv : q_mv (tp_cut (tp_pi w1 201 0 0).1 202 9) (tp_cut w2.1 202 9) 1 0 := hmv
      have hmo : ∀ q, (0 ≤ q ∧ q ≤ 3) → q ≠ 0 → q_mv (tp_cut (tp_pi w1 201 0 0).1 202 9) (tp_cut w2.1 202 9) q q := hmo
      rw [hC] at hmv hmo
      have hS2 : q_kS (tp_cut μ.1 84 39) (tp_cut w2.1 1 39) := by
        rw [show tp_cut w2.1 1 39 = tp_cut w1.1 1 39 from tp_cut_eq (fun c h1 h2 => by rw [hF2 c (by omega)]; exact tp_pi_ne (by omega))]
        exact hS1
      exact ⟨rfl, q_agn (k := 0) hR (by omega) hsv hS2 hmv hmo (fun i hi => ⟨fun c h1 h2 => by rw [hF2 c (by omega)]; exact (tp_pi_ne (by omega)).trans (hF1 c (by omega)), by rw [hF2 233 (by omega)]; exact congrFun ((tp_pi_ne (by omega)).trans (hF1 233 (by omega))) _⟩)⟩
    · refine tp_ok_m (fun hmk => ?_)
      have hsv0 : μ.1 233 0 = 0 := by have := tp_m01 hmk 233 0; omega
      refine tp_ok_of mX11_again_ok rfl (Nat.le_refl _) ?_
      refine g_aload_n rfl rfl ?_
      refine g_iload_n rfl rfl ?_
      refine g_iV (as := [tI 0]) mX11_imageOf_ok rfl rfl rfl rfl rfl rfl (by decide) rfl rfl rfl ?_
      refine g_iload_n rfl rfl ?_
      refine g_if_lt (tgt := 9) rfl (by decide) (fun hx => absurd hx (by omega)) (fun _ => ?_)
      refine g_iload_n rfl rfl ?_
      refine g_iconst rfl ⟨by decide, by decide⟩ ?_
      refine g_icmp_lt (tgt := 13) rfl (by decide) (fun _ => ?_) (fun hx => absurd hx (by omega))
      refine g_aload_n rfl rfl ?_
      refine x_getF (r := 40) hG rfl rfl (by decide) (Or.inr ⟨_, rfl⟩) rfl ?_
      refine g_iload_n rfl rfl ?_
      refine x_aald (t0 := 6) (r := 84) hG rfl rfl rfl (by decide) (by decide) (by decide) rfl ?_
      refine x_areturn rfl rfl ?_
      intro _
      refine g_astore_n rfl rfl rfl ?_
      refine g_aload_n rfl rfl ?_
      refine g_ifnull (tgt := 17) rfl (by decide) (fun hx => by cases hx) (fun _ _ => ?_)
      refine g_aload_n rfl rfl ?_
      refine x_geti (v := (μ.1 84 4)) rfl rfl (by decide) (Or.inr (Or.inl rfl)) rfl ?_
      refine g_if_ne (tgt := 19) rfl (by decide) (fun hx => absurd hx (by omega)) (fun _ => ?_)
      refine g_iconst rfl ⟨by decide, by decide⟩ ?_
      refine x_zreturn rfl rfl (Or.inl rfl) ?_
      refine ⟨_, rfl, ?_⟩
      refine tp_ok_of mX12_again_ok rfl (Nat.le_refl _) ?_
      refine g_aload_n rfl rfl ?_
      refine g_iconst rfl ⟨by decide, by decide⟩ ?_
      refine g_puti rfl rfl (by decide) rfl rfl ?_
      refine g_iload_n rfl rfl ?_
      refine g_iconst rfl ⟨by decide, by decide⟩ ?_
      refine g_iconst rfl ⟨by decide, by decide⟩ ?_
      refine g_iS (as := [tI 0, tI 0, tI 2]) mX12_in_ok rfl rfl rfl rfl rfl rfl rfl ?_
      refine g_iload_n rfl rfl ?_
      refine g_iload_n rfl rfl ?_
      refine g_icmp_lt (tgt := 14) rfl (by decide) (fun hx => absurd hx (by omega)) (fun _ => ?_)
      refine g_iload_n rfl rfl ?_
      refine g_iload_n rfl rfl ?_
      refine g_icmp_gt (tgt := 14) rfl (by decide) (fun hx => absurd hx (by omega)) (fun _ => ?_)
      refine g_iconst rfl ⟨by decide, by decide⟩ ?_
      refine g_goto (tgt := 15) rfl (by decide) ?_
      refine x_zreturn rfl rfl (Or.inr rfl) ?_
      intro _
      refine g_if_eq (tgt := 23) rfl (by decide) (fun hx => absurd hx (by omega)) (fun _ => ?_)
      refine g_aload_n rfl rfl ?_
      refine x_getF (r := 233) hG rfl rfl (by decide) (Or.inr ⟨_, rfl⟩) rfl ?_
      refine g_iload_n rfl rfl ?_
      refine x_zald (v := (μ.1 233 0)) rfl rfl (by decide) (by decide) (by decide) rfl ?_
      refine g_if_ne (tgt := 25) rfl (by decide) (fun hx => absurd hx (by omega)) (fun _ => ?_)
      refine g_iconst rfl ⟨by decide, by decide⟩ ?_
      refine x_zreturn rfl rfl (Or.inl rfl) ?_
      exact ⟨rfl, tp_R_kp hR (tp_kp_pi (by decide) tp_kp_rf)⟩
  · have h9 : μ.1 123 4 = μ.1 233 1 := (hR.2 1 (by omega)).1
    by_cases hsv : μ.1 233 1 = 1
    · refine tp_ok_of mX11_again_ok rfl (Nat.le_refl _) ?_
      refine g_aload_n rfl rfl ?_
      refine g_iload_n rfl rfl ?_
      refine g_iV (as := [tI 1]) mX11_imageOf_ok rfl rfl rfl rfl rfl rfl (by decide) rfl rfl rfl ?_
      refine g_iload_n rfl rfl ?_
      refine g_if_lt (tgt := 9) rfl (by decide) (fun hx => absurd hx (by omega)) (fun _ => ?_)
      refine g_iload_n rfl rfl ?_
      refine g_iconst rfl ⟨by decide, by decide⟩ ?_
      refine g_icmp_lt (tgt := 13) rfl (by decide) (fun _ => ?_) (fun hx => absurd hx (by omega))
      refine g_aload_n rfl rfl ?_
      refine x_getF (r := 40) hG rfl rfl (by decide) (Or.inr ⟨_, rfl⟩) rfl ?_
      refine g_iload_n rfl rfl ?_
      refine x_aald (t0 := 6) (r := 123) hG rfl rfl rfl (by decide) (by decide) (by decide) rfl ?_
      refine x_areturn rfl rfl ?_
      intro _
      refine g_astore_n rfl rfl rfl ?_
      refine g_aload_n rfl rfl ?_
      refine g_ifnull (tgt := 17) rfl (by decide) (fun hx => by cases hx) (fun _ _ => ?_)
      refine g_aload_n rfl rfl ?_
      refine x_geti (v := (μ.1 123 4)) rfl rfl (by decide) (Or.inr (Or.inl rfl)) rfl ?_
      refine g_if_ne (tgt := 19) rfl (by decide) (fun _ => ?_) (fun hx => absurd hx (by omega))
      refine g_aload_n rfl rfl ?_
      refine x_getF (r := 1) hG rfl rfl (by decide) (Or.inl ⟨_, rfl⟩) rfl ?_
      refine g_aload_n rfl rfl ?_
      refine g_cV (as := [tR (some 123)]) (s_stc1_123 hG) rfl rfl mX9_copyFrom_ok rfl rfl rfl (by decide) rfl rfl rfl ?_
      rintro _ w1 ⟨rfl, hS1, hF1, _⟩ _
      have hsv1 : w1.1 233 1 = 1 := by rw [hF1 233 (by omega)]; exact hsv
      refine g_iconst rfl ⟨by decide, by decide⟩ ?_
      refine x_zreturn rfl rfl (Or.inr rfl) ?_
      refine ⟨_, rfl, ?_⟩
      refine tp_ok_of mX12_again_ok rfl (Nat.le_refl _) ?_
      refine g_aload_n rfl rfl ?_
      refine g_iconst rfl ⟨by decide, by decide⟩ ?_
      refine g_puti rfl rfl (by decide) rfl rfl ?_
      refine g_iload_n rfl rfl ?_
      refine g_iconst rfl ⟨by decide, by decide⟩ ?_
      refine g_iconst rfl ⟨by decide, by decide⟩ ?_
      refine g_iS (as := [tI 1, tI 0, tI 2]) mX12_in_ok rfl rfl rfl rfl rfl rfl rfl ?_
      refine g_iload_n rfl rfl ?_
      refine g_iload_n rfl rfl ?_
      refine g_icmp_lt (tgt := 14) rfl (by decide) (fun hx => absurd hx (by omega)) (fun _ => ?_)
      refine g_iload_n rfl rfl ?_
      refine g_iload_n rfl rfl ?_
      refine g_icmp_gt (tgt := 14) rfl (by decide) (fun hx => absurd hx (by omega)) (fun _ => ?_)
      refine g_iconst rfl ⟨by decide, by decide⟩ ?_
      refine g_goto (tgt := 15) rfl (by decide) ?_
      refine x_zreturn rfl rfl (Or.inr rfl) ?_
      intro _
      refine g_if_eq (tgt := 23) rfl (by decide) (fun hx => absurd hx (by omega)) (fun _ => ?_)
      refine g_aload_n rfl rfl ?_
      refine x_getF (r := 233) hG rfl rfl (by decide) (Or.inr ⟨_, rfl⟩) rfl ?_
      refine g_iload_n rfl rfl ?_
      refine x_zald (v := (w1.1 233 1)) rfl rfl (by decide) (by decide) (by decide) rfl ?_
      refine g_if_ne (tgt := 25) rfl (by decide) (fun _ => ?_) (fun hx => absurd hx (by omega))
      refine g_aload_n rfl rfl ?_
      refine g_iload_n rfl rfl ?_
      refine g_iconst rfl ⟨by decide, by decide⟩ ?_
      refine x_iadd (z := 2) rfl (by omega) ⟨by omega, by omega⟩ ?_
      refine g_iconst rfl ⟨by decide, by decide⟩ ?_
      refine g_cV (as := [tI 2, tI 0]) (s_cpAll hG (by omega) (by omega) (by omega)) rfl rfl mX12_copyAll_ok rfl rfl rfl (by decide) rfl rfl rfl ?_
      rintro _ w2 ⟨rfl, hmv, hmo, hF2⟩ _
      refine g_iconst rfl ⟨by decide, by decide⟩ ?_
      refine x_zreturn rfl rfl (Or.inr rfl) ?_
      have hC : tp_cut (tp_pi w1 201 0 0).1 202 9 = tp_cut μ.1 202 9 := tp_cut_eq (fun c h1 h2 => by rw [tp_pi_ne (by omega)]; exact hF1 c (by omega))
      have hmv : q_mv (tp_cut (tp_pi w1 201 0 0).1 202 9) (tp_cut w2.1 202 9) 2 0 := hmv
      have hmo : ∀ q, (0 ≤ q ∧ q ≤ 3) → q ≠ 0 → q_mv (tp_cut (tp_pi w1 201 0 0).1 202 9) (tp_cut w2.1 202 9) q q := hmo
      rw [hC] at hmv hmo
      have hS2 : q_kS (tp_cut μ.1 123 39) (tp_cut w2.1 1 39) := by
        rw [show tp_cut w2.1 1 39 = tp_cut w1.1 1 39 from tp_cut_eq (fun c h1 h2 => by rw [hF2 c (by omega)]; exact tp_pi_ne (by omega))]
        exact hS1
      exact ⟨rfl, q_agn (k := 1) hR (by omega) hsv hS2 hmv hmo (fun i hi => ⟨fun c h1 h2 => by rw [hF2 c (by omega)]; exact (tp_pi_ne (by omega)).trans (hF1 c (by omega)), by rw [hF2 233 (by omega)]; exact congrFun ((tp_pi_ne (by omega)).trans (hF1 233 (by omega))) _⟩)⟩
    · refine tp_ok_m (fun hmk => ?_)
      have hsv0 : μ.1 233 1 = 0 := by have := tp_m01 hmk 233 1; omega
      refine tp_ok_of mX11_again_ok rfl (Nat.le_refl _) ?_
      refine g_aload_n rfl rfl ?_
      refine g_iload_n rfl rfl ?_
      refine g_iV (as := [tI 1]) mX11_imageOf_ok rfl rfl rfl rfl rfl rfl (by decide) rfl rfl rfl ?_
      refine g_iload_n rfl rfl ?_
      refine g_if_lt (tgt := 9) rfl (by decide) (fun hx => absurd hx (by omega)) (fun _ => ?_)
      refine g_iload_n rfl rfl ?_
      refine g_iconst rfl ⟨by decide, by decide⟩ ?_
      refine g_icmp_lt (tgt := 13) rfl (by decide) (fun _ => ?_) (fun hx => absurd hx (by omega))
      refine g_aload_n rfl rfl ?_
      refine x_getF (r := 40) hG rfl rfl (by decide) (Or.inr ⟨_, rfl⟩) rfl ?_
      refine g_iload_n rfl rfl ?_
      refine x_aald (t0 := 6) (r := 123) hG rfl rfl rfl (by decide) (by decide) (by decide) rfl ?_
      refine x_areturn rfl rfl ?_
      intro _
      refine g_astore_n rfl rfl rfl ?_
      refine g_aload_n rfl rfl ?_
      refine g_ifnull (tgt := 17) rfl (by decide) (fun hx => by cases hx) (fun _ _ => ?_)
      refine g_aload_n rfl rfl ?_
      refine x_geti (v := (μ.1 123 4)) rfl rfl (by decide) (Or.inr (Or.inl rfl)) rfl ?_
      refine g_if_ne (tgt := 19) rfl (by decide) (fun hx => absurd hx (by omega)) (fun _ => ?_)
      refine g_iconst rfl ⟨by decide, by decide⟩ ?_
      refine x_zreturn rfl rfl (Or.inl rfl) ?_
      refine ⟨_, rfl, ?_⟩
      refine tp_ok_of mX12_again_ok rfl (Nat.le_refl _) ?_
      refine g_aload_n rfl rfl ?_
      refine g_iconst rfl ⟨by decide, by decide⟩ ?_
      refine g_puti rfl rfl (by decide) rfl rfl ?_
      refine g_iload_n rfl rfl ?_
      refine g_iconst rfl ⟨by decide, by decide⟩ ?_
      refine g_iconst rfl ⟨by decide, by decide⟩ ?_
      refine g_iS (as := [tI 1, tI 0, tI 2]) mX12_in_ok rfl rfl rfl rfl rfl rfl rfl ?_
      refine g_iload_n rfl rfl ?_
      refine g_iload_n rfl rfl ?_
      refine g_icmp_lt (tgt := 14) rfl (by decide) (fun hx => absurd hx (by omega)) (fun _ => ?_)
      refine g_iload_n rfl rfl ?_
      refine g_iload_n rfl rfl ?_
      refine g_icmp_gt (tgt := 14) rfl (by decide) (fun hx => absurd hx (by omega)) (fun _ => ?_)
      refine g_iconst rfl ⟨by decide, by decide⟩ ?_
      refine g_goto (tgt := 15) rfl (by decide) ?_
      refine x_zreturn rfl rfl (Or.inr rfl) ?_
      intro _
      refine g_if_eq (tgt := 23) rfl (by decide) (fun hx => absurd hx (by omega)) (fun _ => ?_)
      refine g_aload_n rfl rfl ?_
      refine x_getF (r := 233) hG rfl rfl (by decide) (Or.inr ⟨_, rfl⟩) rfl ?_
      refine g_iload_n rfl rfl ?_
      refine x_zald (v := (μ.1 233 1)) rfl rfl (by decide) (by decide) (by decide) rfl ?_
      refine g_if_ne (tgt := 25) rfl (by decide) (fun hx => absurd hx (by omega)) (fun _ => ?_)
      refine g_iconst rfl ⟨by decide, by decide⟩ ?_
      refine x_zreturn rfl rfl (Or.inl rfl) ?_
      exact ⟨rfl, tp_R_kp hR (tp_kp_pi (by decide) tp_kp_rf)⟩
  · have h9 : μ.1 162 4 = μ.1 233 2 := (hR.2 2 (by omega)).1
    by_cases hsv : μ.1 233 2 = 1
    · refine tp_ok_of mX11_again_ok rfl (Nat.le_refl _) ?_
      refine g_aload_n rfl rfl ?_
      refine g_iload_n rfl rfl ?_
      refine g_iV (as := [tI 2]) mX11_imageOf_ok rfl rfl rfl rfl rfl rfl (by decide) rfl rfl rfl ?_
      refine g_iload_n rfl rfl ?_
      refine g_if_lt (tgt := 9) rfl (by decide) (fun hx => absurd hx (by omega)) (fun _ => ?_)
      refine g_iload_n rfl rfl ?_
      refine g_iconst rfl ⟨by decide, by decide⟩ ?_
      refine g_icmp_lt (tgt := 13) rfl (by decide) (fun _ => ?_) (fun hx => absurd hx (by omega))
      refine g_aload_n rfl rfl ?_
      refine x_getF (r := 40) hG rfl rfl (by decide) (Or.inr ⟨_, rfl⟩) rfl ?_
      refine g_iload_n rfl rfl ?_
      refine x_aald (t0 := 6) (r := 162) hG rfl rfl rfl (by decide) (by decide) (by decide) rfl ?_
      refine x_areturn rfl rfl ?_
      intro _
      refine g_astore_n rfl rfl rfl ?_
      refine g_aload_n rfl rfl ?_
      refine g_ifnull (tgt := 17) rfl (by decide) (fun hx => by cases hx) (fun _ _ => ?_)
      refine g_aload_n rfl rfl ?_
      refine x_geti (v := (μ.1 162 4)) rfl rfl (by decide) (Or.inr (Or.inl rfl)) rfl ?_
      refine g_if_ne (tgt := 19) rfl (by decide) (fun _ => ?_) (fun hx => absurd hx (by omega))
      refine g_aload_n rfl rfl ?_
      refine x_getF (r := 1) hG rfl rfl (by decide) (Or.inl ⟨_, rfl⟩) rfl ?_
      refine g_aload_n rfl rfl ?_
      refine g_cV (as := [tR (some 162)]) (s_stc1_162 hG) rfl rfl mX9_copyFrom_ok rfl rfl rfl (by decide) rfl rfl rfl ?_
      rintro _ w1 ⟨rfl, hS1, hF1, _⟩ _
      have hsv1 : w1.1 233 2 = 1 := by rw [hF1 233 (by omega)]; exact hsv
      refine g_iconst rfl ⟨by decide, by decide⟩ ?_
      refine x_zreturn rfl rfl (Or.inr rfl) ?_
      refine ⟨_, rfl, ?_⟩
      refine tp_ok_of mX12_again_ok rfl (Nat.le_refl _) ?_
      refine g_aload_n rfl rfl ?_
      refine g_iconst rfl ⟨by decide, by decide⟩ ?_
      refine g_puti rfl rfl (by decide) rfl rfl ?_
      refine g_iload_n rfl rfl ?_
      refine g_iconst rfl ⟨by decide, by decide⟩ ?_
      refine g_iconst rfl ⟨by decide, by decide⟩ ?_
      refine g_iS (as := [tI 2, tI 0, tI 2]) mX12_in_ok rfl rfl rfl rfl rfl rfl rfl ?_
      refine g_iload_n rfl rfl ?_
      refine g_iload_n rfl rfl ?_
      refine g_icmp_lt (tgt := 14) rfl (by decide) (fun hx => absurd hx (by omega)) (fun _ => ?_)
      refine g_iload_n rfl rfl ?_
      refine g_iload_n rfl rfl ?_
      refine g_icmp_gt (tgt := 14) rfl (by decide) (fun hx => absurd hx (by omega)) (fun _ => ?_)
      refine g_iconst rfl ⟨by decide, by decide⟩ ?_
      refine g_goto (tgt := 15) rfl (by decide) ?_
      refine x_zreturn rfl rfl (Or.inr rfl) ?_
      intro _
      refine g_if_eq (tgt := 23) rfl (by decide) (fun hx => absurd hx (by omega)) (fun _ => ?_)
      refine g_aload_n rfl rfl ?_
      refine x_getF (r := 233) hG rfl rfl (by decide) (Or.inr ⟨_, rfl⟩) rfl ?_
      refine g_iload_n rfl rfl ?_
      refine x_zald (v := (w1.1 233 2)) rfl rfl (by decide) (by decide) (by decide) rfl ?_
      refine g_if_ne (tgt := 25) rfl (by decide) (fun _ => ?_) (fun hx => absurd hx (by omega))
      refine g_aload_n rfl rfl ?_
      refine g_iload_n rfl rfl ?_
      refine g_iconst rfl ⟨by decide, by decide⟩ ?_
      refine x_iadd (z := 3) rfl (by omega) ⟨by omega, by omega⟩ ?_
      refine g_iconst rfl ⟨by decide, by decide⟩ ?_
      refine g_cV (as := [tI 3, tI 0]) (s_cpAll hG (by omega) (by omega) (by omega)) rfl rfl mX12_copyAll_ok rfl rfl rfl (by decide) rfl rfl rfl ?_
      rintro _ w2 ⟨rfl, hmv, hmo, hF2⟩ _
      refine g_iconst rfl ⟨by decide, by decide⟩ ?_
      refine x_zreturn rfl rfl (Or.inr rfl) ?_
      have hC : tp_cut (tp_pi w1 201 0 0).1 202 9 = tp_cut μ.1 202 9 := tp_cut_eq (fun c h1 h2 => by rw [tp_pi_ne (by omega)]; exact hF1 c (by omega))
      have hmv : q_mv (tp_cut (tp_pi w1 201 0 0).1 202 9) (tp_cut w2.1 202 9) 3 0 := hmv
      have hmo : ∀ q, (0 ≤ q ∧ q ≤ 3) → q ≠ 0 → q_mv (tp_cut (tp_pi w1 201 0 0).1 202 9) (tp_cut w2.1 202 9) q q := hmo
      rw [hC] at hmv hmo
      have hS2 : q_kS (tp_cut μ.1 162 39) (tp_cut w2.1 1 39) := by
        rw [show tp_cut w2.1 1 39 = tp_cut w1.1 1 39 from tp_cut_eq (fun c h1 h2 => by rw [hF2 c (by omega)]; exact tp_pi_ne (by omega))]
        exact hS1
      exact ⟨rfl, q_agn (k := 2) hR (by omega) hsv hS2 hmv hmo (fun i hi => ⟨fun c h1 h2 => by rw [hF2 c (by omega)]; exact (tp_pi_ne (by omega)).trans (hF1 c (by omega)), by rw [hF2 233 (by omega)]; exact congrFun ((tp_pi_ne (by omega)).trans (hF1 233 (by omega))) _⟩)⟩
    · refine tp_ok_m (fun hmk => ?_)
      have hsv0 : μ.1 233 2 = 0 := by have := tp_m01 hmk 233 2; omega
      refine tp_ok_of mX11_again_ok rfl (Nat.le_refl _) ?_
      refine g_aload_n rfl rfl ?_
      refine g_iload_n rfl rfl ?_
      refine g_iV (as := [tI 2]) mX11_imageOf_ok rfl rfl rfl rfl rfl rfl (by decide) rfl rfl rfl ?_
      refine g_iload_n rfl rfl ?_
      refine g_if_lt (tgt := 9) rfl (by decide) (fun hx => absurd hx (by omega)) (fun _ => ?_)
      refine g_iload_n rfl rfl ?_
      refine g_iconst rfl ⟨by decide, by decide⟩ ?_
      refine g_icmp_lt (tgt := 13) rfl (by decide) (fun _ => ?_) (fun hx => absurd hx (by omega))
      refine g_aload_n rfl rfl ?_
      refine x_getF (r := 40) hG rfl rfl (by decide) (Or.inr ⟨_, rfl⟩) rfl ?_
      refine g_iload_n rfl rfl ?_
      refine x_aald (t0 := 6) (r := 162) hG rfl rfl rfl (by decide) (by decide) (by decide) rfl ?_
      refine x_areturn rfl rfl ?_
      intro _
      refine g_astore_n rfl rfl rfl ?_
      refine g_aload_n rfl rfl ?_
      refine g_ifnull (tgt := 17) rfl (by decide) (fun hx => by cases hx) (fun _ _ => ?_)
      refine g_aload_n rfl rfl ?_
      refine x_geti (v := (μ.1 162 4)) rfl rfl (by decide) (Or.inr (Or.inl rfl)) rfl ?_
      refine g_if_ne (tgt := 19) rfl (by decide) (fun hx => absurd hx (by omega)) (fun _ => ?_)
      refine g_iconst rfl ⟨by decide, by decide⟩ ?_
      refine x_zreturn rfl rfl (Or.inl rfl) ?_
      refine ⟨_, rfl, ?_⟩
      refine tp_ok_of mX12_again_ok rfl (Nat.le_refl _) ?_
      refine g_aload_n rfl rfl ?_
      refine g_iconst rfl ⟨by decide, by decide⟩ ?_
      refine g_puti rfl rfl (by decide) rfl rfl ?_
      refine g_iload_n rfl rfl ?_
      refine g_iconst rfl ⟨by decide, by decide⟩ ?_
      refine g_iconst rfl ⟨by decide, by decide⟩ ?_
      refine g_iS (as := [tI 2, tI 0, tI 2]) mX12_in_ok rfl rfl rfl rfl rfl rfl rfl ?_
      refine g_iload_n rfl rfl ?_
      refine g_iload_n rfl rfl ?_
      refine g_icmp_lt (tgt := 14) rfl (by decide) (fun hx => absurd hx (by omega)) (fun _ => ?_)
      refine g_iload_n rfl rfl ?_
      refine g_iload_n rfl rfl ?_
      refine g_icmp_gt (tgt := 14) rfl (by decide) (fun hx => absurd hx (by omega)) (fun _ => ?_)
      refine g_iconst rfl ⟨by decide, by decide⟩ ?_
      refine g_goto (tgt := 15) rfl (by decide) ?_
      refine x_zreturn rfl rfl (Or.inr rfl) ?_
      intro _
      refine g_if_eq (tgt := 23) rfl (by decide) (fun hx => absurd hx (by omega)) (fun _ => ?_)
      refine g_aload_n rfl rfl ?_
      refine x_getF (r := 233) hG rfl rfl (by decide) (Or.inr ⟨_, rfl⟩) rfl ?_
      refine g_iload_n rfl rfl ?_
      refine x_zald (v := (μ.1 233 2)) rfl rfl (by decide) (by decide) (by decide) rfl ?_
      refine g_if_ne (tgt := 25) rfl (by decide) (fun hx => absurd hx (by omega)) (fun _ => ?_)
      refine g_iconst rfl ⟨by decide, by decide⟩ ?_
      refine x_zreturn rfl rfl (Or.inl rfl) ?_
      exact ⟨rfl, tp_R_kp hR (tp_kp_pi (by decide) tp_kp_rf)⟩
  · refine tp_ok_of mX11_again_ok rfl (Nat.le_refl _) ?_
    refine g_aload_n rfl rfl ?_
    refine g_iload_n rfl rfl ?_
    refine g_iV (as := [tI k]) mX11_imageOf_ok rfl rfl rfl rfl rfl rfl (by decide) rfl rfl rfl ?_
    refine g_iload_n rfl rfl ?_
    refine g_if_lt (tgt := 9) rfl (by decide) (fun _ => ?_) (fun hx => absurd hx (by omega))
    refine g_null rfl ?_
    refine g_goto (tgt := 19) rfl (by decide) ?_
    refine x_areturn rfl rfl ?_
    intro _
    refine g_astore_n rfl rfl rfl ?_
    refine g_aload_n rfl rfl ?_
    refine g_ifnull (tgt := 17) rfl (by decide) (fun _ => ?_) (fun _ hx => by cases hx)
    refine g_iconst rfl ⟨by decide, by decide⟩ ?_
    refine x_zreturn rfl rfl (Or.inl rfl) ?_
    refine ⟨_, rfl, ?_⟩
    refine tp_ok_of mX12_again_ok rfl (Nat.le_refl _) ?_
    refine g_aload_n rfl rfl ?_
    refine g_iconst rfl ⟨by decide, by decide⟩ ?_
    refine g_puti rfl rfl (by decide) rfl rfl ?_
    refine g_iload_n rfl rfl ?_
    refine g_iconst rfl ⟨by decide, by decide⟩ ?_
    refine g_iconst rfl ⟨by decide, by decide⟩ ?_
    refine g_iS (as := [tI k, tI 0, tI 2]) mX12_in_ok rfl rfl rfl rfl rfl rfl rfl ?_
    refine g_iload_n rfl rfl ?_
    refine g_iload_n rfl rfl ?_
    refine g_icmp_lt (tgt := 14) rfl (by decide) (fun _ => ?_) (fun hx => absurd hx (by omega))
    refine g_iconst rfl ⟨by decide, by decide⟩ ?_
    refine x_zreturn rfl rfl (Or.inl rfl) ?_
    intro _
    refine g_if_eq (tgt := 23) rfl (by decide) (fun _ => ?_) (fun hx => absurd hx (by omega))
    refine g_iconst rfl ⟨by decide, by decide⟩ ?_
    refine x_zreturn rfl rfl (Or.inl rfl) ?_
    exact ⟨rfl, tp_R_kp hR (tp_kp_pi (by decide) tp_kp_rf)⟩
  · refine tp_ok_of mX11_again_ok rfl (Nat.le_refl _) ?_
    refine g_aload_n rfl rfl ?_
    refine g_iload_n rfl rfl ?_
    refine g_iV (as := [tI k]) mX11_imageOf_ok rfl rfl rfl rfl rfl rfl (by decide) rfl rfl rfl ?_
    refine g_iload_n rfl rfl ?_
    refine g_if_lt (tgt := 9) rfl (by decide) (fun hx => absurd hx (by omega)) (fun _ => ?_)
    refine g_iload_n rfl rfl ?_
    refine g_iconst rfl ⟨by decide, by decide⟩ ?_
    refine g_icmp_lt (tgt := 13) rfl (by decide) (fun hx => absurd hx (by omega)) (fun _ => ?_)
    refine g_null rfl ?_
    refine g_goto (tgt := 19) rfl (by decide) ?_
    refine x_areturn rfl rfl ?_
    intro _
    refine g_astore_n rfl rfl rfl ?_
    refine g_aload_n rfl rfl ?_
    refine g_ifnull (tgt := 17) rfl (by decide) (fun _ => ?_) (fun _ hx => by cases hx)
    refine g_iconst rfl ⟨by decide, by decide⟩ ?_
    refine x_zreturn rfl rfl (Or.inl rfl) ?_
    refine ⟨_, rfl, ?_⟩
    refine tp_ok_of mX12_again_ok rfl (Nat.le_refl _) ?_
    refine g_aload_n rfl rfl ?_
    refine g_iconst rfl ⟨by decide, by decide⟩ ?_
    refine g_puti rfl rfl (by decide) rfl rfl ?_
    refine g_iload_n rfl rfl ?_
    refine g_iconst rfl ⟨by decide, by decide⟩ ?_
    refine g_iconst rfl ⟨by decide, by decide⟩ ?_
    refine g_iS (as := [tI k, tI 0, tI 2]) mX12_in_ok rfl rfl rfl rfl rfl rfl rfl ?_
    refine g_iload_n rfl rfl ?_
    refine g_iload_n rfl rfl ?_
    refine g_icmp_lt (tgt := 14) rfl (by decide) (fun hx => absurd hx (by omega)) (fun _ => ?_)
    refine g_iload_n rfl rfl ?_
    refine g_iload_n rfl rfl ?_
    refine g_icmp_gt (tgt := 14) rfl (by decide) (fun _ => ?_) (fun hx => absurd hx (by omega))
    refine g_iconst rfl ⟨by decide, by decide⟩ ?_
    refine x_zreturn rfl rfl (Or.inl rfl) ?_
    intro _
    refine g_if_eq (tgt := 23) rfl (by decide) (fun _ => ?_) (fun hx => absurd hx (by omega))
    refine g_iconst rfl ⟨by decide, by decide⟩ ?_
    refine x_zreturn rfl rfl (Or.inl rfl) ?_
    exact ⟨rfl, tp_R_kp hR (tp_kp_pi (by decide) tp_kp_rf)⟩
