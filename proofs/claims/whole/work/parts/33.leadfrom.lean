theorem x_zald {G : tp_G} {d : tp_D} {pc : Nat} {ls : List (Option tp_V)} {st : List tp_V} {μ : tp_M} {Φ : Option tp_V → tp_M → Prop} {x : Nat × Nat × Nat} {a v : Int} {c0 len : Nat} (hf : tp_at d pc = some (.baload, 1, x)) (hc : tp_SH c0 = .inr (.boolean, len)) (hn : c0 < 234) (h0 : 0 ≤ a) (h1 : a < (len : Int)) (hv : μ.1 c0 a = v) (k : tp_g G d (pc + 1) ls (tI v :: st) μ Φ) : tp_g G d pc ls (tI a :: tR (some c0) :: st) μ Φ := g_zald hf hc hn h0 h1 (by rw [hv]; exact k)
set_option maxHeartbeats 4000000 in
set_option maxRecDepth 100000 in
theorem s_lead50 {G : tp_G} {μ : tp_M} (hG : tp_Gf G = true) {c : Nat} {f : Int → Int} {ch : r_H} {a dp us sd k : Int} {stk : Int → Int} (hc : tp_SH c = .inl 0) (hcl : c < 37) (hcode : μ.2 50 5 = some c) (hf0 : μ.1 c 4 = f 0) (hfk : ∀ i, 0 ≤ i → i < f 0 → μ.1 (c + 1) i = f (9 + i)) (hft : ∀ i, 0 ≤ i → i < f 0 → μ.1 (c + 2) i = f (49 + i)) (hw : tp_Cw f) (ha : 0 ≤ a ∧ a < f 0) (hm : r_M (a, dp, stk, us, sd) 50 μ) (hdp : 0 ≤ dp ∧ dp ≤ 9) (hstk : ∀ i, 0 ≤ i → i < dp → 1 ≤ stk i) (hk : 0 ≤ k ∧ k < 200) (hret : 0 ≤ μ.1 50 14 ∧ μ.1 50 14 < 1000)
    (hs1 : r_cv ch (a, dp, stk, us, sd) true = -1 ∨ r_cv ch (a, dp, stk, us, sd) true = 100 ∨ r_cv ch (a, dp, stk, us, sd) true = 101) (hs0 : r_cv ch (a, dp, stk, us, sd) false = -1 ∨ (0 ≤ r_cv ch (a, dp, stk, us, sd) false ∧ r_cv ch (a, dp, stk, us, sd) false ≤ 39))
    (Hc1 : tp_k G mX7_chosen [tR (some 50), tI 1] μ (fun r μ' => r = some (tI (r_cv ch (a, dp, stk, us, sd) true)) ∧ μ' = tp_cho (tp_pi μ 50 8 (r_cs ch (a, dp, stk, us, sd) true)) 50 (r_cv ch (a, dp, stk, us, sd) true)))
    (Hc0 : tp_k G mX7_chosen [tR (some 50), tI 0] μ (fun r μ' => r = some (tI (r_cv ch (a, dp, stk, us, sd) false)) ∧ μ' = tp_cho (tp_pi μ 50 8 (r_cs ch (a, dp, stk, us, sd) false)) 50 (r_cv ch (a, dp, stk, us, sd) false))) : tp_k G mX7_leadFrom [tR (some 50), tI k, tI a] μ (fun r μ' => r = some (tI (r_to f ch (a, dp, stk, us, sd))) ∧ r_L f ch (a, dp, stk, us, sd) k 50 μ μ') := by
  have hcn : c < 234 := by omega
  have hr := tp_code1 c hcn hc
  have hs := tp_code2 c hcn hc
  have hm2 := hm
  obtain ⟨m1, m2, m3, m4⟩ := hm2
  simp only at m1 m3 m4
  subst m1
  subst m3
  subst m4
  have hw0 := hw.1
  have hkk := hfk a ha.1 ha.2
  have hta := hft a ha.1 ha.2
  have hwa := hw.2.1 a ha.1 ha.2
  have hkr := hwa.1
  have htt : (1 ≤ f (9 + a) ∧ f (9 + a) ≤ 3) → 0 ≤ f (49 + a) ∧ f (49 + a) < f 0 := hwa.2.2.1
  refine tp_ok_of mX7_leadFrom_ok rfl (Nat.le_refl _) ?_
  refine g_aload_n rfl rfl ?_
  refine x_getM (v := (some c)) hG rfl rfl (by decide) (Or.inl ⟨_, rfl⟩) rfl hcode ?_
  refine g_ifnonnull (tgt := 9) rfl (by decide) (fun _ _ => ?_) (fun hx => by cases hx)
  refine g_aload_n rfl rfl ?_
  refine x_getM (v := (some c)) hG rfl rfl (by decide) (Or.inl ⟨_, rfl⟩) rfl hcode ?_
  refine g_iload_n rfl rfl ?_
  refine g_cV (as := [tI a]) (s_kindAt hG hc hcn (by omega) (by omega) (by omega)) rfl rfl mX0_kindAt_ok rfl hc rfl hcn rfl rfl rfl ?_
  rintro _ w9 ⟨rfl, hw9⟩ _
  have hw9 := hw9.symm
  subst hw9
  rcases (show (μ.1 (c + 1) a) < 0 ∨ (μ.1 (c + 1) a) = 0 ∨ (μ.1 (c + 1) a) = 1 ∨ (μ.1 (c + 1) a) = 2 ∨ (μ.1 (c + 1) a) = 3 ∨ (μ.1 (c + 1) a) = 4 ∨ (μ.1 (c + 1) a) = 5 ∨ 5 < (μ.1 (c + 1) a) by omega) with h1 | h1 | h1 | h1 | h1 | h1 | h1 | h1
  · omega
  · refine g_swIn (off := 39) (tgt := 56) rfl (by omega) (by omega) (by rw [show ((μ.1 (c + 1) a) - 0).toNat = 0 by omega]; rfl) (by decide) ?_
    refine g_iload_n rfl rfl ?_
    refine g_iconst rfl ⟨by decide, by decide⟩ ?_
    refine x_iadd (z := a + 1) rfl (by omega) ⟨by omega, by omega⟩ ?_
    refine x_ireturn rfl rfl ?_
    obtain ⟨e1, e2⟩ := rL_0 (f := f) (ch := ch) (k := k) hm (by omega) ha.1
    exact ⟨by rw [e1], e2⟩
  · refine g_swIn (off := 43) (tgt := 60) rfl (by omega) (by omega) (by rw [show ((μ.1 (c + 1) a) - 0).toNat = 1 by omega]; rfl) (by decide) ?_
    refine g_aload_n rfl rfl ?_
    refine g_iload_n rfl rfl ?_
    refine g_iload_n rfl rfl ?_
    refine g_iV (as := [tI k, tI a]) mX7_branch_ok rfl rfl rfl rfl rfl rfl (by decide) rfl rfl rfl ?_
    refine g_aload_n rfl rfl ?_
    refine g_iconst rfl ⟨by decide, by decide⟩ ?_
    refine g_cV (as := [tI 1]) (Hc1) rfl rfl mX7_chosen_ok rfl rfl rfl (by decide) rfl rfl rfl ?_
    rintro _ w9 ⟨rfl, hw9⟩ _
    rcases hs1 with hV | hV | hV
    · rw [hV]
      rw [hV] at hw9
      subst hw9
      change tp_go G _ _ _ _ (tp_pi (tp_pi μ 50 8 (r_cs ch (a, μ.1 50 10, stk, μ.1 50 13, μ.1 50 8) true)) 50 11 2) 234 234 0 _
      refine g_istore_n rfl rfl rfl ?_
      refine g_iload_n rfl rfl ?_
      refine g_iconst rfl ⟨by decide, by decide⟩ ?_
      refine g_icmp_eq (tgt := 29) rfl (by decide) (fun _ => ?_) (fun hx => absurd hx (by omega))
      refine g_iconst rfl ⟨by decide, by decide⟩ ?_
      refine x_ireturn rfl rfl ?_
      intro _
      refine x_ireturn rfl rfl ?_
      obtain ⟨e1, e2⟩ := rL_1n (f := f) (ch := ch) (k := k) hm (by omega) hV
      exact ⟨by rw [e1], e2⟩
    · rw [hV]
      rw [hV] at hw9
      subst hw9
      change tp_go G _ _ _ _ (tp_pi (tp_pi μ 50 8 (r_cs ch (a, μ.1 50 10, stk, μ.1 50 13, μ.1 50 8) true)) 50 13 ((μ.1 50 13) + 1)) 234 234 0 _
      refine g_istore_n rfl rfl rfl ?_
      refine g_iload_n rfl rfl ?_
      refine g_iconst rfl ⟨by decide, by decide⟩ ?_
      refine g_icmp_eq (tgt := 29) rfl (by decide) (fun hx => absurd hx (by omega)) (fun _ => ?_)
      refine g_aload_n rfl rfl ?_
      refine x_getM (v := (some c)) hG rfl rfl (by decide) (Or.inl ⟨_, rfl⟩) rfl hcode ?_
      refine g_ifnull (tgt := 29) rfl (by decide) (fun hx => by cases hx) (fun _ _ => ?_)
      refine g_iload_n rfl rfl ?_
      refine g_if_lt (tgt := 29) rfl (by decide) (fun hx => absurd hx (by omega)) (fun _ => ?_)
      refine g_iload_n rfl rfl ?_
      refine g_sipush rfl ⟨by decide, by decide⟩ (by decide) ?_
      refine g_icmp_lt (tgt := 31) rfl (by decide) (fun _ => ?_) (fun hx => absurd hx (by omega))
      refine g_aload_n rfl rfl ?_
      refine x_getF (r := 53) hG rfl rfl (by decide) (Or.inr ⟨_, rfl⟩) rfl ?_
      refine g_iload_n rfl rfl ?_
      refine g_iload_n rfl rfl ?_
      refine g_bipush rfl ⟨by decide, by decide⟩ (by decide) ?_
      refine g_icmp_ne (tgt := 46) rfl (by decide) (fun _ => ?_) (fun hx => absurd hx (by omega))
      refine g_iconst rfl ⟨by decide, by decide⟩ ?_
      refine g_zast rfl rfl (by decide) (by omega) (by omega) ?_
      refine g_aload_n rfl rfl ?_
      refine x_getF (r := 53) hG rfl rfl (by decide) (Or.inr ⟨_, rfl⟩) rfl ?_
      refine g_iload_n rfl rfl ?_
      refine x_zald (v := 0) rfl rfl (by decide) (by omega) (by omega) (tp_pi_at.trans tp_z0) ?_
      refine g_if_eq (tgt := 68) rfl (by decide) (fun _ => ?_) (fun hx => absurd hx (by omega))
      refine g_iload_n rfl rfl ?_
      refine g_iconst rfl ⟨by decide, by decide⟩ ?_
      refine x_iadd (z := a + 1) rfl (by omega) ⟨by omega, by omega⟩ ?_
      refine x_ireturn rfl rfl ?_
      intro _
      refine x_ireturn rfl rfl ?_
      obtain ⟨e1, e2⟩ := rL_1o (f := f) (ch := ch) (k := k) hm (by omega) hV ha.1 (htt (by omega)).1
      exact ⟨by rw [e1], e2⟩
    · rw [hV]
      rw [hV] at hw9
      subst hw9
      change tp_go G _ _ _ _ (tp_pi (tp_pi μ 50 8 (r_cs ch (a, μ.1 50 10, stk, μ.1 50 13, μ.1 50 8) true)) 50 13 ((μ.1 50 13) + 1)) 234 234 0 _
      refine g_istore_n rfl rfl rfl ?_
      refine g_iload_n rfl rfl ?_
      refine g_iconst rfl ⟨by decide, by decide⟩ ?_
      refine g_icmp_eq (tgt := 29) rfl (by decide) (fun hx => absurd hx (by omega)) (fun _ => ?_)
      refine g_aload_n rfl rfl ?_
      refine x_getM (v := (some c)) hG rfl rfl (by decide) (Or.inl ⟨_, rfl⟩) rfl hcode ?_
      refine g_ifnull (tgt := 29) rfl (by decide) (fun hx => by cases hx) (fun _ _ => ?_)
      refine g_iload_n rfl rfl ?_
      refine g_if_lt (tgt := 29) rfl (by decide) (fun hx => absurd hx (by omega)) (fun _ => ?_)
      refine g_iload_n rfl rfl ?_
      refine g_sipush rfl ⟨by decide, by decide⟩ (by decide) ?_
      refine g_icmp_lt (tgt := 31) rfl (by decide) (fun _ => ?_) (fun hx => absurd hx (by omega))
      refine g_aload_n rfl rfl ?_
      refine x_getF (r := 53) hG rfl rfl (by decide) (Or.inr ⟨_, rfl⟩) rfl ?_
      refine g_iload_n rfl rfl ?_
      refine g_iload_n rfl rfl ?_
      refine g_bipush rfl ⟨by decide, by decide⟩ (by decide) ?_
      refine g_icmp_ne (tgt := 46) rfl (by decide) (fun hx => absurd hx (by omega)) (fun _ => ?_)
      refine g_iconst rfl ⟨by decide, by decide⟩ ?_
      refine g_goto (tgt := 47) rfl (by decide) ?_
      refine g_zast rfl rfl (by decide) (by omega) (by omega) ?_
      refine g_aload_n rfl rfl ?_
      refine x_getF (r := 53) hG rfl rfl (by decide) (Or.inr ⟨_, rfl⟩) rfl ?_
      refine g_iload_n rfl rfl ?_
      refine x_zald (v := 1) rfl rfl (by decide) (by omega) (by omega) (tp_pi_at.trans tp_z1) ?_
      refine g_if_eq (tgt := 68) rfl (by decide) (fun hx => absurd hx (by omega)) (fun _ => ?_)
      refine g_aload_n rfl rfl ?_
      refine x_getM (v := (some c)) hG rfl rfl (by decide) (Or.inl ⟨_, rfl⟩) rfl hcode ?_
      refine g_iload_n rfl rfl ?_
      refine g_cV (as := [tI a]) (s_targetAt hG hc hcn (by omega) (show a < (tp_pi (tp_pi (tp_pi μ 50 8 (r_cs ch (a, μ.1 50 10, stk, μ.1 50 13, μ.1 50 8) true)) 50 13 ((μ.1 50 13) + 1)) 53 k (tp_z 1)).1 c 4 by rw [tp_pi_ne (by omega), tp_pi_ne (by omega), tp_pi_ne (by omega)]; omega) (show (tp_pi (tp_pi (tp_pi μ 50 8 (r_cs ch (a, μ.1 50 10, stk, μ.1 50 13, μ.1 50 8) true)) 50 13 ((μ.1 50 13) + 1)) 53 k (tp_z 1)).1 c 4 ≤ 40 by rw [tp_pi_ne (by omega), tp_pi_ne (by omega), tp_pi_ne (by omega)]; omega)) rfl rfl mX0_targetAt_ok rfl hc rfl hcn rfl rfl rfl ?_
      rintro _ w9 ⟨rfl, hw9⟩ _
      have hw9 := hw9.symm
      subst hw9
      refine g_goto (tgt := 71) rfl (by decide) ?_
      refine x_ireturn rfl rfl ?_
      intro _
      refine x_ireturn rfl rfl ?_
      obtain ⟨e1, e2⟩ := rL_1y (f := f) (ch := ch) (k := k) hm (by omega) hV ha.1 (htt (by omega)).1
      exact ⟨by rw [e1, tp_pi_ne (by omega), tp_pi_ne (by omega), tp_pi_ne (by omega), hta], e2⟩
  · refine g_swIn (off := 50) (tgt := 67) rfl (by omega) (by omega) (by rw [show ((μ.1 (c + 1) a) - 0).toNat = 2 by omega]; rfl) (by decide) ?_
    refine g_aload_n rfl rfl ?_
    refine x_getM (v := (some c)) hG rfl rfl (by decide) (Or.inl ⟨_, rfl⟩) rfl hcode ?_
    refine g_iload_n rfl rfl ?_
    refine g_cV (as := [tI a]) (s_targetAt hG hc hcn (by omega) (by omega) (by omega)) rfl rfl mX0_targetAt_ok rfl hc rfl hcn rfl rfl rfl ?_
    rintro _ w9 ⟨rfl, hw9⟩ _
    have hw9 := hw9.symm
    subst hw9
    refine x_ireturn rfl rfl ?_
    obtain ⟨e1, e2⟩ := rL_2 (f := f) (ch := ch) (k := k) hm (by omega) (htt (by omega)).1
    exact ⟨by rw [e1, hta], e2⟩
  · refine g_swIn (off := 59) (tgt := 76) rfl (by omega) (by omega) (by rw [show ((μ.1 (c + 1) a) - 0).toNat = 3 by omega]; rfl) (by decide) ?_
    refine g_aload_n rfl rfl ?_
    refine g_iload_n rfl rfl ?_
    refine g_iV (as := [tI a]) mX7_enter_ok rfl rfl rfl rfl rfl rfl (by decide) rfl rfl rfl ?_
    refine g_aload_n rfl rfl ?_
    refine x_getM (v := (some c)) hG rfl rfl (by decide) (Or.inl ⟨_, rfl⟩) rfl hcode ?_
    refine g_ifnull (tgt := 23) rfl (by decide) (fun hx => by cases hx) (fun _ _ => ?_)
    refine g_aload_n rfl rfl ?_
    refine x_geti (v := (μ.1 50 10)) rfl rfl (by decide) (Or.inl rfl) rfl ?_
    refine g_if_lt (tgt := 23) rfl (by decide) (fun hx => absurd hx (by omega)) (fun _ => ?_)
    refine g_aload_n rfl rfl ?_
    refine x_geti (v := (μ.1 50 10)) rfl rfl (by decide) (Or.inl rfl) rfl ?_
    refine g_bipush rfl ⟨by decide, by decide⟩ (by decide) ?_
    refine g_icmp_lt (tgt := 29) rfl (by decide) (fun h2 => ?_) (fun h2 => ?_)
    · refine g_aload_n rfl rfl ?_
      refine x_getF (r := 54) hG rfl rfl (by decide) (Or.inr ⟨_, rfl⟩) rfl ?_
      refine g_aload_n rfl rfl ?_
      refine x_geti (v := (μ.1 50 10)) rfl rfl (by decide) (Or.inl rfl) rfl ?_
      refine g_iload_n rfl rfl ?_
      refine g_iconst rfl ⟨by decide, by decide⟩ ?_
      refine x_iadd (z := a + 1) rfl (by omega) ⟨by omega, by omega⟩ ?_
      refine g_iast rfl rfl (by decide) (by omega) (by omega) ?_
      refine g_aload_n rfl rfl ?_
      refine g_dupr rfl ?_
      refine x_geti (v := (μ.1 50 10)) rfl rfl (by decide) (Or.inl rfl) rfl ?_
      refine g_iconst rfl ⟨by decide, by decide⟩ ?_
      refine x_iadd (z := (μ.1 50 10) + 1) rfl (by omega) ⟨by omega, by omega⟩ ?_
      refine g_puti rfl rfl (by decide) rfl rfl ?_
      refine g_aload_n rfl rfl ?_
      refine g_aload_n rfl rfl ?_
      refine x_geti (v := (μ.1 50 12)) rfl rfl (by decide) (Or.inl rfl) rfl ?_
      refine g_aload_n rfl rfl ?_
      refine x_geti (v := (μ.1 50 10) + 1) rfl rfl (by decide) (Or.inl rfl) rfl ?_
      refine g_max rfl rfl ?_
      refine g_puti rfl rfl (by decide) rfl rfl ?_
      refine g_aload_n rfl rfl ?_
      refine x_getM (v := (some c)) hG rfl rfl (by decide) (Or.inl ⟨_, rfl⟩) rfl hcode ?_
      refine g_iload_n rfl rfl ?_
      refine g_cV (as := [tI a]) (s_targetAt hG hc hcn (by omega) (show a < (tp_pi (tp_pi (tp_pi μ 54 (μ.1 50 10) (a + 1)) 50 10 ((μ.1 50 10) + 1)) 50 12 (max (μ.1 50 12) ((μ.1 50 10) + 1))).1 c 4 by rw [tp_pi_ne (by omega), tp_pi_ne (by omega), tp_pi_ne (by omega)]; omega) (show (tp_pi (tp_pi (tp_pi μ 54 (μ.1 50 10) (a + 1)) 50 10 ((μ.1 50 10) + 1)) 50 12 (max (μ.1 50 12) ((μ.1 50 10) + 1))).1 c 4 ≤ 40 by rw [tp_pi_ne (by omega), tp_pi_ne (by omega), tp_pi_ne (by omega)]; omega)) rfl rfl mX0_targetAt_ok rfl hc rfl hcn rfl rfl rfl ?_
      rintro _ w9 ⟨rfl, hw9⟩ _
      have hw9 := hw9.symm
      subst hw9
      refine x_ireturn rfl rfl ?_
      intro _
      refine x_ireturn rfl rfl ?_
      obtain ⟨e1, e2⟩ := rL_3 (f := f) (ch := ch) (k := k) hm (by omega) (by omega) (htt (by omega)).1
      exact ⟨by rw [e1, tp_pi_ne (by omega), tp_pi_ne (by omega), tp_pi_ne (by omega), hta], e2⟩
    · refine g_aload_n rfl rfl ?_
      refine g_iconst rfl ⟨by decide, by decide⟩ ?_
      refine g_iV (as := [tI 4]) mX7_endBy_ok rfl rfl rfl rfl rfl rfl (by decide) rfl rfl rfl ?_
      refine g_aload_n rfl rfl ?_
      refine g_iload_n rfl rfl ?_
      refine g_puti rfl rfl (by decide) rfl rfl ?_
      refine g_iconst rfl ⟨by decide, by decide⟩ ?_
      refine x_ireturn rfl rfl ?_
      intro _
      refine x_ireturn rfl rfl ?_
      intro _
      refine x_ireturn rfl rfl ?_
      obtain ⟨e1, e2⟩ := rL_3f (f := f) (ch := ch) (k := k) hm (by omega) (by omega)
      exact ⟨by rw [e1], e2⟩
  · refine g_swIn (off := 65) (tgt := 82) rfl (by omega) (by omega) (by rw [show ((μ.1 (c + 1) a) - 0).toNat = 4 by omega]; rfl) (by decide) ?_
    refine g_aload_n rfl rfl ?_
    refine g_iV (as := []) mX7_leave_ok rfl rfl rfl rfl rfl rfl (by decide) rfl rfl rfl ?_
    refine g_aload_n rfl rfl ?_
    refine x_geti (v := (μ.1 50 10)) rfl rfl (by decide) (Or.inl rfl) rfl ?_
    refine g_if_le (tgt := 16) rfl (by decide) (fun h3 => ?_) (fun h3 => ?_)
    · refine g_aload_n rfl rfl ?_
      refine g_iconst rfl ⟨by decide, by decide⟩ ?_
      refine g_iV (as := [tI 4]) mX7_endBy_ok rfl rfl rfl rfl rfl rfl (by decide) rfl rfl rfl ?_
      refine g_aload_n rfl rfl ?_
      refine g_iload_n rfl rfl ?_
      refine g_puti rfl rfl (by decide) rfl rfl ?_
      refine g_iconst rfl ⟨by decide, by decide⟩ ?_
      refine x_ireturn rfl rfl ?_
      intro _
      refine x_ireturn rfl rfl ?_
      intro _
      refine x_ireturn rfl rfl ?_
      obtain ⟨e1, e2⟩ := rL_4f (f := f) (ch := ch) (k := k) hm (by omega) (by omega)
      exact ⟨by rw [e1], e2⟩
    · refine g_aload_n rfl rfl ?_
      refine x_geti (v := (μ.1 50 10)) rfl rfl (by decide) (Or.inl rfl) rfl ?_
      refine g_bipush rfl ⟨by decide, by decide⟩ (by decide) ?_
      refine g_icmp_le (tgt := 22) rfl (by decide) (fun _ => ?_) (fun hx => absurd hx (by omega))
      refine g_aload_n rfl rfl ?_
      refine g_dupr rfl ?_
      refine x_geti (v := (μ.1 50 10)) rfl rfl (by decide) (Or.inl rfl) rfl ?_
      refine g_iconst rfl ⟨by decide, by decide⟩ ?_
      refine x_isub (z := (μ.1 50 10) - 1) rfl (by omega) ⟨by omega, by omega⟩ ?_
      refine g_puti rfl rfl (by decide) rfl rfl ?_
      refine g_aload_n rfl rfl ?_
      refine g_dupr rfl ?_
      refine x_geti (v := (μ.1 50 14)) rfl rfl (by decide) (Or.inl rfl) rfl ?_
      refine g_iconst rfl ⟨by decide, by decide⟩ ?_
      refine x_iadd (z := (μ.1 50 14) + 1) rfl (by omega) ⟨by omega, by omega⟩ ?_
      refine g_puti rfl rfl (by decide) rfl rfl ?_
      refine g_aload_n rfl rfl ?_
      refine x_getF (r := 54) hG rfl rfl (by decide) (Or.inr ⟨_, rfl⟩) rfl ?_
      refine g_aload_n rfl rfl ?_
      refine x_geti (v := (μ.1 50 10) - 1) rfl rfl (by decide) (Or.inl rfl) rfl ?_
      refine x_iald (v := (μ.1 54 ((μ.1 50 10) - 1))) rfl rfl (by decide) (by omega) (by omega) rfl ?_
      refine x_ireturn rfl rfl ?_
      intro _
      refine x_ireturn rfl rfl ?_
      have hq := hstk (μ.1 50 10 - 1) (by omega) (by omega)
      obtain ⟨e1, e2⟩ := rL_4 (f := f) (ch := ch) (k := k) hm (by omega) (by omega) (by omega)
      exact ⟨by rw [e1]; exact congrArg (fun z => some (tI z)) (hm.2.1 (μ.1 50 10 - 1) (by omega) (by show μ.1 50 10 - 1 < μ.1 50 10; omega)), e2⟩
  · refine g_swIn (off := 70) (tgt := 87) rfl (by omega) (by omega) (by rw [show ((μ.1 (c + 1) a) - 0).toNat = 5 by omega]; rfl) (by decide) ?_
    refine g_aload_n rfl rfl ?_
    refine g_iconst rfl ⟨by decide, by decide⟩ ?_
    refine g_cV (as := [tI 0]) (Hc0) rfl rfl mX7_chosen_ok rfl rfl rfl (by decide) rfl rfl rfl ?_
    rintro _ w9 ⟨rfl, hw9⟩ _
    rcases hs0 with hV | hV
    · rw [hV]
      rw [hV] at hw9
      subst hw9
      change tp_go G _ _ _ _ (tp_pi (tp_pi μ 50 8 (r_cs ch (a, μ.1 50 10, stk, μ.1 50 13, μ.1 50 8) false)) 50 11 2) 234 234 0 _
      refine x_ireturn rfl rfl ?_
      obtain ⟨e1, e2⟩ := rL_5n (f := f) (ch := ch) (k := k) hm (by omega) hV
      exact ⟨by rw [e1], e2⟩
    · subst hw9
      refine x_ireturn rfl rfl ?_
      obtain ⟨e1, e2⟩ := rL_5 (f := f) (ch := ch) (k := k) hm (by omega) hV.1
      exact ⟨by rw [e1], e2⟩
  · refine g_swOut (tgt := 93) rfl (by omega) (by decide) ?_
    refine g_aload_n rfl rfl ?_
    refine g_iconst rfl ⟨by decide, by decide⟩ ?_
    refine g_iV (as := [tI 1]) mX7_endBy_ok rfl rfl rfl rfl rfl rfl (by decide) rfl rfl rfl ?_
    refine g_aload_n rfl rfl ?_
    refine g_iload_n rfl rfl ?_
    refine g_puti rfl rfl (by decide) rfl rfl ?_
    refine g_iconst rfl ⟨by decide, by decide⟩ ?_
    refine x_ireturn rfl rfl ?_
    intro _
    refine x_ireturn rfl rfl ?_
    obtain ⟨e1, e2⟩ := rL_6 (f := f) (ch := ch) (k := k) hm (by omega)
    exact ⟨by rw [e1], e2⟩
set_option maxHeartbeats 4000000 in
set_option maxRecDepth 100000 in
theorem s_lead56 {G : tp_G} {μ : tp_M} (hG : tp_Gf G = true) {c : Nat} {f : Int → Int} {ch : r_H} {a dp us sd k : Int} {stk : Int → Int} (hc : tp_SH c = .inl 0) (hcl : c < 37) (hcode : μ.2 56 5 = some c) (hf0 : μ.1 c 4 = f 0) (hfk : ∀ i, 0 ≤ i → i < f 0 → μ.1 (c + 1) i = f (9 + i)) (hft : ∀ i, 0 ≤ i → i < f 0 → μ.1 (c + 2) i = f (49 + i)) (hw : tp_Cw f) (ha : 0 ≤ a ∧ a < f 0) (hm : r_M (a, dp, stk, us, sd) 56 μ) (hdp : 0 ≤ dp ∧ dp ≤ 9) (hstk : ∀ i, 0 ≤ i → i < dp → 1 ≤ stk i) (hk : 0 ≤ k ∧ k < 200) (hret : 0 ≤ μ.1 56 14 ∧ μ.1 56 14 < 1000)
    (hs1 : r_cv ch (a, dp, stk, us, sd) true = -1 ∨ r_cv ch (a, dp, stk, us, sd) true = 100 ∨ r_cv ch (a, dp, stk, us, sd) true = 101) (hs0 : r_cv ch (a, dp, stk, us, sd) false = -1 ∨ (0 ≤ r_cv ch (a, dp, stk, us, sd) false ∧ r_cv ch (a, dp, stk, us, sd) false ≤ 39))
    (Hc1 : tp_k G mX7_chosen [tR (some 56), tI 1] μ (fun r μ' => r = some (tI (r_cv ch (a, dp, stk, us, sd) true)) ∧ μ' = tp_cho (tp_pi μ 56 8 (r_cs ch (a, dp, stk, us, sd) true)) 56 (r_cv ch (a, dp, stk, us, sd) true)))
    (Hc0 : tp_k G mX7_chosen [tR (some 56), tI 0] μ (fun r μ' => r = some (tI (r_cv ch (a, dp, stk, us, sd) false)) ∧ μ' = tp_cho (tp_pi μ 56 8 (r_cs ch (a, dp, stk, us, sd) false)) 56 (r_cv ch (a, dp, stk, us, sd) false))) : tp_k G mX7_leadFrom [tR (some 56), tI k, tI a] μ (fun r μ' => r = some (tI (r_to f ch (a, dp, stk, us, sd))) ∧ r_L f ch (a, dp, stk, us, sd) k 56 μ μ') := by
  have hcn : c < 234 := by omega
  have hr := tp_code1 c hcn hc
  have hs := tp_code2 c hcn hc
  have hm2 := hm
  obtain ⟨m1, m2, m3, m4⟩ := hm2
  simp only at m1 m3 m4
  subst m1
  subst m3
  subst m4
  have hw0 := hw.1
  have hkk := hfk a ha.1 ha.2
  have hta := hft a ha.1 ha.2
  have hwa := hw.2.1 a ha.1 ha.2
  have hkr := hwa.1
  have htt : (1 ≤ f (9 + a) ∧ f (9 + a) ≤ 3) → 0 ≤ f (49 + a) ∧ f (49 + a) < f 0 := hwa.2.2.1
  refine tp_ok_of mX7_leadFrom_ok rfl (Nat.le_refl _) ?_
  refine g_aload_n rfl rfl ?_
  refine x_getM (v := (some c)) hG rfl rfl (by decide) (Or.inl ⟨_, rfl⟩) rfl hcode ?_
  refine g_ifnonnull (tgt := 9) rfl (by decide) (fun _ _ => ?_) (fun hx => by cases hx)
  refine g_aload_n rfl rfl ?_
  refine x_getM (v := (some c)) hG rfl rfl (by decide) (Or.inl ⟨_, rfl⟩) rfl hcode ?_
  refine g_iload_n rfl rfl ?_
  refine g_cV (as := [tI a]) (s_kindAt hG hc hcn (by omega) (by omega) (by omega)) rfl rfl mX0_kindAt_ok rfl hc rfl hcn rfl rfl rfl ?_
  rintro _ w9 ⟨rfl, hw9⟩ _
  have hw9 := hw9.symm
  subst hw9
  rcases (show (μ.1 (c + 1) a) < 0 ∨ (μ.1 (c + 1) a) = 0 ∨ (μ.1 (c + 1) a) = 1 ∨ (μ.1 (c + 1) a) = 2 ∨ (μ.1 (c + 1) a) = 3 ∨ (μ.1 (c + 1) a) = 4 ∨ (μ.1 (c + 1) a) = 5 ∨ 5 < (μ.1 (c + 1) a) by omega) with h1 | h1 | h1 | h1 | h1 | h1 | h1 | h1
  · omega
  · refine g_swIn (off := 39) (tgt := 56) rfl (by omega) (by omega) (by rw [show ((μ.1 (c + 1) a) - 0).toNat = 0 by omega]; rfl) (by decide) ?_
    refine g_iload_n rfl rfl ?_
    refine g_iconst rfl ⟨by decide, by decide⟩ ?_
    refine x_iadd (z := a + 1) rfl (by omega) ⟨by omega, by omega⟩ ?_
    refine x_ireturn rfl rfl ?_
    obtain ⟨e1, e2⟩ := rL_0 (f := f) (ch := ch) (k := k) hm (by omega) ha.1
    exact ⟨by rw [e1], e2⟩
  · refine g_swIn (off := 43) (tgt := 60) rfl (by omega) (by omega) (by rw [show ((μ.1 (c + 1) a) - 0).toNat = 1 by omega]; rfl) (by decide) ?_
    refine g_aload_n rfl rfl ?_
    refine g_iload_n rfl rfl ?_
    refine g_iload_n rfl rfl ?_
    refine g_iV (as := [tI k, tI a]) mX7_branch_ok rfl rfl rfl rfl rfl rfl (by decide) rfl rfl rfl ?_
    refine g_aload_n rfl rfl ?_
    refine g_iconst rfl ⟨by decide, by decide⟩ ?_
    refine g_cV (as := [tI 1]) (Hc1) rfl rfl mX7_chosen_ok rfl rfl rfl (by decide) rfl rfl rfl ?_
    rintro _ w9 ⟨rfl, hw9⟩ _
    rcases hs1 with hV | hV | hV
    · rw [hV]
      rw [hV] at hw9
      subst hw9
      change tp_go G _ _ _ _ (tp_pi (tp_pi μ 56 8 (r_cs ch (a, μ.1 56 10, stk, μ.1 56 13, μ.1 56 8) true)) 56 11 2) 234 234 0 _
      refine g_istore_n rfl rfl rfl ?_
      refine g_iload_n rfl rfl ?_
      refine g_iconst rfl ⟨by decide, by decide⟩ ?_
      refine g_icmp_eq (tgt := 29) rfl (by decide) (fun _ => ?_) (fun hx => absurd hx (by omega))
      refine g_iconst rfl ⟨by decide, by decide⟩ ?_
      refine x_ireturn rfl rfl ?_
      intro _
      refine x_ireturn rfl rfl ?_
      obtain ⟨e1, e2⟩ := rL_1n (f := f) (ch := ch) (k := k) hm (by omega) hV
      exact ⟨by rw [e1], e2⟩
    · rw [hV]
      rw [hV] at hw9
      subst hw9
      change tp_go G _ _ _ _ (tp_pi (tp_pi μ 56 8 (r_cs ch (a, μ.1 56 10, stk, μ.1 56 13, μ.1 56 8) true)) 56 13 ((μ.1 56 13) + 1)) 234 234 0 _
      refine g_istore_n rfl rfl rfl ?_
      refine g_iload_n rfl rfl ?_
      refine g_iconst rfl ⟨by decide, by decide⟩ ?_
      refine g_icmp_eq (tgt := 29) rfl (by decide) (fun hx => absurd hx (by omega)) (fun _ => ?_)
      refine g_aload_n rfl rfl ?_
      refine x_getM (v := (some c)) hG rfl rfl (by decide) (Or.inl ⟨_, rfl⟩) rfl hcode ?_
      refine g_ifnull (tgt := 29) rfl (by decide) (fun hx => by cases hx) (fun _ _ => ?_)
      refine g_iload_n rfl rfl ?_
      refine g_if_lt (tgt := 29) rfl (by decide) (fun hx => absurd hx (by omega)) (fun _ => ?_)
      refine g_iload_n rfl rfl ?_
      refine g_sipush rfl ⟨by decide, by decide⟩ (by decide) ?_
      refine g_icmp_lt (tgt := 31) rfl (by decide) (fun _ => ?_) (fun hx => absurd hx (by omega))
      refine g_aload_n rfl rfl ?_
      refine x_getF (r := 59) hG rfl rfl (by decide) (Or.inr ⟨_, rfl⟩) rfl ?_
      refine g_iload_n rfl rfl ?_
      refine g_iload_n rfl rfl ?_
      refine g_bipush rfl ⟨by decide, by decide⟩ (by decide) ?_
      refine g_icmp_ne (tgt := 46) rfl (by decide) (fun _ => ?_) (fun hx => absurd hx (by omega))
      refine g_iconst rfl ⟨by decide, by decide⟩ ?_
      refine g_zast rfl rfl (by decide) (by omega) (by omega) ?_
      refine g_aload_n rfl rfl ?_
      refine x_getF (r := 59) hG rfl rfl (by decide) (Or.inr ⟨_, rfl⟩) rfl ?_
      refine g_iload_n rfl rfl ?_
      refine x_zald (v := 0) rfl rfl (by decide) (by omega) (by omega) (tp_pi_at.trans tp_z0) ?_
      refine g_if_eq (tgt := 68) rfl (by decide) (fun _ => ?_) (fun hx => absurd hx (by omega))
      refine g_iload_n rfl rfl ?_
      refine g_iconst rfl ⟨by decide, by decide⟩ ?_
      refine x_iadd (z := a + 1) rfl (by omega) ⟨by omega, by omega⟩ ?_
      refine x_ireturn rfl rfl ?_
      intro _
      refine x_ireturn rfl rfl ?_
      obtain ⟨e1, e2⟩ := rL_1o (f := f) (ch := ch) (k := k) hm (by omega) hV ha.1 (htt (by omega)).1
      exact ⟨by rw [e1], e2⟩
    · rw [hV]
      rw [hV] at hw9
      subst hw9
      change tp_go G _ _ _ _ (tp_pi (tp_pi μ 56 8 (r_cs ch (a, μ.1 56 10, stk, μ.1 56 13, μ.1 56 8) true)) 56 13 ((μ.1 56 13) + 1)) 234 234 0 _
      refine g_istore_n rfl rfl rfl ?_
      refine g_iload_n rfl rfl ?_
      refine g_iconst rfl ⟨by decide, by decide⟩ ?_
      refine g_icmp_eq (tgt := 29) rfl (by decide) (fun hx => absurd hx (by omega)) (fun _ => ?_)
      refine g_aload_n rfl rfl ?_
      refine x_getM (v := (some c)) hG rfl rfl (by decide) (Or.inl ⟨_, rfl⟩) rfl hcode ?_
      refine g_ifnull (tgt := 29) rfl (by decide) (fun hx => by cases hx) (fun _ _ => ?_)
      refine g_iload_n rfl rfl ?_
      refine g_if_lt (tgt := 29) rfl (by decide) (fun hx => absurd hx (by omega)) (fun _ => ?_)
      refine g_iload_n rfl rfl ?_
      refine g_sipush rfl ⟨by decide, by decide⟩ (by decide) ?_
      refine g_icmp_lt (tgt := 31) rfl (by decide) (fun _ => ?_) (fun hx => absurd hx (by omega))
      refine g_aload_n rfl rfl ?_
      refine x_getF (r := 59) hG rfl rfl (by decide) (Or.inr ⟨_, rfl⟩) rfl ?_
      refine g_iload_n rfl rfl ?_
      refine g_iload_n rfl rfl ?_
      refine g_bipush rfl ⟨by decide, by decide⟩ (by decide) ?_
      refine g_icmp_ne (tgt := 46) rfl (by decide) (fun hx => absurd hx (by omega)) (fun _ => ?_)
      refine g_iconst rfl ⟨by decide, by decide⟩ ?_
      refine g_goto (tgt := 47) rfl (by decide) ?_
      refine g_zast rfl rfl (by decide) (by omega) (by omega) ?_
      refine g_aload_n rfl rfl ?_
      refine x_getF (r := 59) hG rfl rfl (by decide) (Or.inr ⟨_, rfl⟩) rfl ?_
      refine g_iload_n rfl rfl ?_
      refine x_zald (v := 1) rfl rfl (by decide) (by omega) (by omega) (tp_pi_at.trans tp_z1) ?_
      refine g_if_eq (tgt := 68) rfl (by decide) (fun hx => absurd hx (by omega)) (fun _ => ?_)
      refine g_aload_n rfl rfl ?_
      refine x_getM (v := (some c)) hG rfl rfl (by decide) (Or.inl ⟨_, rfl⟩) rfl hcode ?_
      refine g_iload_n rfl rfl ?_
      refine g_cV (as := [tI a]) (s_targetAt hG hc hcn (by omega) (show a < (tp_pi (tp_pi (tp_pi μ 56 8 (r_cs ch (a, μ.1 56 10, stk, μ.1 56 13, μ.1 56 8) true)) 56 13 ((μ.1 56 13) + 1)) 59 k (tp_z 1)).1 c 4 by rw [tp_pi_ne (by omega), tp_pi_ne (by omega), tp_pi_ne (by omega)]; omega) (show (tp_pi (tp_pi (tp_pi μ 56 8 (r_cs ch (a, μ.1 56 10, stk, μ.1 56 13, μ.1 56 8) true)) 56 13 ((μ.1 56 13) + 1)) 59 k (tp_z 1)).1 c 4 ≤ 40 by rw [tp_pi_ne (by omega), tp_pi_ne (by omega), tp_pi_ne (by omega)]; omega)) rfl rfl mX0_targetAt_ok rfl hc rfl hcn rfl rfl rfl ?_
      rintro _ w9 ⟨rfl, hw9⟩ _
      have hw9 := hw9.symm
      subst hw9
      refine g_goto (tgt := 71) rfl (by decide) ?_
      refine x_ireturn rfl rfl ?_
      intro _
      refine x_ireturn rfl rfl ?_
      obtain ⟨e1, e2⟩ := rL_1y (f := f) (ch := ch) (k := k) hm (by omega) hV ha.1 (htt (by omega)).1
      exact ⟨by rw [e1, tp_pi_ne (by omega), tp_pi_ne (by omega), tp_pi_ne (by omega), hta], e2⟩
  · refine g_swIn (off := 50) (tgt := 67) rfl (by omega) (by omega) (by rw [show ((μ.1 (c + 1) a) - 0).toNat = 2 by omega]; rfl) (by decide) ?_
    refine g_aload_n rfl rfl ?_
    refine x_getM (v := (some c)) hG rfl rfl (by decide) (Or.inl ⟨_, rfl⟩) rfl hcode ?_
    refine g_iload_n rfl rfl ?_
    refine g_cV (as := [tI a]) (s_targetAt hG hc hcn (by omega) (by omega) (by omega)) rfl rfl mX0_targetAt_ok rfl hc rfl hcn rfl rfl rfl ?_
    rintro _ w9 ⟨rfl, hw9⟩ _
    have hw9 := hw9.symm
    subst hw9
    refine x_ireturn rfl rfl ?_
    obtain ⟨e1, e2⟩ := rL_2 (f := f) (ch := ch) (k := k) hm (by omega) (htt (by omega)).1
    exact ⟨by rw [e1, hta], e2⟩
  · refine g_swIn (off := 59) (tgt := 76) rfl (by omega) (by omega) (by rw [show ((μ.1 (c + 1) a) - 0).toNat = 3 by omega]; rfl) (by decide) ?_
    refine g_aload_n rfl rfl ?_
    refine g_iload_n rfl rfl ?_
    refine g_iV (as := [tI a]) mX7_enter_ok rfl rfl rfl rfl rfl rfl (by decide) rfl rfl rfl ?_
    refine g_aload_n rfl rfl ?_
    refine x_getM (v := (some c)) hG rfl rfl (by decide) (Or.inl ⟨_, rfl⟩) rfl hcode ?_
    refine g_ifnull (tgt := 23) rfl (by decide) (fun hx => by cases hx) (fun _ _ => ?_)
    refine g_aload_n rfl rfl ?_
    refine x_geti (v := (μ.1 56 10)) rfl rfl (by decide) (Or.inl rfl) rfl ?_
    refine g_if_lt (tgt := 23) rfl (by decide) (fun hx => absurd hx (by omega)) (fun _ => ?_)
    refine g_aload_n rfl rfl ?_
    refine x_geti (v := (μ.1 56 10)) rfl rfl (by decide) (Or.inl rfl) rfl ?_
    refine g_bipush rfl ⟨by decide, by decide⟩ (by decide) ?_
    refine g_icmp_lt (tgt := 29) rfl (by decide) (fun h2 => ?_) (fun h2 => ?_)
    · refine g_aload_n rfl rfl ?_
      refine x_getF (r := 60) hG rfl rfl (by decide) (Or.inr ⟨_, rfl⟩) rfl ?_
      refine g_aload_n rfl rfl ?_
      refine x_geti (v := (μ.1 56 10)) rfl rfl (by decide) (Or.inl rfl) rfl ?_
      refine g_iload_n rfl rfl ?_
      refine g_iconst rfl ⟨by decide, by decide⟩ ?_
      refine x_iadd (z := a + 1) rfl (by omega) ⟨by omega, by omega⟩ ?_
      refine g_iast rfl rfl (by decide) (by omega) (by omega) ?_
      refine g_aload_n rfl rfl ?_
      refine g_dupr rfl ?_
      refine x_geti (v := (μ.1 56 10)) rfl rfl (by decide) (Or.inl rfl) rfl ?_
      refine g_iconst rfl ⟨by decide, by decide⟩ ?_
      refine x_iadd (z := (μ.1 56 10) + 1) rfl (by omega) ⟨by omega, by omega⟩ ?_
      refine g_puti rfl rfl (by decide) rfl rfl ?_
      refine g_aload_n rfl rfl ?_
      refine g_aload_n rfl rfl ?_
      refine x_geti (v := (μ.1 56 12)) rfl rfl (by decide) (Or.inl rfl) rfl ?_
      refine g_aload_n rfl rfl ?_
      refine x_geti (v := (μ.1 56 10) + 1) rfl rfl (by decide) (Or.inl rfl) rfl ?_
      refine g_max rfl rfl ?_
      refine g_puti rfl rfl (by decide) rfl rfl ?_
      refine g_aload_n rfl rfl ?_
      refine x_getM (v := (some c)) hG rfl rfl (by decide) (Or.inl ⟨_, rfl⟩) rfl hcode ?_
      refine g_iload_n rfl rfl ?_
      refine g_cV (as := [tI a]) (s_targetAt hG hc hcn (by omega) (show a < (tp_pi (tp_pi (tp_pi μ 60 (μ.1 56 10) (a + 1)) 56 10 ((μ.1 56 10) + 1)) 56 12 (max (μ.1 56 12) ((μ.1 56 10) + 1))).1 c 4 by rw [tp_pi_ne (by omega), tp_pi_ne (by omega), tp_pi_ne (by omega)]; omega) (show (tp_pi (tp_pi (tp_pi μ 60 (μ.1 56 10) (a + 1)) 56 10 ((μ.1 56 10) + 1)) 56 12 (max (μ.1 56 12) ((μ.1 56 10) + 1))).1 c 4 ≤ 40 by rw [tp_pi_ne (by omega), tp_pi_ne (by omega), tp_pi_ne (by omega)]; omega)) rfl rfl mX0_targetAt_ok rfl hc rfl hcn rfl rfl rfl ?_
      rintro _ w9 ⟨rfl, hw9⟩ _
      have hw9 := hw9.symm
      subst hw9
      refine x_ireturn rfl rfl ?_
      intro _
      refine x_ireturn rfl rfl ?_
      obtain ⟨e1, e2⟩ := rL_3 (f := f) (ch := ch) (k := k) hm (by omega) (by omega) (htt (by omega)).1
      exact ⟨by rw [e1, tp_pi_ne (by omega), tp_pi_ne (by omega), tp_pi_ne (by omega), hta], e2⟩
    · refine g_aload_n rfl rfl ?_
      refine g_iconst rfl ⟨by decide, by decide⟩ ?_
      refine g_iV (as := [tI 4]) mX7_endBy_ok rfl rfl rfl rfl rfl rfl (by decide) rfl rfl rfl ?_
      refine g_aload_n rfl rfl ?_
      refine g_iload_n rfl rfl ?_
      refine g_puti rfl rfl (by decide) rfl rfl ?_
      refine g_iconst rfl ⟨by decide, by decide⟩ ?_
      refine x_ireturn rfl rfl ?_
      intro _
      refine x_ireturn rfl rfl ?_
      intro _
      refine x_ireturn rfl rfl ?_
      obtain ⟨e1, e2⟩ := rL_3f (f := f) (ch := ch) (k := k) hm (by omega) (by omega)
      exact ⟨by rw [e1], e2⟩
  · refine g_swIn (off := 65) (tgt := 82) rfl (by omega) (by omega) (by rw [show ((μ.1 (c + 1) a) - 0).toNat = 4 by omega]; rfl) (by decide) ?_
    refine g_aload_n rfl rfl ?_
    refine g_iV (as := []) mX7_leave_ok rfl rfl rfl rfl rfl rfl (by decide) rfl rfl rfl ?_
    refine g_aload_n rfl rfl ?_
    refine x_geti (v := (μ.1 56 10)) rfl rfl (by decide) (Or.inl rfl) rfl ?_
    refine g_if_le (tgt := 16) rfl (by decide) (fun h3 => ?_) (fun h3 => ?_)
    · refine g_aload_n rfl rfl ?_
      refine g_iconst rfl ⟨by decide, by decide⟩ ?_
      refine g_iV (as := [tI 4]) mX7_endBy_ok rfl rfl rfl rfl rfl rfl (by decide) rfl rfl rfl ?_
      refine g_aload_n rfl rfl ?_
      refine g_iload_n rfl rfl ?_
      refine g_puti rfl rfl (by decide) rfl rfl ?_
      refine g_iconst rfl ⟨by decide, by decide⟩ ?_
      refine x_ireturn rfl rfl ?_
      intro _
      refine x_ireturn rfl rfl ?_
      intro _
      refine x_ireturn rfl rfl ?_
      obtain ⟨e1, e2⟩ := rL_4f (f := f) (ch := ch) (k := k) hm (by omega) (by omega)
      exact ⟨by rw [e1], e2⟩
    · refine g_aload_n rfl rfl ?_
      refine x_geti (v := (μ.1 56 10)) rfl rfl (by decide) (Or.inl rfl) rfl ?_
      refine g_bipush rfl ⟨by decide, by decide⟩ (by decide) ?_
      refine g_icmp_le (tgt := 22) rfl (by decide) (fun _ => ?_) (fun hx => absurd hx (by omega))
      refine g_aload_n rfl rfl ?_
      refine g_dupr rfl ?_
      refine x_geti (v := (μ.1 56 10)) rfl rfl (by decide) (Or.inl rfl) rfl ?_
      refine g_iconst rfl ⟨by decide, by decide⟩ ?_
      refine x_isub (z := (μ.1 56 10) - 1) rfl (by omega) ⟨by omega, by omega⟩ ?_
      refine g_puti rfl rfl (by decide) rfl rfl ?_
      refine g_aload_n rfl rfl ?_
      refine g_dupr rfl ?_
      refine x_geti (v := (μ.1 56 14)) rfl rfl (by decide) (Or.inl rfl) rfl ?_
      refine g_iconst rfl ⟨by decide, by decide⟩ ?_
      refine x_iadd (z := (μ.1 56 14) + 1) rfl (by omega) ⟨by omega, by omega⟩ ?_
      refine g_puti rfl rfl (by decide) rfl rfl ?_
      refine g_aload_n rfl rfl ?_
      refine x_getF (r := 60) hG rfl rfl (by decide) (Or.inr ⟨_, rfl⟩) rfl ?_
      refine g_aload_n rfl rfl ?_
      refine x_geti (v := (μ.1 56 10) - 1) rfl rfl (by decide) (Or.inl rfl) rfl ?_
      refine x_iald (v := (μ.1 60 ((μ.1 56 10) - 1))) rfl rfl (by decide) (by omega) (by omega) rfl ?_
      refine x_ireturn rfl rfl ?_
      intro _
      refine x_ireturn rfl rfl ?_
      have hq := hstk (μ.1 56 10 - 1) (by omega) (by omega)
      obtain ⟨e1, e2⟩ := rL_4 (f := f) (ch := ch) (k := k) hm (by omega) (by omega) (by omega)
      exact ⟨by rw [e1]; exact congrArg (fun z => some (tI z)) (hm.2.1 (μ.1 56 10 - 1) (by omega) (by show μ.1 56 10 - 1 < μ.1 56 10; omega)), e2⟩
  · refine g_swIn (off := 70) (tgt := 87) rfl (by omega) (by omega) (by rw [show ((μ.1 (c + 1) a) - 0).toNat = 5 by omega]; rfl) (by decide) ?_
    refine g_aload_n rfl rfl ?_
    refine g_iconst rfl ⟨by decide, by decide⟩ ?_
    refine g_cV (as := [tI 0]) (Hc0) rfl rfl mX7_chosen_ok rfl rfl rfl (by decide) rfl rfl rfl ?_
    rintro _ w9 ⟨rfl, hw9⟩ _
    rcases hs0 with hV | hV
    · rw [hV]
      rw [hV] at hw9
      subst hw9
      change tp_go G _ _ _ _ (tp_pi (tp_pi μ 56 8 (r_cs ch (a, μ.1 56 10, stk, μ.1 56 13, μ.1 56 8) false)) 56 11 2) 234 234 0 _
      refine x_ireturn rfl rfl ?_
      obtain ⟨e1, e2⟩ := rL_5n (f := f) (ch := ch) (k := k) hm (by omega) hV
      exact ⟨by rw [e1], e2⟩
    · subst hw9
      refine x_ireturn rfl rfl ?_
      obtain ⟨e1, e2⟩ := rL_5 (f := f) (ch := ch) (k := k) hm (by omega) hV.1
      exact ⟨by rw [e1], e2⟩
  · refine g_swOut (tgt := 93) rfl (by omega) (by decide) ?_
    refine g_aload_n rfl rfl ?_
    refine g_iconst rfl ⟨by decide, by decide⟩ ?_
    refine g_iV (as := [tI 1]) mX7_endBy_ok rfl rfl rfl rfl rfl rfl (by decide) rfl rfl rfl ?_
    refine g_aload_n rfl rfl ?_
    refine g_iload_n rfl rfl ?_
    refine g_puti rfl rfl (by decide) rfl rfl ?_
    refine g_iconst rfl ⟨by decide, by decide⟩ ?_
    refine x_ireturn rfl rfl ?_
    intro _
    refine x_ireturn rfl rfl ?_
    obtain ⟨e1, e2⟩ := rL_6 (f := f) (ch := ch) (k := k) hm (by omega)
    exact ⟨by rw [e1], e2⟩
