/-! where a way leads to -/
def q_w (f : Int → Int) (S : Int → Prop) (a b : Int) : Prop := (f (9 + a) = 0 ∧ b = a + 1) ∨ (f (9 + a) = 1 ∧ (b = a + 1 ∨ b = f (49 + a))) ∨ ((f (9 + a) = 2 ∨ f (9 + a) = 3) ∧ b = f (49 + a)) ∨ (f (9 + a) = 4 ∧ ∃ c, 0 ≤ c ∧ c < f 0 ∧ S c ∧ f (9 + c) = 3 ∧ b = c + 1) ∨ f (9 + a) = 5
def q_cl (f : Int → Int) (S : Int → Prop) : Prop := (0 < f 0 → S 0) ∧ ∀ a b, 0 ≤ a → a < f 0 → 0 ≤ b → b < f 0 → S a → q_w f S a b → S b
def q_re (f : Int → Int) (a : Int) : Prop := ∀ S, q_cl f S → S a
theorem q_w_mono {f : Int → Int} {S T : Int → Prop} {a b : Int} (h : ∀ c, 0 ≤ c → c < f 0 → S c → T c) (q : q_w f S a b) : q_w f T a b := by
  rcases q with q | q | q | ⟨q, c, c0, c1, c2, c3⟩ | q
  · exact Or.inl q
  · exact Or.inr (Or.inl q)
  · exact Or.inr (Or.inr (Or.inl q))
  · exact Or.inr (Or.inr (Or.inr (Or.inl ⟨q, c, c0, c1, h c c0 c1 c2, c3⟩)))
  · exact Or.inr (Or.inr (Or.inr (Or.inr q)))
theorem q_re_cl (f : Int → Int) : q_cl f (q_re f) :=
  ⟨fun h S hS => hS.1 h, fun a b a0 a1 b0 b1 ha hw S hS => hS.2 a b a0 a1 b0 b1 (ha S hS) (q_w_mono (fun c _ _ hc => hc S hS) hw)⟩
theorem q_re_eq {f : Int → Int} {S : Int → Prop} (hs : ∀ a, 0 ≤ a → a < f 0 → S a → q_re f a) (hc : q_cl f S) {a : Int} (a0 : 0 ≤ a) (a1 : a < f 0) : S a ↔ q_re f a := ⟨hs a a0 a1, fun h => h S hc⟩
theorem q_S_all {C : Int → Int} : ∀ n : Nat, (∀ a, C a ≤ 1) → (n : Int) ≤ q_S C n → ∀ a, 0 ≤ a → a < (n : Int) → C a = 1 := by
  intro n
  induction n with
  | zero => intro _ _ a a0 a1; omega
  | succ n ih =>
    intro h hs a a0 a1
    have e : q_S C (n + 1) = q_S C n + C n := rfl
    have hn := h n
    have hle : q_S C n ≤ n := by
      clear ih hs a0 a1 e hn
      induction n with
      | zero => exact Int.le_refl 0
      | succ n ih2 =>
        have := h n
        show q_S C n + C n ≤ _
        omega
    rcases (show a < (n : Int) ∨ a = (n : Int) by omega) with q | q
    · exact ih h (by omega) a a0 q
    · rw [q]; omega
theorem q_s_all {C : Int → Int} {n : Int} (h0 : 0 ≤ n) (h : ∀ a, C a ≤ 1) (hs : n ≤ q_s C n) {a : Int} (a0 : 0 ≤ a) (a1 : a < n) : C a = 1 := q_S_all n.toNat h (by show _ ≤ q_s C n; omega) a a0 (by omega)
set_option maxHeartbeats 4000000 in
set_option maxRecDepth 100000 in
theorem l_behC {G : tp_G} {μ : tp_M} (hG : tp_Gf G = true) {c : Nat} {f : Int → Int} (hc : tp_SH c = .inl 0) (hcl : c < 37) (hw : tp_Cw f) (hCd : tp_Cd c f μ) {R : Int} (hR : q_st R) : ∀ k, k ≤ f 0 → ∀ (S : Int), 0 ≤ k → q_st S → (∀ a, 0 ≤ a → (q_bt S a = true ↔ (a < f 0 ∧ ∃ c, 0 ≤ c ∧ c < k ∧ q_bt R c = true ∧ f (9 + c) = 3 ∧ a = c + 1))) → tp_g G mX0_behindCalls 5 [some (tR (some c)), some (tL (R)), none, some (tL (S)), none, some (tI k)] [] μ (fun r μ' => ∃ S, r = some (tL S) ∧ q_st S ∧ (∀ a, 0 ≤ a → (q_bt S a = true ↔ (a < f 0 ∧ ∃ c, 0 ≤ c ∧ c < f 0 ∧ q_bt R c = true ∧ f (9 + c) = 3 ∧ a = c + 1))) ∧ μ' = μ) := by
  have hcn : c < 234 := by omega
  have hw0 := hw.1
  have he4 := hCd.1
  refine tp_ind _ ?_
  intro k hkN ih S h0 hS hB
  refine g_iload rfl rfl ?_
  refine g_aload_n rfl rfl ?_
  refine x_geti (v := (μ.1 c 4)) rfl hc hcn (Or.inl rfl) rfl ?_
  refine g_icmp_ge (tgt := 53) rfl (by decide) (fun h1 => ?_) (fun h1 => ?_)
  · refine g_lload_n rfl rfl ?_
    refine x_lreturn rfl rfl ?_
    exact ⟨S, rfl, hS, fun a h => by rw [hB a h, show k = f 0 by omega], rfl⟩
  · refine g_aload_n rfl rfl ?_
    refine g_iload rfl rfl ?_
    refine g_cV (as := [tI k]) (s_kindX hG hc hcl hw hCd (by omega) (by omega)) rfl rfl mX0_kindAt_ok rfl hc rfl hcn rfl rfl rfl ?_
    rintro _ w9 ⟨rfl, hw9⟩ _
    have hw9 := hw9.symm
    subst hw9
    refine g_iconst rfl ⟨by decide, by decide⟩ ?_
    refine g_icmp_ne (tgt := 47) rfl (by decide) (fun h2 => ?_) (fun h2 => ?_)
    · refine x_iinc (z := k + 1) rfl rfl (by omega) ⟨by omega, by omega⟩ rfl rfl ?_
      refine g_goto (tgt := 5) rfl (by decide) ?_
      exact ih (by omega) _ (by omega) hS (fun a h => by
        rw [hB a h]
        constructor
        · rintro ⟨z1, c9, c0, c1, z2⟩
          exact ⟨z1, c9, c0, by omega, z2⟩
        · rintro ⟨z1, c9, c0, c1, z2, z3, z4⟩
          rcases (show c9 < k ∨ c9 = k by omega) with t | t
          · exact ⟨z1, c9, c0, t, z2, z3, z4⟩
          · rw [t] at z2 z3
            first
              | exact absurd z3 (by omega)
              | (have hb := (q_lc_mem (L := R) (b := k) (by omega) (by omega)).1 (by assumption); rw [hb] at z2; cases z2))
    · refine g_lload_n rfl rfl ?_
      refine g_iload rfl rfl ?_
      refine g_cN (as := [tI k]) (s_memberI hG (by omega) (by omega)) rfl rfl mX11_member_ok rfl rfl rfl rfl ?_
      rintro _ w9 ⟨rfl, hw9⟩ _
      have hw9 := hw9.symm
      subst hw9
      refine g_land rfl ?_
      refine g_lconst (b := 0) rfl rfl ⟨by decide, by decide⟩ ?_
      refine g_lcmp rfl ?_
      refine g_if_eq (tgt := 47) rfl (by decide) (fun h3 => ?_) (fun h3 => ?_)
      · refine x_iinc (z := k + 1) rfl rfl (by omega) ⟨by omega, by omega⟩ rfl rfl ?_
        refine g_goto (tgt := 5) rfl (by decide) ?_
        exact ih (by omega) _ (by omega) hS (fun a h => by
          rw [hB a h]
          constructor
          · rintro ⟨z1, c9, c0, c1, z2⟩
            exact ⟨z1, c9, c0, by omega, z2⟩
          · rintro ⟨z1, c9, c0, c1, z2, z3, z4⟩
            rcases (show c9 < k ∨ c9 = k by omega) with t | t
            · exact ⟨z1, c9, c0, t, z2, z3, z4⟩
            · rw [t] at z2 z3
              first
                | exact absurd z3 (by omega)
                | (have hb := (q_lc_mem (L := R) (b := k) (by omega) (by omega)).1 (by assumption); rw [hb] at z2; cases z2))
      · refine g_lload_n rfl rfl ?_
        refine g_aload_n rfl rfl ?_
        refine g_iload rfl rfl ?_
        refine g_iconst rfl ⟨by decide, by decide⟩ ?_
        refine x_iadd (z := k + 1) rfl (by omega) ⟨by omega, by omega⟩ ?_
        refine g_cV (as := [tI (k + 1)]) (s_set hG hc hcl hw hCd) rfl rfl mX0_set_ok rfl hc rfl hcn rfl rfl rfl ?_
        rintro _ w9 ⟨rfl, hw9⟩ _
        have hw9 := hw9.symm
        subst hw9
        refine g_lor rfl ?_
        refine g_lstore_n rfl rfl rfl ?_
        refine x_iinc (z := k + 1) rfl rfl (by omega) ⟨by omega, by omega⟩ rfl rfl ?_
        refine g_goto (tgt := 5) rfl (by decide) ?_
        have hb := q_lc_t (L := R) (b := k) (by omega) (by omega) (by assumption)
        exact ih (by omega) _ (by omega) (q_st_or hS (q_sb_st _ _)) (fun a h => by
          rw [q_bt_or, Bool.or_eq_true, hB a h, q_sb_bt hw0.2 h]
          constructor
          · rintro (⟨z1, c9, c0, c1, z2⟩ | z)
            · exact ⟨z1, c9, c0, by omega, z2⟩
            · exact ⟨by omega, k, h0, by omega, hb, by omega, z.1⟩
          · rintro ⟨z1, c9, c0, c1, z2, z3, z4⟩
            rcases (show c9 < k ∨ c9 = k by omega) with t | t
            · exact Or.inl ⟨z1, c9, c0, t, z2, z3, z4⟩
            · rw [t] at z4; exact Or.inr ⟨z4, by omega⟩)
set_option maxHeartbeats 4000000 in
set_option maxRecDepth 100000 in
theorem s_behC {G : tp_G} {μ : tp_M} (hG : tp_Gf G = true) {c : Nat} {f : Int → Int} (hc : tp_SH c = .inl 0) (hcl : c < 37) (hw : tp_Cw f) (hCd : tp_Cd c f μ) {R : Int} (hR : q_st R) : tp_k G mX0_behindCalls [tR (some c), tL R] μ (fun r μ' => ∃ S, r = some (tL S) ∧ q_st S ∧ (∀ a, 0 ≤ a → (q_bt S a = true ↔ (a < f 0 ∧ ∃ c, 0 ≤ c ∧ c < f 0 ∧ q_bt R c = true ∧ f (9 + c) = 3 ∧ a = c + 1))) ∧ μ' = μ) := by
  refine tp_ok_of mX0_behindCalls_ok rfl (Nat.le_refl _) ?_
  have hcn : c < 234 := by omega
  have hw0 := hw.1
  have he4 := hCd.1
  refine g_lconst (b := 0) rfl rfl ⟨by decide, by decide⟩ ?_
  refine g_lstore_n rfl rfl rfl ?_
  refine g_iconst rfl ⟨by decide, by decide⟩ ?_
  refine g_istore rfl rfl rfl ?_
  exact l_behC hG hc hcl hw hCd hR 0 (by omega) 0 (by omega) q_st_0 (fun a h => by rw [q_bt_0]; exact ⟨fun z => (by cases z), fun ⟨_, c9, z1, z2, _⟩ => by omega⟩)
set_option maxHeartbeats 4000000 in
set_option maxRecDepth 100000 in
theorem s_ways {G : tp_G} {μ : tp_M} (hG : tp_Gf G = true) {c : Nat} {f : Int → Int} (hc : tp_SH c = .inl 0) (hcl : c < 37) (hw : tp_Cw f) (hCd : tp_Cd c f μ) {R : Int} (hR : q_st R) {a : Int} (h0 : 0 ≤ a) (h1 : a < f 0) : tp_k G mX0_waysFrom [tR (some c), tI a, tL R] μ (fun r μ' => ∃ S, r = some (tL S) ∧ q_st S ∧ (∀ b, 0 ≤ b → (q_bt S b = true ↔ (b < f 0 ∧ q_w f (fun x => q_bt R x = true) a b))) ∧ μ' = μ) := by
  refine tp_ok_of mX0_waysFrom_ok rfl (Nat.le_refl _) ?_
  have hcn : c < 234 := by omega
  have hw0 := hw.1
  have he4 := hCd.1
  have hka := (hw.2.1 a h0 h1).1
  refine g_aload_n rfl rfl ?_
  refine g_iload_n rfl rfl ?_
  refine g_cV (as := [tI a]) (s_kindX hG hc hcl hw hCd (by omega) (by omega)) rfl rfl mX0_kindAt_ok rfl hc rfl hcn rfl rfl rfl ?_
  rintro _ w9 ⟨rfl, hw9⟩ _
  have hw9 := hw9.symm
  subst hw9
  rcases (show (f (9 + a)) < 0 ∨ (f (9 + a)) = 0 ∨ (f (9 + a)) = 1 ∨ (f (9 + a)) = 2 ∨ (f (9 + a)) = 3 ∨ (f (9 + a)) = 4 ∨ (f (9 + a)) = 5 ∨ 5 < (f (9 + a)) by omega) with h1 | h1 | h1 | h1 | h1 | h1 | h1 | h1
  · omega
  · refine g_swIn (off := 39) (tgt := 44) rfl (by omega) (by omega) (by rw [show ((f (9 + a)) - 0).toNat = 0 by omega]; rfl) (by decide) ?_
    refine g_aload_n rfl rfl ?_
    refine g_iload_n rfl rfl ?_
    refine g_iconst rfl ⟨by decide, by decide⟩ ?_
    refine x_iadd (z := a + 1) rfl (by omega) ⟨by omega, by omega⟩ ?_
    refine g_cV (as := [tI (a + 1)]) (s_set hG hc hcl hw hCd) rfl rfl mX0_set_ok rfl hc rfl hcn rfl rfl rfl ?_
    rintro _ w9 ⟨rfl, hw9⟩ _
    have hw9 := hw9.symm
    subst hw9
    refine x_lreturn rfl rfl ?_
    exact ⟨_, rfl, q_sb_st _ _, fun b h => by rw [q_sb_bt hw0.2 h]; unfold q_w; constructor; (intro z; omega); (rintro ⟨z1, z | z | z | ⟨z, _⟩ | z⟩ <;> omega), rfl⟩
  · refine g_swIn (off := 47) (tgt := 52) rfl (by omega) (by omega) (by rw [show ((f (9 + a)) - 0).toNat = 1 by omega]; rfl) (by decide) ?_
    refine g_aload_n rfl rfl ?_
    refine g_iload_n rfl rfl ?_
    refine g_iconst rfl ⟨by decide, by decide⟩ ?_
    refine x_iadd (z := a + 1) rfl (by omega) ⟨by omega, by omega⟩ ?_
    refine g_cV (as := [tI (a + 1)]) (s_set hG hc hcl hw hCd) rfl rfl mX0_set_ok rfl hc rfl hcn rfl rfl rfl ?_
    rintro _ w9 ⟨rfl, hw9⟩ _
    have hw9 := hw9.symm
    subst hw9
    refine g_aload_n rfl rfl ?_
    refine g_aload_n rfl rfl ?_
    refine g_iload_n rfl rfl ?_
    refine g_cV (as := [tI a]) (s_targX hG hc hcl hw hCd (by omega) (by omega)) rfl rfl mX0_targetAt_ok rfl hc rfl hcn rfl rfl rfl ?_
    rintro _ w9 ⟨rfl, hw9⟩ _
    have hw9 := hw9.symm
    subst hw9
    refine g_cV (as := [tI (f (49 + a))]) (s_set hG hc hcl hw hCd) rfl rfl mX0_set_ok rfl hc rfl hcn rfl rfl rfl ?_
    rintro _ w9 ⟨rfl, hw9⟩ _
    have hw9 := hw9.symm
    subst hw9
    refine g_lor rfl ?_
    refine x_lreturn rfl rfl ?_
    exact ⟨_, rfl, q_st_or (q_sb_st _ _) (q_sb_st _ _), fun b h => by rw [q_bt_or, Bool.or_eq_true, q_sb_bt hw0.2 h, q_sb_bt hw0.2 h]; unfold q_w; constructor; (intro z; omega); (rintro ⟨z1, z | z | z | ⟨z, _⟩ | z⟩ <;> omega), rfl⟩
  · refine g_swIn (off := 65) (tgt := 70) rfl (by omega) (by omega) (by rw [show ((f (9 + a)) - 0).toNat = 2 by omega]; rfl) (by decide) ?_
    refine g_aload_n rfl rfl ?_
    refine g_aload_n rfl rfl ?_
    refine g_iload_n rfl rfl ?_
    refine g_cV (as := [tI a]) (s_targX hG hc hcl hw hCd (by omega) (by omega)) rfl rfl mX0_targetAt_ok rfl hc rfl hcn rfl rfl rfl ?_
    rintro _ w9 ⟨rfl, hw9⟩ _
    have hw9 := hw9.symm
    subst hw9
    refine g_cV (as := [tI (f (49 + a))]) (s_set hG hc hcl hw hCd) rfl rfl mX0_set_ok rfl hc rfl hcn rfl rfl rfl ?_
    rintro _ w9 ⟨rfl, hw9⟩ _
    have hw9 := hw9.symm
    subst hw9
    refine x_lreturn rfl rfl ?_
    exact ⟨_, rfl, q_sb_st _ _, fun b h => by rw [q_sb_bt hw0.2 h]; unfold q_w; constructor; (intro z; omega); (rintro ⟨z1, z | z | z | ⟨z, _⟩ | z⟩ <;> omega), rfl⟩
  · refine g_swIn (off := 65) (tgt := 70) rfl (by omega) (by omega) (by rw [show ((f (9 + a)) - 0).toNat = 3 by omega]; rfl) (by decide) ?_
    refine g_aload_n rfl rfl ?_
    refine g_aload_n rfl rfl ?_
    refine g_iload_n rfl rfl ?_
    refine g_cV (as := [tI a]) (s_targX hG hc hcl hw hCd (by omega) (by omega)) rfl rfl mX0_targetAt_ok rfl hc rfl hcn rfl rfl rfl ?_
    rintro _ w9 ⟨rfl, hw9⟩ _
    have hw9 := hw9.symm
    subst hw9
    refine g_cV (as := [tI (f (49 + a))]) (s_set hG hc hcl hw hCd) rfl rfl mX0_set_ok rfl hc rfl hcn rfl rfl rfl ?_
    rintro _ w9 ⟨rfl, hw9⟩ _
    have hw9 := hw9.symm
    subst hw9
    refine x_lreturn rfl rfl ?_
    exact ⟨_, rfl, q_sb_st _ _, fun b h => by rw [q_sb_bt hw0.2 h]; unfold q_w; constructor; (intro z; omega); (rintro ⟨z1, z | z | z | ⟨z, _⟩ | z⟩ <;> omega), rfl⟩
  · refine g_swIn (off := 75) (tgt := 80) rfl (by omega) (by omega) (by rw [show ((f (9 + a)) - 0).toNat = 4 by omega]; rfl) (by decide) ?_
    refine g_aload_n rfl rfl ?_
    refine g_lload_n rfl rfl ?_
    refine g_cV (as := [tL (R)]) (s_behC hG hc hcl hw hCd hR) rfl rfl mX0_behindCalls_ok rfl hc rfl hcn rfl rfl rfl ?_
    rintro _ w9 ⟨S1, rfl, hS1, hB1, hw9⟩ _
    have hw9 := hw9.symm
    subst hw9
    refine x_lreturn rfl rfl ?_
    exact ⟨_, rfl, hS1, fun b h => by
      rw [hB1 b h]
      constructor
      · rintro ⟨z1, z2⟩
        exact ⟨z1, Or.inr (Or.inr (Or.inr (Or.inl ⟨by omega, z2⟩)))⟩
      · rintro ⟨z1, z2⟩
        refine ⟨z1, ?_⟩
        rcases z2 with z | z | z | z | z
        · omega
        · omega
        · omega
        · exact z.2
        · omega, rfl⟩
  · refine g_swIn (off := 81) (tgt := 86) rfl (by omega) (by omega) (by rw [show ((f (9 + a)) - 0).toNat = 5 by omega]; rfl) (by decide) ?_
    refine g_aload_n rfl rfl ?_
    refine g_cV (as := []) (s_all hG hc hcl hw hCd) rfl rfl mX0_all_ok rfl hc rfl hcn rfl rfl rfl ?_
    rintro _ w9 ⟨S2, rfl, hS2, hB2, hw9⟩ _
    have hw9 := hw9.symm
    subst hw9
    refine x_lreturn rfl rfl ?_
    exact ⟨_, rfl, hS2, fun b h => by rw [hB2 b h]; exact ⟨fun z => ⟨z, Or.inr (Or.inr (Or.inr (Or.inr (by omega))))⟩, fun z => z.1⟩, rfl⟩
  · refine g_swOut (tgt := 91) rfl (by omega) (by decide) ?_
    refine g_lconst (b := 0) rfl rfl ⟨by decide, by decide⟩ ?_
    refine x_lreturn rfl rfl ?_
    exact ⟨_, rfl, q_st_0, fun b h => by rw [q_bt_0]; exact ⟨fun z => (by cases z), fun z => by have z2 := z.2; unfold q_w at z2; omega⟩, rfl⟩
set_option maxHeartbeats 4000000 in
set_option maxRecDepth 100000 in
theorem l_unr {G : tp_G} {μ : tp_M} (hG : tp_Gf G = true) {c : Nat} {f : Int → Int} (hc : tp_SH c = .inl 0) (hcl : c < 37) (hw : tp_Cw f) (hCd : tp_Cd c f μ) {R : Int} (hR : q_st R) {r : Int} {Φ : Option tp_V → tp_M → Prop} (hΦ : ∀ S k, q_st S → (∀ a, 0 ≤ a → (q_bt S a = true ↔ (q_bt R a = true ∨ (a < f 0 ∧ ∃ b, 0 ≤ b ∧ b < f 0 ∧ q_bt R b = true ∧ q_w f (fun x => q_bt R x = true) b a)))) → tp_g G mX0_unreached 59 [some (tR (some c)), some (tL (R)), none, some (tI r), some (tL (S)), none, some (tI k)] [] μ Φ) : ∀ k, k ≤ f 0 → ∀ (S : Int), 0 ≤ k → q_st S → (∀ a, 0 ≤ a → (q_bt S a = true ↔ (q_bt R a = true ∨ (a < f 0 ∧ ∃ b, 0 ≤ b ∧ b < k ∧ q_bt R b = true ∧ q_w f (fun x => q_bt R x = true) b a)))) → tp_g G mX0_unreached 20 [some (tR (some c)), some (tL (R)), none, some (tI r), some (tL (S)), none, some (tI k)] [] μ Φ := by
  have hcn : c < 234 := by omega
  have hw0 := hw.1
  have he4 := hCd.1
  refine tp_ind _ ?_
  intro k hkN ih S h0 hS hB
  refine g_iload rfl rfl ?_
  refine g_aload_n rfl rfl ?_
  refine x_geti (v := (μ.1 c 4)) rfl hc hcn (Or.inl rfl) rfl ?_
  refine g_icmp_ge (tgt := 59) rfl (by decide) (fun h1 => ?_) (fun h1 => ?_)
  · exact hΦ _ _ hS (fun a h => by rw [hB a h, show k = f 0 by omega])
  · refine g_lload_n rfl rfl ?_
    refine g_iload rfl rfl ?_
    refine g_cN (as := [tI k]) (s_memberI hG (by omega) (by omega)) rfl rfl mX11_member_ok rfl rfl rfl rfl ?_
    rintro _ w9 ⟨rfl, hw9⟩ _
    have hw9 := hw9.symm
    subst hw9
    refine g_land rfl ?_
    refine g_lconst (b := 0) rfl rfl ⟨by decide, by decide⟩ ?_
    refine g_lcmp rfl ?_
    refine g_if_eq (tgt := 53) rfl (by decide) (fun h2 => ?_) (fun h2 => ?_)
    · refine x_iinc (z := k + 1) rfl rfl (by omega) ⟨by omega, by omega⟩ rfl rfl ?_
      refine g_goto (tgt := 20) rfl (by decide) ?_
      have hb := (q_lc_mem (L := R) (b := k) (by omega) (by omega)).1 (by assumption)
      exact ih (by omega) _ (by omega) hS (fun a h => by
        rw [hB a h]
        constructor
        · rintro (z | ⟨z1, b, b0, b1, z2⟩)
          · exact Or.inl z
          · exact Or.inr ⟨z1, b, b0, by omega, z2⟩
        · rintro (z | ⟨z1, b, b0, b1, z2, z3⟩)
          · exact Or.inl z
          · rcases (show b < k ∨ b = k by omega) with t | t
            · exact Or.inr ⟨z1, b, b0, t, z2, z3⟩
            · rw [t, hb] at z2; cases z2)
    · refine g_lload rfl rfl ?_
      refine g_aload_n rfl rfl ?_
      refine g_iload rfl rfl ?_
      refine g_lload_n rfl rfl ?_
      refine g_cV (as := [tI k, tL (R)]) (s_ways hG hc hcl hw hCd hR (by omega) (by omega)) rfl rfl mX0_waysFrom_ok rfl hc rfl hcn rfl rfl rfl ?_
      rintro _ w9 ⟨S1, rfl, hS1, hB1, hw9⟩ _
      have hw9 := hw9.symm
      subst hw9
      refine g_lor rfl ?_
      refine g_lstore rfl rfl rfl ?_
      refine x_iinc (z := k + 1) rfl rfl (by omega) ⟨by omega, by omega⟩ rfl rfl ?_
      refine g_goto (tgt := 20) rfl (by decide) ?_
      have hb := q_lc_t (L := R) (b := k) (by omega) (by omega) (by assumption)
      exact ih (by omega) _ (by omega) (q_st_or hS hS1) (fun a h => by
        rw [q_bt_or, Bool.or_eq_true, hB a h, hB1 a h]
        constructor
        · rintro ((z | ⟨z1, b, b0, b1, z2⟩) | z)
          · exact Or.inl z
          · exact Or.inr ⟨z1, b, b0, by omega, z2⟩
          · exact Or.inr ⟨z.1, k, h0, by omega, hb, z.2⟩
        · rintro (z | ⟨z1, b, b0, b1, z2, z3⟩)
          · exact Or.inl (Or.inl z)
          · rcases (show b < k ∨ b = k by omega) with t | t
            · exact Or.inl (Or.inr ⟨z1, b, b0, t, z2, z3⟩)
            · rw [t] at z3; exact Or.inr ⟨z1, z3⟩)
/-- one of more is counted more -/
theorem q_in_more {R S : Int} (hR : q_st R) (hS : q_st S) (h : ∀ a, 0 ≤ a → q_bt R a = true → q_bt S a = true) (hn : S ≠ R) : q_s (q_in R) 40 + 1 ≤ q_s (q_in S) 40 := by
  have hx : ∃ a, 0 ≤ a ∧ a < 40 ∧ q_bt R a = false ∧ q_bt S a = true := by
    refine Classical.byContradiction (fun hq => hn (q_bt_ext hS.1 hR.1 (fun a a0 a1 => ?_)))
    rcases hr : q_bt R a with _ | _
    · rcases hs : q_bt S a with _ | _
      · rfl
      · refine absurd ⟨a, a0, ?_, hr, hs⟩ hq
        rcases (show a < 40 ∨ 40 ≤ a by omega) with t | t
        · exact t
        · rw [hS.2 a t] at hs; cases hs
    · exact h a a0 hr
  obtain ⟨a, a0, a1, a2, a3⟩ := hx
  refine q_s_lt (h := a) (fun j j0 j1 => ?_) a0 a1 ?_
  · by_cases q : q_bt R j = true
    · rw [q_in_1 q, q_in_1 (h j j0 q)]; exact Int.le_refl _
    · rw [q_in_0 (q_bt_f q)]; exact (q_in_b S j).1
  · rw [q_in_0 a2, q_in_1 a3]; decide
/-- what is left of all, once nothing more is reached -/
theorem q_unr_end {f : Int → Int} (hf : f 0 ≤ 40) {R S2 : Int} (hi : (∀ a, 0 ≤ a → q_bt R a = true → (a < f 0 ∧ q_re f a))) (hc : q_cl f (fun x => q_bt R x = true)) (hB2 : ∀ a, 0 ≤ a → (q_bt S2 a = true ↔ a < f 0)) {a : Int} (h : 0 ≤ a) : q_bt (tp_Land S2 (tp_Lxor R (-1))) a = true ↔ (a < f 0 ∧ ¬ q_re f a) := by
  rw [q_bt_and, Bool.and_eq_true, hB2 a h, q_bt_xor]
  constructor
  · rintro ⟨z1, z2⟩
    refine ⟨z1, fun z => ?_⟩
    have := (q_re_eq (fun a a0 a1 q => (hi a a0 q).2) hc h z1).2 z
    have this : q_bt R a = true := this
    rw [this, q_bt_m1 h (by omega)] at z2
    cases z2
  · rintro ⟨z1, z2⟩
    refine ⟨z1, ?_⟩
    rw [q_bt_f (fun q => z2 (hi a h q).2), q_bt_m1 h (by omega)]
    rfl
set_option maxHeartbeats 4000000 in
set_option maxRecDepth 100000 in
theorem l_unr8 {G : tp_G} {μ : tp_M} (hG : tp_Gf G = true) {c : Nat} {f : Int → Int} (hc : tp_SH c = .inl 0) (hcl : c < 37) (hw : tp_Cw f) (hCd : tp_Cd c f μ) : ∀ k, k ≤ 40 → ∀ (R : Int) (x4 x5 x6 : Option tp_V), 0 ≤ k → q_st R → (∀ a, 0 ≤ a → q_bt R a = true → (a < f 0 ∧ q_re f a)) → (0 < f 0 → q_bt R 0 = true) → k ≤ q_s (q_in R) 40 → tp_g G mX0_unreached 8 [some (tR (some c)), some (tL (R)), none, some (tI k), x4, x5, x6] [] μ (fun r μ' => ∃ S, r = some (tL S) ∧ q_st S ∧ (∀ a, 0 ≤ a → (q_bt S a = true ↔ (a < f 0 ∧ ¬ q_re f a))) ∧ μ' = μ) := by
  have hcn : c < 234 := by omega
  have hw0 := hw.1
  have he4 := hCd.1
  refine tp_ind _ ?_
  intro k hkN ih R x4 x5 x6 h0 hSt hi hz0 hcn8
  refine g_iload_n rfl rfl ?_
  refine g_bipush rfl ⟨by decide, by decide⟩ (by decide) ?_
  refine g_icmp_ge (tgt := 78) rfl (by decide) (fun h1 => ?_) (fun h1 => ?_)
  · refine g_aload_n rfl rfl ?_
    refine g_cV (as := []) (s_all hG hc hcl hw hCd) rfl rfl mX0_all_ok rfl hc rfl hcn rfl rfl rfl ?_
    rintro _ w9 ⟨S2, rfl, hS2, hB2, hw9⟩ _
    have hw9 := hw9.symm
    subst hw9
    refine g_lload_n rfl rfl ?_
    refine g_ldc2 (z := -1) rfl rfl ⟨by decide, by decide⟩ ?_
    refine g_lxor rfl ?_
    refine g_land rfl ?_
    refine x_lreturn rfl rfl ?_
    have hcl9 : q_cl f (fun x => q_bt R x = true) := ⟨hz0, fun a b a0 a1 b0 b1 ha hab => by
      have z := q_s_all (C := q_in R) (n := 40) (by omega) (fun a => (q_in_b R a).2) (by omega) (a := b) b0 (by omega)
      rcases hq : q_bt R b with _ | _
      · rw [q_in_0 hq] at z; omega
      · exact hq⟩
    exact ⟨_, rfl, q_st_and hS2, fun a h => q_unr_end hw0.2 hi hcl9 hB2 h, rfl⟩
  · refine g_lload_n rfl rfl ?_
    refine g_lstore rfl rfl rfl ?_
    refine g_iconst rfl ⟨by decide, by decide⟩ ?_
    refine g_istore rfl rfl rfl ?_
    refine l_unr hG hc hcl hw hCd hSt (fun S k6 hS hB => ?_) 0 (by omega) _ (by omega) hSt (fun a h => ⟨fun z => Or.inl z, fun z => by rcases z with z | ⟨_, b, z1, z2, _⟩; exact z; omega⟩)
    refine g_lload rfl rfl ?_
    refine g_lload_n rfl rfl ?_
    refine g_lcmp rfl ?_
    refine g_if_ne (tgt := 69) rfl (by decide) (fun h2 => ?_) (fun h2 => ?_)
    · refine g_lload rfl rfl ?_
      refine g_lstore_n rfl rfl rfl ?_
      refine x_iinc (z := k + 1) rfl rfl (by omega) ⟨by omega, by omega⟩ rfl rfl ?_
      refine g_goto (tgt := 8) rfl (by decide) ?_
      have hne : S ≠ R := fun z => absurd (q_lc_eq.2 z) (by assumption)
      have hsub : ∀ a, 0 ≤ a → q_bt R a = true → q_bt S a = true := fun a a0 z => (hB a a0).2 (Or.inl z)
      have hmore := q_in_more hSt hS hsub hne
      exact ih (by omega) _ _ _ _ (by omega) hS (fun a a0 z => by
        rcases (hB a a0).1 z with z | ⟨z1, b, b0, b1, z2, z3⟩
        · exact hi a a0 z
        · exact ⟨z1, (q_re_cl f).2 b a b0 b1 a0 z1 (hi b b0 z2).2 (q_w_mono (fun c9 d0 d1 d2 => (hi c9 d0 d2).2) z3)⟩) (fun z => hsub 0 (by omega) (hz0 z)) (by omega)
    · refine g_goto (tgt := 78) rfl (by decide) ?_
      refine g_aload_n rfl rfl ?_
      refine g_cV (as := []) (s_all hG hc hcl hw hCd) rfl rfl mX0_all_ok rfl hc rfl hcn rfl rfl rfl ?_
      rintro _ w9 ⟨S2, rfl, hS2, hB2, hw9⟩ _
      have hw9 := hw9.symm
      subst hw9
      refine g_lload_n rfl rfl ?_
      refine g_ldc2 (z := -1) rfl rfl ⟨by decide, by decide⟩ ?_
      refine g_lxor rfl ?_
      refine g_land rfl ?_
      refine x_lreturn rfl rfl ?_
      have hSR : S = R := q_lc_eq.1 (by assumption)
      have hcl9 : q_cl f (fun x => q_bt R x = true) := ⟨hz0, fun a b a0 a1 b0 b1 ha hab => by
        have z := (hB b b0).2 (Or.inr ⟨b1, a, a0, a1, ha, hab⟩)
        rw [hSR] at z
        exact z⟩
      exact ⟨_, rfl, q_st_and hS2, fun a h => q_unr_end hw0.2 hi hcl9 hB2 h, rfl⟩
set_option maxHeartbeats 4000000 in
set_option maxRecDepth 100000 in
theorem s_unr {G : tp_G} {μ : tp_M} (hG : tp_Gf G = true) {c : Nat} {f : Int → Int} (hc : tp_SH c = .inl 0) (hcl : c < 37) (hw : tp_Cw f) (hCd : tp_Cd c f μ) : tp_k G mX0_unreached [tR (some c)] μ (fun r μ' => ∃ S, r = some (tL S) ∧ q_st S ∧ (∀ a, 0 ≤ a → (q_bt S a = true ↔ (a < f 0 ∧ ¬ q_re f a))) ∧ μ' = μ) := by
  refine tp_ok_of mX0_unreached_ok rfl (Nat.le_refl _) ?_
  have hcn : c < 234 := by omega
  have hw0 := hw.1
  have he4 := hCd.1
  refine g_aload_n rfl rfl ?_
  refine g_iconst rfl ⟨by decide, by decide⟩ ?_
  refine g_cV (as := [tI 0]) (s_set hG hc hcl hw hCd) rfl rfl mX0_set_ok rfl hc rfl hcn rfl rfl rfl ?_
  rintro _ w9 ⟨rfl, hw9⟩ _
  have hw9 := hw9.symm
  subst hw9
  refine g_lstore_n rfl rfl rfl ?_
  refine g_iconst rfl ⟨by decide, by decide⟩ ?_
  refine g_istore_n rfl rfl rfl ?_
  exact l_unr8 hG hc hcl hw hCd 0 (by omega) _ _ _ _ (by omega) (q_sb_st _ _) (fun a a0 z => by rw [q_sb_bt hw0.2 a0] at z; exact ⟨by omega, by rw [z.1]; exact (q_re_cl f).1 (by omega)⟩) (fun z => (q_sb_bt hw0.2 (by omega)).2 ⟨rfl, z⟩) (q_s_B (by omega) (q_in_b _)).1
