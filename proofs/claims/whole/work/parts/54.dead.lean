noncomputable def q_dd (f : Int → Int) (a : Int) : Int := @ite Int (a < f 0 ∧ ¬ q_re f a) (Classical.propDecidable _) 1 0
theorem q_dd_1 {f : Int → Int} {a : Int} (h : a < f 0 ∧ ¬ q_re f a) : q_dd f a = 1 := if_pos h
theorem q_dd_0 {f : Int → Int} {a : Int} (h : ¬ (a < f 0 ∧ ¬ q_re f a)) : q_dd f a = 0 := if_neg h
theorem q_dd_b (f : Int → Int) (a : Int) : 0 ≤ q_dd f a ∧ q_dd f a ≤ 1 := by
  by_cases h : a < f 0 ∧ ¬ q_re f a
  · rw [q_dd_1 h]; omega
  · rw [q_dd_0 h]; omega
theorem q_v_mono {f : Int → Int} {S T : Int → Prop} {a b : Int} (h : ∀ c, 0 ≤ c → c < f 0 → S c → T c) (q : q_v f S a b) : q_v f T a b := by
  rcases q with ⟨q | q | ⟨q, r, r0, r1, r2, r3⟩, e⟩ | q | q
  · exact Or.inl ⟨Or.inl q, e⟩
  · exact Or.inl ⟨Or.inr (Or.inl q), e⟩
  · exact Or.inl ⟨Or.inr (Or.inr ⟨q, r, r0, r1, h r r0 r1 r2, r3⟩), e⟩
  · exact Or.inr (Or.inl q)
  · exact Or.inr (Or.inr q)
/-- nothing came in a pass that ends without more -/
theorem q_dI_no {f : Int → Int} {μ0 μ μ' : tp_M} (h : q_dI f μ0 μ) (h' : q_dI f μ0 μ') (hq : μ'.1 201 69 = 0) (hs : q_dS μ μ') : μ.1 201 69 = 0 := by
  rcases h.2.2.2.1 with q | ⟨_, b, b0, b1, q1, q2⟩
  · exact q.1
  · have e := hs b b0 b1 q2
    rcases h'.2.2.2.1 with t | t
    · have := t.2 b b0 b1; omega
    · omega
set_option maxHeartbeats 4000000 in
set_option maxRecDepth 100000 in
theorem l_ddF {G : tp_G} {μ : tp_M} (hG : tp_Gf G = true) {ck : Int} {f : Int → Int} (hw : tp_Cw f) (hMc : tp_Mc ck f μ) {q : Int} {x1 : Option tp_V} (hC : ∀ a, 0 ≤ a → a < f 0 → μ.1 230 a = 1 - q_dd f a) : ∀ k, k ≤ f 0 → ∀ (h : Int), 0 ≤ k → h = q_s (q_dd f) k → (∀ a, 0 ≤ a → a < k → q_dd f a = 1 → q_s (q_dd f) a ≠ q) → tp_g G mX12_dead 96 [some (tR (some 201)), x1, some (tI q), some (tI h), some (tI k)] [] μ (fun r μ' => ∃ v, r = some (tI v) ∧ q_sel (q_dd f) (f 0) q v ∧ μ' = μ) := by
  have hw0 := hw.1
  have hall := hMc.2.2.1
  refine tp_ind _ ?_
  intro k hkN ih h h0 hs hz
  have hsb := q_s_B (F := q_dd f) (k := k) (by omega) (q_dd_b f)
  rw [← hs] at hsb
  have hCk := fun z => hC k h0 z
  have hdb := q_dd_b f k
  refine g_iload rfl rfl ?_
  refine g_aload_n rfl rfl ?_
  refine x_geti (v := (μ.1 201 26)) rfl rfl (by decide) (Or.inl rfl) rfl ?_
  refine g_icmp_ge (tgt := 147) rfl (by decide) (fun h1 => ?_) (fun h1 => ?_)
  · refine g_iload_n rfl rfl ?_
    refine g_iconst rfl ⟨by decide, by decide⟩ ?_
    refine g_icmp_ne (tgt := 156) rfl (by decide) (fun h2 => ?_) (fun h2 => ?_)
    · refine g_iconst rfl ⟨by decide, by decide⟩ ?_
      refine x_ireturn rfl rfl ?_
      exact ⟨_, rfl, Or.inr ⟨by omega, Or.inr ⟨rfl, fun a g0 g1 g2 => hz a g0 (by omega) g2⟩⟩, rfl⟩
    · refine g_iload_n rfl rfl ?_
      refine g_goto (tgt := 157) rfl (by decide) ?_
      refine x_ireturn rfl rfl ?_
      exact ⟨_, rfl, Or.inl ⟨by omega, by rw [show f 0 = k by omega]; exact hs⟩, rfl⟩
  · refine g_aload_n rfl rfl ?_
    refine x_getF (r := 230) hG rfl rfl (by decide) (Or.inr ⟨_, rfl⟩) rfl ?_
    refine g_iload rfl rfl ?_
    refine g_zald rfl rfl (by decide) (by omega) (by omega) ?_
    refine g_if_ne (tgt := 123) rfl (by decide) (fun h3 => ?_) (fun h3 => ?_)
    · refine g_iload_n rfl rfl ?_
      refine g_aload_n rfl rfl ?_
      refine x_getF (r := 230) hG rfl rfl (by decide) (Or.inr ⟨_, rfl⟩) rfl ?_
      refine g_iload rfl rfl ?_
      refine g_zald rfl rfl (by decide) (by omega) (by omega) ?_
      refine g_if_eq (tgt := 138) rfl (by decide) (fun h4 => ?_) (fun h4 => ?_)
      · refine g_iconst rfl ⟨by decide, by decide⟩ ?_
        refine x_iadd (z := h + 1) rfl (by omega) ⟨by omega, by omega⟩ ?_
        refine g_istore_n rfl rfl rfl ?_
        refine x_iinc (z := k + 1) rfl rfl (by omega) ⟨by omega, by omega⟩ rfl rfl ?_
        refine g_goto (tgt := 96) rfl (by decide) ?_
        exact ih (by omega) _ (by omega) (by rw [q_s1 (by omega)]; omega) (fun a g0 g1 g2 => by rcases (show a < k ∨ a = k by omega) with t | t; exact hz a g0 t g2; (rw [t] at g2 ⊢; omega))
      · refine g_iconst rfl ⟨by decide, by decide⟩ ?_
        refine g_goto (tgt := 139) rfl (by decide) ?_
        refine x_iadd (z := h) rfl (by omega) ⟨by omega, by omega⟩ ?_
        refine g_istore_n rfl rfl rfl ?_
        refine x_iinc (z := k + 1) rfl rfl (by omega) ⟨by omega, by omega⟩ rfl rfl ?_
        refine g_goto (tgt := 96) rfl (by decide) ?_
        exact ih (by omega) _ (by omega) (by rw [q_s1 (by omega)]; omega) (fun a g0 g1 g2 => by rcases (show a < k ∨ a = k by omega) with t | t; exact hz a g0 t g2; (rw [t] at g2 ⊢; omega))
    · refine g_iload_n rfl rfl ?_
      refine g_iload_n rfl rfl ?_
      refine g_icmp_ne (tgt := 123) rfl (by decide) (fun h5 => ?_) (fun h5 => ?_)
      · refine g_iload_n rfl rfl ?_
        refine g_aload_n rfl rfl ?_
        refine x_getF (r := 230) hG rfl rfl (by decide) (Or.inr ⟨_, rfl⟩) rfl ?_
        refine g_iload rfl rfl ?_
        refine g_zald rfl rfl (by decide) (by omega) (by omega) ?_
        refine g_if_eq (tgt := 138) rfl (by decide) (fun _ => ?_) (fun hx => absurd hx (by omega))
        refine g_iconst rfl ⟨by decide, by decide⟩ ?_
        refine x_iadd (z := h + 1) rfl (by omega) ⟨by omega, by omega⟩ ?_
        refine g_istore_n rfl rfl rfl ?_
        refine x_iinc (z := k + 1) rfl rfl (by omega) ⟨by omega, by omega⟩ rfl rfl ?_
        refine g_goto (tgt := 96) rfl (by decide) ?_
        exact ih (by omega) _ (by omega) (by rw [q_s1 (by omega)]; omega) (fun a g0 g1 g2 => by rcases (show a < k ∨ a = k by omega) with t | t; exact hz a g0 t g2; (rw [t] at g2 ⊢; omega))
      · refine g_iload rfl rfl ?_
        refine x_ireturn rfl rfl ?_
        exact ⟨_, rfl, Or.inr ⟨by omega, Or.inl ⟨⟨by omega, by omega⟩, by omega, by omega⟩⟩, rfl⟩
set_option maxHeartbeats 4000000 in
set_option maxRecDepth 100000 in
theorem l_pass {G : tp_G} (hG : tp_Gf G = true) {ck : Int} {f : Int → Int} {μ0 : tp_M} (hw : tp_Cw f) (hM0 : tp_Mc ck f μ0) (h01 : ∀ b, 0 ≤ b → b < 40 → μ0.1 230 b = 0 ∨ μ0.1 230 b = 1) {q : Int} {x1 : Option tp_V} {Φ : Option tp_V → tp_M → Prop} (hΦ : ∀ μ k, q_dI f μ0 μ → (μ.1 201 69 = 0 → ∀ a, 0 ≤ a → a < f 0 → μ.1 230 a = 1 → ∀ b, 0 ≤ b → b < f 0 → q_v f (fun x => (0 ≤ x ∧ x < 40) ∧ μ.1 230 x = 1) a b → μ.1 230 b = 1) → tp_g G mX12_dead 88 [some (tR (some 201)), x1, some (tI q), some (tI k), none] [] μ Φ) : ∀ k, k ≤ f 0 → ∀ (μ : tp_M), 0 ≤ k → q_dI f μ0 μ → (μ.1 201 69 = 0 → ∀ a, 0 ≤ a → a < k → μ.1 230 a = 1 → ∀ b, 0 ≤ b → b < f 0 → q_v f (fun x => (0 ≤ x ∧ x < 40) ∧ μ.1 230 x = 1) a b → μ.1 230 b = 1) → tp_g G mX12_dead 60 [some (tR (some 201)), x1, some (tI q), some (tI k), none] [] μ Φ := by
  refine tp_ind _ ?_
  intro k hkN ih μ h0 hI hz
  have hw0 := hw.1
  have hMc := q_dF_Mc hI.2.2.2.2 hM0
  have hall := hMc.2.2.1
  refine g_iload_n rfl rfl ?_
  refine g_aload_n rfl rfl ?_
  refine x_geti (v := (μ.1 201 26)) rfl rfl (by decide) (Or.inl rfl) rfl ?_
  refine g_icmp_ge (tgt := 88) rfl (by decide) (fun h1 => ?_) (fun h1 => ?_)
  · exact hΦ _ _ hI (fun g a a0 a1 => hz g a a0 (by omega))
  · refine g_aload_n rfl rfl ?_
    refine x_getF (r := 230) hG rfl rfl (by decide) (Or.inr ⟨_, rfl⟩) rfl ?_
    refine g_iload_n rfl rfl ?_
    refine g_zald rfl rfl (by decide) (by omega) (by omega) ?_
    refine g_if_eq (tgt := 82) rfl (by decide) (fun h2 => ?_) (fun h2 => ?_)
    · refine x_iinc (z := k + 1) rfl rfl (by omega) ⟨by omega, by omega⟩ rfl rfl ?_
      refine g_goto (tgt := 60) rfl (by decide) ?_
      exact ih (by omega) _ (by omega) hI (fun g a a0 a1 a2 => by rcases (show a < k ∨ a = k by omega) with t | t; exact hz g a a0 t a2; (rw [t] at a2; omega))
    · refine g_aload_n rfl rfl ?_
      refine g_iload_n rfl rfl ?_
      refine g_cV (as := [tI k]) (s_leads hG hw hM0 h01 h0 (by omega) hI (hI.1 k h0 (by omega) (by have := hI.2.1 k h0 (by omega); omega)).2) rfl rfl mX12_leadsOn_ok rfl rfl rfl (by decide) rfl rfl rfl ?_
      rintro _ w9 ⟨rfl, hI9, hS9, hC9⟩ _
      refine x_iinc (z := k + 1) rfl rfl (by omega) ⟨by omega, by omega⟩ rfl rfl ?_
      refine g_goto (tgt := 60) rfl (by decide) ?_
      exact ih (by omega) _ (by omega) hI9 (fun g a a0 a1 a2 b b0 b1 hv => by
        have g0 := q_dI_no hI hI9 g hS9
        rcases (show a < k ∨ a = k by omega) with t | t
        · have sm : ∀ b, 0 ≤ b → b < 40 → μ.1 230 b = w9.1 230 b := fun b b0 b1 => q_dI_same hI hI9 g hS9 b0 b1
          exact hS9 b b0 (by omega) (hz g0 a a0 t (by rw [sm a a0 (by omega)]; exact a2) b b0 b1 (q_v_mono (fun c9 z0 z1 z2 => ⟨z2.1, by rw [sm c9 z2.1.1 z2.1.2]; exact z2.2⟩) hv))
        · rw [t] at hv; exact hC9 g b b0 b1 hv)
theorem q_dd_in {f : Int → Int} {μ : tp_M} (hf : f 0 ≤ 40) (h1 : ∀ b, 0 ≤ b → b < 40 → μ.1 230 b = 1 → b < f 0 ∧ q_re f b) (h2 : ∀ b, 0 ≤ b → b < 40 → μ.1 230 b = 0 ∨ μ.1 230 b = 1) (hc : q_cl f (fun x => (0 ≤ x ∧ x < 40) ∧ μ.1 230 x = 1)) {a : Int} (a0 : 0 ≤ a) (a1 : a < f 0) : μ.1 230 a = 1 - q_dd f a := by
  have e := q_re_eq (S := (fun x => (0 ≤ x ∧ x < 40) ∧ μ.1 230 x = 1)) (fun b b0 b1 z => (h1 b b0 (by omega) z.2).2) hc a0 a1
  rcases h2 a a0 (by omega) with q | q
  · rw [q, q_dd_1 ⟨a1, fun z => by have := (e.2 z).2; have t : μ.1 230 a = 1 := this; omega⟩]; rfl
  · rw [q, q_dd_0 (fun z => z.2 (e.1 ⟨⟨a0, by omega⟩, q⟩))]; rfl
set_option maxHeartbeats 4000000 in
set_option maxRecDepth 100000 in
theorem l_ddE {G : tp_G} {μ : tp_M} (hG : tp_Gf G = true) {ck : Int} {f : Int → Int} {μz : tp_M} (hw : tp_Cw f) (hMz : tp_Mc ck f μz) {q : Int} {x1 : Option tp_V} {x3 : Option tp_V} (hH : ((∀ b, 0 ≤ b → b < 40 → μ.1 230 b = 1 → b < f 0 ∧ q_re f b) ∧ (∀ b, 0 ≤ b → b < 40 → μ.1 230 b = 0 ∨ μ.1 230 b = 1) ∧ (0 < f 0 → μ.1 230 0 = 1) ∧ q_dF μz μ)) (hm : μ.1 201 69 = 0) (hcl9 : q_cl f (fun x => (0 ≤ x ∧ x < 40) ∧ μ.1 230 x = 1)) : tp_g G mX12_dead 46 [some (tR (some 201)), x1, some (tI q), x3, none] [] μ (fun r μ' => ∃ v, r = some (tI v) ∧ q_sel (q_dd f) (f 0) q v ∧ q_dF μz μ') := by
  have hw0 := hw.1
  have hMc := q_dF_Mc hH.2.2.2 hMz
  refine g_aload_n rfl rfl ?_
  refine x_geti (v := (μ.1 201 69)) rfl rfl (by decide) (Or.inr (Or.inl rfl)) rfl ?_
  refine g_if_eq (tgt := 91) rfl (by decide) (fun _ => ?_) (fun hx => absurd hx (by omega))
  refine g_iconst rfl ⟨by decide, by decide⟩ ?_
  refine g_istore_n rfl rfl rfl ?_
  refine g_iconst rfl ⟨by decide, by decide⟩ ?_
  refine g_istore rfl rfl rfl ?_
  refine tp_conseq (fun r9 μ8 q8 => ?_) (l_ddF hG hw hMc (fun a a0 a1 => q_dd_in hw0.2 hH.1 hH.2.1 hcl9 a0 a1) 0 (by omega) 0 (by omega) rfl (fun a g0 g1 => by omega))
  obtain ⟨v, rfl, hq, e8⟩ := q8
  have e8 := e8.symm
  subst e8
  exact ⟨v, rfl, hq, hH.2.2.2⟩
theorem q_S_all1 {C : Int → Int} : ∀ n : Nat, (∀ a, 0 ≤ a → a < (n : Int) → C a ≤ 1) → (n : Int) ≤ q_S C n → ∀ a, 0 ≤ a → a < (n : Int) → C a = 1 := by
  intro n
  induction n with
  | zero => intro _ _ a a0 a1; omega
  | succ n ih =>
    intro h hs a a0 a1
    have e : q_S C (n + 1) = q_S C n + C n := rfl
    have hn := h n (by omega) (by omega)
    have hle : q_S C n ≤ n := by
      have := q_S_le (F := C) (F' := fun _ => 1) n (fun j j0 j1 => h j j0 (by omega))
      have e1 : q_S (fun _ => 1) n = (n : Int) := by
        clear ih hs e hn this h a1
        induction n with
        | zero => rfl
        | succ n ih2 => show q_S (fun _ => 1) n + 1 = _; rw [ih2]; omega
      omega
    rcases (show a < (n : Int) ∨ a = (n : Int) by omega) with q | q
    · exact ih (fun a a0 a1 => h a a0 (by omega)) (by omega) a a0 q
    · rw [q]; omega
theorem q_s_all1 {C : Int → Int} {n : Int} (h0 : 0 ≤ n) (h : ∀ a, 0 ≤ a → a < n → C a ≤ 1) (hs : n ≤ q_s C n) {a : Int} (a0 : 0 ≤ a) (a1 : a < n) : C a = 1 := q_S_all1 n.toNat (fun a a0 a1 => h a a0 (by omega)) (by show _ ≤ q_s C n; omega) a a0 (by omega)
set_option maxHeartbeats 4000000 in
set_option maxRecDepth 100000 in
theorem l_ddH {G : tp_G} (hG : tp_Gf G = true) {ck : Int} {f : Int → Int} {μz : tp_M} (hw : tp_Cw f) (hMz : tp_Mc ck f μz) {q : Int} {x1 : Option tp_V} : ∀ k, k ≤ 40 → ∀ (μ : tp_M) (x3 : Option tp_V), 0 ≤ k → ((∀ b, 0 ≤ b → b < 40 → μ.1 230 b = 1 → b < f 0 ∧ q_re f b) ∧ (∀ b, 0 ≤ b → b < 40 → μ.1 230 b = 0 ∨ μ.1 230 b = 1) ∧ (0 < f 0 → μ.1 230 0 = 1) ∧ q_dF μz μ) → μ.1 201 69 = 1 → k ≤ q_s (μ.1 230) 40 → tp_g G mX12_dead 46 [some (tR (some 201)), x1, some (tI q), x3, none] [] μ (fun r μ' => ∃ v, r = some (tI v) ∧ q_sel (q_dd f) (f 0) q v ∧ q_dF μz μ') := by
  refine tp_ind _ ?_
  intro k hkN ih μ x3 h0 hH hm hk
  have hw0 := hw.1
  have hMc := q_dF_Mc hH.2.2.2 hMz
  refine g_aload_n rfl rfl ?_
  refine x_geti (v := (μ.1 201 69)) rfl rfl (by decide) (Or.inr (Or.inl rfl)) rfl ?_
  refine g_if_eq (tgt := 91) rfl (by decide) (fun hx => absurd hx (by omega)) (fun _ => ?_)
  refine g_aload_n rfl rfl ?_
  refine g_iconst rfl ⟨by decide, by decide⟩ ?_
  refine g_putz rfl rfl (by decide) rfl rfl (Or.inl rfl) ?_
  refine g_iconst rfl ⟨by decide, by decide⟩ ?_
  refine g_istore_n rfl rfl rfl ?_
  have hM0 : tp_Mc ck f (tp_pi μ 201 69 0) := tp_Mc_pi (by omega) hMc
  have e30 : ((tp_pi μ 201 69 0)).1 230 = μ.1 230 := tp_pi_ne (by omega)
  refine l_pass (μ0 := (tp_pi μ 201 69 0)) hG hw hM0 hH.2.1 (fun μ1 k1 hI hz => ?_) 0 (by omega) _ (by omega) ⟨hH.1, hH.2.1, fun b b0 b1 z => z, Or.inl ⟨rfl, fun b b0 b1 => rfl⟩, q_dF_rf⟩ (fun g a a0 a1 => by omega)
  have hH1 : ((∀ b, 0 ≤ b → b < 40 → μ1.1 230 b = 1 → b < f 0 ∧ q_re f b) ∧ (∀ b, 0 ≤ b → b < 40 → μ1.1 230 b = 0 ∨ μ1.1 230 b = 1) ∧ (0 < f 0 → μ1.1 230 0 = 1) ∧ q_dF μz μ1) := ⟨hI.1, hI.2.1, fun z => hI.2.2.1 0 (by omega) (by omega) (hH.2.2.1 z), q_dF_tr (q_dF_69 hH.2.2.2) hI.2.2.2.2⟩
  refine g_goto (tgt := 46) rfl (by decide) ?_
  rcases hI.2.2.2.1 with ⟨z1, z2⟩ | ⟨z1, b, b0, b1, z2, z3⟩
  · exact l_ddE hG hw hMz hH1 z1 (q_v_cl (fun z => ⟨by omega, hH1.2.2.1 z⟩) (fun a b a0 a1 b0 b1 ha hab => ⟨⟨b0, by omega⟩, hz z1 a a0 a1 ha.2 b b0 b1 hab⟩))
  · have z2 : μ.1 230 b = 0 := z2
    have hmono : q_s (μ.1 230) 40 + 1 ≤ q_s (μ1.1 230) 40 := by
      refine q_s_lt (h := b) (fun j j0 j1 => ?_) b0 b1 (by rw [z2, z3]; decide)
      rcases hH.2.1 j j0 j1 with t | t
      · have := hI.2.1 j j0 j1; omega
      · have := hI.2.2.1 j j0 j1 t; omega
    have hle : k < 40 := by
      refine Classical.byContradiction (fun zz => ?_)
      have hall1 := q_s_all1 (C := μ.1 230) (n := 40) (by omega) (fun a a0 a1 => by have := hH.2.1 a a0 a1; omega) (by omega) b0 b1
      omega
    exact ih hle _ _ (by omega) hH1 z1 (by omega)
set_option maxHeartbeats 4000000 in
set_option maxRecDepth 100000 in
theorem l_ddZ {G : tp_G} (hG : tp_Gf G = true) {μ0 : tp_M} {q : Int} {x1 : Option tp_V} {Φ : Option tp_V → tp_M → Prop} (hΦ : ∀ μ, (∀ a, 0 ≤ a → a < 40 → μ.1 230 a = 0) → q_f1 230 μ0 μ → tp_g G mX12_dead 36 [some (tR (some 201)), x1, some (tI q), some (tI 40), none] [] μ Φ) : ∀ k, k ≤ 40 → ∀ (μ : tp_M), 0 ≤ k → (∀ a, 0 ≤ a → a < k → μ.1 230 a = 0) → q_f1 230 μ0 μ → tp_g G mX12_dead 17 [some (tR (some 201)), x1, some (tI q), some (tI k), none] [] μ Φ := by
  refine tp_ind _ ?_
  intro k hkN ih μ h0 hz hF
  refine g_iload_n rfl rfl ?_
  refine g_bipush rfl ⟨by decide, by decide⟩ (by decide) ?_
  refine g_icmp_ge (tgt := 36) rfl (by decide) (fun h1 => ?_) (fun h1 => ?_)
  · have hk4 : k = 40 := by omega
    subst hk4
    exact hΦ _ (fun a a0 a1 => hz a a0 (by omega)) hF
  · refine g_aload_n rfl rfl ?_
    refine x_getF (r := 230) hG rfl rfl (by decide) (Or.inr ⟨_, rfl⟩) rfl ?_
    refine g_iload_n rfl rfl ?_
    refine g_iconst rfl ⟨by decide, by decide⟩ ?_
    refine g_zast rfl rfl (by decide) (by omega) (by omega) ?_
    refine x_iinc (z := k + 1) rfl rfl (by omega) ⟨by omega, by omega⟩ rfl rfl ?_
    refine g_goto (tgt := 17) rfl (by decide) ?_
    exact ih (by omega) _ (by omega) (fun a h1 h2 => by rw [tp_pi1]; split; exact tp_z0; exact hz a h1 (by omega)) (q_f1_pi hF)
theorem q_s_nn {C : Int → Int} {n : Int} (h : ∀ j, 0 ≤ j → j < n → 0 ≤ C j) : 0 ≤ q_s C n := by
  have e := q_s_le (F := fun _ => 0) (F' := C) (n := n) h
  rw [q_s_z (C := fun _ => 0) (fun _ _ _ => rfl)] at e
  exact e
theorem q_01 {x : Int} (h : x = 0 ∨ x = 1) : 0 ≤ x := by omega
theorem q_dd_in2 {f : Int → Int} {L : Int} (h : ∀ a, 0 ≤ a → (q_bt L a = true ↔ (a < f 0 ∧ ¬ q_re f a))) {a : Int} (ha : 0 ≤ a) : q_dd f a = q_in L a := by
  by_cases q : a < f 0 ∧ ¬ q_re f a
  · rw [q_dd_1 q, q_in_1 ((h a ha).2 q)]
  · rw [q_dd_0 q, q_in_0 (q_bt_f (fun z => q ((h a ha).1 z)))]
set_option maxHeartbeats 4000000 in
set_option maxRecDepth 100000 in
theorem p_dead {G : tp_G} (hG : tp_Gf G = true) {a k : Int} : tp_pair G mX11_dead mX12_dead [tI a, tI k] := by
  intro μ hR
  have hm0 := tp_R_many hR 0 (by decide) (by decide)
  by_cases hab : (a < 0 ∨ μ.1 5 0 ≤ a)
  · have hab9 : ∀ w, tp_kp μ w → ((a < 0 ∨ w.1 206 0 ≤ a) ∧ (0 ≤ w.1 206 0 ∧ w.1 206 0 ≤ 2)) := fun w h => by rw [h 206 (by unfold tp_tl; omega)]; omega
    refine tp_ok_of mX11_dead_ok rfl (Nat.le_refl _) ?_
    refine g_aload_n rfl rfl ?_
    refine x_getF (r := 1) hG rfl rfl (by decide) (Or.inl ⟨_, rfl⟩) rfl ?_
    refine g_iload_n rfl rfl ?_
    refine g_cV (as := [tI a]) (s_codeOfo hG ⟨hab, hm0.2.2⟩) rfl rfl mX9_codeOf_ok rfl rfl rfl (by decide) rfl rfl rfl ?_
    rintro _ w9 ⟨rfl, hw9⟩ _
    have hw9 := hw9.symm
    subst hw9
    refine g_astore_n rfl rfl rfl ?_
    refine g_aload_n rfl rfl ?_
    refine g_ifnonnull (tgt := 17) rfl (by decide) (fun _ hx => by cases hx) (fun _ => ?_)
    refine g_iconst rfl ⟨by decide, by decide⟩ ?_
    refine g_goto (tgt := 25) rfl (by decide) ?_
    refine x_ireturn rfl rfl ?_
    refine ⟨_, rfl, ?_⟩
    refine tp_ok_of mX12_dead_ok rfl (Nat.le_refl _) ?_
    refine g_aload_n rfl rfl ?_
    refine g_iconst rfl ⟨by decide, by decide⟩ ?_
    refine g_puti rfl rfl (by decide) rfl rfl ?_
    refine g_aload_n rfl rfl ?_
    refine g_iload_n rfl rfl ?_
    refine g_cV (as := [tI a]) (s_hasCo hG (hab9 _ (tp_kp_pi (by decide) tp_kp_rf))) rfl rfl mX12_hasCode_ok rfl rfl rfl (by decide) rfl rfl rfl ?_
    rintro _ w2 ⟨rfl, hGm⟩ _
    have hkp2 : tp_kp μ w2 := m_G_kp (tp_kp_pi (by decide) tp_kp_rf) hGm
    refine g_if_ne (tgt := 15) rfl (by decide) (fun hx => absurd hx (by omega)) (fun _ => ?_)
    refine g_iconst rfl ⟨by decide, by decide⟩ ?_
    refine x_ireturn rfl rfl ?_
    exact ⟨rfl, tp_R_kp hR hkp2⟩
  · obtain ⟨a, rfl⟩ : ∃ a9 : Nat, a = (a9 : Int) := ⟨a.toNat, by omega⟩
    obtain ⟨f, c, hfE, hcE, hc, hcl, hw, hCd, hX, hM⟩ := tp_cdL hG hR (k := a) (by omega) (by omega)
    have hcn : c < 234 := by omega
    have hw0 := hw.1
    refine tp_ok_of mX11_dead_ok rfl (Nat.le_refl _) ?_
    refine g_aload_n rfl rfl ?_
    refine x_getF (r := 1) hG rfl rfl (by decide) (Or.inl ⟨_, rfl⟩) rfl ?_
    refine g_iload_n rfl rfl ?_
    refine g_cV (as := [tI (a : Int)]) (hX) rfl rfl mX9_codeOf_ok rfl rfl rfl (by decide) rfl rfl rfl ?_
    rintro _ w9 ⟨rfl, hw9⟩ _
    have hw9 := hw9.symm
    subst hw9
    refine g_astore_n rfl rfl rfl ?_
    refine g_aload_n rfl rfl ?_
    refine g_ifnonnull (tgt := 17) rfl (by decide) (fun _ _ => ?_) (fun hx => by cases hx)
    refine g_aload_n rfl rfl ?_
    refine g_cV (as := []) (s_unr hG hc hcl hw hCd) rfl rfl mX0_unreached_ok rfl hc rfl hcn rfl rfl rfl ?_
    rintro _ w9 ⟨S, rfl, hS, hB, hw9⟩ _
    have hw9 := hw9.symm
    subst hw9
    refine g_iload_n rfl rfl ?_
    refine g_cS (as := [tL (S), tI k]) (s_som hG hS) rfl rfl mX11_sizeOrMember_ok rfl rfl rfl rfl ?_
    rintro _ w9 ⟨v, rfl, hq, hw9⟩ _
    have hw9 := hw9.symm
    subst hw9
    refine x_ireturn rfl rfl ?_
    refine ⟨_, rfl, ?_⟩
    refine tp_ok_of mX12_dead_ok rfl (Nat.le_refl _) ?_
    refine g_aload_n rfl rfl ?_
    refine g_iconst rfl ⟨by decide, by decide⟩ ?_
    refine g_puti rfl rfl (by decide) rfl rfl ?_
    refine g_aload_n rfl rfl ?_
    refine g_iload_n rfl rfl ?_
    refine g_cV (as := [tI (a : Int)]) (hM _ (tp_kp_pi (by decide) tp_kp_rf)) rfl rfl mX12_hasCode_ok rfl rfl rfl (by decide) rfl rfl rfl ?_
    rintro _ w2 ⟨rfl, hMc, hGm⟩ _
    have hkp2 : tp_kp μ w2 := m_G_kp (tp_kp_pi (by decide) tp_kp_rf) hGm
    have hall := hMc.2.2.1
    refine g_if_ne (tgt := 15) rfl (by decide) (fun _ => ?_) (fun hx => absurd hx (by omega))
    refine g_iconst rfl ⟨by decide, by decide⟩ ?_
    refine g_istore_n rfl rfl rfl ?_
    refine l_ddZ (μ0 := w2) hG (fun w3 hz3 hF3 => ?_) 0 (by omega) _ (by omega) (fun a g0 g1 => by omega) q_f1_rf
    have hdF : q_dF w2 w3 := ⟨fun c9 z1 z2 => hF3.1 c9 z1, fun j z1 => by rw [hF3.1 201 (by omega)]⟩
    have hMc3 := q_dF_Mc hdF hMc
    have hall3 := hMc3.2.2.1
    refine g_aload_n rfl rfl ?_
    refine g_iconst rfl ⟨by decide, by decide⟩ ?_
    refine g_putz rfl rfl (by decide) rfl rfl (Or.inr rfl) ?_
    refine g_aload_n rfl rfl ?_
    refine g_iconst rfl ⟨by decide, by decide⟩ ?_
    refine g_iV (as := [tI 0]) mX12_comesTo_ok rfl rfl rfl rfl rfl rfl (by decide) rfl rfl rfl ?_
    refine g_aload_n rfl rfl ?_
    refine g_iload_n rfl rfl ?_
    refine g_iV (as := [tI 0]) mX12_isAddress_ok rfl rfl rfl rfl rfl rfl (by decide) rfl rfl rfl ?_
    refine g_iload_n rfl rfl ?_
    refine g_iconst rfl ⟨by decide, by decide⟩ ?_
    refine g_aload_n rfl rfl ?_
    refine x_geti (v := (w3.1 201 26)) rfl rfl (by decide) (Or.inl rfl) rfl ?_
    refine g_iconst rfl ⟨by decide, by decide⟩ ?_
    refine x_isub (z := (w3.1 201 26) - 1) rfl (by omega) ⟨by omega, by omega⟩ ?_
    refine g_iS (as := [tI 0, tI 0, tI ((w3.1 201 26) - 1)]) mX12_in_ok rfl rfl rfl rfl rfl rfl rfl ?_
    refine g_iload_n rfl rfl ?_
    refine g_iload_n rfl rfl ?_
    refine g_icmp_lt (tgt := 14) rfl (by decide) (fun hx => absurd hx (by omega)) (fun _ => ?_)
    refine g_iload_n rfl rfl ?_
    refine g_iload_n rfl rfl ?_
    refine g_icmp_gt (tgt := 14) rfl (by decide) (fun h1 => ?_) (fun h1 => ?_)
    · refine g_iconst rfl ⟨by decide, by decide⟩ ?_
      refine x_zreturn rfl rfl (Or.inl rfl) ?_
      intro _
      refine x_zreturn rfl rfl (Or.inl rfl) ?_
      intro _
      refine g_if_eq (tgt := 29) rfl (by decide) (fun _ => ?_) (fun hx => absurd hx (by omega))
      refine x_return rfl rfl ?_
      intro _
      have e30 : ∀ b, 0 ≤ b → b < 40 → ((tp_pi w3 201 69 1)).1 230 b = 0 := fun b b0 b1 => by rw [tp_pi_ne (by omega)]; exact hz3 b b0 b1
      have hH : ∀ b, 0 ≤ b → b < 40 → ((tp_pi w3 201 69 1)).1 230 b = 1 → b < f 0 ∧ q_re f b := fun b b0 b1 z => by rw [e30 b b0 b1] at z; omega
      have hO : ∀ b, 0 ≤ b → b < 40 → ((tp_pi w3 201 69 1)).1 230 b = 0 ∨ ((tp_pi w3 201 69 1)).1 230 b = 1 := fun b b0 b1 => Or.inl (e30 b b0 b1)
      refine tp_conseq (fun r9 μ8 q8 => ?_) (l_ddH (μz := w2) hG hw hMc 0 (by omega) _ _ (by omega) ⟨hH, hO, fun z => by first | omega | exact absurd (hz3 0 (by omega) (by omega)) h2, (q_dF_69 hdF)⟩ rfl (q_s_nn (fun j j0 j1 => q_01 (hO j j0 j1))))
      obtain ⟨v2, rfl, hq2, hF8⟩ := q8
      exact ⟨by rw [q_sel_u (fun a => (q_dd_b f a).1) (q_sel_x (M := 40) hw0.1 hw0.2 (fun a g0 g1 => q_dd_0 (fun z => by have := z.1; omega)) hq2) (q_sel_c (by omega) (fun a g0 g1 => q_dd_in2 hB g0) hq)], tp_R_kp hR (q_dF_kp hkp2 hF8)⟩
    · refine g_iconst rfl ⟨by decide, by decide⟩ ?_
      refine g_goto (tgt := 15) rfl (by decide) ?_
      refine x_zreturn rfl rfl (Or.inr rfl) ?_
      intro _
      refine x_zreturn rfl rfl (Or.inr rfl) ?_
      intro _
      refine g_if_eq (tgt := 29) rfl (by decide) (fun hx => absurd hx (by omega)) (fun _ => ?_)
      refine g_aload_n rfl rfl ?_
      refine x_getF (r := 230) hG rfl rfl (by decide) (Or.inr ⟨_, rfl⟩) rfl ?_
      refine g_iload_n rfl rfl ?_
      refine g_zald rfl rfl (by decide) (by decide) (by decide) ?_
      refine g_if_ne (tgt := 29) rfl (by decide) (fun h2 => ?_) (fun h2 => ?_)
      · refine x_return rfl rfl ?_
        intro _
        have e30 : ∀ b, 0 ≤ b → b < 40 → ((tp_pi w3 201 69 1)).1 230 b = 0 := fun b b0 b1 => by rw [tp_pi_ne (by omega)]; exact hz3 b b0 b1
        have hH : ∀ b, 0 ≤ b → b < 40 → ((tp_pi w3 201 69 1)).1 230 b = 1 → b < f 0 ∧ q_re f b := fun b b0 b1 z => by rw [e30 b b0 b1] at z; omega
        have hO : ∀ b, 0 ≤ b → b < 40 → ((tp_pi w3 201 69 1)).1 230 b = 0 ∨ ((tp_pi w3 201 69 1)).1 230 b = 1 := fun b b0 b1 => Or.inl (e30 b b0 b1)
        refine tp_conseq (fun r9 μ8 q8 => ?_) (l_ddH (μz := w2) hG hw hMc 0 (by omega) _ _ (by omega) ⟨hH, hO, fun z => by first | omega | exact absurd (hz3 0 (by omega) (by omega)) h2, (q_dF_69 hdF)⟩ rfl (q_s_nn (fun j j0 j1 => q_01 (hO j j0 j1))))
        obtain ⟨v2, rfl, hq2, hF8⟩ := q8
        exact ⟨by rw [q_sel_u (fun a => (q_dd_b f a).1) (q_sel_x (M := 40) hw0.1 hw0.2 (fun a g0 g1 => q_dd_0 (fun z => by have := z.1; omega)) hq2) (q_sel_c (by omega) (fun a g0 g1 => q_dd_in2 hB g0) hq)], tp_R_kp hR (q_dF_kp hkp2 hF8)⟩
      · refine g_aload_n rfl rfl ?_
        refine x_getF (r := 230) hG rfl rfl (by decide) (Or.inr ⟨_, rfl⟩) rfl ?_
        refine g_iload_n rfl rfl ?_
        refine g_iconst rfl ⟨by decide, by decide⟩ ?_
        refine g_zast rfl rfl (by decide) (by decide) (by decide) ?_
        refine g_aload_n rfl rfl ?_
        refine g_iconst rfl ⟨by decide, by decide⟩ ?_
        refine g_putz rfl rfl (by decide) rfl rfl (Or.inr rfl) ?_
        refine x_return rfl rfl ?_
        intro _
        have e30 : ∀ b, 0 ≤ b → b < 40 → ((tp_pi (tp_pi (tp_pi w3 201 69 1) 230 0 (tp_z 1)) 201 69 1)).1 230 b = if b = 0 then 1 else 0 := fun b b0 b1 => by
          rw [tp_pi_ne (by omega), tp_pi1]
          by_cases q : b = 0
          · rw [if_pos ⟨rfl, q⟩, if_pos q]; exact tp_z1
          · rw [if_neg (fun z => q z.2), if_neg q, tp_pi_ne (by omega)]; exact hz3 b b0 b1
        have hH : ∀ b, 0 ≤ b → b < 40 → ((tp_pi (tp_pi (tp_pi w3 201 69 1) 230 0 (tp_z 1)) 201 69 1)).1 230 b = 1 → b < f 0 ∧ q_re f b := fun b b0 b1 z => by
          rw [e30 b b0 b1] at z
          by_cases q : b = 0
          · rw [q]; exact ⟨by omega, (q_re_cl f).1 (by omega)⟩
          · rw [if_neg q] at z; omega
        have hO : ∀ b, 0 ≤ b → b < 40 → ((tp_pi (tp_pi (tp_pi w3 201 69 1) 230 0 (tp_z 1)) 201 69 1)).1 230 b = 0 ∨ ((tp_pi (tp_pi (tp_pi w3 201 69 1) 230 0 (tp_z 1)) 201 69 1)).1 230 b = 1 := fun b b0 b1 => by rw [e30 b b0 b1]; split <;> omega
        refine tp_conseq (fun r9 μ8 q8 => ?_) (l_ddH (μz := w2) hG hw hMc 0 (by omega) _ _ (by omega) ⟨hH, hO, fun _ => (e30 0 (by omega) (by omega)).trans rfl, (q_dF_69 (q_dF_30 (q_dF_69 hdF)))⟩ rfl (q_s_nn (fun j j0 j1 => q_01 (hO j j0 j1))))
        obtain ⟨v2, rfl, hq2, hF8⟩ := q8
        exact ⟨by rw [q_sel_u (fun a => (q_dd_b f a).1) (q_sel_x (M := 40) hw0.1 hw0.2 (fun a g0 g1 => q_dd_0 (fun z => by have := z.1; omega)) hq2) (q_sel_c (by omega) (fun a g0 g1 => q_dd_in2 hB g0) hq)], tp_R_kp hR (q_dF_kp hkp2 hF8)⟩
