/-! a pass of the reference: from μ0 to μ -/
def q_dF (μ0 μ : tp_M) : Prop := (∀ c, c ≠ 230 → c ≠ 201 → μ.1 c = μ0.1 c) ∧ (∀ j, j ≠ 69 → μ.1 201 j = μ0.1 201 j)
theorem q_dF_rf {μ : tp_M} : q_dF μ μ := ⟨fun _ _ _ => rfl, fun _ _ => rfl⟩
theorem q_dF_tr {μ0 μ1 μ2 : tp_M} (h : q_dF μ0 μ1) (q : q_dF μ1 μ2) : q_dF μ0 μ2 := ⟨fun c a b => (q.1 c a b).trans (h.1 c a b), fun j a => (q.2 j a).trans (h.2 j a)⟩
theorem q_dF_30 {μ0 μ : tp_M} {j v : Int} (h : q_dF μ0 μ) : q_dF μ0 (tp_pi μ 230 j v) := ⟨fun c a b => by rw [tp_pi_ne a]; exact h.1 c a b, fun j a => by rw [tp_pi_ne (by omega)]; exact h.2 j a⟩
theorem q_dF_69 {μ0 μ : tp_M} {v : Int} (h : q_dF μ0 μ) : q_dF μ0 (tp_pi μ 201 69 v) := ⟨fun c a b => by rw [tp_pi_ne b]; exact h.1 c a b, fun j a => by rw [tp_pi_ix a]; exact h.2 j a⟩
theorem q_dF_Mc {μ0 μ : tp_M} {k : Int} {f : Int → Int} (h : q_dF μ0 μ) (q : tp_Mc k f μ0) : tp_Mc k f μ := tp_Mc_fr ⟨h.2 24 (by omega), h.2 26 (by omega)⟩ (h.1 207 (by omega) (by omega)) q
theorem q_dF_kp {μ μ0 μ1 : tp_M} (h : tp_kp μ μ0) (q : q_dF μ0 μ1) : tp_kp μ μ1 := fun k hk => (q.1 k (by unfold tp_tl at hk; omega) (by unfold tp_tl at hk; omega)).trans (h k hk)
def q_dI (f : Int → Int) (μ0 μ : tp_M) : Prop := (∀ b, 0 ≤ b → b < 40 → μ.1 230 b = 1 → b < f 0 ∧ q_re f b) ∧ (∀ b, 0 ≤ b → b < 40 → μ.1 230 b = 0 ∨ μ.1 230 b = 1) ∧ (∀ b, 0 ≤ b → b < 40 → μ0.1 230 b = 1 → μ.1 230 b = 1) ∧ ((μ.1 201 69 = 0 ∧ ∀ b, 0 ≤ b → b < 40 → μ.1 230 b = μ0.1 230 b) ∨ (μ.1 201 69 = 1 ∧ ∃ b, 0 ≤ b ∧ b < 40 ∧ μ0.1 230 b = 0 ∧ μ.1 230 b = 1)) ∧ q_dF μ0 μ
def q_dS (μ μ' : tp_M) : Prop := ∀ b, 0 ≤ b → b < 40 → μ.1 230 b = 1 → μ'.1 230 b = 1
theorem q_dS_rf {μ : tp_M} : q_dS μ μ := fun _ _ _ h => h
theorem q_dS_tr {μ0 μ1 μ2 : tp_M} (h : q_dS μ0 μ1) (q : q_dS μ1 μ2) : q_dS μ0 μ2 := fun b b0 b1 z => q b b0 b1 (h b b0 b1 z)
/-- one more is come to -/
theorem q_dI_put {f : Int → Int} (hf : f 0 ≤ 40) {μ0 μ : tp_M} {a v w : Int} (h01 : ∀ b, 0 ≤ b → b < 40 → μ0.1 230 b = 0 ∨ μ0.1 230 b = 1) (h : q_dI f μ0 μ) (a0 : 0 ≤ a) (a1 : a < f 0) (hz : μ.1 230 a = 0) (hr : q_re f a) (hv : v = 1) (hw : w = 1) : q_dI f μ0 (tp_pi (tp_pi μ 230 a v) 201 69 w) ∧ q_dS μ (tp_pi (tp_pi μ 230 a v) 201 69 w) ∧ (tp_pi (tp_pi μ 230 a v) 201 69 w).1 230 a = 1 := by
  obtain ⟨h1, h2, h3, h4, h5⟩ := h
  have ea : (tp_pi (tp_pi μ 230 a v) 201 69 w).1 230 a = 1 := by rw [tp_pi_ne (by omega), tp_pi_at]; exact hv
  have en : ∀ b, b ≠ a → (tp_pi (tp_pi μ 230 a v) 201 69 w).1 230 b = μ.1 230 b := fun b hb => by rw [tp_pi_ne (by omega), tp_pi_ix hb]
  have hs : q_dS μ (tp_pi (tp_pi μ 230 a v) 201 69 w) := fun b b0 b1 z => by
    by_cases q : b = a
    · rw [q]; exact ea
    · rw [en b q]; exact z
  have h00 : μ0.1 230 a ≠ 1 := fun z => by have := h3 a a0 (by omega) z; omega
  refine ⟨⟨fun b b0 b1 z => ?_, fun b b0 b1 => ?_, fun b b0 b1 z => hs b b0 b1 (h3 b b0 b1 z), Or.inr ⟨by rw [tp_pi_at]; exact hw, a, a0, by omega, ?_, ea⟩, q_dF_69 (q_dF_30 h5)⟩, hs, ea⟩
  · by_cases q : b = a
    · rw [q]; exact ⟨a1, hr⟩
    · rw [en b q] at z; exact h1 b b0 b1 z
  · by_cases q : b = a
    · rw [q]; exact Or.inr ea
    · rw [en b q]; exact h2 b b0 b1
  · rcases h4 with ⟨_, h4⟩ | ⟨_, b, b0, b1, h4, h6⟩
    · rw [← h4 a a0 (by omega)]; exact hz
    · exact (h01 a a0 (by omega)).resolve_right h00
set_option maxHeartbeats 4000000 in
set_option maxRecDepth 100000 in
theorem s_comesTo {G : tp_G} {μ : tp_M} (hG : tp_Gf G = true) {ck : Int} {f : Int → Int} {μ0 : tp_M} (hw : tp_Cw f) (hM0 : tp_Mc ck f μ0) (h01 : ∀ b, 0 ≤ b → b < 40 → μ0.1 230 b = 0 ∨ μ0.1 230 b = 1) {a : Int} (hI : q_dI f μ0 μ) (hr : 0 ≤ a → a < f 0 → q_re f a) : tp_k G mX12_comesTo [tR (some 201), tI a] μ (fun r μ' => r = none ∧ q_dI f μ0 μ' ∧ q_dS μ μ' ∧ (0 ≤ a → a < f 0 → μ'.1 230 a = 1)) := by
  refine tp_ok_of mX12_comesTo_ok rfl (Nat.le_refl _) ?_
  have hw0 := hw.1
  have hMc := q_dF_Mc hI.2.2.2.2 hM0
  have hall := hMc.2.2.1
  refine g_aload_n rfl rfl ?_
  refine g_iload_n rfl rfl ?_
  refine g_iV (as := [tI a]) mX12_isAddress_ok rfl rfl rfl rfl rfl rfl (by decide) rfl rfl rfl ?_
  refine g_iload_n rfl rfl ?_
  refine g_iconst rfl ⟨by decide, by decide⟩ ?_
  refine g_aload_n rfl rfl ?_
  refine x_geti (v := (μ.1 201 26)) rfl rfl (by decide) (Or.inl rfl) rfl ?_
  refine g_iconst rfl ⟨by decide, by decide⟩ ?_
  refine x_isub (z := (μ.1 201 26) - 1) rfl (by omega) ⟨by omega, by omega⟩ ?_
  refine g_iS (as := [tI a, tI 0, tI ((μ.1 201 26) - 1)]) mX12_in_ok rfl rfl rfl rfl rfl rfl rfl ?_
  refine g_iload_n rfl rfl ?_
  refine g_iload_n rfl rfl ?_
  refine g_icmp_lt (tgt := 14) rfl (by decide) (fun h1 => ?_) (fun h1 => ?_)
  · refine g_iconst rfl ⟨by decide, by decide⟩ ?_
    refine x_zreturn rfl rfl (Or.inl rfl) ?_
    intro _
    refine x_zreturn rfl rfl (Or.inl rfl) ?_
    intro _
    refine g_if_eq (tgt := 29) rfl (by decide) (fun _ => ?_) (fun hx => absurd hx (by omega))
    refine x_return rfl rfl ?_
    exact ⟨rfl, hI, q_dS_rf, fun g0 g1 => by have := hI.2.1 a g0 (by omega); omega⟩
  · refine g_iload_n rfl rfl ?_
    refine g_iload_n rfl rfl ?_
    refine g_icmp_gt (tgt := 14) rfl (by decide) (fun h2 => ?_) (fun h2 => ?_)
    · refine g_iconst rfl ⟨by decide, by decide⟩ ?_
      refine x_zreturn rfl rfl (Or.inl rfl) ?_
      intro _
      refine x_zreturn rfl rfl (Or.inl rfl) ?_
      intro _
      refine g_if_eq (tgt := 29) rfl (by decide) (fun _ => ?_) (fun hx => absurd hx (by omega))
      refine x_return rfl rfl ?_
      exact ⟨rfl, hI, q_dS_rf, fun g0 g1 => by have := hI.2.1 a g0 (by omega); omega⟩
    · refine g_iconst rfl ⟨by decide, by decide⟩ ?_
      refine g_goto (tgt := 15) rfl (by decide) ?_
      refine x_zreturn rfl rfl (Or.inr rfl) ?_
      intro _
      refine x_zreturn rfl rfl (Or.inr rfl) ?_
      intro _
      refine g_if_eq (tgt := 29) rfl (by decide) (fun hx => absurd hx (by omega)) (fun _ => ?_)
      refine g_aload_n rfl rfl ?_
      refine x_getF (r := 230) hG rfl rfl (by decide) (Or.inr ⟨_, rfl⟩) rfl ?_
      refine g_iload_n rfl rfl ?_
      refine g_zald rfl rfl (by decide) (by omega) (by omega) ?_
      refine g_if_ne (tgt := 29) rfl (by decide) (fun h3 => ?_) (fun h3 => ?_)
      · refine x_return rfl rfl ?_
        exact ⟨rfl, hI, q_dS_rf, fun g0 g1 => by have := hI.2.1 a g0 (by omega); omega⟩
      · refine g_aload_n rfl rfl ?_
        refine x_getF (r := 230) hG rfl rfl (by decide) (Or.inr ⟨_, rfl⟩) rfl ?_
        refine g_iload_n rfl rfl ?_
        refine g_iconst rfl ⟨by decide, by decide⟩ ?_
        refine g_zast rfl rfl (by decide) (by omega) (by omega) ?_
        refine g_aload_n rfl rfl ?_
        refine g_iconst rfl ⟨by decide, by decide⟩ ?_
        refine g_putz rfl rfl (by decide) rfl rfl (Or.inr rfl) ?_
        refine x_return rfl rfl ?_
        exact ⟨rfl, (q_dI_put hw0.2 h01 hI (by omega) (by omega) (by omega) (hr (by omega) (by omega)) tp_z1 rfl).1, (q_dI_put hw0.2 h01 hI (by omega) (by omega) (by omega) (hr (by omega) (by omega)) tp_z1 rfl).2.1, fun _ _ => (q_dI_put hw0.2 h01 hI (by omega) (by omega) (by omega) (hr (by omega) (by omega)) tp_z1 rfl).2.2⟩
set_option maxHeartbeats 4000000 in
set_option maxRecDepth 100000 in
theorem l_hasCT {G : tp_G} {μ : tp_M} (hG : tp_Gf G = true) {ck : Int} {f : Int → Int} {μ0 : tp_M} (hw : tp_Cw f) (hM0 : tp_Mc ck f μ0) (h01 : ∀ b, 0 ≤ b → b < 40 → μ0.1 230 b = 0 ∨ μ0.1 230 b = 1) {t : Int} (hI : q_dI f μ0 μ) : ∀ k, k ≤ f 0 → 0 ≤ k → (∀ b, 0 ≤ b → b < k → μ.1 230 b = 1 → f (9 + b) ≠ t) → tp_g G mX12_hasComeTo 2 [some (tR (some 201)), some (tI t), some (tI k)] [] μ (fun r μ' => ∃ v, r = some (tI v) ∧ ((v = 0 ∧ ∀ b, 0 ≤ b → b < f 0 → μ.1 230 b = 1 → f (9 + b) ≠ t) ∨ (v = 1 ∧ ∃ b, 0 ≤ b ∧ b < f 0 ∧ μ.1 230 b = 1 ∧ f (9 + b) = t)) ∧ μ' = μ) := by
  have hw0 := hw.1
  have hMc := q_dF_Mc hI.2.2.2.2 hM0
  have hall := hMc.2.2.1
  refine tp_ind _ ?_
  intro k hkN ih h0 hz
  refine g_iload_n rfl rfl ?_
  refine g_aload_n rfl rfl ?_
  refine x_geti (v := (μ.1 201 26)) rfl rfl (by decide) (Or.inl rfl) rfl ?_
  refine g_icmp_ge (tgt := 36) rfl (by decide) (fun h1 => ?_) (fun h1 => ?_)
  · refine g_iconst rfl ⟨by decide, by decide⟩ ?_
    refine x_zreturn rfl rfl (Or.inl rfl) ?_
    exact ⟨_, rfl, Or.inl ⟨rfl, fun r9 g0 g1 g2 => hz r9 g0 (by omega) g2⟩, rfl⟩
  · refine g_aload_n rfl rfl ?_
    refine x_getF (r := 230) hG rfl rfl (by decide) (Or.inr ⟨_, rfl⟩) rfl ?_
    refine g_iload_n rfl rfl ?_
    refine g_zald rfl rfl (by decide) (by omega) (by omega) ?_
    refine g_if_eq (tgt := 30) rfl (by decide) (fun h2 => ?_) (fun h2 => ?_)
    · refine x_iinc (z := k + 1) rfl rfl (by omega) ⟨by omega, by omega⟩ rfl rfl ?_
      refine g_goto (tgt := 2) rfl (by decide) ?_
      exact ih (by omega) (by omega) (fun r9 g0 g1 g2 => by rcases (show r9 < k ∨ r9 = k by omega) with q | q; exact hz r9 g0 q g2; (rw [q] at g2 ⊢; omega))
    · refine g_aload_n rfl rfl ?_
      refine g_iload_n rfl rfl ?_
      refine g_cV (as := [tI k]) (s_kindM hG hMc (by omega) (by omega)) rfl rfl mX12_kindAt_ok rfl rfl rfl (by decide) rfl rfl rfl ?_
      rintro _ w9 ⟨rfl, hw9⟩ _
      have hw9 := hw9.symm
      subst hw9
      refine g_iload_n rfl rfl ?_
      refine g_icmp_ne (tgt := 30) rfl (by decide) (fun h3 => ?_) (fun h3 => ?_)
      · refine x_iinc (z := k + 1) rfl rfl (by omega) ⟨by omega, by omega⟩ rfl rfl ?_
        refine g_goto (tgt := 2) rfl (by decide) ?_
        exact ih (by omega) (by omega) (fun r9 g0 g1 g2 => by rcases (show r9 < k ∨ r9 = k by omega) with q | q; exact hz r9 g0 q g2; (rw [q] at g2 ⊢; omega))
      · refine g_iconst rfl ⟨by decide, by decide⟩ ?_
        refine x_zreturn rfl rfl (Or.inr rfl) ?_
        exact ⟨_, rfl, Or.inr ⟨rfl, k, h0, by omega, by have := hI.2.1 k h0 (by omega); omega, by omega⟩, rfl⟩
set_option maxHeartbeats 4000000 in
set_option maxRecDepth 100000 in
theorem s_hasCT {G : tp_G} {μ : tp_M} (hG : tp_Gf G = true) {ck : Int} {f : Int → Int} {μ0 : tp_M} (hw : tp_Cw f) (hM0 : tp_Mc ck f μ0) (h01 : ∀ b, 0 ≤ b → b < 40 → μ0.1 230 b = 0 ∨ μ0.1 230 b = 1) {t : Int} (hI : q_dI f μ0 μ) : tp_k G mX12_hasComeTo [tR (some 201), tI t] μ (fun r μ' => ∃ v, r = some (tI v) ∧ ((v = 0 ∧ ∀ b, 0 ≤ b → b < f 0 → μ.1 230 b = 1 → f (9 + b) ≠ t) ∨ (v = 1 ∧ ∃ b, 0 ≤ b ∧ b < f 0 ∧ μ.1 230 b = 1 ∧ f (9 + b) = t)) ∧ μ' = μ) := by
  refine tp_ok_of mX12_hasComeTo_ok rfl (Nat.le_refl _) ?_
  have hw0 := hw.1
  refine g_iconst rfl ⟨by decide, by decide⟩ ?_
  refine g_istore_n rfl rfl rfl ?_
  exact l_hasCT hG hw hM0 h01 hI 0 (by omega) (by omega) (fun b g0 g1 => by omega)
/-- the reference's ways -/
def q_v (f : Int → Int) (S : Int → Prop) (a b : Int) : Prop := ((f (9 + a) = 0 ∨ f (9 + a) = 1 ∨ (f (9 + a) = 3 ∧ ∃ r, 0 ≤ r ∧ r < f 0 ∧ S r ∧ f (9 + r) = 4)) ∧ b = a + 1) ∨ ((1 ≤ f (9 + a) ∧ f (9 + a) ≤ 3) ∧ b = f (49 + a)) ∨ f (9 + a) = 5
theorem q_v_cl {f : Int → Int} {S : Int → Prop} (h0 : 0 < f 0 → S 0) (h : ∀ a b, 0 ≤ a → a < f 0 → 0 ≤ b → b < f 0 → S a → q_v f S a b → S b) : q_cl f S := by
  refine ⟨h0, fun a b a0 a1 b0 b1 ha hw => ?_⟩
  rcases hw with q | q | q | ⟨q, c, c0, c1, c2, c3, c4⟩ | q
  · exact h a b a0 a1 b0 b1 ha (Or.inl ⟨Or.inl q.1, q.2⟩)
  · rcases q.2 with t | t
    · exact h a b a0 a1 b0 b1 ha (Or.inl ⟨Or.inr (Or.inl q.1), t⟩)
    · exact h a b a0 a1 b0 b1 ha (Or.inr (Or.inl ⟨by omega, t⟩))
  · exact h a b a0 a1 b0 b1 ha (Or.inr (Or.inl ⟨by omega, q.2⟩))
  · exact h c b c0 c1 b0 b1 c2 (Or.inl ⟨Or.inr (Or.inr ⟨c3, a, a0, a1, ha, q⟩), c4⟩)
  · exact h a b a0 a1 b0 b1 ha (Or.inr (Or.inr q))
theorem q_v_re {f : Int → Int} {a b : Int} (a0 : 0 ≤ a) (a1 : a < f 0) (b0 : 0 ≤ b) (b1 : b < f 0) (ha : q_re f a) (h : q_v f (q_re f) a b) : q_re f b := by
  rcases h with ⟨q | q | ⟨q, r, r0, r1, r2, r3⟩, e⟩ | q | q
  · exact (q_re_cl f).2 a b a0 a1 b0 b1 ha (Or.inl ⟨q, e⟩)
  · exact (q_re_cl f).2 a b a0 a1 b0 b1 ha (Or.inr (Or.inl ⟨q, Or.inl e⟩))
  · exact (q_re_cl f).2 r b r0 r1 b0 b1 r2 (Or.inr (Or.inr (Or.inr (Or.inl ⟨r3, a, a0, a1, ha, q, e⟩))))
  · refine (q_re_cl f).2 a b a0 a1 b0 b1 ha ?_
    rcases (show f (9 + a) = 1 ∨ f (9 + a) = 2 ∨ f (9 + a) = 3 by omega) with t | t | t
    · exact Or.inr (Or.inl ⟨t, Or.inr q.2⟩)
    · exact Or.inr (Or.inr (Or.inl ⟨Or.inl t, q.2⟩))
    · exact Or.inr (Or.inr (Or.inl ⟨Or.inr t, q.2⟩))
  · exact (q_re_cl f).2 a b a0 a1 b0 b1 ha (Or.inr (Or.inr (Or.inr (Or.inr q))))
set_option maxHeartbeats 4000000 in
set_option maxRecDepth 100000 in
theorem l_leads {G : tp_G} (hG : tp_Gf G = true) {ck : Int} {f : Int → Int} {μ0 : tp_M} (hw : tp_Cw f) (hM0 : tp_Mc ck f μ0) (h01 : ∀ b, 0 ≤ b → b < 40 → μ0.1 230 b = 0 ∨ μ0.1 230 b = 1) {a t : Int} {μ1 : tp_M} (hr5 : ∀ b, t = 5 → 0 ≤ b → b < f 0 → q_re f b) : ∀ k, k ≤ f 0 → ∀ (μ : tp_M), 0 ≤ k → q_dI f μ0 μ → q_dS μ1 μ → (∀ b, 0 ≤ b → b < k → t = 5 → μ.1 230 b = 1) → tp_g G mX12_leadsOn 58 [some (tR (some 201)), some (tI a), some (tI t), some (tI k)] [] μ (fun r μ' => r = none ∧ q_dI f μ0 μ' ∧ q_dS μ1 μ' ∧ ∀ b, 0 ≤ b → b < f 0 → t = 5 → μ'.1 230 b = 1) := by
  have hw0 := hw.1
  refine tp_ind _ ?_
  intro k hkN ih μ h0 hI hSS hz
  have hMc := q_dF_Mc hI.2.2.2.2 hM0
  have hall := hMc.2.2.1
  refine g_iload_n rfl rfl ?_
  refine g_aload_n rfl rfl ?_
  refine x_geti (v := (μ.1 201 26)) rfl rfl (by decide) (Or.inl rfl) rfl ?_
  refine g_icmp_ge (tgt := 82) rfl (by decide) (fun h1 => ?_) (fun h1 => ?_)
  · refine x_return rfl rfl ?_
    exact ⟨rfl, hI, hSS, fun b g0 g1 g2 => hz b g0 (by omega) g2⟩
  · refine g_iload_n rfl rfl ?_
    refine g_iconst rfl ⟨by decide, by decide⟩ ?_
    refine g_icmp_ne (tgt := 82) rfl (by decide) (fun h2 => ?_) (fun h2 => ?_)
    · refine x_return rfl rfl ?_
      exact ⟨rfl, hI, hSS, fun b g0 g1 g2 => hz b g0 (by omega) g2⟩
    · refine g_aload_n rfl rfl ?_
      refine g_iload_n rfl rfl ?_
      refine g_cV (as := [tI k]) (s_comesTo hG hw hM0 h01 hI (fun g0 g1 => hr5 k (by omega) g0 g1)) rfl rfl mX12_comesTo_ok rfl rfl rfl (by decide) rfl rfl rfl ?_
      rintro _ v1 ⟨rfl, hIv1, hSv1, hNv1⟩ _
      have hMcv1 := q_dF_Mc hIv1.2.2.2.2 hM0
      have hallv1 := hMcv1.2.2.1
      refine x_iinc (z := k + 1) rfl rfl (by omega) ⟨by omega, by omega⟩ rfl rfl ?_
      refine g_goto (tgt := 58) rfl (by decide) ?_
      exact ih (by omega) _ (by omega) hIv1 (q_dS_tr hSS hSv1) (fun b g0 g1 g2 => by rcases (show b < k ∨ b = k by omega) with q | q; exact hSv1 b g0 (by omega) (hz b g0 q g2); (rw [q]; exact hNv1 (by omega) (by omega)))
theorem q_dI_same {f : Int → Int} {μ0 μ μ' : tp_M} (h : q_dI f μ0 μ) (h' : q_dI f μ0 μ') (hq : μ'.1 201 69 = 0) (hs : q_dS μ μ') {b : Int} (b0 : 0 ≤ b) (b1 : b < 40) : μ.1 230 b = μ'.1 230 b := by
  have e : μ'.1 230 b = μ0.1 230 b := by
    rcases h'.2.2.2.1 with ⟨_, q⟩ | ⟨q, _⟩
    · exact q b b0 b1
    · omega
  rcases h.2.1 b b0 b1 with q | q
  · rcases h'.2.1 b b0 b1 with t | t
    · omega
    · have := h.2.2.1 b b0 b1 (by omega); omega
  · have := hs b b0 b1 q; omega
set_option maxHeartbeats 4000000 in
set_option maxRecDepth 100000 in
theorem s_leads {G : tp_G} {μ : tp_M} (hG : tp_Gf G = true) {ck : Int} {f : Int → Int} {μ0 : tp_M} (hw : tp_Cw f) (hM0 : tp_Mc ck f μ0) (h01 : ∀ b, 0 ≤ b → b < 40 → μ0.1 230 b = 0 ∨ μ0.1 230 b = 1) {a : Int} (h0 : 0 ≤ a) (h1 : a < f 0) (hI : q_dI f μ0 μ) (hra : q_re f a) : tp_k G mX12_leadsOn [tR (some 201), tI a] μ (fun r μ' => r = none ∧ q_dI f μ0 μ' ∧ q_dS μ μ' ∧ (μ'.1 201 69 = 0 → ∀ b, 0 ≤ b → b < f 0 → q_v f (fun x => (0 ≤ x ∧ x < 40) ∧ μ'.1 230 x = 1) a b → μ'.1 230 b = 1)) := by
  refine tp_ok_of mX12_leadsOn_ok rfl (Nat.le_refl _) ?_
  have hw0 := hw.1
  have hMc := q_dF_Mc hI.2.2.2.2 hM0
  have hall := hMc.2.2.1
  have hka := (hw.2.1 a h0 h1).1
  rcases (show f (9 + a) = 0 ∨ f (9 + a) = 1 ∨ f (9 + a) = 2 ∨ f (9 + a) = 3 ∨ f (9 + a) = 4 ∨ f (9 + a) = 5 ∨ f (9 + a) = 6 by omega) with hk9 | hk9 | hk9 | hk9 | hk9 | hk9 | hk9
  · have hk9 : f (9 + a) = 0 := hk9
    refine g_aload_n rfl rfl ?_
    refine g_iload_n rfl rfl ?_
    refine g_cV (as := [tI a]) (s_kindM hG hMc (by omega) (by omega)) rfl rfl mX12_kindAt_ok rfl rfl rfl (by decide) rfl rfl rfl ?_
    rintro _ w9 ⟨rfl, hw9⟩ _
    have hw9 := hw9.symm
    subst hw9
    refine g_istore_n rfl rfl rfl ?_
    refine g_iload_n rfl rfl ?_
    refine g_if_eq (tgt := 28) rfl (by decide) (fun _ => ?_) (fun hx => absurd hx (by omega))
    refine g_aload_n rfl rfl ?_
    refine g_iload_n rfl rfl ?_
    refine g_iconst rfl ⟨by decide, by decide⟩ ?_
    refine x_iadd (z := a + 1) rfl (by omega) ⟨by omega, by omega⟩ ?_
    refine g_cV (as := [tI (a + 1)]) (s_comesTo hG hw hM0 h01 hI (fun g0 g1 => q_v_re h0 h1 g0 g1 hra (Or.inl ⟨by first | exact Or.inl (by omega) | exact Or.inr (Or.inl (by omega)) | exact Or.inr (Or.inr ⟨by omega, r8, r80, r81, r82, r83⟩), rfl⟩))) rfl rfl mX12_comesTo_ok rfl rfl rfl (by decide) rfl rfl rfl ?_
    rintro _ v101 ⟨rfl, hIv101, hSv101, hNv101⟩ _
    have hMcv101 := q_dF_Mc hIv101.2.2.2.2 hM0
    have hallv101 := hMcv101.2.2.1
    refine g_iload_n rfl rfl ?_
    refine g_iconst rfl ⟨by decide, by decide⟩ ?_
    refine g_iconst rfl ⟨by decide, by decide⟩ ?_
    refine g_iS (as := [tI (f (9 + a)), tI 1, tI 3]) mX12_in_ok rfl rfl rfl rfl rfl rfl rfl ?_
    refine g_iload_n rfl rfl ?_
    refine g_iload_n rfl rfl ?_
    refine g_icmp_lt (tgt := 14) rfl (by decide) (fun _ => ?_) (fun hx => absurd hx (by omega))
    refine g_iconst rfl ⟨by decide, by decide⟩ ?_
    refine x_zreturn rfl rfl (Or.inl rfl) ?_
    intro _
    refine g_if_eq (tgt := 56) rfl (by decide) (fun _ => ?_) (fun hx => absurd hx (by omega))
    refine g_iconst rfl ⟨by decide, by decide⟩ ?_
    refine g_istore_n rfl rfl rfl ?_
    refine tp_conseq (fun r9 μ9 q9 => ?_) (l_leads (a := a) (t := f (9 + a)) (μ1 := v101) hG hw hM0 h01 (fun b g g0 g1 => q_v_re h0 h1 g0 g1 hra (Or.inr (Or.inr g))) 0 (by omega) _ (by omega) hIv101 q_dS_rf (fun b g0 g1 => by omega))
    obtain ⟨rfl, hI9, hS9, hz9⟩ := q9
    refine ⟨rfl, hI9, (q_dS_tr hSv101 hS9), fun hq b g0 g1 g2 => ?_⟩
    rcases g2 with ⟨g2, e⟩ | g2 | g2
    · rw [e] at g0 g1 ⊢; exact hS9 _ g0 (by omega) (hNv101 g0 g1)
    · omega
    · exact hz9 b g0 g1 g2
  · have hk9 : f (9 + a) = 1 := hk9
    refine g_aload_n rfl rfl ?_
    refine g_iload_n rfl rfl ?_
    refine g_cV (as := [tI a]) (s_kindM hG hMc (by omega) (by omega)) rfl rfl mX12_kindAt_ok rfl rfl rfl (by decide) rfl rfl rfl ?_
    rintro _ w9 ⟨rfl, hw9⟩ _
    have hw9 := hw9.symm
    subst hw9
    refine g_istore_n rfl rfl rfl ?_
    refine g_iload_n rfl rfl ?_
    refine g_if_eq (tgt := 28) rfl (by decide) (fun hx => absurd hx (by omega)) (fun _ => ?_)
    refine g_iload_n rfl rfl ?_
    refine g_iconst rfl ⟨by decide, by decide⟩ ?_
    refine g_icmp_eq (tgt := 28) rfl (by decide) (fun _ => ?_) (fun hx => absurd hx (by omega))
    refine g_aload_n rfl rfl ?_
    refine g_iload_n rfl rfl ?_
    refine g_iconst rfl ⟨by decide, by decide⟩ ?_
    refine x_iadd (z := a + 1) rfl (by omega) ⟨by omega, by omega⟩ ?_
    refine g_cV (as := [tI (a + 1)]) (s_comesTo hG hw hM0 h01 hI (fun g0 g1 => q_v_re h0 h1 g0 g1 hra (Or.inl ⟨by first | exact Or.inl (by omega) | exact Or.inr (Or.inl (by omega)) | exact Or.inr (Or.inr ⟨by omega, r8, r80, r81, r82, r83⟩), rfl⟩))) rfl rfl mX12_comesTo_ok rfl rfl rfl (by decide) rfl rfl rfl ?_
    rintro _ v102 ⟨rfl, hIv102, hSv102, hNv102⟩ _
    have hMcv102 := q_dF_Mc hIv102.2.2.2.2 hM0
    have hallv102 := hMcv102.2.2.1
    refine g_iload_n rfl rfl ?_
    refine g_iconst rfl ⟨by decide, by decide⟩ ?_
    refine g_iconst rfl ⟨by decide, by decide⟩ ?_
    refine g_iS (as := [tI (f (9 + a)), tI 1, tI 3]) mX12_in_ok rfl rfl rfl rfl rfl rfl rfl ?_
    refine g_iload_n rfl rfl ?_
    refine g_iload_n rfl rfl ?_
    refine g_icmp_lt (tgt := 14) rfl (by decide) (fun hx => absurd hx (by omega)) (fun _ => ?_)
    refine g_iload_n rfl rfl ?_
    refine g_iload_n rfl rfl ?_
    refine g_icmp_gt (tgt := 14) rfl (by decide) (fun hx => absurd hx (by omega)) (fun _ => ?_)
    refine g_iconst rfl ⟨by decide, by decide⟩ ?_
    refine g_goto (tgt := 15) rfl (by decide) ?_
    refine x_zreturn rfl rfl (Or.inr rfl) ?_
    intro _
    refine g_if_eq (tgt := 56) rfl (by decide) (fun hx => absurd hx (by omega)) (fun _ => ?_)
    refine g_aload_n rfl rfl ?_
    refine g_aload_n rfl rfl ?_
    refine g_bipush rfl ⟨by decide, by decide⟩ (by decide) ?_
    refine g_iload_n rfl rfl ?_
    refine x_iadd (z := a + 49) rfl (by omega) ⟨by omega, by omega⟩ ?_
    refine g_cV (as := [tI (a + 49)]) (s_of hG hMcv102 (by omega) (by omega)) rfl rfl mX12_of_ok rfl rfl rfl (by decide) rfl rfl rfl ?_
    rintro _ w9 ⟨rfl, hw9⟩ _
    have hw9 := hw9.symm
    subst hw9
    rw [show (a : Int) + 49 = 49 + a by omega]
    refine g_cV (as := [tI (f (49 + a))]) (s_comesTo hG hw hM0 h01 hIv102 (fun g0 g1 => q_v_re h0 h1 g0 g1 hra (Or.inr (Or.inl ⟨by omega, rfl⟩)))) rfl rfl mX12_comesTo_ok rfl rfl rfl (by decide) rfl rfl rfl ?_
    rintro _ v103 ⟨rfl, hIv103, hSv103, hNv103⟩ _
    have hMcv103 := q_dF_Mc hIv103.2.2.2.2 hM0
    have hallv103 := hMcv103.2.2.1
    refine g_iconst rfl ⟨by decide, by decide⟩ ?_
    refine g_istore_n rfl rfl rfl ?_
    refine tp_conseq (fun r9 μ9 q9 => ?_) (l_leads (a := a) (t := f (9 + a)) (μ1 := v103) hG hw hM0 h01 (fun b g g0 g1 => q_v_re h0 h1 g0 g1 hra (Or.inr (Or.inr g))) 0 (by omega) _ (by omega) hIv103 q_dS_rf (fun b g0 g1 => by omega))
    obtain ⟨rfl, hI9, hS9, hz9⟩ := q9
    refine ⟨rfl, hI9, (q_dS_tr hSv102 (q_dS_tr hSv103 hS9)), fun hq b g0 g1 g2 => ?_⟩
    rcases g2 with ⟨g2, e⟩ | g2 | g2
    · rw [e] at g0 g1 ⊢; exact (q_dS_tr hSv103 hS9) _ g0 (by omega) (hNv102 g0 g1)
    · rw [g2.2] at g0 g1 ⊢; exact hS9 _ g0 (by omega) (hNv103 g0 g1)
    · exact hz9 b g0 g1 g2
  · have hk9 : f (9 + a) = 2 := hk9
    refine g_aload_n rfl rfl ?_
    refine g_iload_n rfl rfl ?_
    refine g_cV (as := [tI a]) (s_kindM hG hMc (by omega) (by omega)) rfl rfl mX12_kindAt_ok rfl rfl rfl (by decide) rfl rfl rfl ?_
    rintro _ w9 ⟨rfl, hw9⟩ _
    have hw9 := hw9.symm
    subst hw9
    refine g_istore_n rfl rfl rfl ?_
    refine g_iload_n rfl rfl ?_
    refine g_if_eq (tgt := 28) rfl (by decide) (fun hx => absurd hx (by omega)) (fun _ => ?_)
    refine g_iload_n rfl rfl ?_
    refine g_iconst rfl ⟨by decide, by decide⟩ ?_
    refine g_icmp_eq (tgt := 28) rfl (by decide) (fun hx => absurd hx (by omega)) (fun _ => ?_)
    refine g_iload_n rfl rfl ?_
    refine g_iconst rfl ⟨by decide, by decide⟩ ?_
    refine g_icmp_ne (tgt := 35) rfl (by decide) (fun _ => ?_) (fun hx => absurd hx (by omega))
    refine g_iload_n rfl rfl ?_
    refine g_iconst rfl ⟨by decide, by decide⟩ ?_
    refine g_iconst rfl ⟨by decide, by decide⟩ ?_
    refine g_iS (as := [tI (f (9 + a)), tI 1, tI 3]) mX12_in_ok rfl rfl rfl rfl rfl rfl rfl ?_
    refine g_iload_n rfl rfl ?_
    refine g_iload_n rfl rfl ?_
    refine g_icmp_lt (tgt := 14) rfl (by decide) (fun hx => absurd hx (by omega)) (fun _ => ?_)
    refine g_iload_n rfl rfl ?_
    refine g_iload_n rfl rfl ?_
    refine g_icmp_gt (tgt := 14) rfl (by decide) (fun hx => absurd hx (by omega)) (fun _ => ?_)
    refine g_iconst rfl ⟨by decide, by decide⟩ ?_
    refine g_goto (tgt := 15) rfl (by decide) ?_
    refine x_zreturn rfl rfl (Or.inr rfl) ?_
    intro _
    refine g_if_eq (tgt := 56) rfl (by decide) (fun hx => absurd hx (by omega)) (fun _ => ?_)
    refine g_aload_n rfl rfl ?_
    refine g_aload_n rfl rfl ?_
    refine g_bipush rfl ⟨by decide, by decide⟩ (by decide) ?_
    refine g_iload_n rfl rfl ?_
    refine x_iadd (z := a + 49) rfl (by omega) ⟨by omega, by omega⟩ ?_
    refine g_cV (as := [tI (a + 49)]) (s_of hG hMc (by omega) (by omega)) rfl rfl mX12_of_ok rfl rfl rfl (by decide) rfl rfl rfl ?_
    rintro _ w9 ⟨rfl, hw9⟩ _
    have hw9 := hw9.symm
    subst hw9
    rw [show (a : Int) + 49 = 49 + a by omega]
    refine g_cV (as := [tI (f (49 + a))]) (s_comesTo hG hw hM0 h01 hI (fun g0 g1 => q_v_re h0 h1 g0 g1 hra (Or.inr (Or.inl ⟨by omega, rfl⟩)))) rfl rfl mX12_comesTo_ok rfl rfl rfl (by decide) rfl rfl rfl ?_
    rintro _ v104 ⟨rfl, hIv104, hSv104, hNv104⟩ _
    have hMcv104 := q_dF_Mc hIv104.2.2.2.2 hM0
    have hallv104 := hMcv104.2.2.1
    refine g_iconst rfl ⟨by decide, by decide⟩ ?_
    refine g_istore_n rfl rfl rfl ?_
    refine tp_conseq (fun r9 μ9 q9 => ?_) (l_leads (a := a) (t := f (9 + a)) (μ1 := v104) hG hw hM0 h01 (fun b g g0 g1 => q_v_re h0 h1 g0 g1 hra (Or.inr (Or.inr g))) 0 (by omega) _ (by omega) hIv104 q_dS_rf (fun b g0 g1 => by omega))
    obtain ⟨rfl, hI9, hS9, hz9⟩ := q9
    refine ⟨rfl, hI9, (q_dS_tr hSv104 hS9), fun hq b g0 g1 g2 => ?_⟩
    rcases g2 with ⟨g2, e⟩ | g2 | g2
    · rcases g2 with g2 | g2 | ⟨g2, _⟩ <;> omega
    · rw [g2.2] at g0 g1 ⊢; exact hS9 _ g0 (by omega) (hNv104 g0 g1)
    · exact hz9 b g0 g1 g2
  · have hk9 : f (9 + a) = 3 := hk9
    by_cases hct : ∃ r, 0 ≤ r ∧ r < f 0 ∧ q_re f r ∧ f (9 + r) = 4 ∧ μ.1 230 r = 1
    · obtain ⟨r8, r80, r81, r82, r83, r84⟩ := hct
      have hct : ∃ r, 0 ≤ r ∧ r < f 0 ∧ q_re f r ∧ f (9 + r) = 4 ∧ μ.1 230 r = 1 := ⟨r8, r80, r81, r82, r83, r84⟩
      refine g_aload_n rfl rfl ?_
      refine g_iload_n rfl rfl ?_
      refine g_cV (as := [tI a]) (s_kindM hG hMc (by omega) (by omega)) rfl rfl mX12_kindAt_ok rfl rfl rfl (by decide) rfl rfl rfl ?_
      rintro _ w9 ⟨rfl, hw9⟩ _
      have hw9 := hw9.symm
      subst hw9
      refine g_istore_n rfl rfl rfl ?_
      refine g_iload_n rfl rfl ?_
      refine g_if_eq (tgt := 28) rfl (by decide) (fun hx => absurd hx (by omega)) (fun _ => ?_)
      refine g_iload_n rfl rfl ?_
      refine g_iconst rfl ⟨by decide, by decide⟩ ?_
      refine g_icmp_eq (tgt := 28) rfl (by decide) (fun hx => absurd hx (by omega)) (fun _ => ?_)
      refine g_iload_n rfl rfl ?_
      refine g_iconst rfl ⟨by decide, by decide⟩ ?_
      refine g_icmp_ne (tgt := 35) rfl (by decide) (fun hx => absurd hx (by omega)) (fun _ => ?_)
      refine g_aload_n rfl rfl ?_
      refine g_iconst rfl ⟨by decide, by decide⟩ ?_
      refine g_cV (as := [tI 4]) (s_hasCT hG hw hM0 h01 hI) rfl rfl mX12_hasComeTo_ok rfl rfl rfl (by decide) rfl rfl rfl ?_
      rintro _ w9 ⟨hv, rfl, hv1, hw9⟩ _
      have hw9 := hw9.symm
      subst hw9
      have hv9 : hv = 1 := by
        rcases hv1 with ⟨_, q9⟩ | q9
        · exact absurd r83 (q9 r8 r80 r81 r84)
        · exact q9.1
      refine g_if_eq (tgt := 35) rfl (by decide) (fun hx => absurd hx (by omega)) (fun _ => ?_)
      refine g_aload_n rfl rfl ?_
      refine g_iload_n rfl rfl ?_
      refine g_iconst rfl ⟨by decide, by decide⟩ ?_
      refine x_iadd (z := a + 1) rfl (by omega) ⟨by omega, by omega⟩ ?_
      refine g_cV (as := [tI (a + 1)]) (s_comesTo hG hw hM0 h01 hI (fun g0 g1 => q_v_re h0 h1 g0 g1 hra (Or.inl ⟨by first | exact Or.inl (by omega) | exact Or.inr (Or.inl (by omega)) | exact Or.inr (Or.inr ⟨by omega, r8, r80, r81, r82, r83⟩), rfl⟩))) rfl rfl mX12_comesTo_ok rfl rfl rfl (by decide) rfl rfl rfl ?_
      rintro _ v105 ⟨rfl, hIv105, hSv105, hNv105⟩ _
      have hMcv105 := q_dF_Mc hIv105.2.2.2.2 hM0
      have hallv105 := hMcv105.2.2.1
      refine g_iload_n rfl rfl ?_
      refine g_iconst rfl ⟨by decide, by decide⟩ ?_
      refine g_iconst rfl ⟨by decide, by decide⟩ ?_
      refine g_iS (as := [tI (f (9 + a)), tI 1, tI 3]) mX12_in_ok rfl rfl rfl rfl rfl rfl rfl ?_
      refine g_iload_n rfl rfl ?_
      refine g_iload_n rfl rfl ?_
      refine g_icmp_lt (tgt := 14) rfl (by decide) (fun hx => absurd hx (by omega)) (fun _ => ?_)
      refine g_iload_n rfl rfl ?_
      refine g_iload_n rfl rfl ?_
      refine g_icmp_gt (tgt := 14) rfl (by decide) (fun hx => absurd hx (by omega)) (fun _ => ?_)
      refine g_iconst rfl ⟨by decide, by decide⟩ ?_
      refine g_goto (tgt := 15) rfl (by decide) ?_
      refine x_zreturn rfl rfl (Or.inr rfl) ?_
      intro _
      refine g_if_eq (tgt := 56) rfl (by decide) (fun hx => absurd hx (by omega)) (fun _ => ?_)
      refine g_aload_n rfl rfl ?_
      refine g_aload_n rfl rfl ?_
      refine g_bipush rfl ⟨by decide, by decide⟩ (by decide) ?_
      refine g_iload_n rfl rfl ?_
      refine x_iadd (z := a + 49) rfl (by omega) ⟨by omega, by omega⟩ ?_
      refine g_cV (as := [tI (a + 49)]) (s_of hG hMcv105 (by omega) (by omega)) rfl rfl mX12_of_ok rfl rfl rfl (by decide) rfl rfl rfl ?_
      rintro _ w9 ⟨rfl, hw9⟩ _
      have hw9 := hw9.symm
      subst hw9
      rw [show (a : Int) + 49 = 49 + a by omega]
      refine g_cV (as := [tI (f (49 + a))]) (s_comesTo hG hw hM0 h01 hIv105 (fun g0 g1 => q_v_re h0 h1 g0 g1 hra (Or.inr (Or.inl ⟨by omega, rfl⟩)))) rfl rfl mX12_comesTo_ok rfl rfl rfl (by decide) rfl rfl rfl ?_
      rintro _ v106 ⟨rfl, hIv106, hSv106, hNv106⟩ _
      have hMcv106 := q_dF_Mc hIv106.2.2.2.2 hM0
      have hallv106 := hMcv106.2.2.1
      refine g_iconst rfl ⟨by decide, by decide⟩ ?_
      refine g_istore_n rfl rfl rfl ?_
      refine tp_conseq (fun r9 μ9 q9 => ?_) (l_leads (a := a) (t := f (9 + a)) (μ1 := v106) hG hw hM0 h01 (fun b g g0 g1 => q_v_re h0 h1 g0 g1 hra (Or.inr (Or.inr g))) 0 (by omega) _ (by omega) hIv106 q_dS_rf (fun b g0 g1 => by omega))
      obtain ⟨rfl, hI9, hS9, hz9⟩ := q9
      refine ⟨rfl, hI9, (q_dS_tr hSv105 (q_dS_tr hSv106 hS9)), fun hq b g0 g1 g2 => ?_⟩
      rcases g2 with ⟨g2, e⟩ | g2 | g2
      · rw [e] at g0 g1 ⊢; exact (q_dS_tr hSv106 hS9) _ g0 (by omega) (hNv105 g0 g1)
      · rw [g2.2] at g0 g1 ⊢; exact hS9 _ g0 (by omega) (hNv106 g0 g1)
      · exact hz9 b g0 g1 g2
    · have hnc : ∀ r, 0 ≤ r → r < f 0 → μ.1 230 r = 1 → f (9 + r) ≠ 4 := fun r r0 r1 r2 r3 => hct ⟨r, r0, r1, (hI.1 r r0 (by omega) r2).2, r3, r2⟩
      refine g_aload_n rfl rfl ?_
      refine g_iload_n rfl rfl ?_
      refine g_cV (as := [tI a]) (s_kindM hG hMc (by omega) (by omega)) rfl rfl mX12_kindAt_ok rfl rfl rfl (by decide) rfl rfl rfl ?_
      rintro _ w9 ⟨rfl, hw9⟩ _
      have hw9 := hw9.symm
      subst hw9
      refine g_istore_n rfl rfl rfl ?_
      refine g_iload_n rfl rfl ?_
      refine g_if_eq (tgt := 28) rfl (by decide) (fun hx => absurd hx (by omega)) (fun _ => ?_)
      refine g_iload_n rfl rfl ?_
      refine g_iconst rfl ⟨by decide, by decide⟩ ?_
      refine g_icmp_eq (tgt := 28) rfl (by decide) (fun hx => absurd hx (by omega)) (fun _ => ?_)
      refine g_iload_n rfl rfl ?_
      refine g_iconst rfl ⟨by decide, by decide⟩ ?_
      refine g_icmp_ne (tgt := 35) rfl (by decide) (fun hx => absurd hx (by omega)) (fun _ => ?_)
      refine g_aload_n rfl rfl ?_
      refine g_iconst rfl ⟨by decide, by decide⟩ ?_
      refine g_cV (as := [tI 4]) (s_hasCT hG hw hM0 h01 hI) rfl rfl mX12_hasComeTo_ok rfl rfl rfl (by decide) rfl rfl rfl ?_
      rintro _ w9 ⟨hv, rfl, hv1, hw9⟩ _
      have hw9 := hw9.symm
      subst hw9
      have hv9 : hv = 0 := by
        rcases hv1 with q9 | ⟨_, r, r0, r1, r2, r3⟩
        · exact q9.1
        · exact absurd r3 (hnc r r0 r1 r2)
      refine g_if_eq (tgt := 35) rfl (by decide) (fun _ => ?_) (fun hx => absurd hx (by omega))
      refine g_iload_n rfl rfl ?_
      refine g_iconst rfl ⟨by decide, by decide⟩ ?_
      refine g_iconst rfl ⟨by decide, by decide⟩ ?_
      refine g_iS (as := [tI (f (9 + a)), tI 1, tI 3]) mX12_in_ok rfl rfl rfl rfl rfl rfl rfl ?_
      refine g_iload_n rfl rfl ?_
      refine g_iload_n rfl rfl ?_
      refine g_icmp_lt (tgt := 14) rfl (by decide) (fun hx => absurd hx (by omega)) (fun _ => ?_)
      refine g_iload_n rfl rfl ?_
      refine g_iload_n rfl rfl ?_
      refine g_icmp_gt (tgt := 14) rfl (by decide) (fun hx => absurd hx (by omega)) (fun _ => ?_)
      refine g_iconst rfl ⟨by decide, by decide⟩ ?_
      refine g_goto (tgt := 15) rfl (by decide) ?_
      refine x_zreturn rfl rfl (Or.inr rfl) ?_
      intro _
      refine g_if_eq (tgt := 56) rfl (by decide) (fun hx => absurd hx (by omega)) (fun _ => ?_)
      refine g_aload_n rfl rfl ?_
      refine g_aload_n rfl rfl ?_
      refine g_bipush rfl ⟨by decide, by decide⟩ (by decide) ?_
      refine g_iload_n rfl rfl ?_
      refine x_iadd (z := a + 49) rfl (by omega) ⟨by omega, by omega⟩ ?_
      refine g_cV (as := [tI (a + 49)]) (s_of hG hMc (by omega) (by omega)) rfl rfl mX12_of_ok rfl rfl rfl (by decide) rfl rfl rfl ?_
      rintro _ w9 ⟨rfl, hw9⟩ _
      have hw9 := hw9.symm
      subst hw9
      rw [show (a : Int) + 49 = 49 + a by omega]
      refine g_cV (as := [tI (f (49 + a))]) (s_comesTo hG hw hM0 h01 hI (fun g0 g1 => q_v_re h0 h1 g0 g1 hra (Or.inr (Or.inl ⟨by omega, rfl⟩)))) rfl rfl mX12_comesTo_ok rfl rfl rfl (by decide) rfl rfl rfl ?_
      rintro _ v107 ⟨rfl, hIv107, hSv107, hNv107⟩ _
      have hMcv107 := q_dF_Mc hIv107.2.2.2.2 hM0
      have hallv107 := hMcv107.2.2.1
      refine g_iconst rfl ⟨by decide, by decide⟩ ?_
      refine g_istore_n rfl rfl rfl ?_
      refine tp_conseq (fun r9 μ9 q9 => ?_) (l_leads (a := a) (t := f (9 + a)) (μ1 := v107) hG hw hM0 h01 (fun b g g0 g1 => q_v_re h0 h1 g0 g1 hra (Or.inr (Or.inr g))) 0 (by omega) _ (by omega) hIv107 q_dS_rf (fun b g0 g1 => by omega))
      obtain ⟨rfl, hI9, hS9, hz9⟩ := q9
      have hsame : μ9.1 201 69 = 0 → ∀ b, 0 ≤ b → b < 40 → μ.1 230 b = μ9.1 230 b := fun hq b b0 b1 => q_dI_same hI hI9 hq (q_dS_tr hSv107 hS9) b0 b1
      refine ⟨rfl, hI9, (q_dS_tr hSv107 hS9), fun hq b g0 g1 g2 => ?_⟩
      rcases g2 with ⟨g2, e⟩ | g2 | g2
      · rcases g2 with g2 | g2 | ⟨_, r9, r0, r1, r2, r3⟩
        · omega
        · omega
        · refine absurd r3 (hnc r9 r0 r1 ?_)
          rw [hsame hq r9 r0 (by omega)]
          exact r2.2
      · rw [g2.2] at g0 g1 ⊢; exact hS9 _ g0 (by omega) (hNv107 g0 g1)
      · exact hz9 b g0 g1 g2
  · have hk9 : f (9 + a) = 4 := hk9
    refine g_aload_n rfl rfl ?_
    refine g_iload_n rfl rfl ?_
    refine g_cV (as := [tI a]) (s_kindM hG hMc (by omega) (by omega)) rfl rfl mX12_kindAt_ok rfl rfl rfl (by decide) rfl rfl rfl ?_
    rintro _ w9 ⟨rfl, hw9⟩ _
    have hw9 := hw9.symm
    subst hw9
    refine g_istore_n rfl rfl rfl ?_
    refine g_iload_n rfl rfl ?_
    refine g_if_eq (tgt := 28) rfl (by decide) (fun hx => absurd hx (by omega)) (fun _ => ?_)
    refine g_iload_n rfl rfl ?_
    refine g_iconst rfl ⟨by decide, by decide⟩ ?_
    refine g_icmp_eq (tgt := 28) rfl (by decide) (fun hx => absurd hx (by omega)) (fun _ => ?_)
    refine g_iload_n rfl rfl ?_
    refine g_iconst rfl ⟨by decide, by decide⟩ ?_
    refine g_icmp_ne (tgt := 35) rfl (by decide) (fun _ => ?_) (fun hx => absurd hx (by omega))
    refine g_iload_n rfl rfl ?_
    refine g_iconst rfl ⟨by decide, by decide⟩ ?_
    refine g_iconst rfl ⟨by decide, by decide⟩ ?_
    refine g_iS (as := [tI (f (9 + a)), tI 1, tI 3]) mX12_in_ok rfl rfl rfl rfl rfl rfl rfl ?_
    refine g_iload_n rfl rfl ?_
    refine g_iload_n rfl rfl ?_
    refine g_icmp_lt (tgt := 14) rfl (by decide) (fun hx => absurd hx (by omega)) (fun _ => ?_)
    refine g_iload_n rfl rfl ?_
    refine g_iload_n rfl rfl ?_
    refine g_icmp_gt (tgt := 14) rfl (by decide) (fun _ => ?_) (fun hx => absurd hx (by omega))
    refine g_iconst rfl ⟨by decide, by decide⟩ ?_
    refine x_zreturn rfl rfl (Or.inl rfl) ?_
    intro _
    refine g_if_eq (tgt := 56) rfl (by decide) (fun _ => ?_) (fun hx => absurd hx (by omega))
    refine g_iconst rfl ⟨by decide, by decide⟩ ?_
    refine g_istore_n rfl rfl rfl ?_
    refine tp_conseq (fun r9 μ9 q9 => ?_) (l_leads (a := a) (t := f (9 + a)) (μ1 := μ) hG hw hM0 h01 (fun b g g0 g1 => q_v_re h0 h1 g0 g1 hra (Or.inr (Or.inr g))) 0 (by omega) _ (by omega) hI q_dS_rf (fun b g0 g1 => by omega))
    obtain ⟨rfl, hI9, hS9, hz9⟩ := q9
    refine ⟨rfl, hI9, hS9, fun hq b g0 g1 g2 => ?_⟩
    rcases g2 with ⟨g2, e⟩ | g2 | g2
    · rcases g2 with g2 | g2 | ⟨g2, _⟩ <;> omega
    · omega
    · exact hz9 b g0 g1 g2
  · have hk9 : f (9 + a) = 5 := hk9
    refine g_aload_n rfl rfl ?_
    refine g_iload_n rfl rfl ?_
    refine g_cV (as := [tI a]) (s_kindM hG hMc (by omega) (by omega)) rfl rfl mX12_kindAt_ok rfl rfl rfl (by decide) rfl rfl rfl ?_
    rintro _ w9 ⟨rfl, hw9⟩ _
    have hw9 := hw9.symm
    subst hw9
    refine g_istore_n rfl rfl rfl ?_
    refine g_iload_n rfl rfl ?_
    refine g_if_eq (tgt := 28) rfl (by decide) (fun hx => absurd hx (by omega)) (fun _ => ?_)
    refine g_iload_n rfl rfl ?_
    refine g_iconst rfl ⟨by decide, by decide⟩ ?_
    refine g_icmp_eq (tgt := 28) rfl (by decide) (fun hx => absurd hx (by omega)) (fun _ => ?_)
    refine g_iload_n rfl rfl ?_
    refine g_iconst rfl ⟨by decide, by decide⟩ ?_
    refine g_icmp_ne (tgt := 35) rfl (by decide) (fun _ => ?_) (fun hx => absurd hx (by omega))
    refine g_iload_n rfl rfl ?_
    refine g_iconst rfl ⟨by decide, by decide⟩ ?_
    refine g_iconst rfl ⟨by decide, by decide⟩ ?_
    refine g_iS (as := [tI (f (9 + a)), tI 1, tI 3]) mX12_in_ok rfl rfl rfl rfl rfl rfl rfl ?_
    refine g_iload_n rfl rfl ?_
    refine g_iload_n rfl rfl ?_
    refine g_icmp_lt (tgt := 14) rfl (by decide) (fun hx => absurd hx (by omega)) (fun _ => ?_)
    refine g_iload_n rfl rfl ?_
    refine g_iload_n rfl rfl ?_
    refine g_icmp_gt (tgt := 14) rfl (by decide) (fun _ => ?_) (fun hx => absurd hx (by omega))
    refine g_iconst rfl ⟨by decide, by decide⟩ ?_
    refine x_zreturn rfl rfl (Or.inl rfl) ?_
    intro _
    refine g_if_eq (tgt := 56) rfl (by decide) (fun _ => ?_) (fun hx => absurd hx (by omega))
    refine g_iconst rfl ⟨by decide, by decide⟩ ?_
    refine g_istore_n rfl rfl rfl ?_
    refine tp_conseq (fun r9 μ9 q9 => ?_) (l_leads (a := a) (t := f (9 + a)) (μ1 := μ) hG hw hM0 h01 (fun b g g0 g1 => q_v_re h0 h1 g0 g1 hra (Or.inr (Or.inr g))) 0 (by omega) _ (by omega) hI q_dS_rf (fun b g0 g1 => by omega))
    obtain ⟨rfl, hI9, hS9, hz9⟩ := q9
    refine ⟨rfl, hI9, hS9, fun hq b g0 g1 g2 => ?_⟩
    rcases g2 with ⟨g2, e⟩ | g2 | g2
    · rcases g2 with g2 | g2 | ⟨g2, _⟩ <;> omega
    · omega
    · exact hz9 b g0 g1 g2
  · have hk9 : f (9 + a) = 6 := hk9
    refine g_aload_n rfl rfl ?_
    refine g_iload_n rfl rfl ?_
    refine g_cV (as := [tI a]) (s_kindM hG hMc (by omega) (by omega)) rfl rfl mX12_kindAt_ok rfl rfl rfl (by decide) rfl rfl rfl ?_
    rintro _ w9 ⟨rfl, hw9⟩ _
    have hw9 := hw9.symm
    subst hw9
    refine g_istore_n rfl rfl rfl ?_
    refine g_iload_n rfl rfl ?_
    refine g_if_eq (tgt := 28) rfl (by decide) (fun hx => absurd hx (by omega)) (fun _ => ?_)
    refine g_iload_n rfl rfl ?_
    refine g_iconst rfl ⟨by decide, by decide⟩ ?_
    refine g_icmp_eq (tgt := 28) rfl (by decide) (fun hx => absurd hx (by omega)) (fun _ => ?_)
    refine g_iload_n rfl rfl ?_
    refine g_iconst rfl ⟨by decide, by decide⟩ ?_
    refine g_icmp_ne (tgt := 35) rfl (by decide) (fun _ => ?_) (fun hx => absurd hx (by omega))
    refine g_iload_n rfl rfl ?_
    refine g_iconst rfl ⟨by decide, by decide⟩ ?_
    refine g_iconst rfl ⟨by decide, by decide⟩ ?_
    refine g_iS (as := [tI (f (9 + a)), tI 1, tI 3]) mX12_in_ok rfl rfl rfl rfl rfl rfl rfl ?_
    refine g_iload_n rfl rfl ?_
    refine g_iload_n rfl rfl ?_
    refine g_icmp_lt (tgt := 14) rfl (by decide) (fun hx => absurd hx (by omega)) (fun _ => ?_)
    refine g_iload_n rfl rfl ?_
    refine g_iload_n rfl rfl ?_
    refine g_icmp_gt (tgt := 14) rfl (by decide) (fun _ => ?_) (fun hx => absurd hx (by omega))
    refine g_iconst rfl ⟨by decide, by decide⟩ ?_
    refine x_zreturn rfl rfl (Or.inl rfl) ?_
    intro _
    refine g_if_eq (tgt := 56) rfl (by decide) (fun _ => ?_) (fun hx => absurd hx (by omega))
    refine g_iconst rfl ⟨by decide, by decide⟩ ?_
    refine g_istore_n rfl rfl rfl ?_
    refine tp_conseq (fun r9 μ9 q9 => ?_) (l_leads (a := a) (t := f (9 + a)) (μ1 := μ) hG hw hM0 h01 (fun b g g0 g1 => q_v_re h0 h1 g0 g1 hra (Or.inr (Or.inr g))) 0 (by omega) _ (by omega) hI q_dS_rf (fun b g0 g1 => by omega))
    obtain ⟨rfl, hI9, hS9, hz9⟩ := q9
    refine ⟨rfl, hI9, hS9, fun hq b g0 g1 g2 => ?_⟩
    rcases g2 with ⟨g2, e⟩ | g2 | g2
    · rcases g2 with g2 | g2 | ⟨g2, _⟩ <;> omega
    · omega
    · exact hz9 b g0 g1 g2
