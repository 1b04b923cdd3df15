theorem x_lcmp {G : tp_G} {d : tp_D} {pc : Nat} {ls : List (Option tp_V)} {st : List tp_V} {μ : tp_M} {Φ : Option tp_V → tp_M → Prop} {x : Nat × Nat × Nat} {a b v : Int} (hf : tp_at d pc = some (.lcmp, 1, x)) (hv : tp_lcmp a b = v) (k : tp_g G d (pc + 1) ls (tI v :: st) μ Φ) : tp_g G d pc ls (tL b :: tL a :: st) μ Φ := g_lcmp hf (by rw [hv]; exact k)
theorem t_rk_i {k : Int} (h : 0 ≤ k ∧ k ≤ 4) : (t_rk k = 0 ↔ k = 0) ∧ (t_rk k = 2 ↔ k = 1) ∧ (t_rk k = 3 ↔ k = 2) ∧ (t_rk k = 4 ↔ k = 3) := by
  rcases (show k = 0 ∨ k = 1 ∨ k = 2 ∨ k = 3 ∨ k = 4 by omega) with u | u | u | u | u <;> subst u <;> decide
/-- the reference's reader -/
def ms (T : Int → Int) (len f p m ft lo : Int) (D : Int → Int) (μ : tp_M) : Prop := rd_C T len μ ∧ (μ.1 201 17 = f ∧ (f ≠ 0 → μ.1 201 18 = p)) ∧ μ.1 201 22 = m ∧ μ.1 201 21 = ft ∧ μ.1 201 23 = lo ∧ ∀ j, 0 ≤ j → j < 129 → μ.1 211 j = D j
def rtk (T : Int → Int) (len i : Int) (μ : tp_M) : Prop := μ.1 201 10 = t_e T len i ∧ μ.1 201 13 = t_rk (t_k T len i) ∧ μ.1 201 12 = t_s T len i ∧ (t_k T len i = 2 → μ.1 201 14 = t_v T len i) ∧ μ.1 201 15 = t_wd T len i
def mF (μ0 μ : tp_M) : Prop := (∀ c, c ≠ 201 → c ≠ 211 → μ.1 c = μ0.1 c) ∧ (∀ j, (j < 10 ∨ j = 11 ∨ 23 < j) → μ.1 201 j = μ0.1 201 j) ∧ μ.2 = μ0.2
theorem mF_rf {μ : tp_M} : mF μ μ := ⟨fun _ _ _ => rfl, fun _ _ => rfl, rfl⟩
theorem mF_tr {μ μ1 μ2 : tp_M} (h : mF μ μ1) (h2 : mF μ1 μ2) : mF μ μ2 := ⟨fun c z y => (h2.1 c z y).trans (h.1 c z y), fun j z => (h2.2.1 j z).trans (h.2.1 j z), h2.2.2.trans h.2.2⟩
theorem mF_pi {μ μ1 : tp_M} {j v : Int} (hj : j = 10 ∨ (12 ≤ j ∧ j ≤ 23)) (h : mF μ μ1) : mF μ (tp_pi μ1 201 j v) := ⟨fun c z y => by rw [tp_pi_ne z]; exact h.1 c z y, fun i z => by rw [tp_pi_ix (by omega)]; exact h.2.1 i z, h.2.2⟩
theorem mF_pt {μ μ1 : tp_M} {j v : Int} (h : mF μ μ1) : mF μ (tp_pi μ1 211 j v) := ⟨fun c z y => by rw [tp_pi_ne y]; exact h.1 c z y, fun i z => by rw [tp_pi_ne (by omega)]; exact h.2.1 i z, h.2.2⟩
theorem mF_r {μ μ1 : tp_M} (h : rd_F μ μ1) : mF μ μ1 := ⟨fun c z _ => h.1 c z, fun j z => h.2.1 j (by omega) (by omega), h.2.2⟩
theorem rd_C_m {T : Int → Int} {len : Int} {μ μ' : tp_M} (h : mF μ μ') (hC : rd_C T len μ) : rd_C T len μ' := by
  unfold rd_C
  rw [h.2.1 11 (by omega), h.1 202 (by omega) (by omega)]
  exact hC
theorem s_tok9 {G : tp_G} {μ : tp_M} (hG : tp_Gf G = true) {T : Int → Int} {len f p m ft lo i : Int} {D : Int → Int} (hT : ∀ j, 0 ≤ T j ∧ T j ≤ 255) (h : ms T len f p m ft lo D μ) (h0 : 0 ≤ i) (h1 : i ≤ len) (hnx : μ.1 201 10 = i) : tp_k G mX12_token [tR (some 201)] μ (fun r μ' => r = none ∧ rtk T len i μ' ∧ ms T len f p m ft lo D μ' ∧ μ'.1 201 20 = μ.1 201 20 ∧ mF μ μ') :=
  tp_kc (fun r μ' z => by
    obtain ⟨z1, z2, z3, z4, z5, z6, z7⟩ := z
    refine ⟨z1, ⟨z2, z3, z4, z5, z6⟩, ⟨rd_C_F z7 h.1, ?_, ?_, ?_, ?_, ?_⟩, z7.2.1 20 (by omega) (by omega), mF_r z7⟩
    · rw [z7.2.1 17 (by omega) (by omega), z7.2.1 18 (by omega) (by omega)]; exact h.2.1
    · rw [z7.2.1 22 (by omega) (by omega)]; exact h.2.2.1
    · rw [z7.2.1 21 (by omega) (by omega)]; exact h.2.2.2.1
    · rw [z7.2.1 23 (by omega) (by omega)]; exact h.2.2.2.2.1
    · rw [z7.1 211 (by omega)]; exact h.2.2.2.2.2) (s_tok hG hT h.1 h0 h1 hnx)
set_option maxHeartbeats 4000000 in
set_option maxRecDepth 100000 in
theorem s_aF9 {G : tp_G} {μ : tp_M} (hG : tp_Gf G = true) {T : Int → Int} {len f p m ft lo i F pl : Int} {D : Int → Int} (h : ms T len f p m ft lo D μ) (ht : rtk T len i μ) (hp : f ≠ 0 → p < pl) : tp_k G mX12_addsFault [tR (some 201), tI F, tI pl] μ (fun r μ' => r = none ∧ ∃ f1 p1, (f = 0 → f1 = F ∧ p1 = pl) ∧ (f ≠ 0 → f1 = f ∧ p1 = p) ∧ ms T len f1 p1 m ft lo D μ' ∧ rtk T len i μ' ∧ μ'.1 201 20 = μ.1 201 20 ∧ mF μ μ') := by
  refine tp_ok_of mX12_addsFault_ok rfl (Nat.le_refl _) ?_
  by_cases hf9 : f = 0
  · refine g_aload_n rfl rfl ?_
    refine x_geti (v := f) rfl rfl (by decide) (Or.inl rfl) h.2.1.1 ?_
    refine g_if_eq (tgt := 31) rfl (by decide) (fun _ => ?_) (fun hx => absurd hx (by omega))
    refine g_aload_n rfl rfl ?_
    refine g_iload_n rfl rfl ?_
    refine g_puti rfl rfl (by decide) rfl rfl ?_
    refine g_aload_n rfl rfl ?_
    refine g_iload_n rfl rfl ?_
    refine g_puti rfl rfl (by decide) rfl rfl ?_
    refine x_return rfl rfl ?_
    exact ⟨rfl, F, pl, fun _ => ⟨rfl, rfl⟩, fun z => absurd (show f = 0 by omega) z, ⟨rd_C_m (mF_pi (by decide) (mF_pi (by decide) mF_rf)) h.1, ⟨rfl, fun _ => rfl⟩, h.2.2.1, h.2.2.2.1, h.2.2.2.2.1, h.2.2.2.2.2⟩, ⟨ht.1, ht.2.1, ht.2.2.1, ht.2.2.2.1, ht.2.2.2.2⟩, rfl, (mF_pi (by decide) (mF_pi (by decide) mF_rf))⟩
  · have hp9 := hp hf9
    refine g_aload_n rfl rfl ?_
    refine x_geti (v := f) rfl rfl (by decide) (Or.inl rfl) h.2.1.1 ?_
    refine g_if_eq (tgt := 31) rfl (by decide) (fun hx => absurd hx (by omega)) (fun _ => ?_)
    refine g_iload_n rfl rfl ?_
    refine g_aload_n rfl rfl ?_
    refine x_geti (v := p) rfl rfl (by decide) (Or.inl rfl) (h.2.1.2 hf9) ?_
    refine g_icmp_lt (tgt := 31) rfl (by decide) (fun hx => absurd hx (by omega)) (fun _ => ?_)
    refine g_iload_n rfl rfl ?_
    refine g_aload_n rfl rfl ?_
    refine x_geti (v := p) rfl rfl (by decide) (Or.inl rfl) (h.2.1.2 hf9) ?_
    refine g_icmp_ne (tgt := 41) rfl (by decide) (fun _ => ?_) (fun hx => absurd hx (by omega))
    refine x_return rfl rfl ?_
    exact ⟨rfl, f, p, fun z => absurd z (by omega), fun _ => ⟨rfl, rfl⟩, h, ht, rfl, mF_rf⟩
set_option maxHeartbeats 4000000 in
set_option maxRecDepth 100000 in
theorem s_take1 {G : tp_G} {μ : tp_M} (hG : tp_Gf G = true) {T : Int → Int} {len f p m ft lo i : Int} {D : Int → Int} {R : Int × Int × Int × (Int → Int)} (hT : ∀ j, 0 ≤ T j ∧ T j ≤ 255) (h0 : 0 ≤ i) (h1 : i ≤ len) (h : ms T len f p m ft lo D μ) (ht : rtk T len i μ) (hp : f ≠ 0 → p < t_s T len i) : tp_k G mX12_take [tR (some 201), tI 0, tI 39] μ (fun r μ' => ((t_k T len i ≠ 2 ∧ r = some (tI 0) ∧ μ'.1 201 16 = t_s T len i) ∨ (t_k T len i = 2 ∧ r = some (tI 1) ∧ ∃ f2 p2, t_chk 1 (t_v T len i) (t_s T len i) (f, p, R) = (f2, p2, R) ∧ ms T len f2 p2 m ft lo D μ' ∧ rtk T len (t_e T len i) μ' ∧ μ'.1 201 20 = t_cl 1 (t_v T len i))) ∧ mF μ μ') := by
  refine tp_ok_of mX12_take_ok rfl (Nat.le_refl _) ?_
  have hrk := t_rk_i (t_k_b T len i)
  have hbe := t_e_B (T := T) h1
  have hbs := t_s_B (T := T) h1
  refine g_aload_n rfl rfl ?_
  refine x_geti (v := (t_rk (t_k T len i))) rfl rfl (by decide) (Or.inl rfl) ht.2.1 ?_
  refine g_iconst rfl ⟨by decide, by decide⟩ ?_
  refine g_icmp_eq (tgt := 13) rfl (by decide) (fun h1 => ?_) (fun h1 => ?_)
  · have hk2 : t_k T len i = 2 := hrk.2.2.1.1 (by omega)
    refine g_aload_n rfl rfl ?_
    refine g_aload_n rfl rfl ?_
    refine x_geti (v := (t_v T len i)) rfl rfl (by decide) (Or.inl rfl) (ht.2.2.2.1 hk2) ?_
    refine g_puti rfl rfl (by decide) rfl rfl ?_
    refine g_aload_n rfl rfl ?_
    refine x_geti (v := (t_v T len i)) rfl rfl (by decide) (Or.inl rfl) (ht.2.2.2.1 hk2) ?_
    refine g_iload_n rfl rfl ?_
    refine g_iload_n rfl rfl ?_
    refine g_iS (as := [tI (t_v T len i), tI 0, tI 39]) mX12_in_ok rfl rfl rfl rfl rfl rfl rfl ?_
    refine g_iload_n rfl rfl ?_
    refine g_iload_n rfl rfl ?_
    refine g_icmp_lt (tgt := 14) rfl (by decide) (fun h2 => ?_) (fun h2 => ?_)
    · refine g_iconst rfl ⟨by decide, by decide⟩ ?_
      refine x_zreturn rfl rfl (Or.inl rfl) ?_
      intro _
      refine g_if_ne (tgt := 47) rfl (by decide) (fun hx => absurd hx (by omega)) (fun _ => ?_)
      refine g_aload_n rfl rfl ?_
      refine g_iconst rfl ⟨by decide, by decide⟩ ?_
      refine g_aload_n rfl rfl ?_
      refine x_geti (v := (t_s T len i)) rfl rfl (by decide) (Or.inl rfl) ht.2.2.1 ?_
      refine g_cV (as := [tI 2, tI (t_s T len i)]) (s_aF9 hG (f := f) (p := p) (i := i) (m := m) (ft := ft) (lo := lo) (D := D) (T := T) (len := len) ⟨rd_C_m (mF_pi (by decide) mF_rf) h.1, h.2.1, h.2.2.1, h.2.2.2.1, h.2.2.2.2.1, h.2.2.2.2.2⟩ ⟨ht.1, ht.2.1, ht.2.2.1, ht.2.2.2.1, ht.2.2.2.2⟩ hp) rfl rfl mX12_addsFault_ok rfl rfl rfl (by decide) rfl rfl rfl ?_
      rintro _ w1 ⟨rfl, f1, p1, hz1, hz2, hm1, ht1, h201, hF1⟩ _
      refine g_aload_n rfl rfl ?_
      refine g_iload_n rfl rfl ?_
      refine g_puti rfl rfl (by decide) rfl rfl ?_
      refine g_aload_n rfl rfl ?_
      refine g_cV (as := []) (s_tok9 hG hT (i := t_e T len i) (m := m) (ft := ft) (lo := lo) (D := D) (f := f1) (p := p1) ⟨rd_C_m (mF_pi (by decide) mF_rf) hm1.1, hm1.2.1, hm1.2.2.1, hm1.2.2.2.1, hm1.2.2.2.2.1, hm1.2.2.2.2.2⟩ (by omega) (by omega) ht1.1) rfl rfl mX12_token_ok rfl rfl rfl (by decide) rfl rfl rfl ?_
      rintro _ w2 ⟨rfl, ht2, hm2, h202, hF2⟩ _
      refine g_iconst rfl ⟨by decide, by decide⟩ ?_
      refine x_zreturn rfl rfl (Or.inr rfl) ?_
      refine ⟨Or.inr ⟨hk2, rfl, f1, p1, ?_, hm2, ht2, (by rw [h202]; exact (t_cl_o (w := 1) (v := t_v T len i) (by show _ < (0 : Int) ∨ (39 : Int) < _; omega)).symm)⟩, mF_tr (mF_tr (mF_pi (by decide) mF_rf) hF1) (mF_tr (mF_pi (by decide) mF_rf) hF2)⟩
      by_cases u : f = 0
      · rw [t_chk_a ⟨by show _ < (0 : Int) ∨ (39 : Int) < _; omega, u⟩, (hz1 u).1, (hz1 u).2]
      · rw [t_chk_b (fun z => u z.2), (hz2 u).1, (hz2 u).2]
    · refine g_iload_n rfl rfl ?_
      refine g_iload_n rfl rfl ?_
      refine g_icmp_gt (tgt := 14) rfl (by decide) (fun h3 => ?_) (fun h3 => ?_)
      · refine g_iconst rfl ⟨by decide, by decide⟩ ?_
        refine x_zreturn rfl rfl (Or.inl rfl) ?_
        intro _
        refine g_if_ne (tgt := 47) rfl (by decide) (fun hx => absurd hx (by omega)) (fun _ => ?_)
        refine g_aload_n rfl rfl ?_
        refine g_iconst rfl ⟨by decide, by decide⟩ ?_
        refine g_aload_n rfl rfl ?_
        refine x_geti (v := (t_s T len i)) rfl rfl (by decide) (Or.inl rfl) ht.2.2.1 ?_
        refine g_cV (as := [tI 2, tI (t_s T len i)]) (s_aF9 hG (f := f) (p := p) (i := i) (m := m) (ft := ft) (lo := lo) (D := D) (T := T) (len := len) ⟨rd_C_m (mF_pi (by decide) mF_rf) h.1, h.2.1, h.2.2.1, h.2.2.2.1, h.2.2.2.2.1, h.2.2.2.2.2⟩ ⟨ht.1, ht.2.1, ht.2.2.1, ht.2.2.2.1, ht.2.2.2.2⟩ hp) rfl rfl mX12_addsFault_ok rfl rfl rfl (by decide) rfl rfl rfl ?_
        rintro _ w1 ⟨rfl, f1, p1, hz1, hz2, hm1, ht1, h201, hF1⟩ _
        refine g_aload_n rfl rfl ?_
        refine g_iload_n rfl rfl ?_
        refine g_puti rfl rfl (by decide) rfl rfl ?_
        refine g_aload_n rfl rfl ?_
        refine g_cV (as := []) (s_tok9 hG hT (i := t_e T len i) (m := m) (ft := ft) (lo := lo) (D := D) (f := f1) (p := p1) ⟨rd_C_m (mF_pi (by decide) mF_rf) hm1.1, hm1.2.1, hm1.2.2.1, hm1.2.2.2.1, hm1.2.2.2.2.1, hm1.2.2.2.2.2⟩ (by omega) (by omega) ht1.1) rfl rfl mX12_token_ok rfl rfl rfl (by decide) rfl rfl rfl ?_
        rintro _ w2 ⟨rfl, ht2, hm2, h202, hF2⟩ _
        refine g_iconst rfl ⟨by decide, by decide⟩ ?_
        refine x_zreturn rfl rfl (Or.inr rfl) ?_
        refine ⟨Or.inr ⟨hk2, rfl, f1, p1, ?_, hm2, ht2, (by rw [h202]; exact (t_cl_o (w := 1) (v := t_v T len i) (by show _ < (0 : Int) ∨ (39 : Int) < _; omega)).symm)⟩, mF_tr (mF_tr (mF_pi (by decide) mF_rf) hF1) (mF_tr (mF_pi (by decide) mF_rf) hF2)⟩
        by_cases u : f = 0
        · rw [t_chk_a ⟨by show _ < (0 : Int) ∨ (39 : Int) < _; omega, u⟩, (hz1 u).1, (hz1 u).2]
        · rw [t_chk_b (fun z => u z.2), (hz2 u).1, (hz2 u).2]
      · refine g_iconst rfl ⟨by decide, by decide⟩ ?_
        refine g_goto (tgt := 15) rfl (by decide) ?_
        refine x_zreturn rfl rfl (Or.inr rfl) ?_
        intro _
        refine g_if_ne (tgt := 47) rfl (by decide) (fun _ => ?_) (fun hx => absurd hx (by omega))
        refine g_aload_n rfl rfl ?_
        refine g_cV (as := []) (s_tok9 hG hT (i := t_e T len i) (m := m) (ft := ft) (lo := lo) (D := D) (f := f) (p := p) ⟨rd_C_m (mF_pi (by decide) mF_rf) h.1, h.2.1, h.2.2.1, h.2.2.2.1, h.2.2.2.2.1, h.2.2.2.2.2⟩ (by omega) (by omega) ht.1) rfl rfl mX12_token_ok rfl rfl rfl (by decide) rfl rfl rfl ?_
        rintro _ w2 ⟨rfl, ht2, hm2, h202, hF2⟩ _
        refine g_iconst rfl ⟨by decide, by decide⟩ ?_
        refine x_zreturn rfl rfl (Or.inr rfl) ?_
        exact ⟨Or.inr ⟨hk2, rfl, f, p, t_chk_b (by show ¬ ((_ < (0 : Int) ∨ (39 : Int) < _) ∧ _); omega), hm2, ht2, (by rw [h202]; exact (t_cl_i (w := 1) (v := t_v T len i) (by show (0 : Int) ≤ _ ∧ _ ≤ (39 : Int); omega)).symm)⟩, mF_tr (mF_pi (by decide) mF_rf) hF2⟩
  · refine g_aload_n rfl rfl ?_
    refine g_iV (as := []) mX12_fails_ok rfl rfl rfl rfl rfl rfl (by decide) rfl rfl rfl ?_
    refine g_aload_n rfl rfl ?_
    refine g_aload_n rfl rfl ?_
    refine x_geti (v := (t_s T len i)) rfl rfl (by decide) (Or.inl rfl) ht.2.2.1 ?_
    refine g_puti rfl rfl (by decide) rfl rfl ?_
    refine g_iconst rfl ⟨by decide, by decide⟩ ?_
    refine x_zreturn rfl rfl (Or.inl rfl) ?_
    intro _
    refine x_zreturn rfl rfl (Or.inl rfl) ?_
    exact ⟨Or.inl ⟨by omega, rfl, rfl⟩, (mF_pi (by decide) mF_rf)⟩
set_option maxHeartbeats 4000000 in
set_option maxRecDepth 100000 in
theorem s_take2 {G : tp_G} {μ : tp_M} (hG : tp_Gf G = true) {T : Int → Int} {len f p m ft lo i : Int} {D : Int → Int} {R : Int × Int × Int × (Int → Int)} (hT : ∀ j, 0 ≤ T j ∧ T j ≤ 255) (h0 : 0 ≤ i) (h1 : i ≤ len) (h : ms T len f p m ft lo D μ) (ht : rtk T len i μ) (hp : f ≠ 0 → p < t_s T len i) : tp_k G mX12_take [tR (some 201), tI 0, tI 39] μ (fun r μ' => ((t_k T len i ≠ 2 ∧ r = some (tI 0) ∧ μ'.1 201 16 = t_s T len i) ∨ (t_k T len i = 2 ∧ r = some (tI 1) ∧ ∃ f2 p2, t_chk 2 (t_v T len i) (t_s T len i) (f, p, R) = (f2, p2, R) ∧ ms T len f2 p2 m ft lo D μ' ∧ rtk T len (t_e T len i) μ' ∧ μ'.1 201 20 = t_cl 2 (t_v T len i))) ∧ mF μ μ') := by
  refine tp_ok_of mX12_take_ok rfl (Nat.le_refl _) ?_
  have hrk := t_rk_i (t_k_b T len i)
  have hbe := t_e_B (T := T) h1
  have hbs := t_s_B (T := T) h1
  refine g_aload_n rfl rfl ?_
  refine x_geti (v := (t_rk (t_k T len i))) rfl rfl (by decide) (Or.inl rfl) ht.2.1 ?_
  refine g_iconst rfl ⟨by decide, by decide⟩ ?_
  refine g_icmp_eq (tgt := 13) rfl (by decide) (fun h1 => ?_) (fun h1 => ?_)
  · have hk2 : t_k T len i = 2 := hrk.2.2.1.1 (by omega)
    refine g_aload_n rfl rfl ?_
    refine g_aload_n rfl rfl ?_
    refine x_geti (v := (t_v T len i)) rfl rfl (by decide) (Or.inl rfl) (ht.2.2.2.1 hk2) ?_
    refine g_puti rfl rfl (by decide) rfl rfl ?_
    refine g_aload_n rfl rfl ?_
    refine x_geti (v := (t_v T len i)) rfl rfl (by decide) (Or.inl rfl) (ht.2.2.2.1 hk2) ?_
    refine g_iload_n rfl rfl ?_
    refine g_iload_n rfl rfl ?_
    refine g_iS (as := [tI (t_v T len i), tI 0, tI 39]) mX12_in_ok rfl rfl rfl rfl rfl rfl rfl ?_
    refine g_iload_n rfl rfl ?_
    refine g_iload_n rfl rfl ?_
    refine g_icmp_lt (tgt := 14) rfl (by decide) (fun h2 => ?_) (fun h2 => ?_)
    · refine g_iconst rfl ⟨by decide, by decide⟩ ?_
      refine x_zreturn rfl rfl (Or.inl rfl) ?_
      intro _
      refine g_if_ne (tgt := 47) rfl (by decide) (fun hx => absurd hx (by omega)) (fun _ => ?_)
      refine g_aload_n rfl rfl ?_
      refine g_iconst rfl ⟨by decide, by decide⟩ ?_
      refine g_aload_n rfl rfl ?_
      refine x_geti (v := (t_s T len i)) rfl rfl (by decide) (Or.inl rfl) ht.2.2.1 ?_
      refine g_cV (as := [tI 2, tI (t_s T len i)]) (s_aF9 hG (f := f) (p := p) (i := i) (m := m) (ft := ft) (lo := lo) (D := D) (T := T) (len := len) ⟨rd_C_m (mF_pi (by decide) mF_rf) h.1, h.2.1, h.2.2.1, h.2.2.2.1, h.2.2.2.2.1, h.2.2.2.2.2⟩ ⟨ht.1, ht.2.1, ht.2.2.1, ht.2.2.2.1, ht.2.2.2.2⟩ hp) rfl rfl mX12_addsFault_ok rfl rfl rfl (by decide) rfl rfl rfl ?_
      rintro _ w1 ⟨rfl, f1, p1, hz1, hz2, hm1, ht1, h201, hF1⟩ _
      refine g_aload_n rfl rfl ?_
      refine g_iload_n rfl rfl ?_
      refine g_puti rfl rfl (by decide) rfl rfl ?_
      refine g_aload_n rfl rfl ?_
      refine g_cV (as := []) (s_tok9 hG hT (i := t_e T len i) (m := m) (ft := ft) (lo := lo) (D := D) (f := f1) (p := p1) ⟨rd_C_m (mF_pi (by decide) mF_rf) hm1.1, hm1.2.1, hm1.2.2.1, hm1.2.2.2.1, hm1.2.2.2.2.1, hm1.2.2.2.2.2⟩ (by omega) (by omega) ht1.1) rfl rfl mX12_token_ok rfl rfl rfl (by decide) rfl rfl rfl ?_
      rintro _ w2 ⟨rfl, ht2, hm2, h202, hF2⟩ _
      refine g_iconst rfl ⟨by decide, by decide⟩ ?_
      refine x_zreturn rfl rfl (Or.inr rfl) ?_
      refine ⟨Or.inr ⟨hk2, rfl, f1, p1, ?_, hm2, ht2, (by rw [h202]; exact (t_cl_o (w := 2) (v := t_v T len i) (by show _ < (0 : Int) ∨ (39 : Int) < _; omega)).symm)⟩, mF_tr (mF_tr (mF_pi (by decide) mF_rf) hF1) (mF_tr (mF_pi (by decide) mF_rf) hF2)⟩
      by_cases u : f = 0
      · rw [t_chk_a ⟨by show _ < (0 : Int) ∨ (39 : Int) < _; omega, u⟩, (hz1 u).1, (hz1 u).2]
      · rw [t_chk_b (fun z => u z.2), (hz2 u).1, (hz2 u).2]
    · refine g_iload_n rfl rfl ?_
      refine g_iload_n rfl rfl ?_
      refine g_icmp_gt (tgt := 14) rfl (by decide) (fun h3 => ?_) (fun h3 => ?_)
      · refine g_iconst rfl ⟨by decide, by decide⟩ ?_
        refine x_zreturn rfl rfl (Or.inl rfl) ?_
        intro _
        refine g_if_ne (tgt := 47) rfl (by decide) (fun hx => absurd hx (by omega)) (fun _ => ?_)
        refine g_aload_n rfl rfl ?_
        refine g_iconst rfl ⟨by decide, by decide⟩ ?_
        refine g_aload_n rfl rfl ?_
        refine x_geti (v := (t_s T len i)) rfl rfl (by decide) (Or.inl rfl) ht.2.2.1 ?_
        refine g_cV (as := [tI 2, tI (t_s T len i)]) (s_aF9 hG (f := f) (p := p) (i := i) (m := m) (ft := ft) (lo := lo) (D := D) (T := T) (len := len) ⟨rd_C_m (mF_pi (by decide) mF_rf) h.1, h.2.1, h.2.2.1, h.2.2.2.1, h.2.2.2.2.1, h.2.2.2.2.2⟩ ⟨ht.1, ht.2.1, ht.2.2.1, ht.2.2.2.1, ht.2.2.2.2⟩ hp) rfl rfl mX12_addsFault_ok rfl rfl rfl (by decide) rfl rfl rfl ?_
        rintro _ w1 ⟨rfl, f1, p1, hz1, hz2, hm1, ht1, h201, hF1⟩ _
        refine g_aload_n rfl rfl ?_
        refine g_iload_n rfl rfl ?_
        refine g_puti rfl rfl (by decide) rfl rfl ?_
        refine g_aload_n rfl rfl ?_
        refine g_cV (as := []) (s_tok9 hG hT (i := t_e T len i) (m := m) (ft := ft) (lo := lo) (D := D) (f := f1) (p := p1) ⟨rd_C_m (mF_pi (by decide) mF_rf) hm1.1, hm1.2.1, hm1.2.2.1, hm1.2.2.2.1, hm1.2.2.2.2.1, hm1.2.2.2.2.2⟩ (by omega) (by omega) ht1.1) rfl rfl mX12_token_ok rfl rfl rfl (by decide) rfl rfl rfl ?_
        rintro _ w2 ⟨rfl, ht2, hm2, h202, hF2⟩ _
        refine g_iconst rfl ⟨by decide, by decide⟩ ?_
        refine x_zreturn rfl rfl (Or.inr rfl) ?_
        refine ⟨Or.inr ⟨hk2, rfl, f1, p1, ?_, hm2, ht2, (by rw [h202]; exact (t_cl_o (w := 2) (v := t_v T len i) (by show _ < (0 : Int) ∨ (39 : Int) < _; omega)).symm)⟩, mF_tr (mF_tr (mF_pi (by decide) mF_rf) hF1) (mF_tr (mF_pi (by decide) mF_rf) hF2)⟩
        by_cases u : f = 0
        · rw [t_chk_a ⟨by show _ < (0 : Int) ∨ (39 : Int) < _; omega, u⟩, (hz1 u).1, (hz1 u).2]
        · rw [t_chk_b (fun z => u z.2), (hz2 u).1, (hz2 u).2]
      · refine g_iconst rfl ⟨by decide, by decide⟩ ?_
        refine g_goto (tgt := 15) rfl (by decide) ?_
        refine x_zreturn rfl rfl (Or.inr rfl) ?_
        intro _
        refine g_if_ne (tgt := 47) rfl (by decide) (fun _ => ?_) (fun hx => absurd hx (by omega))
        refine g_aload_n rfl rfl ?_
        refine g_cV (as := []) (s_tok9 hG hT (i := t_e T len i) (m := m) (ft := ft) (lo := lo) (D := D) (f := f) (p := p) ⟨rd_C_m (mF_pi (by decide) mF_rf) h.1, h.2.1, h.2.2.1, h.2.2.2.1, h.2.2.2.2.1, h.2.2.2.2.2⟩ (by omega) (by omega) ht.1) rfl rfl mX12_token_ok rfl rfl rfl (by decide) rfl rfl rfl ?_
        rintro _ w2 ⟨rfl, ht2, hm2, h202, hF2⟩ _
        refine g_iconst rfl ⟨by decide, by decide⟩ ?_
        refine x_zreturn rfl rfl (Or.inr rfl) ?_
        exact ⟨Or.inr ⟨hk2, rfl, f, p, t_chk_b (by show ¬ ((_ < (0 : Int) ∨ (39 : Int) < _) ∧ _); omega), hm2, ht2, (by rw [h202]; exact (t_cl_i (w := 2) (v := t_v T len i) (by show (0 : Int) ≤ _ ∧ _ ≤ (39 : Int); omega)).symm)⟩, mF_tr (mF_pi (by decide) mF_rf) hF2⟩
  · refine g_aload_n rfl rfl ?_
    refine g_iV (as := []) mX12_fails_ok rfl rfl rfl rfl rfl rfl (by decide) rfl rfl rfl ?_
    refine g_aload_n rfl rfl ?_
    refine g_aload_n rfl rfl ?_
    refine x_geti (v := (t_s T len i)) rfl rfl (by decide) (Or.inl rfl) ht.2.2.1 ?_
    refine g_puti rfl rfl (by decide) rfl rfl ?_
    refine g_iconst rfl ⟨by decide, by decide⟩ ?_
    refine x_zreturn rfl rfl (Or.inl rfl) ?_
    intro _
    refine x_zreturn rfl rfl (Or.inl rfl) ?_
    exact ⟨Or.inl ⟨by omega, rfl, rfl⟩, (mF_pi (by decide) mF_rf)⟩
set_option maxHeartbeats 4000000 in
set_option maxRecDepth 100000 in
theorem s_take3 {G : tp_G} {μ : tp_M} (hG : tp_Gf G = true) {T : Int → Int} {len f p m ft lo i : Int} {D : Int → Int} {R : Int × Int × Int × (Int → Int)} (hT : ∀ j, 0 ≤ T j ∧ T j ≤ 255) (h0 : 0 ≤ i) (h1 : i ≤ len) (h : ms T len f p m ft lo D μ) (ht : rtk T len i μ) (hp : f ≠ 0 → p < t_s T len i) : tp_k G mX12_take [tR (some 201), tI 0, tI 39] μ (fun r μ' => ((t_k T len i ≠ 2 ∧ r = some (tI 0) ∧ μ'.1 201 16 = t_s T len i) ∨ (t_k T len i = 2 ∧ r = some (tI 1) ∧ ∃ f2 p2, t_chk 3 (t_v T len i) (t_s T len i) (f, p, R) = (f2, p2, R) ∧ ms T len f2 p2 m ft lo D μ' ∧ rtk T len (t_e T len i) μ' ∧ μ'.1 201 20 = t_cl 3 (t_v T len i))) ∧ mF μ μ') := by
  refine tp_ok_of mX12_take_ok rfl (Nat.le_refl _) ?_
  have hrk := t_rk_i (t_k_b T len i)
  have hbe := t_e_B (T := T) h1
  have hbs := t_s_B (T := T) h1
  refine g_aload_n rfl rfl ?_
  refine x_geti (v := (t_rk (t_k T len i))) rfl rfl (by decide) (Or.inl rfl) ht.2.1 ?_
  refine g_iconst rfl ⟨by decide, by decide⟩ ?_
  refine g_icmp_eq (tgt := 13) rfl (by decide) (fun h1 => ?_) (fun h1 => ?_)
  · have hk2 : t_k T len i = 2 := hrk.2.2.1.1 (by omega)
    refine g_aload_n rfl rfl ?_
    refine g_aload_n rfl rfl ?_
    refine x_geti (v := (t_v T len i)) rfl rfl (by decide) (Or.inl rfl) (ht.2.2.2.1 hk2) ?_
    refine g_puti rfl rfl (by decide) rfl rfl ?_
    refine g_aload_n rfl rfl ?_
    refine x_geti (v := (t_v T len i)) rfl rfl (by decide) (Or.inl rfl) (ht.2.2.2.1 hk2) ?_
    refine g_iload_n rfl rfl ?_
    refine g_iload_n rfl rfl ?_
    refine g_iS (as := [tI (t_v T len i), tI 0, tI 39]) mX12_in_ok rfl rfl rfl rfl rfl rfl rfl ?_
    refine g_iload_n rfl rfl ?_
    refine g_iload_n rfl rfl ?_
    refine g_icmp_lt (tgt := 14) rfl (by decide) (fun h2 => ?_) (fun h2 => ?_)
    · refine g_iconst rfl ⟨by decide, by decide⟩ ?_
      refine x_zreturn rfl rfl (Or.inl rfl) ?_
      intro _
      refine g_if_ne (tgt := 47) rfl (by decide) (fun hx => absurd hx (by omega)) (fun _ => ?_)
      refine g_aload_n rfl rfl ?_
      refine g_iconst rfl ⟨by decide, by decide⟩ ?_
      refine g_aload_n rfl rfl ?_
      refine x_geti (v := (t_s T len i)) rfl rfl (by decide) (Or.inl rfl) ht.2.2.1 ?_
      refine g_cV (as := [tI 2, tI (t_s T len i)]) (s_aF9 hG (f := f) (p := p) (i := i) (m := m) (ft := ft) (lo := lo) (D := D) (T := T) (len := len) ⟨rd_C_m (mF_pi (by decide) mF_rf) h.1, h.2.1, h.2.2.1, h.2.2.2.1, h.2.2.2.2.1, h.2.2.2.2.2⟩ ⟨ht.1, ht.2.1, ht.2.2.1, ht.2.2.2.1, ht.2.2.2.2⟩ hp) rfl rfl mX12_addsFault_ok rfl rfl rfl (by decide) rfl rfl rfl ?_
      rintro _ w1 ⟨rfl, f1, p1, hz1, hz2, hm1, ht1, h201, hF1⟩ _
      refine g_aload_n rfl rfl ?_
      refine g_iload_n rfl rfl ?_
      refine g_puti rfl rfl (by decide) rfl rfl ?_
      refine g_aload_n rfl rfl ?_
      refine g_cV (as := []) (s_tok9 hG hT (i := t_e T len i) (m := m) (ft := ft) (lo := lo) (D := D) (f := f1) (p := p1) ⟨rd_C_m (mF_pi (by decide) mF_rf) hm1.1, hm1.2.1, hm1.2.2.1, hm1.2.2.2.1, hm1.2.2.2.2.1, hm1.2.2.2.2.2⟩ (by omega) (by omega) ht1.1) rfl rfl mX12_token_ok rfl rfl rfl (by decide) rfl rfl rfl ?_
      rintro _ w2 ⟨rfl, ht2, hm2, h202, hF2⟩ _
      refine g_iconst rfl ⟨by decide, by decide⟩ ?_
      refine x_zreturn rfl rfl (Or.inr rfl) ?_
      refine ⟨Or.inr ⟨hk2, rfl, f1, p1, ?_, hm2, ht2, (by rw [h202]; exact (t_cl_o (w := 3) (v := t_v T len i) (by show _ < (0 : Int) ∨ (39 : Int) < _; omega)).symm)⟩, mF_tr (mF_tr (mF_pi (by decide) mF_rf) hF1) (mF_tr (mF_pi (by decide) mF_rf) hF2)⟩
      by_cases u : f = 0
      · rw [t_chk_a ⟨by show _ < (0 : Int) ∨ (39 : Int) < _; omega, u⟩, (hz1 u).1, (hz1 u).2]
      · rw [t_chk_b (fun z => u z.2), (hz2 u).1, (hz2 u).2]
    · refine g_iload_n rfl rfl ?_
      refine g_iload_n rfl rfl ?_
      refine g_icmp_gt (tgt := 14) rfl (by decide) (fun h3 => ?_) (fun h3 => ?_)
      · refine g_iconst rfl ⟨by decide, by decide⟩ ?_
        refine x_zreturn rfl rfl (Or.inl rfl) ?_
        intro _
        refine g_if_ne (tgt := 47) rfl (by decide) (fun hx => absurd hx (by omega)) (fun _ => ?_)
        refine g_aload_n rfl rfl ?_
        refine g_iconst rfl ⟨by decide, by decide⟩ ?_
        refine g_aload_n rfl rfl ?_
        refine x_geti (v := (t_s T len i)) rfl rfl (by decide) (Or.inl rfl) ht.2.2.1 ?_
        refine g_cV (as := [tI 2, tI (t_s T len i)]) (s_aF9 hG (f := f) (p := p) (i := i) (m := m) (ft := ft) (lo := lo) (D := D) (T := T) (len := len) ⟨rd_C_m (mF_pi (by decide) mF_rf) h.1, h.2.1, h.2.2.1, h.2.2.2.1, h.2.2.2.2.1, h.2.2.2.2.2⟩ ⟨ht.1, ht.2.1, ht.2.2.1, ht.2.2.2.1, ht.2.2.2.2⟩ hp) rfl rfl mX12_addsFault_ok rfl rfl rfl (by decide) rfl rfl rfl ?_
        rintro _ w1 ⟨rfl, f1, p1, hz1, hz2, hm1, ht1, h201, hF1⟩ _
        refine g_aload_n rfl rfl ?_
        refine g_iload_n rfl rfl ?_
        refine g_puti rfl rfl (by decide) rfl rfl ?_
        refine g_aload_n rfl rfl ?_
        refine g_cV (as := []) (s_tok9 hG hT (i := t_e T len i) (m := m) (ft := ft) (lo := lo) (D := D) (f := f1) (p := p1) ⟨rd_C_m (mF_pi (by decide) mF_rf) hm1.1, hm1.2.1, hm1.2.2.1, hm1.2.2.2.1, hm1.2.2.2.2.1, hm1.2.2.2.2.2⟩ (by omega) (by omega) ht1.1) rfl rfl mX12_token_ok rfl rfl rfl (by decide) rfl rfl rfl ?_
        rintro _ w2 ⟨rfl, ht2, hm2, h202, hF2⟩ _
        refine g_iconst rfl ⟨by decide, by decide⟩ ?_
        refine x_zreturn rfl rfl (Or.inr rfl) ?_
        refine ⟨Or.inr ⟨hk2, rfl, f1, p1, ?_, hm2, ht2, (by rw [h202]; exact (t_cl_o (w := 3) (v := t_v T len i) (by show _ < (0 : Int) ∨ (39 : Int) < _; omega)).symm)⟩, mF_tr (mF_tr (mF_pi (by decide) mF_rf) hF1) (mF_tr (mF_pi (by decide) mF_rf) hF2)⟩
        by_cases u : f = 0
        · rw [t_chk_a ⟨by show _ < (0 : Int) ∨ (39 : Int) < _; omega, u⟩, (hz1 u).1, (hz1 u).2]
        · rw [t_chk_b (fun z => u z.2), (hz2 u).1, (hz2 u).2]
      · refine g_iconst rfl ⟨by decide, by decide⟩ ?_
        refine g_goto (tgt := 15) rfl (by decide) ?_
        refine x_zreturn rfl rfl (Or.inr rfl) ?_
        intro _
        refine g_if_ne (tgt := 47) rfl (by decide) (fun _ => ?_) (fun hx => absurd hx (by omega))
        refine g_aload_n rfl rfl ?_
        refine g_cV (as := []) (s_tok9 hG hT (i := t_e T len i) (m := m) (ft := ft) (lo := lo) (D := D) (f := f) (p := p) ⟨rd_C_m (mF_pi (by decide) mF_rf) h.1, h.2.1, h.2.2.1, h.2.2.2.1, h.2.2.2.2.1, h.2.2.2.2.2⟩ (by omega) (by omega) ht.1) rfl rfl mX12_token_ok rfl rfl rfl (by decide) rfl rfl rfl ?_
        rintro _ w2 ⟨rfl, ht2, hm2, h202, hF2⟩ _
        refine g_iconst rfl ⟨by decide, by decide⟩ ?_
        refine x_zreturn rfl rfl (Or.inr rfl) ?_
        exact ⟨Or.inr ⟨hk2, rfl, f, p, t_chk_b (by show ¬ ((_ < (0 : Int) ∨ (39 : Int) < _) ∧ _); omega), hm2, ht2, (by rw [h202]; exact (t_cl_i (w := 3) (v := t_v T len i) (by show (0 : Int) ≤ _ ∧ _ ≤ (39 : Int); omega)).symm)⟩, mF_tr (mF_pi (by decide) mF_rf) hF2⟩
  · refine g_aload_n rfl rfl ?_
    refine g_iV (as := []) mX12_fails_ok rfl rfl rfl rfl rfl rfl (by decide) rfl rfl rfl ?_
    refine g_aload_n rfl rfl ?_
    refine g_aload_n rfl rfl ?_
    refine x_geti (v := (t_s T len i)) rfl rfl (by decide) (Or.inl rfl) ht.2.2.1 ?_
    refine g_puti rfl rfl (by decide) rfl rfl ?_
    refine g_iconst rfl ⟨by decide, by decide⟩ ?_
    refine x_zreturn rfl rfl (Or.inl rfl) ?_
    intro _
    refine x_zreturn rfl rfl (Or.inl rfl) ?_
    exact ⟨Or.inl ⟨by omega, rfl, rfl⟩, (mF_pi (by decide) mF_rf)⟩
set_option maxHeartbeats 4000000 in
set_option maxRecDepth 100000 in
theorem s_take7 {G : tp_G} {μ : tp_M} (hG : tp_Gf G = true) {T : Int → Int} {len f p m ft lo i : Int} {D : Int → Int} {R : Int × Int × Int × (Int → Int)} (hT : ∀ j, 0 ≤ T j ∧ T j ≤ 255) (h0 : 0 ≤ i) (h1 : i ≤ len) (h : ms T len f p m ft lo D μ) (ht : rtk T len i μ) (hp : f ≠ 0 → p < t_s T len i) : tp_k G mX12_take [tR (some 201), tI 0, tI 1] μ (fun r μ' => ((t_k T len i ≠ 2 ∧ r = some (tI 0) ∧ μ'.1 201 16 = t_s T len i) ∨ (t_k T len i = 2 ∧ r = some (tI 1) ∧ ∃ f2 p2, t_chk 7 (t_v T len i) (t_s T len i) (f, p, R) = (f2, p2, R) ∧ ms T len f2 p2 m ft lo D μ' ∧ rtk T len (t_e T len i) μ' ∧ μ'.1 201 20 = t_cl 7 (t_v T len i))) ∧ mF μ μ') := by
  refine tp_ok_of mX12_take_ok rfl (Nat.le_refl _) ?_
  have hrk := t_rk_i (t_k_b T len i)
  have hbe := t_e_B (T := T) h1
  have hbs := t_s_B (T := T) h1
  refine g_aload_n rfl rfl ?_
  refine x_geti (v := (t_rk (t_k T len i))) rfl rfl (by decide) (Or.inl rfl) ht.2.1 ?_
  refine g_iconst rfl ⟨by decide, by decide⟩ ?_
  refine g_icmp_eq (tgt := 13) rfl (by decide) (fun h1 => ?_) (fun h1 => ?_)
  · have hk2 : t_k T len i = 2 := hrk.2.2.1.1 (by omega)
    refine g_aload_n rfl rfl ?_
    refine g_aload_n rfl rfl ?_
    refine x_geti (v := (t_v T len i)) rfl rfl (by decide) (Or.inl rfl) (ht.2.2.2.1 hk2) ?_
    refine g_puti rfl rfl (by decide) rfl rfl ?_
    refine g_aload_n rfl rfl ?_
    refine x_geti (v := (t_v T len i)) rfl rfl (by decide) (Or.inl rfl) (ht.2.2.2.1 hk2) ?_
    refine g_iload_n rfl rfl ?_
    refine g_iload_n rfl rfl ?_
    refine g_iS (as := [tI (t_v T len i), tI 0, tI 1]) mX12_in_ok rfl rfl rfl rfl rfl rfl rfl ?_
    refine g_iload_n rfl rfl ?_
    refine g_iload_n rfl rfl ?_
    refine g_icmp_lt (tgt := 14) rfl (by decide) (fun h2 => ?_) (fun h2 => ?_)
    · refine g_iconst rfl ⟨by decide, by decide⟩ ?_
      refine x_zreturn rfl rfl (Or.inl rfl) ?_
      intro _
      refine g_if_ne (tgt := 47) rfl (by decide) (fun hx => absurd hx (by omega)) (fun _ => ?_)
      refine g_aload_n rfl rfl ?_
      refine g_iconst rfl ⟨by decide, by decide⟩ ?_
      refine g_aload_n rfl rfl ?_
      refine x_geti (v := (t_s T len i)) rfl rfl (by decide) (Or.inl rfl) ht.2.2.1 ?_
      refine g_cV (as := [tI 2, tI (t_s T len i)]) (s_aF9 hG (f := f) (p := p) (i := i) (m := m) (ft := ft) (lo := lo) (D := D) (T := T) (len := len) ⟨rd_C_m (mF_pi (by decide) mF_rf) h.1, h.2.1, h.2.2.1, h.2.2.2.1, h.2.2.2.2.1, h.2.2.2.2.2⟩ ⟨ht.1, ht.2.1, ht.2.2.1, ht.2.2.2.1, ht.2.2.2.2⟩ hp) rfl rfl mX12_addsFault_ok rfl rfl rfl (by decide) rfl rfl rfl ?_
      rintro _ w1 ⟨rfl, f1, p1, hz1, hz2, hm1, ht1, h201, hF1⟩ _
      refine g_aload_n rfl rfl ?_
      refine g_iload_n rfl rfl ?_
      refine g_puti rfl rfl (by decide) rfl rfl ?_
      refine g_aload_n rfl rfl ?_
      refine g_cV (as := []) (s_tok9 hG hT (i := t_e T len i) (m := m) (ft := ft) (lo := lo) (D := D) (f := f1) (p := p1) ⟨rd_C_m (mF_pi (by decide) mF_rf) hm1.1, hm1.2.1, hm1.2.2.1, hm1.2.2.2.1, hm1.2.2.2.2.1, hm1.2.2.2.2.2⟩ (by omega) (by omega) ht1.1) rfl rfl mX12_token_ok rfl rfl rfl (by decide) rfl rfl rfl ?_
      rintro _ w2 ⟨rfl, ht2, hm2, h202, hF2⟩ _
      refine g_iconst rfl ⟨by decide, by decide⟩ ?_
      refine x_zreturn rfl rfl (Or.inr rfl) ?_
      refine ⟨Or.inr ⟨hk2, rfl, f1, p1, ?_, hm2, ht2, (by rw [h202]; exact (t_cl_o (w := 7) (v := t_v T len i) (by show _ < (0 : Int) ∨ (1 : Int) < _; omega)).symm)⟩, mF_tr (mF_tr (mF_pi (by decide) mF_rf) hF1) (mF_tr (mF_pi (by decide) mF_rf) hF2)⟩
      by_cases u : f = 0
      · rw [t_chk_a ⟨by show _ < (0 : Int) ∨ (1 : Int) < _; omega, u⟩, (hz1 u).1, (hz1 u).2]
      · rw [t_chk_b (fun z => u z.2), (hz2 u).1, (hz2 u).2]
    · refine g_iload_n rfl rfl ?_
      refine g_iload_n rfl rfl ?_
      refine g_icmp_gt (tgt := 14) rfl (by decide) (fun h3 => ?_) (fun h3 => ?_)
      · refine g_iconst rfl ⟨by decide, by decide⟩ ?_
        refine x_zreturn rfl rfl (Or.inl rfl) ?_
        intro _
        refine g_if_ne (tgt := 47) rfl (by decide) (fun hx => absurd hx (by omega)) (fun _ => ?_)
        refine g_aload_n rfl rfl ?_
        refine g_iconst rfl ⟨by decide, by decide⟩ ?_
        refine g_aload_n rfl rfl ?_
        refine x_geti (v := (t_s T len i)) rfl rfl (by decide) (Or.inl rfl) ht.2.2.1 ?_
        refine g_cV (as := [tI 2, tI (t_s T len i)]) (s_aF9 hG (f := f) (p := p) (i := i) (m := m) (ft := ft) (lo := lo) (D := D) (T := T) (len := len) ⟨rd_C_m (mF_pi (by decide) mF_rf) h.1, h.2.1, h.2.2.1, h.2.2.2.1, h.2.2.2.2.1, h.2.2.2.2.2⟩ ⟨ht.1, ht.2.1, ht.2.2.1, ht.2.2.2.1, ht.2.2.2.2⟩ hp) rfl rfl mX12_addsFault_ok rfl rfl rfl (by decide) rfl rfl rfl ?_
        rintro _ w1 ⟨rfl, f1, p1, hz1, hz2, hm1, ht1, h201, hF1⟩ _
        refine g_aload_n rfl rfl ?_
        refine g_iload_n rfl rfl ?_
        refine g_puti rfl rfl (by decide) rfl rfl ?_
        refine g_aload_n rfl rfl ?_
        refine g_cV (as := []) (s_tok9 hG hT (i := t_e T len i) (m := m) (ft := ft) (lo := lo) (D := D) (f := f1) (p := p1) ⟨rd_C_m (mF_pi (by decide) mF_rf) hm1.1, hm1.2.1, hm1.2.2.1, hm1.2.2.2.1, hm1.2.2.2.2.1, hm1.2.2.2.2.2⟩ (by omega) (by omega) ht1.1) rfl rfl mX12_token_ok rfl rfl rfl (by decide) rfl rfl rfl ?_
        rintro _ w2 ⟨rfl, ht2, hm2, h202, hF2⟩ _
        refine g_iconst rfl ⟨by decide, by decide⟩ ?_
        refine x_zreturn rfl rfl (Or.inr rfl) ?_
        refine ⟨Or.inr ⟨hk2, rfl, f1, p1, ?_, hm2, ht2, (by rw [h202]; exact (t_cl_o (w := 7) (v := t_v T len i) (by show _ < (0 : Int) ∨ (1 : Int) < _; omega)).symm)⟩, mF_tr (mF_tr (mF_pi (by decide) mF_rf) hF1) (mF_tr (mF_pi (by decide) mF_rf) hF2)⟩
        by_cases u : f = 0
        · rw [t_chk_a ⟨by show _ < (0 : Int) ∨ (1 : Int) < _; omega, u⟩, (hz1 u).1, (hz1 u).2]
        · rw [t_chk_b (fun z => u z.2), (hz2 u).1, (hz2 u).2]
      · refine g_iconst rfl ⟨by decide, by decide⟩ ?_
        refine g_goto (tgt := 15) rfl (by decide) ?_
        refine x_zreturn rfl rfl (Or.inr rfl) ?_
        intro _
        refine g_if_ne (tgt := 47) rfl (by decide) (fun _ => ?_) (fun hx => absurd hx (by omega))
        refine g_aload_n rfl rfl ?_
        refine g_cV (as := []) (s_tok9 hG hT (i := t_e T len i) (m := m) (ft := ft) (lo := lo) (D := D) (f := f) (p := p) ⟨rd_C_m (mF_pi (by decide) mF_rf) h.1, h.2.1, h.2.2.1, h.2.2.2.1, h.2.2.2.2.1, h.2.2.2.2.2⟩ (by omega) (by omega) ht.1) rfl rfl mX12_token_ok rfl rfl rfl (by decide) rfl rfl rfl ?_
        rintro _ w2 ⟨rfl, ht2, hm2, h202, hF2⟩ _
        refine g_iconst rfl ⟨by decide, by decide⟩ ?_
        refine x_zreturn rfl rfl (Or.inr rfl) ?_
        exact ⟨Or.inr ⟨hk2, rfl, f, p, t_chk_b (by show ¬ ((_ < (0 : Int) ∨ (1 : Int) < _) ∧ _); omega), hm2, ht2, (by rw [h202]; exact (t_cl_i (w := 7) (v := t_v T len i) (by show (0 : Int) ≤ _ ∧ _ ≤ (1 : Int); omega)).symm)⟩, mF_tr (mF_pi (by decide) mF_rf) hF2⟩
  · refine g_aload_n rfl rfl ?_
    refine g_iV (as := []) mX12_fails_ok rfl rfl rfl rfl rfl rfl (by decide) rfl rfl rfl ?_
    refine g_aload_n rfl rfl ?_
    refine g_aload_n rfl rfl ?_
    refine x_geti (v := (t_s T len i)) rfl rfl (by decide) (Or.inl rfl) ht.2.2.1 ?_
    refine g_puti rfl rfl (by decide) rfl rfl ?_
    refine g_iconst rfl ⟨by decide, by decide⟩ ?_
    refine x_zreturn rfl rfl (Or.inl rfl) ?_
    intro _
    refine x_zreturn rfl rfl (Or.inl rfl) ?_
    exact ⟨Or.inl ⟨by omega, rfl, rfl⟩, (mF_pi (by decide) mF_rf)⟩
set_option maxHeartbeats 4000000 in
set_option maxRecDepth 100000 in
theorem s_take8 {G : tp_G} {μ : tp_M} (hG : tp_Gf G = true) {T : Int → Int} {len f p m ft lo i : Int} {D : Int → Int} {R : Int × Int × Int × (Int → Int)} (hT : ∀ j, 0 ≤ T j ∧ T j ≤ 255) (h0 : 0 ≤ i) (h1 : i ≤ len) (h : ms T len f p m ft lo D μ) (ht : rtk T len i μ) (hp : f ≠ 0 → p < t_s T len i) : tp_k G mX12_take [tR (some 201), tI 1, tI 9] μ (fun r μ' => ((t_k T len i ≠ 2 ∧ r = some (tI 0) ∧ μ'.1 201 16 = t_s T len i) ∨ (t_k T len i = 2 ∧ r = some (tI 1) ∧ ∃ f2 p2, t_chk 8 (t_v T len i) (t_s T len i) (f, p, R) = (f2, p2, R) ∧ ms T len f2 p2 m ft lo D μ' ∧ rtk T len (t_e T len i) μ' ∧ μ'.1 201 20 = t_cl 8 (t_v T len i))) ∧ mF μ μ') := by
  refine tp_ok_of mX12_take_ok rfl (Nat.le_refl _) ?_
  have hrk := t_rk_i (t_k_b T len i)
  have hbe := t_e_B (T := T) h1
  have hbs := t_s_B (T := T) h1
  refine g_aload_n rfl rfl ?_
  refine x_geti (v := (t_rk (t_k T len i))) rfl rfl (by decide) (Or.inl rfl) ht.2.1 ?_
  refine g_iconst rfl ⟨by decide, by decide⟩ ?_
  refine g_icmp_eq (tgt := 13) rfl (by decide) (fun h1 => ?_) (fun h1 => ?_)
  · have hk2 : t_k T len i = 2 := hrk.2.2.1.1 (by omega)
    refine g_aload_n rfl rfl ?_
    refine g_aload_n rfl rfl ?_
    refine x_geti (v := (t_v T len i)) rfl rfl (by decide) (Or.inl rfl) (ht.2.2.2.1 hk2) ?_
    refine g_puti rfl rfl (by decide) rfl rfl ?_
    refine g_aload_n rfl rfl ?_
    refine x_geti (v := (t_v T len i)) rfl rfl (by decide) (Or.inl rfl) (ht.2.2.2.1 hk2) ?_
    refine g_iload_n rfl rfl ?_
    refine g_iload_n rfl rfl ?_
    refine g_iS (as := [tI (t_v T len i), tI 1, tI 9]) mX12_in_ok rfl rfl rfl rfl rfl rfl rfl ?_
    refine g_iload_n rfl rfl ?_
    refine g_iload_n rfl rfl ?_
    refine g_icmp_lt (tgt := 14) rfl (by decide) (fun h2 => ?_) (fun h2 => ?_)
    · refine g_iconst rfl ⟨by decide, by decide⟩ ?_
      refine x_zreturn rfl rfl (Or.inl rfl) ?_
      intro _
      refine g_if_ne (tgt := 47) rfl (by decide) (fun hx => absurd hx (by omega)) (fun _ => ?_)
      refine g_aload_n rfl rfl ?_
      refine g_iconst rfl ⟨by decide, by decide⟩ ?_
      refine g_aload_n rfl rfl ?_
      refine x_geti (v := (t_s T len i)) rfl rfl (by decide) (Or.inl rfl) ht.2.2.1 ?_
      refine g_cV (as := [tI 2, tI (t_s T len i)]) (s_aF9 hG (f := f) (p := p) (i := i) (m := m) (ft := ft) (lo := lo) (D := D) (T := T) (len := len) ⟨rd_C_m (mF_pi (by decide) mF_rf) h.1, h.2.1, h.2.2.1, h.2.2.2.1, h.2.2.2.2.1, h.2.2.2.2.2⟩ ⟨ht.1, ht.2.1, ht.2.2.1, ht.2.2.2.1, ht.2.2.2.2⟩ hp) rfl rfl mX12_addsFault_ok rfl rfl rfl (by decide) rfl rfl rfl ?_
      rintro _ w1 ⟨rfl, f1, p1, hz1, hz2, hm1, ht1, h201, hF1⟩ _
      refine g_aload_n rfl rfl ?_
      refine g_iload_n rfl rfl ?_
      refine g_puti rfl rfl (by decide) rfl rfl ?_
      refine g_aload_n rfl rfl ?_
      refine g_cV (as := []) (s_tok9 hG hT (i := t_e T len i) (m := m) (ft := ft) (lo := lo) (D := D) (f := f1) (p := p1) ⟨rd_C_m (mF_pi (by decide) mF_rf) hm1.1, hm1.2.1, hm1.2.2.1, hm1.2.2.2.1, hm1.2.2.2.2.1, hm1.2.2.2.2.2⟩ (by omega) (by omega) ht1.1) rfl rfl mX12_token_ok rfl rfl rfl (by decide) rfl rfl rfl ?_
      rintro _ w2 ⟨rfl, ht2, hm2, h202, hF2⟩ _
      refine g_iconst rfl ⟨by decide, by decide⟩ ?_
      refine x_zreturn rfl rfl (Or.inr rfl) ?_
      refine ⟨Or.inr ⟨hk2, rfl, f1, p1, ?_, hm2, ht2, (by rw [h202]; exact (t_cl_o (w := 8) (v := t_v T len i) (by show _ < (1 : Int) ∨ (9 : Int) < _; omega)).symm)⟩, mF_tr (mF_tr (mF_pi (by decide) mF_rf) hF1) (mF_tr (mF_pi (by decide) mF_rf) hF2)⟩
      by_cases u : f = 0
      · rw [t_chk_a ⟨by show _ < (1 : Int) ∨ (9 : Int) < _; omega, u⟩, (hz1 u).1, (hz1 u).2]
      · rw [t_chk_b (fun z => u z.2), (hz2 u).1, (hz2 u).2]
    · refine g_iload_n rfl rfl ?_
      refine g_iload_n rfl rfl ?_
      refine g_icmp_gt (tgt := 14) rfl (by decide) (fun h3 => ?_) (fun h3 => ?_)
      · refine g_iconst rfl ⟨by decide, by decide⟩ ?_
        refine x_zreturn rfl rfl (Or.inl rfl) ?_
        intro _
        refine g_if_ne (tgt := 47) rfl (by decide) (fun hx => absurd hx (by omega)) (fun _ => ?_)
        refine g_aload_n rfl rfl ?_
        refine g_iconst rfl ⟨by decide, by decide⟩ ?_
        refine g_aload_n rfl rfl ?_
        refine x_geti (v := (t_s T len i)) rfl rfl (by decide) (Or.inl rfl) ht.2.2.1 ?_
        refine g_cV (as := [tI 2, tI (t_s T len i)]) (s_aF9 hG (f := f) (p := p) (i := i) (m := m) (ft := ft) (lo := lo) (D := D) (T := T) (len := len) ⟨rd_C_m (mF_pi (by decide) mF_rf) h.1, h.2.1, h.2.2.1, h.2.2.2.1, h.2.2.2.2.1, h.2.2.2.2.2⟩ ⟨ht.1, ht.2.1, ht.2.2.1, ht.2.2.2.1, ht.2.2.2.2⟩ hp) rfl rfl mX12_addsFault_ok rfl rfl rfl (by decide) rfl rfl rfl ?_
        rintro _ w1 ⟨rfl, f1, p1, hz1, hz2, hm1, ht1, h201, hF1⟩ _
        refine g_aload_n rfl rfl ?_
        refine g_iload_n rfl rfl ?_
        refine g_puti rfl rfl (by decide) rfl rfl ?_
        refine g_aload_n rfl rfl ?_
        refine g_cV (as := []) (s_tok9 hG hT (i := t_e T len i) (m := m) (ft := ft) (lo := lo) (D := D) (f := f1) (p := p1) ⟨rd_C_m (mF_pi (by decide) mF_rf) hm1.1, hm1.2.1, hm1.2.2.1, hm1.2.2.2.1, hm1.2.2.2.2.1, hm1.2.2.2.2.2⟩ (by omega) (by omega) ht1.1) rfl rfl mX12_token_ok rfl rfl rfl (by decide) rfl rfl rfl ?_
        rintro _ w2 ⟨rfl, ht2, hm2, h202, hF2⟩ _
        refine g_iconst rfl ⟨by decide, by decide⟩ ?_
        refine x_zreturn rfl rfl (Or.inr rfl) ?_
        refine ⟨Or.inr ⟨hk2, rfl, f1, p1, ?_, hm2, ht2, (by rw [h202]; exact (t_cl_o (w := 8) (v := t_v T len i) (by show _ < (1 : Int) ∨ (9 : Int) < _; omega)).symm)⟩, mF_tr (mF_tr (mF_pi (by decide) mF_rf) hF1) (mF_tr (mF_pi (by decide) mF_rf) hF2)⟩
        by_cases u : f = 0
        · rw [t_chk_a ⟨by show _ < (1 : Int) ∨ (9 : Int) < _; omega, u⟩, (hz1 u).1, (hz1 u).2]
        · rw [t_chk_b (fun z => u z.2), (hz2 u).1, (hz2 u).2]
      · refine g_iconst rfl ⟨by decide, by decide⟩ ?_
        refine g_goto (tgt := 15) rfl (by decide) ?_
        refine x_zreturn rfl rfl (Or.inr rfl) ?_
        intro _
        refine g_if_ne (tgt := 47) rfl (by decide) (fun _ => ?_) (fun hx => absurd hx (by omega))
        refine g_aload_n rfl rfl ?_
        refine g_cV (as := []) (s_tok9 hG hT (i := t_e T len i) (m := m) (ft := ft) (lo := lo) (D := D) (f := f) (p := p) ⟨rd_C_m (mF_pi (by decide) mF_rf) h.1, h.2.1, h.2.2.1, h.2.2.2.1, h.2.2.2.2.1, h.2.2.2.2.2⟩ (by omega) (by omega) ht.1) rfl rfl mX12_token_ok rfl rfl rfl (by decide) rfl rfl rfl ?_
        rintro _ w2 ⟨rfl, ht2, hm2, h202, hF2⟩ _
        refine g_iconst rfl ⟨by decide, by decide⟩ ?_
        refine x_zreturn rfl rfl (Or.inr rfl) ?_
        exact ⟨Or.inr ⟨hk2, rfl, f, p, t_chk_b (by show ¬ ((_ < (1 : Int) ∨ (9 : Int) < _) ∧ _); omega), hm2, ht2, (by rw [h202]; exact (t_cl_i (w := 8) (v := t_v T len i) (by show (1 : Int) ≤ _ ∧ _ ≤ (9 : Int); omega)).symm)⟩, mF_tr (mF_pi (by decide) mF_rf) hF2⟩
  · refine g_aload_n rfl rfl ?_
    refine g_iV (as := []) mX12_fails_ok rfl rfl rfl rfl rfl rfl (by decide) rfl rfl rfl ?_
    refine g_aload_n rfl rfl ?_
    refine g_aload_n rfl rfl ?_
    refine x_geti (v := (t_s T len i)) rfl rfl (by decide) (Or.inl rfl) ht.2.2.1 ?_
    refine g_puti rfl rfl (by decide) rfl rfl ?_
    refine g_iconst rfl ⟨by decide, by decide⟩ ?_
    refine x_zreturn rfl rfl (Or.inl rfl) ?_
    intro _
    refine x_zreturn rfl rfl (Or.inl rfl) ?_
    exact ⟨Or.inl ⟨by omega, rfl, rfl⟩, (mF_pi (by decide) mF_rf)⟩
set_option maxHeartbeats 4000000 in
set_option maxRecDepth 100000 in
theorem s_take9 {G : tp_G} {μ : tp_M} (hG : tp_Gf G = true) {T : Int → Int} {len f p m ft lo i : Int} {D : Int → Int} {R : Int × Int × Int × (Int → Int)} (hT : ∀ j, 0 ≤ T j ∧ T j ≤ 255) (h0 : 0 ≤ i) (h1 : i ≤ len) (h : ms T len f p m ft lo D μ) (ht : rtk T len i μ) (hp : f ≠ 0 → p < t_s T len i) : tp_k G mX12_take [tR (some 201), tI 0, tI 4] μ (fun r μ' => ((t_k T len i ≠ 2 ∧ r = some (tI 0) ∧ μ'.1 201 16 = t_s T len i) ∨ (t_k T len i = 2 ∧ r = some (tI 1) ∧ ∃ f2 p2, t_chk 9 (t_v T len i) (t_s T len i) (f, p, R) = (f2, p2, R) ∧ ms T len f2 p2 m ft lo D μ' ∧ rtk T len (t_e T len i) μ' ∧ μ'.1 201 20 = t_cl 9 (t_v T len i))) ∧ mF μ μ') := by
  refine tp_ok_of mX12_take_ok rfl (Nat.le_refl _) ?_
  have hrk := t_rk_i (t_k_b T len i)
  have hbe := t_e_B (T := T) h1
  have hbs := t_s_B (T := T) h1
  refine g_aload_n rfl rfl ?_
  refine x_geti (v := (t_rk (t_k T len i))) rfl rfl (by decide) (Or.inl rfl) ht.2.1 ?_
  refine g_iconst rfl ⟨by decide, by decide⟩ ?_
  refine g_icmp_eq (tgt := 13) rfl (by decide) (fun h1 => ?_) (fun h1 => ?_)
  · have hk2 : t_k T len i = 2 := hrk.2.2.1.1 (by omega)
    refine g_aload_n rfl rfl ?_
    refine g_aload_n rfl rfl ?_
    refine x_geti (v := (t_v T len i)) rfl rfl (by decide) (Or.inl rfl) (ht.2.2.2.1 hk2) ?_
    refine g_puti rfl rfl (by decide) rfl rfl ?_
    refine g_aload_n rfl rfl ?_
    refine x_geti (v := (t_v T len i)) rfl rfl (by decide) (Or.inl rfl) (ht.2.2.2.1 hk2) ?_
    refine g_iload_n rfl rfl ?_
    refine g_iload_n rfl rfl ?_
    refine g_iS (as := [tI (t_v T len i), tI 0, tI 4]) mX12_in_ok rfl rfl rfl rfl rfl rfl rfl ?_
    refine g_iload_n rfl rfl ?_
    refine g_iload_n rfl rfl ?_
    refine g_icmp_lt (tgt := 14) rfl (by decide) (fun h2 => ?_) (fun h2 => ?_)
    · refine g_iconst rfl ⟨by decide, by decide⟩ ?_
      refine x_zreturn rfl rfl (Or.inl rfl) ?_
      intro _
      refine g_if_ne (tgt := 47) rfl (by decide) (fun hx => absurd hx (by omega)) (fun _ => ?_)
      refine g_aload_n rfl rfl ?_
      refine g_iconst rfl ⟨by decide, by decide⟩ ?_
      refine g_aload_n rfl rfl ?_
      refine x_geti (v := (t_s T len i)) rfl rfl (by decide) (Or.inl rfl) ht.2.2.1 ?_
      refine g_cV (as := [tI 2, tI (t_s T len i)]) (s_aF9 hG (f := f) (p := p) (i := i) (m := m) (ft := ft) (lo := lo) (D := D) (T := T) (len := len) ⟨rd_C_m (mF_pi (by decide) mF_rf) h.1, h.2.1, h.2.2.1, h.2.2.2.1, h.2.2.2.2.1, h.2.2.2.2.2⟩ ⟨ht.1, ht.2.1, ht.2.2.1, ht.2.2.2.1, ht.2.2.2.2⟩ hp) rfl rfl mX12_addsFault_ok rfl rfl rfl (by decide) rfl rfl rfl ?_
      rintro _ w1 ⟨rfl, f1, p1, hz1, hz2, hm1, ht1, h201, hF1⟩ _
      refine g_aload_n rfl rfl ?_
      refine g_iload_n rfl rfl ?_
      refine g_puti rfl rfl (by decide) rfl rfl ?_
      refine g_aload_n rfl rfl ?_
      refine g_cV (as := []) (s_tok9 hG hT (i := t_e T len i) (m := m) (ft := ft) (lo := lo) (D := D) (f := f1) (p := p1) ⟨rd_C_m (mF_pi (by decide) mF_rf) hm1.1, hm1.2.1, hm1.2.2.1, hm1.2.2.2.1, hm1.2.2.2.2.1, hm1.2.2.2.2.2⟩ (by omega) (by omega) ht1.1) rfl rfl mX12_token_ok rfl rfl rfl (by decide) rfl rfl rfl ?_
      rintro _ w2 ⟨rfl, ht2, hm2, h202, hF2⟩ _
      refine g_iconst rfl ⟨by decide, by decide⟩ ?_
      refine x_zreturn rfl rfl (Or.inr rfl) ?_
      refine ⟨Or.inr ⟨hk2, rfl, f1, p1, ?_, hm2, ht2, (by rw [h202]; exact (t_cl_o (w := 9) (v := t_v T len i) (by show _ < (0 : Int) ∨ (4 : Int) < _; omega)).symm)⟩, mF_tr (mF_tr (mF_pi (by decide) mF_rf) hF1) (mF_tr (mF_pi (by decide) mF_rf) hF2)⟩
      by_cases u : f = 0
      · rw [t_chk_a ⟨by show _ < (0 : Int) ∨ (4 : Int) < _; omega, u⟩, (hz1 u).1, (hz1 u).2]
      · rw [t_chk_b (fun z => u z.2), (hz2 u).1, (hz2 u).2]
    · refine g_iload_n rfl rfl ?_
      refine g_iload_n rfl rfl ?_
      refine g_icmp_gt (tgt := 14) rfl (by decide) (fun h3 => ?_) (fun h3 => ?_)
      · refine g_iconst rfl ⟨by decide, by decide⟩ ?_
        refine x_zreturn rfl rfl (Or.inl rfl) ?_
        intro _
        refine g_if_ne (tgt := 47) rfl (by decide) (fun hx => absurd hx (by omega)) (fun _ => ?_)
        refine g_aload_n rfl rfl ?_
        refine g_iconst rfl ⟨by decide, by decide⟩ ?_
        refine g_aload_n rfl rfl ?_
        refine x_geti (v := (t_s T len i)) rfl rfl (by decide) (Or.inl rfl) ht.2.2.1 ?_
        refine g_cV (as := [tI 2, tI (t_s T len i)]) (s_aF9 hG (f := f) (p := p) (i := i) (m := m) (ft := ft) (lo := lo) (D := D) (T := T) (len := len) ⟨rd_C_m (mF_pi (by decide) mF_rf) h.1, h.2.1, h.2.2.1, h.2.2.2.1, h.2.2.2.2.1, h.2.2.2.2.2⟩ ⟨ht.1, ht.2.1, ht.2.2.1, ht.2.2.2.1, ht.2.2.2.2⟩ hp) rfl rfl mX12_addsFault_ok rfl rfl rfl (by decide) rfl rfl rfl ?_
        rintro _ w1 ⟨rfl, f1, p1, hz1, hz2, hm1, ht1, h201, hF1⟩ _
        refine g_aload_n rfl rfl ?_
        refine g_iload_n rfl rfl ?_
        refine g_puti rfl rfl (by decide) rfl rfl ?_
        refine g_aload_n rfl rfl ?_
        refine g_cV (as := []) (s_tok9 hG hT (i := t_e T len i) (m := m) (ft := ft) (lo := lo) (D := D) (f := f1) (p := p1) ⟨rd_C_m (mF_pi (by decide) mF_rf) hm1.1, hm1.2.1, hm1.2.2.1, hm1.2.2.2.1, hm1.2.2.2.2.1, hm1.2.2.2.2.2⟩ (by omega) (by omega) ht1.1) rfl rfl mX12_token_ok rfl rfl rfl (by decide) rfl rfl rfl ?_
        rintro _ w2 ⟨rfl, ht2, hm2, h202, hF2⟩ _
        refine g_iconst rfl ⟨by decide, by decide⟩ ?_
        refine x_zreturn rfl rfl (Or.inr rfl) ?_
        refine ⟨Or.inr ⟨hk2, rfl, f1, p1, ?_, hm2, ht2, (by rw [h202]; exact (t_cl_o (w := 9) (v := t_v T len i) (by show _ < (0 : Int) ∨ (4 : Int) < _; omega)).symm)⟩, mF_tr (mF_tr (mF_pi (by decide) mF_rf) hF1) (mF_tr (mF_pi (by decide) mF_rf) hF2)⟩
        by_cases u : f = 0
        · rw [t_chk_a ⟨by show _ < (0 : Int) ∨ (4 : Int) < _; omega, u⟩, (hz1 u).1, (hz1 u).2]
        · rw [t_chk_b (fun z => u z.2), (hz2 u).1, (hz2 u).2]
      · refine g_iconst rfl ⟨by decide, by decide⟩ ?_
        refine g_goto (tgt := 15) rfl (by decide) ?_
        refine x_zreturn rfl rfl (Or.inr rfl) ?_
        intro _
        refine g_if_ne (tgt := 47) rfl (by decide) (fun _ => ?_) (fun hx => absurd hx (by omega))
        refine g_aload_n rfl rfl ?_
        refine g_cV (as := []) (s_tok9 hG hT (i := t_e T len i) (m := m) (ft := ft) (lo := lo) (D := D) (f := f) (p := p) ⟨rd_C_m (mF_pi (by decide) mF_rf) h.1, h.2.1, h.2.2.1, h.2.2.2.1, h.2.2.2.2.1, h.2.2.2.2.2⟩ (by omega) (by omega) ht.1) rfl rfl mX12_token_ok rfl rfl rfl (by decide) rfl rfl rfl ?_
        rintro _ w2 ⟨rfl, ht2, hm2, h202, hF2⟩ _
        refine g_iconst rfl ⟨by decide, by decide⟩ ?_
        refine x_zreturn rfl rfl (Or.inr rfl) ?_
        exact ⟨Or.inr ⟨hk2, rfl, f, p, t_chk_b (by show ¬ ((_ < (0 : Int) ∨ (4 : Int) < _) ∧ _); omega), hm2, ht2, (by rw [h202]; exact (t_cl_i (w := 9) (v := t_v T len i) (by show (0 : Int) ≤ _ ∧ _ ≤ (4 : Int); omega)).symm)⟩, mF_tr (mF_pi (by decide) mF_rf) hF2⟩
  · refine g_aload_n rfl rfl ?_
    refine g_iV (as := []) mX12_fails_ok rfl rfl rfl rfl rfl rfl (by decide) rfl rfl rfl ?_
    refine g_aload_n rfl rfl ?_
    refine g_aload_n rfl rfl ?_
    refine x_geti (v := (t_s T len i)) rfl rfl (by decide) (Or.inl rfl) ht.2.2.1 ?_
    refine g_puti rfl rfl (by decide) rfl rfl ?_
    refine g_iconst rfl ⟨by decide, by decide⟩ ?_
    refine x_zreturn rfl rfl (Or.inl rfl) ?_
    intro _
    refine x_zreturn rfl rfl (Or.inl rfl) ?_
    exact ⟨Or.inl ⟨by omega, rfl, rfl⟩, (mF_pi (by decide) mF_rf)⟩
set_option maxHeartbeats 4000000 in
set_option maxRecDepth 100000 in
theorem s_take10 {G : tp_G} {μ : tp_M} (hG : tp_Gf G = true) {T : Int → Int} {len f p m ft lo i : Int} {D : Int → Int} {R : Int × Int × Int × (Int → Int)} (hT : ∀ j, 0 ≤ T j ∧ T j ≤ 255) (h0 : 0 ≤ i) (h1 : i ≤ len) (h : ms T len f p m ft lo D μ) (ht : rtk T len i μ) (hp : f ≠ 0 → p < t_s T len i) : tp_k G mX12_take [tR (some 201), tI 2, tI 99] μ (fun r μ' => ((t_k T len i ≠ 2 ∧ r = some (tI 0) ∧ μ'.1 201 16 = t_s T len i) ∨ (t_k T len i = 2 ∧ r = some (tI 1) ∧ ∃ f2 p2, t_chk 10 (t_v T len i) (t_s T len i) (f, p, R) = (f2, p2, R) ∧ ms T len f2 p2 m ft lo D μ' ∧ rtk T len (t_e T len i) μ' ∧ μ'.1 201 20 = t_cl 10 (t_v T len i))) ∧ mF μ μ') := by
  refine tp_ok_of mX12_take_ok rfl (Nat.le_refl _) ?_
  have hrk := t_rk_i (t_k_b T len i)
  have hbe := t_e_B (T := T) h1
  have hbs := t_s_B (T := T) h1
  refine g_aload_n rfl rfl ?_
  refine x_geti (v := (t_rk (t_k T len i))) rfl rfl (by decide) (Or.inl rfl) ht.2.1 ?_
  refine g_iconst rfl ⟨by decide, by decide⟩ ?_
  refine g_icmp_eq (tgt := 13) rfl (by decide) (fun h1 => ?_) (fun h1 => ?_)
  · have hk2 : t_k T len i = 2 := hrk.2.2.1.1 (by omega)
    refine g_aload_n rfl rfl ?_
    refine g_aload_n rfl rfl ?_
    refine x_geti (v := (t_v T len i)) rfl rfl (by decide) (Or.inl rfl) (ht.2.2.2.1 hk2) ?_
    refine g_puti rfl rfl (by decide) rfl rfl ?_
    refine g_aload_n rfl rfl ?_
    refine x_geti (v := (t_v T len i)) rfl rfl (by decide) (Or.inl rfl) (ht.2.2.2.1 hk2) ?_
    refine g_iload_n rfl rfl ?_
    refine g_iload_n rfl rfl ?_
    refine g_iS (as := [tI (t_v T len i), tI 2, tI 99]) mX12_in_ok rfl rfl rfl rfl rfl rfl rfl ?_
    refine g_iload_n rfl rfl ?_
    refine g_iload_n rfl rfl ?_
    refine g_icmp_lt (tgt := 14) rfl (by decide) (fun h2 => ?_) (fun h2 => ?_)
    · refine g_iconst rfl ⟨by decide, by decide⟩ ?_
      refine x_zreturn rfl rfl (Or.inl rfl) ?_
      intro _
      refine g_if_ne (tgt := 47) rfl (by decide) (fun hx => absurd hx (by omega)) (fun _ => ?_)
      refine g_aload_n rfl rfl ?_
      refine g_iconst rfl ⟨by decide, by decide⟩ ?_
      refine g_aload_n rfl rfl ?_
      refine x_geti (v := (t_s T len i)) rfl rfl (by decide) (Or.inl rfl) ht.2.2.1 ?_
      refine g_cV (as := [tI 2, tI (t_s T len i)]) (s_aF9 hG (f := f) (p := p) (i := i) (m := m) (ft := ft) (lo := lo) (D := D) (T := T) (len := len) ⟨rd_C_m (mF_pi (by decide) mF_rf) h.1, h.2.1, h.2.2.1, h.2.2.2.1, h.2.2.2.2.1, h.2.2.2.2.2⟩ ⟨ht.1, ht.2.1, ht.2.2.1, ht.2.2.2.1, ht.2.2.2.2⟩ hp) rfl rfl mX12_addsFault_ok rfl rfl rfl (by decide) rfl rfl rfl ?_
      rintro _ w1 ⟨rfl, f1, p1, hz1, hz2, hm1, ht1, h201, hF1⟩ _
      refine g_aload_n rfl rfl ?_
      refine g_iload_n rfl rfl ?_
      refine g_puti rfl rfl (by decide) rfl rfl ?_
      refine g_aload_n rfl rfl ?_
      refine g_cV (as := []) (s_tok9 hG hT (i := t_e T len i) (m := m) (ft := ft) (lo := lo) (D := D) (f := f1) (p := p1) ⟨rd_C_m (mF_pi (by decide) mF_rf) hm1.1, hm1.2.1, hm1.2.2.1, hm1.2.2.2.1, hm1.2.2.2.2.1, hm1.2.2.2.2.2⟩ (by omega) (by omega) ht1.1) rfl rfl mX12_token_ok rfl rfl rfl (by decide) rfl rfl rfl ?_
      rintro _ w2 ⟨rfl, ht2, hm2, h202, hF2⟩ _
      refine g_iconst rfl ⟨by decide, by decide⟩ ?_
      refine x_zreturn rfl rfl (Or.inr rfl) ?_
      refine ⟨Or.inr ⟨hk2, rfl, f1, p1, ?_, hm2, ht2, (by rw [h202]; exact (t_cl_o (w := 10) (v := t_v T len i) (by show _ < (2 : Int) ∨ (99 : Int) < _; omega)).symm)⟩, mF_tr (mF_tr (mF_pi (by decide) mF_rf) hF1) (mF_tr (mF_pi (by decide) mF_rf) hF2)⟩
      by_cases u : f = 0
      · rw [t_chk_a ⟨by show _ < (2 : Int) ∨ (99 : Int) < _; omega, u⟩, (hz1 u).1, (hz1 u).2]
      · rw [t_chk_b (fun z => u z.2), (hz2 u).1, (hz2 u).2]
    · refine g_iload_n rfl rfl ?_
      refine g_iload_n rfl rfl ?_
      refine g_icmp_gt (tgt := 14) rfl (by decide) (fun h3 => ?_) (fun h3 => ?_)
      · refine g_iconst rfl ⟨by decide, by decide⟩ ?_
        refine x_zreturn rfl rfl (Or.inl rfl) ?_
        intro _
        refine g_if_ne (tgt := 47) rfl (by decide) (fun hx => absurd hx (by omega)) (fun _ => ?_)
        refine g_aload_n rfl rfl ?_
        refine g_iconst rfl ⟨by decide, by decide⟩ ?_
        refine g_aload_n rfl rfl ?_
        refine x_geti (v := (t_s T len i)) rfl rfl (by decide) (Or.inl rfl) ht.2.2.1 ?_
        refine g_cV (as := [tI 2, tI (t_s T len i)]) (s_aF9 hG (f := f) (p := p) (i := i) (m := m) (ft := ft) (lo := lo) (D := D) (T := T) (len := len) ⟨rd_C_m (mF_pi (by decide) mF_rf) h.1, h.2.1, h.2.2.1, h.2.2.2.1, h.2.2.2.2.1, h.2.2.2.2.2⟩ ⟨ht.1, ht.2.1, ht.2.2.1, ht.2.2.2.1, ht.2.2.2.2⟩ hp) rfl rfl mX12_addsFault_ok rfl rfl rfl (by decide) rfl rfl rfl ?_
        rintro _ w1 ⟨rfl, f1, p1, hz1, hz2, hm1, ht1, h201, hF1⟩ _
        refine g_aload_n rfl rfl ?_
        refine g_iload_n rfl rfl ?_
        refine g_puti rfl rfl (by decide) rfl rfl ?_
        refine g_aload_n rfl rfl ?_
        refine g_cV (as := []) (s_tok9 hG hT (i := t_e T len i) (m := m) (ft := ft) (lo := lo) (D := D) (f := f1) (p := p1) ⟨rd_C_m (mF_pi (by decide) mF_rf) hm1.1, hm1.2.1, hm1.2.2.1, hm1.2.2.2.1, hm1.2.2.2.2.1, hm1.2.2.2.2.2⟩ (by omega) (by omega) ht1.1) rfl rfl mX12_token_ok rfl rfl rfl (by decide) rfl rfl rfl ?_
        rintro _ w2 ⟨rfl, ht2, hm2, h202, hF2⟩ _
        refine g_iconst rfl ⟨by decide, by decide⟩ ?_
        refine x_zreturn rfl rfl (Or.inr rfl) ?_
        refine ⟨Or.inr ⟨hk2, rfl, f1, p1, ?_, hm2, ht2, (by rw [h202]; exact (t_cl_o (w := 10) (v := t_v T len i) (by show _ < (2 : Int) ∨ (99 : Int) < _; omega)).symm)⟩, mF_tr (mF_tr (mF_pi (by decide) mF_rf) hF1) (mF_tr (mF_pi (by decide) mF_rf) hF2)⟩
        by_cases u : f = 0
        · rw [t_chk_a ⟨by show _ < (2 : Int) ∨ (99 : Int) < _; omega, u⟩, (hz1 u).1, (hz1 u).2]
        · rw [t_chk_b (fun z => u z.2), (hz2 u).1, (hz2 u).2]
      · refine g_iconst rfl ⟨by decide, by decide⟩ ?_
        refine g_goto (tgt := 15) rfl (by decide) ?_
        refine x_zreturn rfl rfl (Or.inr rfl) ?_
        intro _
        refine g_if_ne (tgt := 47) rfl (by decide) (fun _ => ?_) (fun hx => absurd hx (by omega))
        refine g_aload_n rfl rfl ?_
        refine g_cV (as := []) (s_tok9 hG hT (i := t_e T len i) (m := m) (ft := ft) (lo := lo) (D := D) (f := f) (p := p) ⟨rd_C_m (mF_pi (by decide) mF_rf) h.1, h.2.1, h.2.2.1, h.2.2.2.1, h.2.2.2.2.1, h.2.2.2.2.2⟩ (by omega) (by omega) ht.1) rfl rfl mX12_token_ok rfl rfl rfl (by decide) rfl rfl rfl ?_
        rintro _ w2 ⟨rfl, ht2, hm2, h202, hF2⟩ _
        refine g_iconst rfl ⟨by decide, by decide⟩ ?_
        refine x_zreturn rfl rfl (Or.inr rfl) ?_
        exact ⟨Or.inr ⟨hk2, rfl, f, p, t_chk_b (by show ¬ ((_ < (2 : Int) ∨ (99 : Int) < _) ∧ _); omega), hm2, ht2, (by rw [h202]; exact (t_cl_i (w := 10) (v := t_v T len i) (by show (2 : Int) ≤ _ ∧ _ ≤ (99 : Int); omega)).symm)⟩, mF_tr (mF_pi (by decide) mF_rf) hF2⟩
  · refine g_aload_n rfl rfl ?_
    refine g_iV (as := []) mX12_fails_ok rfl rfl rfl rfl rfl rfl (by decide) rfl rfl rfl ?_
    refine g_aload_n rfl rfl ?_
    refine g_aload_n rfl rfl ?_
    refine x_geti (v := (t_s T len i)) rfl rfl (by decide) (Or.inl rfl) ht.2.2.1 ?_
    refine g_puti rfl rfl (by decide) rfl rfl ?_
    refine g_iconst rfl ⟨by decide, by decide⟩ ?_
    refine x_zreturn rfl rfl (Or.inl rfl) ?_
    intro _
    refine x_zreturn rfl rfl (Or.inl rfl) ?_
    exact ⟨Or.inl ⟨by omega, rfl, rfl⟩, (mF_pi (by decide) mF_rf)⟩
set_option maxHeartbeats 4000000 in
set_option maxRecDepth 100000 in
theorem s_take11 {G : tp_G} {μ : tp_M} (hG : tp_Gf G = true) {T : Int → Int} {len f p m ft lo i : Int} {D : Int → Int} {R : Int × Int × Int × (Int → Int)} (hT : ∀ j, 0 ≤ T j ∧ T j ≤ 255) (h0 : 0 ≤ i) (h1 : i ≤ len) (h : ms T len f p m ft lo D μ) (ht : rtk T len i μ) (hp : f ≠ 0 → p < t_s T len i) : tp_k G mX12_take [tR (some 201), tI 0, tI 39] μ (fun r μ' => ((t_k T len i ≠ 2 ∧ r = some (tI 0) ∧ μ'.1 201 16 = t_s T len i) ∨ (t_k T len i = 2 ∧ r = some (tI 1) ∧ ∃ f2 p2, t_chk 11 (t_v T len i) (t_s T len i) (f, p, R) = (f2, p2, R) ∧ ms T len f2 p2 m ft lo D μ' ∧ rtk T len (t_e T len i) μ' ∧ μ'.1 201 20 = t_cl 11 (t_v T len i))) ∧ mF μ μ') := by
  refine tp_ok_of mX12_take_ok rfl (Nat.le_refl _) ?_
  have hrk := t_rk_i (t_k_b T len i)
  have hbe := t_e_B (T := T) h1
  have hbs := t_s_B (T := T) h1
  refine g_aload_n rfl rfl ?_
  refine x_geti (v := (t_rk (t_k T len i))) rfl rfl (by decide) (Or.inl rfl) ht.2.1 ?_
  refine g_iconst rfl ⟨by decide, by decide⟩ ?_
  refine g_icmp_eq (tgt := 13) rfl (by decide) (fun h1 => ?_) (fun h1 => ?_)
  · have hk2 : t_k T len i = 2 := hrk.2.2.1.1 (by omega)
    refine g_aload_n rfl rfl ?_
    refine g_aload_n rfl rfl ?_
    refine x_geti (v := (t_v T len i)) rfl rfl (by decide) (Or.inl rfl) (ht.2.2.2.1 hk2) ?_
    refine g_puti rfl rfl (by decide) rfl rfl ?_
    refine g_aload_n rfl rfl ?_
    refine x_geti (v := (t_v T len i)) rfl rfl (by decide) (Or.inl rfl) (ht.2.2.2.1 hk2) ?_
    refine g_iload_n rfl rfl ?_
    refine g_iload_n rfl rfl ?_
    refine g_iS (as := [tI (t_v T len i), tI 0, tI 39]) mX12_in_ok rfl rfl rfl rfl rfl rfl rfl ?_
    refine g_iload_n rfl rfl ?_
    refine g_iload_n rfl rfl ?_
    refine g_icmp_lt (tgt := 14) rfl (by decide) (fun h2 => ?_) (fun h2 => ?_)
    · refine g_iconst rfl ⟨by decide, by decide⟩ ?_
      refine x_zreturn rfl rfl (Or.inl rfl) ?_
      intro _
      refine g_if_ne (tgt := 47) rfl (by decide) (fun hx => absurd hx (by omega)) (fun _ => ?_)
      refine g_aload_n rfl rfl ?_
      refine g_iconst rfl ⟨by decide, by decide⟩ ?_
      refine g_aload_n rfl rfl ?_
      refine x_geti (v := (t_s T len i)) rfl rfl (by decide) (Or.inl rfl) ht.2.2.1 ?_
      refine g_cV (as := [tI 2, tI (t_s T len i)]) (s_aF9 hG (f := f) (p := p) (i := i) (m := m) (ft := ft) (lo := lo) (D := D) (T := T) (len := len) ⟨rd_C_m (mF_pi (by decide) mF_rf) h.1, h.2.1, h.2.2.1, h.2.2.2.1, h.2.2.2.2.1, h.2.2.2.2.2⟩ ⟨ht.1, ht.2.1, ht.2.2.1, ht.2.2.2.1, ht.2.2.2.2⟩ hp) rfl rfl mX12_addsFault_ok rfl rfl rfl (by decide) rfl rfl rfl ?_
      rintro _ w1 ⟨rfl, f1, p1, hz1, hz2, hm1, ht1, h201, hF1⟩ _
      refine g_aload_n rfl rfl ?_
      refine g_iload_n rfl rfl ?_
      refine g_puti rfl rfl (by decide) rfl rfl ?_
      refine g_aload_n rfl rfl ?_
      refine g_cV (as := []) (s_tok9 hG hT (i := t_e T len i) (m := m) (ft := ft) (lo := lo) (D := D) (f := f1) (p := p1) ⟨rd_C_m (mF_pi (by decide) mF_rf) hm1.1, hm1.2.1, hm1.2.2.1, hm1.2.2.2.1, hm1.2.2.2.2.1, hm1.2.2.2.2.2⟩ (by omega) (by omega) ht1.1) rfl rfl mX12_token_ok rfl rfl rfl (by decide) rfl rfl rfl ?_
      rintro _ w2 ⟨rfl, ht2, hm2, h202, hF2⟩ _
      refine g_iconst rfl ⟨by decide, by decide⟩ ?_
      refine x_zreturn rfl rfl (Or.inr rfl) ?_
      refine ⟨Or.inr ⟨hk2, rfl, f1, p1, ?_, hm2, ht2, (by rw [h202]; exact (t_cl_o (w := 11) (v := t_v T len i) (by show _ < (0 : Int) ∨ (39 : Int) < _; omega)).symm)⟩, mF_tr (mF_tr (mF_pi (by decide) mF_rf) hF1) (mF_tr (mF_pi (by decide) mF_rf) hF2)⟩
      by_cases u : f = 0
      · rw [t_chk_a ⟨by show _ < (0 : Int) ∨ (39 : Int) < _; omega, u⟩, (hz1 u).1, (hz1 u).2]
      · rw [t_chk_b (fun z => u z.2), (hz2 u).1, (hz2 u).2]
    · refine g_iload_n rfl rfl ?_
      refine g_iload_n rfl rfl ?_
      refine g_icmp_gt (tgt := 14) rfl (by decide) (fun h3 => ?_) (fun h3 => ?_)
      · refine g_iconst rfl ⟨by decide, by decide⟩ ?_
        refine x_zreturn rfl rfl (Or.inl rfl) ?_
        intro _
        refine g_if_ne (tgt := 47) rfl (by decide) (fun hx => absurd hx (by omega)) (fun _ => ?_)
        refine g_aload_n rfl rfl ?_
        refine g_iconst rfl ⟨by decide, by decide⟩ ?_
        refine g_aload_n rfl rfl ?_
        refine x_geti (v := (t_s T len i)) rfl rfl (by decide) (Or.inl rfl) ht.2.2.1 ?_
        refine g_cV (as := [tI 2, tI (t_s T len i)]) (s_aF9 hG (f := f) (p := p) (i := i) (m := m) (ft := ft) (lo := lo) (D := D) (T := T) (len := len) ⟨rd_C_m (mF_pi (by decide) mF_rf) h.1, h.2.1, h.2.2.1, h.2.2.2.1, h.2.2.2.2.1, h.2.2.2.2.2⟩ ⟨ht.1, ht.2.1, ht.2.2.1, ht.2.2.2.1, ht.2.2.2.2⟩ hp) rfl rfl mX12_addsFault_ok rfl rfl rfl (by decide) rfl rfl rfl ?_
        rintro _ w1 ⟨rfl, f1, p1, hz1, hz2, hm1, ht1, h201, hF1⟩ _
        refine g_aload_n rfl rfl ?_
        refine g_iload_n rfl rfl ?_
        refine g_puti rfl rfl (by decide) rfl rfl ?_
        refine g_aload_n rfl rfl ?_
        refine g_cV (as := []) (s_tok9 hG hT (i := t_e T len i) (m := m) (ft := ft) (lo := lo) (D := D) (f := f1) (p := p1) ⟨rd_C_m (mF_pi (by decide) mF_rf) hm1.1, hm1.2.1, hm1.2.2.1, hm1.2.2.2.1, hm1.2.2.2.2.1, hm1.2.2.2.2.2⟩ (by omega) (by omega) ht1.1) rfl rfl mX12_token_ok rfl rfl rfl (by decide) rfl rfl rfl ?_
        rintro _ w2 ⟨rfl, ht2, hm2, h202, hF2⟩ _
        refine g_iconst rfl ⟨by decide, by decide⟩ ?_
        refine x_zreturn rfl rfl (Or.inr rfl) ?_
        refine ⟨Or.inr ⟨hk2, rfl, f1, p1, ?_, hm2, ht2, (by rw [h202]; exact (t_cl_o (w := 11) (v := t_v T len i) (by show _ < (0 : Int) ∨ (39 : Int) < _; omega)).symm)⟩, mF_tr (mF_tr (mF_pi (by decide) mF_rf) hF1) (mF_tr (mF_pi (by decide) mF_rf) hF2)⟩
        by_cases u : f = 0
        · rw [t_chk_a ⟨by show _ < (0 : Int) ∨ (39 : Int) < _; omega, u⟩, (hz1 u).1, (hz1 u).2]
        · rw [t_chk_b (fun z => u z.2), (hz2 u).1, (hz2 u).2]
      · refine g_iconst rfl ⟨by decide, by decide⟩ ?_
        refine g_goto (tgt := 15) rfl (by decide) ?_
        refine x_zreturn rfl rfl (Or.inr rfl) ?_
        intro _
        refine g_if_ne (tgt := 47) rfl (by decide) (fun _ => ?_) (fun hx => absurd hx (by omega))
        refine g_aload_n rfl rfl ?_
        refine g_cV (as := []) (s_tok9 hG hT (i := t_e T len i) (m := m) (ft := ft) (lo := lo) (D := D) (f := f) (p := p) ⟨rd_C_m (mF_pi (by decide) mF_rf) h.1, h.2.1, h.2.2.1, h.2.2.2.1, h.2.2.2.2.1, h.2.2.2.2.2⟩ (by omega) (by omega) ht.1) rfl rfl mX12_token_ok rfl rfl rfl (by decide) rfl rfl rfl ?_
        rintro _ w2 ⟨rfl, ht2, hm2, h202, hF2⟩ _
        refine g_iconst rfl ⟨by decide, by decide⟩ ?_
        refine x_zreturn rfl rfl (Or.inr rfl) ?_
        exact ⟨Or.inr ⟨hk2, rfl, f, p, t_chk_b (by show ¬ ((_ < (0 : Int) ∨ (39 : Int) < _) ∧ _); omega), hm2, ht2, (by rw [h202]; exact (t_cl_i (w := 11) (v := t_v T len i) (by show (0 : Int) ≤ _ ∧ _ ≤ (39 : Int); omega)).symm)⟩, mF_tr (mF_pi (by decide) mF_rf) hF2⟩
  · refine g_aload_n rfl rfl ?_
    refine g_iV (as := []) mX12_fails_ok rfl rfl rfl rfl rfl rfl (by decide) rfl rfl rfl ?_
    refine g_aload_n rfl rfl ?_
    refine g_aload_n rfl rfl ?_
    refine x_geti (v := (t_s T len i)) rfl rfl (by decide) (Or.inl rfl) ht.2.2.1 ?_
    refine g_puti rfl rfl (by decide) rfl rfl ?_
    refine g_iconst rfl ⟨by decide, by decide⟩ ?_
    refine x_zreturn rfl rfl (Or.inl rfl) ?_
    intro _
    refine x_zreturn rfl rfl (Or.inl rfl) ?_
    exact ⟨Or.inl ⟨by omega, rfl, rfl⟩, (mF_pi (by decide) mF_rf)⟩
set_option maxHeartbeats 4000000 in
set_option maxRecDepth 100000 in
theorem s_take12 {G : tp_G} {μ : tp_M} (hG : tp_Gf G = true) {T : Int → Int} {len f p m ft lo i : Int} {D : Int → Int} {R : Int × Int × Int × (Int → Int)} (hT : ∀ j, 0 ≤ T j ∧ T j ≤ 255) (h0 : 0 ≤ i) (h1 : i ≤ len) (h : ms T len f p m ft lo D μ) (ht : rtk T len i μ) (hp : f ≠ 0 → p < t_s T len i) : tp_k G mX12_take [tR (some 201), tI 0, tI 39] μ (fun r μ' => ((t_k T len i ≠ 2 ∧ r = some (tI 0) ∧ μ'.1 201 16 = t_s T len i) ∨ (t_k T len i = 2 ∧ r = some (tI 1) ∧ ∃ f2 p2, t_chk 12 (t_v T len i) (t_s T len i) (f, p, R) = (f2, p2, R) ∧ ms T len f2 p2 m ft lo D μ' ∧ rtk T len (t_e T len i) μ' ∧ μ'.1 201 20 = t_cl 12 (t_v T len i))) ∧ mF μ μ') := by
  refine tp_ok_of mX12_take_ok rfl (Nat.le_refl _) ?_
  have hrk := t_rk_i (t_k_b T len i)
  have hbe := t_e_B (T := T) h1
  have hbs := t_s_B (T := T) h1
  refine g_aload_n rfl rfl ?_
  refine x_geti (v := (t_rk (t_k T len i))) rfl rfl (by decide) (Or.inl rfl) ht.2.1 ?_
  refine g_iconst rfl ⟨by decide, by decide⟩ ?_
  refine g_icmp_eq (tgt := 13) rfl (by decide) (fun h1 => ?_) (fun h1 => ?_)
  · have hk2 : t_k T len i = 2 := hrk.2.2.1.1 (by omega)
    refine g_aload_n rfl rfl ?_
    refine g_aload_n rfl rfl ?_
    refine x_geti (v := (t_v T len i)) rfl rfl (by decide) (Or.inl rfl) (ht.2.2.2.1 hk2) ?_
    refine g_puti rfl rfl (by decide) rfl rfl ?_
    refine g_aload_n rfl rfl ?_
    refine x_geti (v := (t_v T len i)) rfl rfl (by decide) (Or.inl rfl) (ht.2.2.2.1 hk2) ?_
    refine g_iload_n rfl rfl ?_
    refine g_iload_n rfl rfl ?_
    refine g_iS (as := [tI (t_v T len i), tI 0, tI 39]) mX12_in_ok rfl rfl rfl rfl rfl rfl rfl ?_
    refine g_iload_n rfl rfl ?_
    refine g_iload_n rfl rfl ?_
    refine g_icmp_lt (tgt := 14) rfl (by decide) (fun h2 => ?_) (fun h2 => ?_)
    · refine g_iconst rfl ⟨by decide, by decide⟩ ?_
      refine x_zreturn rfl rfl (Or.inl rfl) ?_
      intro _
      refine g_if_ne (tgt := 47) rfl (by decide) (fun hx => absurd hx (by omega)) (fun _ => ?_)
      refine g_aload_n rfl rfl ?_
      refine g_iconst rfl ⟨by decide, by decide⟩ ?_
      refine g_aload_n rfl rfl ?_
      refine x_geti (v := (t_s T len i)) rfl rfl (by decide) (Or.inl rfl) ht.2.2.1 ?_
      refine g_cV (as := [tI 2, tI (t_s T len i)]) (s_aF9 hG (f := f) (p := p) (i := i) (m := m) (ft := ft) (lo := lo) (D := D) (T := T) (len := len) ⟨rd_C_m (mF_pi (by decide) mF_rf) h.1, h.2.1, h.2.2.1, h.2.2.2.1, h.2.2.2.2.1, h.2.2.2.2.2⟩ ⟨ht.1, ht.2.1, ht.2.2.1, ht.2.2.2.1, ht.2.2.2.2⟩ hp) rfl rfl mX12_addsFault_ok rfl rfl rfl (by decide) rfl rfl rfl ?_
      rintro _ w1 ⟨rfl, f1, p1, hz1, hz2, hm1, ht1, h201, hF1⟩ _
      refine g_aload_n rfl rfl ?_
      refine g_iload_n rfl rfl ?_
      refine g_puti rfl rfl (by decide) rfl rfl ?_
      refine g_aload_n rfl rfl ?_
      refine g_cV (as := []) (s_tok9 hG hT (i := t_e T len i) (m := m) (ft := ft) (lo := lo) (D := D) (f := f1) (p := p1) ⟨rd_C_m (mF_pi (by decide) mF_rf) hm1.1, hm1.2.1, hm1.2.2.1, hm1.2.2.2.1, hm1.2.2.2.2.1, hm1.2.2.2.2.2⟩ (by omega) (by omega) ht1.1) rfl rfl mX12_token_ok rfl rfl rfl (by decide) rfl rfl rfl ?_
      rintro _ w2 ⟨rfl, ht2, hm2, h202, hF2⟩ _
      refine g_iconst rfl ⟨by decide, by decide⟩ ?_
      refine x_zreturn rfl rfl (Or.inr rfl) ?_
      refine ⟨Or.inr ⟨hk2, rfl, f1, p1, ?_, hm2, ht2, (by rw [h202]; exact (t_cl_o (w := 12) (v := t_v T len i) (by show _ < (0 : Int) ∨ (39 : Int) < _; omega)).symm)⟩, mF_tr (mF_tr (mF_pi (by decide) mF_rf) hF1) (mF_tr (mF_pi (by decide) mF_rf) hF2)⟩
      by_cases u : f = 0
      · rw [t_chk_a ⟨by show _ < (0 : Int) ∨ (39 : Int) < _; omega, u⟩, (hz1 u).1, (hz1 u).2]
      · rw [t_chk_b (fun z => u z.2), (hz2 u).1, (hz2 u).2]
    · refine g_iload_n rfl rfl ?_
      refine g_iload_n rfl rfl ?_
      refine g_icmp_gt (tgt := 14) rfl (by decide) (fun h3 => ?_) (fun h3 => ?_)
      · refine g_iconst rfl ⟨by decide, by decide⟩ ?_
        refine x_zreturn rfl rfl (Or.inl rfl) ?_
        intro _
        refine g_if_ne (tgt := 47) rfl (by decide) (fun hx => absurd hx (by omega)) (fun _ => ?_)
        refine g_aload_n rfl rfl ?_
        refine g_iconst rfl ⟨by decide, by decide⟩ ?_
        refine g_aload_n rfl rfl ?_
        refine x_geti (v := (t_s T len i)) rfl rfl (by decide) (Or.inl rfl) ht.2.2.1 ?_
        refine g_cV (as := [tI 2, tI (t_s T len i)]) (s_aF9 hG (f := f) (p := p) (i := i) (m := m) (ft := ft) (lo := lo) (D := D) (T := T) (len := len) ⟨rd_C_m (mF_pi (by decide) mF_rf) h.1, h.2.1, h.2.2.1, h.2.2.2.1, h.2.2.2.2.1, h.2.2.2.2.2⟩ ⟨ht.1, ht.2.1, ht.2.2.1, ht.2.2.2.1, ht.2.2.2.2⟩ hp) rfl rfl mX12_addsFault_ok rfl rfl rfl (by decide) rfl rfl rfl ?_
        rintro _ w1 ⟨rfl, f1, p1, hz1, hz2, hm1, ht1, h201, hF1⟩ _
        refine g_aload_n rfl rfl ?_
        refine g_iload_n rfl rfl ?_
        refine g_puti rfl rfl (by decide) rfl rfl ?_
        refine g_aload_n rfl rfl ?_
        refine g_cV (as := []) (s_tok9 hG hT (i := t_e T len i) (m := m) (ft := ft) (lo := lo) (D := D) (f := f1) (p := p1) ⟨rd_C_m (mF_pi (by decide) mF_rf) hm1.1, hm1.2.1, hm1.2.2.1, hm1.2.2.2.1, hm1.2.2.2.2.1, hm1.2.2.2.2.2⟩ (by omega) (by omega) ht1.1) rfl rfl mX12_token_ok rfl rfl rfl (by decide) rfl rfl rfl ?_
        rintro _ w2 ⟨rfl, ht2, hm2, h202, hF2⟩ _
        refine g_iconst rfl ⟨by decide, by decide⟩ ?_
        refine x_zreturn rfl rfl (Or.inr rfl) ?_
        refine ⟨Or.inr ⟨hk2, rfl, f1, p1, ?_, hm2, ht2, (by rw [h202]; exact (t_cl_o (w := 12) (v := t_v T len i) (by show _ < (0 : Int) ∨ (39 : Int) < _; omega)).symm)⟩, mF_tr (mF_tr (mF_pi (by decide) mF_rf) hF1) (mF_tr (mF_pi (by decide) mF_rf) hF2)⟩
        by_cases u : f = 0
        · rw [t_chk_a ⟨by show _ < (0 : Int) ∨ (39 : Int) < _; omega, u⟩, (hz1 u).1, (hz1 u).2]
        · rw [t_chk_b (fun z => u z.2), (hz2 u).1, (hz2 u).2]
      · refine g_iconst rfl ⟨by decide, by decide⟩ ?_
        refine g_goto (tgt := 15) rfl (by decide) ?_
        refine x_zreturn rfl rfl (Or.inr rfl) ?_
        intro _
        refine g_if_ne (tgt := 47) rfl (by decide) (fun _ => ?_) (fun hx => absurd hx (by omega))
        refine g_aload_n rfl rfl ?_
        refine g_cV (as := []) (s_tok9 hG hT (i := t_e T len i) (m := m) (ft := ft) (lo := lo) (D := D) (f := f) (p := p) ⟨rd_C_m (mF_pi (by decide) mF_rf) h.1, h.2.1, h.2.2.1, h.2.2.2.1, h.2.2.2.2.1, h.2.2.2.2.2⟩ (by omega) (by omega) ht.1) rfl rfl mX12_token_ok rfl rfl rfl (by decide) rfl rfl rfl ?_
        rintro _ w2 ⟨rfl, ht2, hm2, h202, hF2⟩ _
        refine g_iconst rfl ⟨by decide, by decide⟩ ?_
        refine x_zreturn rfl rfl (Or.inr rfl) ?_
        exact ⟨Or.inr ⟨hk2, rfl, f, p, t_chk_b (by show ¬ ((_ < (0 : Int) ∨ (39 : Int) < _) ∧ _); omega), hm2, ht2, (by rw [h202]; exact (t_cl_i (w := 12) (v := t_v T len i) (by show (0 : Int) ≤ _ ∧ _ ≤ (39 : Int); omega)).symm)⟩, mF_tr (mF_pi (by decide) mF_rf) hF2⟩
  · refine g_aload_n rfl rfl ?_
    refine g_iV (as := []) mX12_fails_ok rfl rfl rfl rfl rfl rfl (by decide) rfl rfl rfl ?_
    refine g_aload_n rfl rfl ?_
    refine g_aload_n rfl rfl ?_
    refine x_geti (v := (t_s T len i)) rfl rfl (by decide) (Or.inl rfl) ht.2.2.1 ?_
    refine g_puti rfl rfl (by decide) rfl rfl ?_
    refine g_iconst rfl ⟨by decide, by decide⟩ ?_
    refine x_zreturn rfl rfl (Or.inl rfl) ?_
    intro _
    refine x_zreturn rfl rfl (Or.inl rfl) ?_
    exact ⟨Or.inl ⟨by omega, rfl, rfl⟩, (mF_pi (by decide) mF_rf)⟩
set_option maxHeartbeats 4000000 in
set_option maxRecDepth 100000 in
theorem s_take13 {G : tp_G} {μ : tp_M} (hG : tp_Gf G = true) {T : Int → Int} {len f p m ft lo i : Int} {D : Int → Int} {R : Int × Int × Int × (Int → Int)} (hT : ∀ j, 0 ≤ T j ∧ T j ≤ 255) (h0 : 0 ≤ i) (h1 : i ≤ len) (h : ms T len f p m ft lo D μ) (ht : rtk T len i μ) (hp : f ≠ 0 → p < t_s T len i) : tp_k G mX12_take [tR (some 201), tI 0, tI 2] μ (fun r μ' => ((t_k T len i ≠ 2 ∧ r = some (tI 0) ∧ μ'.1 201 16 = t_s T len i) ∨ (t_k T len i = 2 ∧ r = some (tI 1) ∧ ∃ f2 p2, t_chk 13 (t_v T len i) (t_s T len i) (f, p, R) = (f2, p2, R) ∧ ms T len f2 p2 m ft lo D μ' ∧ rtk T len (t_e T len i) μ' ∧ μ'.1 201 20 = t_cl 13 (t_v T len i))) ∧ mF μ μ') := by
  refine tp_ok_of mX12_take_ok rfl (Nat.le_refl _) ?_
  have hrk := t_rk_i (t_k_b T len i)
  have hbe := t_e_B (T := T) h1
  have hbs := t_s_B (T := T) h1
  refine g_aload_n rfl rfl ?_
  refine x_geti (v := (t_rk (t_k T len i))) rfl rfl (by decide) (Or.inl rfl) ht.2.1 ?_
  refine g_iconst rfl ⟨by decide, by decide⟩ ?_
  refine g_icmp_eq (tgt := 13) rfl (by decide) (fun h1 => ?_) (fun h1 => ?_)
  · have hk2 : t_k T len i = 2 := hrk.2.2.1.1 (by omega)
    refine g_aload_n rfl rfl ?_
    refine g_aload_n rfl rfl ?_
    refine x_geti (v := (t_v T len i)) rfl rfl (by decide) (Or.inl rfl) (ht.2.2.2.1 hk2) ?_
    refine g_puti rfl rfl (by decide) rfl rfl ?_
    refine g_aload_n rfl rfl ?_
    refine x_geti (v := (t_v T len i)) rfl rfl (by decide) (Or.inl rfl) (ht.2.2.2.1 hk2) ?_
    refine g_iload_n rfl rfl ?_
    refine g_iload_n rfl rfl ?_
    refine g_iS (as := [tI (t_v T len i), tI 0, tI 2]) mX12_in_ok rfl rfl rfl rfl rfl rfl rfl ?_
    refine g_iload_n rfl rfl ?_
    refine g_iload_n rfl rfl ?_
    refine g_icmp_lt (tgt := 14) rfl (by decide) (fun h2 => ?_) (fun h2 => ?_)
    · refine g_iconst rfl ⟨by decide, by decide⟩ ?_
      refine x_zreturn rfl rfl (Or.inl rfl) ?_
      intro _
      refine g_if_ne (tgt := 47) rfl (by decide) (fun hx => absurd hx (by omega)) (fun _ => ?_)
      refine g_aload_n rfl rfl ?_
      refine g_iconst rfl ⟨by decide, by decide⟩ ?_
      refine g_aload_n rfl rfl ?_
      refine x_geti (v := (t_s T len i)) rfl rfl (by decide) (Or.inl rfl) ht.2.2.1 ?_
      refine g_cV (as := [tI 2, tI (t_s T len i)]) (s_aF9 hG (f := f) (p := p) (i := i) (m := m) (ft := ft) (lo := lo) (D := D) (T := T) (len := len) ⟨rd_C_m (mF_pi (by decide) mF_rf) h.1, h.2.1, h.2.2.1, h.2.2.2.1, h.2.2.2.2.1, h.2.2.2.2.2⟩ ⟨ht.1, ht.2.1, ht.2.2.1, ht.2.2.2.1, ht.2.2.2.2⟩ hp) rfl rfl mX12_addsFault_ok rfl rfl rfl (by decide) rfl rfl rfl ?_
      rintro _ w1 ⟨rfl, f1, p1, hz1, hz2, hm1, ht1, h201, hF1⟩ _
      refine g_aload_n rfl rfl ?_
      refine g_iload_n rfl rfl ?_
      refine g_puti rfl rfl (by decide) rfl rfl ?_
      refine g_aload_n rfl rfl ?_
      refine g_cV (as := []) (s_tok9 hG hT (i := t_e T len i) (m := m) (ft := ft) (lo := lo) (D := D) (f := f1) (p := p1) ⟨rd_C_m (mF_pi (by decide) mF_rf) hm1.1, hm1.2.1, hm1.2.2.1, hm1.2.2.2.1, hm1.2.2.2.2.1, hm1.2.2.2.2.2⟩ (by omega) (by omega) ht1.1) rfl rfl mX12_token_ok rfl rfl rfl (by decide) rfl rfl rfl ?_
      rintro _ w2 ⟨rfl, ht2, hm2, h202, hF2⟩ _
      refine g_iconst rfl ⟨by decide, by decide⟩ ?_
      refine x_zreturn rfl rfl (Or.inr rfl) ?_
      refine ⟨Or.inr ⟨hk2, rfl, f1, p1, ?_, hm2, ht2, (by rw [h202]; exact (t_cl_o (w := 13) (v := t_v T len i) (by show _ < (0 : Int) ∨ (2 : Int) < _; omega)).symm)⟩, mF_tr (mF_tr (mF_pi (by decide) mF_rf) hF1) (mF_tr (mF_pi (by decide) mF_rf) hF2)⟩
      by_cases u : f = 0
      · rw [t_chk_a ⟨by show _ < (0 : Int) ∨ (2 : Int) < _; omega, u⟩, (hz1 u).1, (hz1 u).2]
      · rw [t_chk_b (fun z => u z.2), (hz2 u).1, (hz2 u).2]
    · refine g_iload_n rfl rfl ?_
      refine g_iload_n rfl rfl ?_
      refine g_icmp_gt (tgt := 14) rfl (by decide) (fun h3 => ?_) (fun h3 => ?_)
      · refine g_iconst rfl ⟨by decide, by decide⟩ ?_
        refine x_zreturn rfl rfl (Or.inl rfl) ?_
        intro _
        refine g_if_ne (tgt := 47) rfl (by decide) (fun hx => absurd hx (by omega)) (fun _ => ?_)
        refine g_aload_n rfl rfl ?_
        refine g_iconst rfl ⟨by decide, by decide⟩ ?_
        refine g_aload_n rfl rfl ?_
        refine x_geti (v := (t_s T len i)) rfl rfl (by decide) (Or.inl rfl) ht.2.2.1 ?_
        refine g_cV (as := [tI 2, tI (t_s T len i)]) (s_aF9 hG (f := f) (p := p) (i := i) (m := m) (ft := ft) (lo := lo) (D := D) (T := T) (len := len) ⟨rd_C_m (mF_pi (by decide) mF_rf) h.1, h.2.1, h.2.2.1, h.2.2.2.1, h.2.2.2.2.1, h.2.2.2.2.2⟩ ⟨ht.1, ht.2.1, ht.2.2.1, ht.2.2.2.1, ht.2.2.2.2⟩ hp) rfl rfl mX12_addsFault_ok rfl rfl rfl (by decide) rfl rfl rfl ?_
        rintro _ w1 ⟨rfl, f1, p1, hz1, hz2, hm1, ht1, h201, hF1⟩ _
        refine g_aload_n rfl rfl ?_
        refine g_iload_n rfl rfl ?_
        refine g_puti rfl rfl (by decide) rfl rfl ?_
        refine g_aload_n rfl rfl ?_
        refine g_cV (as := []) (s_tok9 hG hT (i := t_e T len i) (m := m) (ft := ft) (lo := lo) (D := D) (f := f1) (p := p1) ⟨rd_C_m (mF_pi (by decide) mF_rf) hm1.1, hm1.2.1, hm1.2.2.1, hm1.2.2.2.1, hm1.2.2.2.2.1, hm1.2.2.2.2.2⟩ (by omega) (by omega) ht1.1) rfl rfl mX12_token_ok rfl rfl rfl (by decide) rfl rfl rfl ?_
        rintro _ w2 ⟨rfl, ht2, hm2, h202, hF2⟩ _
        refine g_iconst rfl ⟨by decide, by decide⟩ ?_
        refine x_zreturn rfl rfl (Or.inr rfl) ?_
        refine ⟨Or.inr ⟨hk2, rfl, f1, p1, ?_, hm2, ht2, (by rw [h202]; exact (t_cl_o (w := 13) (v := t_v T len i) (by show _ < (0 : Int) ∨ (2 : Int) < _; omega)).symm)⟩, mF_tr (mF_tr (mF_pi (by decide) mF_rf) hF1) (mF_tr (mF_pi (by decide) mF_rf) hF2)⟩
        by_cases u : f = 0
        · rw [t_chk_a ⟨by show _ < (0 : Int) ∨ (2 : Int) < _; omega, u⟩, (hz1 u).1, (hz1 u).2]
        · rw [t_chk_b (fun z => u z.2), (hz2 u).1, (hz2 u).2]
      · refine g_iconst rfl ⟨by decide, by decide⟩ ?_
        refine g_goto (tgt := 15) rfl (by decide) ?_
        refine x_zreturn rfl rfl (Or.inr rfl) ?_
        intro _
        refine g_if_ne (tgt := 47) rfl (by decide) (fun _ => ?_) (fun hx => absurd hx (by omega))
        refine g_aload_n rfl rfl ?_
        refine g_cV (as := []) (s_tok9 hG hT (i := t_e T len i) (m := m) (ft := ft) (lo := lo) (D := D) (f := f) (p := p) ⟨rd_C_m (mF_pi (by decide) mF_rf) h.1, h.2.1, h.2.2.1, h.2.2.2.1, h.2.2.2.2.1, h.2.2.2.2.2⟩ (by omega) (by omega) ht.1) rfl rfl mX12_token_ok rfl rfl rfl (by decide) rfl rfl rfl ?_
        rintro _ w2 ⟨rfl, ht2, hm2, h202, hF2⟩ _
        refine g_iconst rfl ⟨by decide, by decide⟩ ?_
        refine x_zreturn rfl rfl (Or.inr rfl) ?_
        exact ⟨Or.inr ⟨hk2, rfl, f, p, t_chk_b (by show ¬ ((_ < (0 : Int) ∨ (2 : Int) < _) ∧ _); omega), hm2, ht2, (by rw [h202]; exact (t_cl_i (w := 13) (v := t_v T len i) (by show (0 : Int) ≤ _ ∧ _ ≤ (2 : Int); omega)).symm)⟩, mF_tr (mF_pi (by decide) mF_rf) hF2⟩
  · refine g_aload_n rfl rfl ?_
    refine g_iV (as := []) mX12_fails_ok rfl rfl rfl rfl rfl rfl (by decide) rfl rfl rfl ?_
    refine g_aload_n rfl rfl ?_
    refine g_aload_n rfl rfl ?_
    refine x_geti (v := (t_s T len i)) rfl rfl (by decide) (Or.inl rfl) ht.2.2.1 ?_
    refine g_puti rfl rfl (by decide) rfl rfl ?_
    refine g_iconst rfl ⟨by decide, by decide⟩ ?_
    refine x_zreturn rfl rfl (Or.inl rfl) ?_
    intro _
    refine x_zreturn rfl rfl (Or.inl rfl) ?_
    exact ⟨Or.inl ⟨by omega, rfl, rfl⟩, (mF_pi (by decide) mF_rf)⟩
set_option maxHeartbeats 4000000 in
set_option maxRecDepth 100000 in
theorem s_take14 {G : tp_G} {μ : tp_M} (hG : tp_Gf G = true) {T : Int → Int} {len f p m ft lo i : Int} {D : Int → Int} {R : Int × Int × Int × (Int → Int)} (hT : ∀ j, 0 ≤ T j ∧ T j ≤ 255) (h0 : 0 ≤ i) (h1 : i ≤ len) (h : ms T len f p m ft lo D μ) (ht : rtk T len i μ) (hp : f ≠ 0 → p < t_s T len i) : tp_k G mX12_take [tR (some 201), tI 3, tI 9] μ (fun r μ' => ((t_k T len i ≠ 2 ∧ r = some (tI 0) ∧ μ'.1 201 16 = t_s T len i) ∨ (t_k T len i = 2 ∧ r = some (tI 1) ∧ ∃ f2 p2, t_chk 14 (t_v T len i) (t_s T len i) (f, p, R) = (f2, p2, R) ∧ ms T len f2 p2 m ft lo D μ' ∧ rtk T len (t_e T len i) μ' ∧ μ'.1 201 20 = t_cl 14 (t_v T len i))) ∧ mF μ μ') := by
  refine tp_ok_of mX12_take_ok rfl (Nat.le_refl _) ?_
  have hrk := t_rk_i (t_k_b T len i)
  have hbe := t_e_B (T := T) h1
  have hbs := t_s_B (T := T) h1
  refine g_aload_n rfl rfl ?_
  refine x_geti (v := (t_rk (t_k T len i))) rfl rfl (by decide) (Or.inl rfl) ht.2.1 ?_
  refine g_iconst rfl ⟨by decide, by decide⟩ ?_
  refine g_icmp_eq (tgt := 13) rfl (by decide) (fun h1 => ?_) (fun h1 => ?_)
  · have hk2 : t_k T len i = 2 := hrk.2.2.1.1 (by omega)
    refine g_aload_n rfl rfl ?_
    refine g_aload_n rfl rfl ?_
    refine x_geti (v := (t_v T len i)) rfl rfl (by decide) (Or.inl rfl) (ht.2.2.2.1 hk2) ?_
    refine g_puti rfl rfl (by decide) rfl rfl ?_
    refine g_aload_n rfl rfl ?_
    refine x_geti (v := (t_v T len i)) rfl rfl (by decide) (Or.inl rfl) (ht.2.2.2.1 hk2) ?_
    refine g_iload_n rfl rfl ?_
    refine g_iload_n rfl rfl ?_
    refine g_iS (as := [tI (t_v T len i), tI 3, tI 9]) mX12_in_ok rfl rfl rfl rfl rfl rfl rfl ?_
    refine g_iload_n rfl rfl ?_
    refine g_iload_n rfl rfl ?_
    refine g_icmp_lt (tgt := 14) rfl (by decide) (fun h2 => ?_) (fun h2 => ?_)
    · refine g_iconst rfl ⟨by decide, by decide⟩ ?_
      refine x_zreturn rfl rfl (Or.inl rfl) ?_
      intro _
      refine g_if_ne (tgt := 47) rfl (by decide) (fun hx => absurd hx (by omega)) (fun _ => ?_)
      refine g_aload_n rfl rfl ?_
      refine g_iconst rfl ⟨by decide, by decide⟩ ?_
      refine g_aload_n rfl rfl ?_
      refine x_geti (v := (t_s T len i)) rfl rfl (by decide) (Or.inl rfl) ht.2.2.1 ?_
      refine g_cV (as := [tI 2, tI (t_s T len i)]) (s_aF9 hG (f := f) (p := p) (i := i) (m := m) (ft := ft) (lo := lo) (D := D) (T := T) (len := len) ⟨rd_C_m (mF_pi (by decide) mF_rf) h.1, h.2.1, h.2.2.1, h.2.2.2.1, h.2.2.2.2.1, h.2.2.2.2.2⟩ ⟨ht.1, ht.2.1, ht.2.2.1, ht.2.2.2.1, ht.2.2.2.2⟩ hp) rfl rfl mX12_addsFault_ok rfl rfl rfl (by decide) rfl rfl rfl ?_
      rintro _ w1 ⟨rfl, f1, p1, hz1, hz2, hm1, ht1, h201, hF1⟩ _
      refine g_aload_n rfl rfl ?_
      refine g_iload_n rfl rfl ?_
      refine g_puti rfl rfl (by decide) rfl rfl ?_
      refine g_aload_n rfl rfl ?_
      refine g_cV (as := []) (s_tok9 hG hT (i := t_e T len i) (m := m) (ft := ft) (lo := lo) (D := D) (f := f1) (p := p1) ⟨rd_C_m (mF_pi (by decide) mF_rf) hm1.1, hm1.2.1, hm1.2.2.1, hm1.2.2.2.1, hm1.2.2.2.2.1, hm1.2.2.2.2.2⟩ (by omega) (by omega) ht1.1) rfl rfl mX12_token_ok rfl rfl rfl (by decide) rfl rfl rfl ?_
      rintro _ w2 ⟨rfl, ht2, hm2, h202, hF2⟩ _
      refine g_iconst rfl ⟨by decide, by decide⟩ ?_
      refine x_zreturn rfl rfl (Or.inr rfl) ?_
      refine ⟨Or.inr ⟨hk2, rfl, f1, p1, ?_, hm2, ht2, (by rw [h202]; exact (t_cl_o (w := 14) (v := t_v T len i) (by show _ < (3 : Int) ∨ (9 : Int) < _; omega)).symm)⟩, mF_tr (mF_tr (mF_pi (by decide) mF_rf) hF1) (mF_tr (mF_pi (by decide) mF_rf) hF2)⟩
      by_cases u : f = 0
      · rw [t_chk_a ⟨by show _ < (3 : Int) ∨ (9 : Int) < _; omega, u⟩, (hz1 u).1, (hz1 u).2]
      · rw [t_chk_b (fun z => u z.2), (hz2 u).1, (hz2 u).2]
    · refine g_iload_n rfl rfl ?_
      refine g_iload_n rfl rfl ?_
      refine g_icmp_gt (tgt := 14) rfl (by decide) (fun h3 => ?_) (fun h3 => ?_)
      · refine g_iconst rfl ⟨by decide, by decide⟩ ?_
        refine x_zreturn rfl rfl (Or.inl rfl) ?_
        intro _
        refine g_if_ne (tgt := 47) rfl (by decide) (fun hx => absurd hx (by omega)) (fun _ => ?_)
        refine g_aload_n rfl rfl ?_
        refine g_iconst rfl ⟨by decide, by decide⟩ ?_
        refine g_aload_n rfl rfl ?_
        refine x_geti (v := (t_s T len i)) rfl rfl (by decide) (Or.inl rfl) ht.2.2.1 ?_
        refine g_cV (as := [tI 2, tI (t_s T len i)]) (s_aF9 hG (f := f) (p := p) (i := i) (m := m) (ft := ft) (lo := lo) (D := D) (T := T) (len := len) ⟨rd_C_m (mF_pi (by decide) mF_rf) h.1, h.2.1, h.2.2.1, h.2.2.2.1, h.2.2.2.2.1, h.2.2.2.2.2⟩ ⟨ht.1, ht.2.1, ht.2.2.1, ht.2.2.2.1, ht.2.2.2.2⟩ hp) rfl rfl mX12_addsFault_ok rfl rfl rfl (by decide) rfl rfl rfl ?_
        rintro _ w1 ⟨rfl, f1, p1, hz1, hz2, hm1, ht1, h201, hF1⟩ _
        refine g_aload_n rfl rfl ?_
        refine g_iload_n rfl rfl ?_
        refine g_puti rfl rfl (by decide) rfl rfl ?_
        refine g_aload_n rfl rfl ?_
        refine g_cV (as := []) (s_tok9 hG hT (i := t_e T len i) (m := m) (ft := ft) (lo := lo) (D := D) (f := f1) (p := p1) ⟨rd_C_m (mF_pi (by decide) mF_rf) hm1.1, hm1.2.1, hm1.2.2.1, hm1.2.2.2.1, hm1.2.2.2.2.1, hm1.2.2.2.2.2⟩ (by omega) (by omega) ht1.1) rfl rfl mX12_token_ok rfl rfl rfl (by decide) rfl rfl rfl ?_
        rintro _ w2 ⟨rfl, ht2, hm2, h202, hF2⟩ _
        refine g_iconst rfl ⟨by decide, by decide⟩ ?_
        refine x_zreturn rfl rfl (Or.inr rfl) ?_
        refine ⟨Or.inr ⟨hk2, rfl, f1, p1, ?_, hm2, ht2, (by rw [h202]; exact (t_cl_o (w := 14) (v := t_v T len i) (by show _ < (3 : Int) ∨ (9 : Int) < _; omega)).symm)⟩, mF_tr (mF_tr (mF_pi (by decide) mF_rf) hF1) (mF_tr (mF_pi (by decide) mF_rf) hF2)⟩
        by_cases u : f = 0
        · rw [t_chk_a ⟨by show _ < (3 : Int) ∨ (9 : Int) < _; omega, u⟩, (hz1 u).1, (hz1 u).2]
        · rw [t_chk_b (fun z => u z.2), (hz2 u).1, (hz2 u).2]
      · refine g_iconst rfl ⟨by decide, by decide⟩ ?_
        refine g_goto (tgt := 15) rfl (by decide) ?_
        refine x_zreturn rfl rfl (Or.inr rfl) ?_
        intro _
        refine g_if_ne (tgt := 47) rfl (by decide) (fun _ => ?_) (fun hx => absurd hx (by omega))
        refine g_aload_n rfl rfl ?_
        refine g_cV (as := []) (s_tok9 hG hT (i := t_e T len i) (m := m) (ft := ft) (lo := lo) (D := D) (f := f) (p := p) ⟨rd_C_m (mF_pi (by decide) mF_rf) h.1, h.2.1, h.2.2.1, h.2.2.2.1, h.2.2.2.2.1, h.2.2.2.2.2⟩ (by omega) (by omega) ht.1) rfl rfl mX12_token_ok rfl rfl rfl (by decide) rfl rfl rfl ?_
        rintro _ w2 ⟨rfl, ht2, hm2, h202, hF2⟩ _
        refine g_iconst rfl ⟨by decide, by decide⟩ ?_
        refine x_zreturn rfl rfl (Or.inr rfl) ?_
        exact ⟨Or.inr ⟨hk2, rfl, f, p, t_chk_b (by show ¬ ((_ < (3 : Int) ∨ (9 : Int) < _) ∧ _); omega), hm2, ht2, (by rw [h202]; exact (t_cl_i (w := 14) (v := t_v T len i) (by show (3 : Int) ≤ _ ∧ _ ≤ (9 : Int); omega)).symm)⟩, mF_tr (mF_pi (by decide) mF_rf) hF2⟩
  · refine g_aload_n rfl rfl ?_
    refine g_iV (as := []) mX12_fails_ok rfl rfl rfl rfl rfl rfl (by decide) rfl rfl rfl ?_
    refine g_aload_n rfl rfl ?_
    refine g_aload_n rfl rfl ?_
    refine x_geti (v := (t_s T len i)) rfl rfl (by decide) (Or.inl rfl) ht.2.2.1 ?_
    refine g_puti rfl rfl (by decide) rfl rfl ?_
    refine g_iconst rfl ⟨by decide, by decide⟩ ?_
    refine x_zreturn rfl rfl (Or.inl rfl) ?_
    intro _
    refine x_zreturn rfl rfl (Or.inl rfl) ?_
    exact ⟨Or.inl ⟨by omega, rfl, rfl⟩, (mF_pi (by decide) mF_rf)⟩
set_option maxHeartbeats 4000000 in
set_option maxRecDepth 100000 in
theorem s_take15 {G : tp_G} {μ : tp_M} (hG : tp_Gf G = true) {T : Int → Int} {len f p m ft lo i : Int} {D : Int → Int} {R : Int × Int × Int × (Int → Int)} (hT : ∀ j, 0 ≤ T j ∧ T j ≤ 255) (h0 : 0 ≤ i) (h1 : i ≤ len) (h : ms T len f p m ft lo D μ) (ht : rtk T len i μ) (hp : f ≠ 0 → p < t_s T len i) : tp_k G mX12_take [tR (some 201), tI 1, tI 9] μ (fun r μ' => ((t_k T len i ≠ 2 ∧ r = some (tI 0) ∧ μ'.1 201 16 = t_s T len i) ∨ (t_k T len i = 2 ∧ r = some (tI 1) ∧ ∃ f2 p2, t_chk 15 (t_v T len i) (t_s T len i) (f, p, R) = (f2, p2, R) ∧ ms T len f2 p2 m ft lo D μ' ∧ rtk T len (t_e T len i) μ' ∧ μ'.1 201 20 = t_cl 15 (t_v T len i))) ∧ mF μ μ') := by
  refine tp_ok_of mX12_take_ok rfl (Nat.le_refl _) ?_
  have hrk := t_rk_i (t_k_b T len i)
  have hbe := t_e_B (T := T) h1
  have hbs := t_s_B (T := T) h1
  refine g_aload_n rfl rfl ?_
  refine x_geti (v := (t_rk (t_k T len i))) rfl rfl (by decide) (Or.inl rfl) ht.2.1 ?_
  refine g_iconst rfl ⟨by decide, by decide⟩ ?_
  refine g_icmp_eq (tgt := 13) rfl (by decide) (fun h1 => ?_) (fun h1 => ?_)
  · have hk2 : t_k T len i = 2 := hrk.2.2.1.1 (by omega)
    refine g_aload_n rfl rfl ?_
    refine g_aload_n rfl rfl ?_
    refine x_geti (v := (t_v T len i)) rfl rfl (by decide) (Or.inl rfl) (ht.2.2.2.1 hk2) ?_
    refine g_puti rfl rfl (by decide) rfl rfl ?_
    refine g_aload_n rfl rfl ?_
    refine x_geti (v := (t_v T len i)) rfl rfl (by decide) (Or.inl rfl) (ht.2.2.2.1 hk2) ?_
    refine g_iload_n rfl rfl ?_
    refine g_iload_n rfl rfl ?_
    refine g_iS (as := [tI (t_v T len i), tI 1, tI 9]) mX12_in_ok rfl rfl rfl rfl rfl rfl rfl ?_
    refine g_iload_n rfl rfl ?_
    refine g_iload_n rfl rfl ?_
    refine g_icmp_lt (tgt := 14) rfl (by decide) (fun h2 => ?_) (fun h2 => ?_)
    · refine g_iconst rfl ⟨by decide, by decide⟩ ?_
      refine x_zreturn rfl rfl (Or.inl rfl) ?_
      intro _
      refine g_if_ne (tgt := 47) rfl (by decide) (fun hx => absurd hx (by omega)) (fun _ => ?_)
      refine g_aload_n rfl rfl ?_
      refine g_iconst rfl ⟨by decide, by decide⟩ ?_
      refine g_aload_n rfl rfl ?_
      refine x_geti (v := (t_s T len i)) rfl rfl (by decide) (Or.inl rfl) ht.2.2.1 ?_
      refine g_cV (as := [tI 2, tI (t_s T len i)]) (s_aF9 hG (f := f) (p := p) (i := i) (m := m) (ft := ft) (lo := lo) (D := D) (T := T) (len := len) ⟨rd_C_m (mF_pi (by decide) mF_rf) h.1, h.2.1, h.2.2.1, h.2.2.2.1, h.2.2.2.2.1, h.2.2.2.2.2⟩ ⟨ht.1, ht.2.1, ht.2.2.1, ht.2.2.2.1, ht.2.2.2.2⟩ hp) rfl rfl mX12_addsFault_ok rfl rfl rfl (by decide) rfl rfl rfl ?_
      rintro _ w1 ⟨rfl, f1, p1, hz1, hz2, hm1, ht1, h201, hF1⟩ _
      refine g_aload_n rfl rfl ?_
      refine g_iload_n rfl rfl ?_
      refine g_puti rfl rfl (by decide) rfl rfl ?_
      refine g_aload_n rfl rfl ?_
      refine g_cV (as := []) (s_tok9 hG hT (i := t_e T len i) (m := m) (ft := ft) (lo := lo) (D := D) (f := f1) (p := p1) ⟨rd_C_m (mF_pi (by decide) mF_rf) hm1.1, hm1.2.1, hm1.2.2.1, hm1.2.2.2.1, hm1.2.2.2.2.1, hm1.2.2.2.2.2⟩ (by omega) (by omega) ht1.1) rfl rfl mX12_token_ok rfl rfl rfl (by decide) rfl rfl rfl ?_
      rintro _ w2 ⟨rfl, ht2, hm2, h202, hF2⟩ _
      refine g_iconst rfl ⟨by decide, by decide⟩ ?_
      refine x_zreturn rfl rfl (Or.inr rfl) ?_
      refine ⟨Or.inr ⟨hk2, rfl, f1, p1, ?_, hm2, ht2, (by rw [h202]; exact (t_cl_o (w := 15) (v := t_v T len i) (by show _ < (1 : Int) ∨ (9 : Int) < _; omega)).symm)⟩, mF_tr (mF_tr (mF_pi (by decide) mF_rf) hF1) (mF_tr (mF_pi (by decide) mF_rf) hF2)⟩
      by_cases u : f = 0
      · rw [t_chk_a ⟨by show _ < (1 : Int) ∨ (9 : Int) < _; omega, u⟩, (hz1 u).1, (hz1 u).2]
      · rw [t_chk_b (fun z => u z.2), (hz2 u).1, (hz2 u).2]
    · refine g_iload_n rfl rfl ?_
      refine g_iload_n rfl rfl ?_
      refine g_icmp_gt (tgt := 14) rfl (by decide) (fun h3 => ?_) (fun h3 => ?_)
      · refine g_iconst rfl ⟨by decide, by decide⟩ ?_
        refine x_zreturn rfl rfl (Or.inl rfl) ?_
        intro _
        refine g_if_ne (tgt := 47) rfl (by decide) (fun hx => absurd hx (by omega)) (fun _ => ?_)
        refine g_aload_n rfl rfl ?_
        refine g_iconst rfl ⟨by decide, by decide⟩ ?_
        refine g_aload_n rfl rfl ?_
        refine x_geti (v := (t_s T len i)) rfl rfl (by decide) (Or.inl rfl) ht.2.2.1 ?_
        refine g_cV (as := [tI 2, tI (t_s T len i)]) (s_aF9 hG (f := f) (p := p) (i := i) (m := m) (ft := ft) (lo := lo) (D := D) (T := T) (len := len) ⟨rd_C_m (mF_pi (by decide) mF_rf) h.1, h.2.1, h.2.2.1, h.2.2.2.1, h.2.2.2.2.1, h.2.2.2.2.2⟩ ⟨ht.1, ht.2.1, ht.2.2.1, ht.2.2.2.1, ht.2.2.2.2⟩ hp) rfl rfl mX12_addsFault_ok rfl rfl rfl (by decide) rfl rfl rfl ?_
        rintro _ w1 ⟨rfl, f1, p1, hz1, hz2, hm1, ht1, h201, hF1⟩ _
        refine g_aload_n rfl rfl ?_
        refine g_iload_n rfl rfl ?_
        refine g_puti rfl rfl (by decide) rfl rfl ?_
        refine g_aload_n rfl rfl ?_
        refine g_cV (as := []) (s_tok9 hG hT (i := t_e T len i) (m := m) (ft := ft) (lo := lo) (D := D) (f := f1) (p := p1) ⟨rd_C_m (mF_pi (by decide) mF_rf) hm1.1, hm1.2.1, hm1.2.2.1, hm1.2.2.2.1, hm1.2.2.2.2.1, hm1.2.2.2.2.2⟩ (by omega) (by omega) ht1.1) rfl rfl mX12_token_ok rfl rfl rfl (by decide) rfl rfl rfl ?_
        rintro _ w2 ⟨rfl, ht2, hm2, h202, hF2⟩ _
        refine g_iconst rfl ⟨by decide, by decide⟩ ?_
        refine x_zreturn rfl rfl (Or.inr rfl) ?_
        refine ⟨Or.inr ⟨hk2, rfl, f1, p1, ?_, hm2, ht2, (by rw [h202]; exact (t_cl_o (w := 15) (v := t_v T len i) (by show _ < (1 : Int) ∨ (9 : Int) < _; omega)).symm)⟩, mF_tr (mF_tr (mF_pi (by decide) mF_rf) hF1) (mF_tr (mF_pi (by decide) mF_rf) hF2)⟩
        by_cases u : f = 0
        · rw [t_chk_a ⟨by show _ < (1 : Int) ∨ (9 : Int) < _; omega, u⟩, (hz1 u).1, (hz1 u).2]
        · rw [t_chk_b (fun z => u z.2), (hz2 u).1, (hz2 u).2]
      · refine g_iconst rfl ⟨by decide, by decide⟩ ?_
        refine g_goto (tgt := 15) rfl (by decide) ?_
        refine x_zreturn rfl rfl (Or.inr rfl) ?_
        intro _
        refine g_if_ne (tgt := 47) rfl (by decide) (fun _ => ?_) (fun hx => absurd hx (by omega))
        refine g_aload_n rfl rfl ?_
        refine g_cV (as := []) (s_tok9 hG hT (i := t_e T len i) (m := m) (ft := ft) (lo := lo) (D := D) (f := f) (p := p) ⟨rd_C_m (mF_pi (by decide) mF_rf) h.1, h.2.1, h.2.2.1, h.2.2.2.1, h.2.2.2.2.1, h.2.2.2.2.2⟩ (by omega) (by omega) ht.1) rfl rfl mX12_token_ok rfl rfl rfl (by decide) rfl rfl rfl ?_
        rintro _ w2 ⟨rfl, ht2, hm2, h202, hF2⟩ _
        refine g_iconst rfl ⟨by decide, by decide⟩ ?_
        refine x_zreturn rfl rfl (Or.inr rfl) ?_
        exact ⟨Or.inr ⟨hk2, rfl, f, p, t_chk_b (by show ¬ ((_ < (1 : Int) ∨ (9 : Int) < _) ∧ _); omega), hm2, ht2, (by rw [h202]; exact (t_cl_i (w := 15) (v := t_v T len i) (by show (1 : Int) ≤ _ ∧ _ ≤ (9 : Int); omega)).symm)⟩, mF_tr (mF_pi (by decide) mF_rf) hF2⟩
  · refine g_aload_n rfl rfl ?_
    refine g_iV (as := []) mX12_fails_ok rfl rfl rfl rfl rfl rfl (by decide) rfl rfl rfl ?_
    refine g_aload_n rfl rfl ?_
    refine g_aload_n rfl rfl ?_
    refine x_geti (v := (t_s T len i)) rfl rfl (by decide) (Or.inl rfl) ht.2.2.1 ?_
    refine g_puti rfl rfl (by decide) rfl rfl ?_
    refine g_iconst rfl ⟨by decide, by decide⟩ ?_
    refine x_zreturn rfl rfl (Or.inl rfl) ?_
    intro _
    refine x_zreturn rfl rfl (Or.inl rfl) ?_
    exact ⟨Or.inl ⟨by omega, rfl, rfl⟩, (mF_pi (by decide) mF_rf)⟩
set_option maxHeartbeats 4000000 in
set_option maxRecDepth 100000 in
theorem s_take18 {G : tp_G} {μ : tp_M} (hG : tp_Gf G = true) {T : Int → Int} {len f p m ft lo i : Int} {D : Int → Int} {R : Int × Int × Int × (Int → Int)} (hT : ∀ j, 0 ≤ T j ∧ T j ≤ 255) (h0 : 0 ≤ i) (h1 : i ≤ len) (h : ms T len f p m ft lo D μ) (ht : rtk T len i μ) (hp : f ≠ 0 → p < t_s T len i) : tp_k G mX12_take [tR (some 201), tI 0, tI 39] μ (fun r μ' => ((t_k T len i ≠ 2 ∧ r = some (tI 0) ∧ μ'.1 201 16 = t_s T len i) ∨ (t_k T len i = 2 ∧ r = some (tI 1) ∧ ∃ f2 p2, t_chk 18 (t_v T len i) (t_s T len i) (f, p, R) = (f2, p2, R) ∧ ms T len f2 p2 m ft lo D μ' ∧ rtk T len (t_e T len i) μ' ∧ μ'.1 201 20 = t_cl 18 (t_v T len i))) ∧ mF μ μ') := by
  refine tp_ok_of mX12_take_ok rfl (Nat.le_refl _) ?_
  have hrk := t_rk_i (t_k_b T len i)
  have hbe := t_e_B (T := T) h1
  have hbs := t_s_B (T := T) h1
  refine g_aload_n rfl rfl ?_
  refine x_geti (v := (t_rk (t_k T len i))) rfl rfl (by decide) (Or.inl rfl) ht.2.1 ?_
  refine g_iconst rfl ⟨by decide, by decide⟩ ?_
  refine g_icmp_eq (tgt := 13) rfl (by decide) (fun h1 => ?_) (fun h1 => ?_)
  · have hk2 : t_k T len i = 2 := hrk.2.2.1.1 (by omega)
    refine g_aload_n rfl rfl ?_
    refine g_aload_n rfl rfl ?_
    refine x_geti (v := (t_v T len i)) rfl rfl (by decide) (Or.inl rfl) (ht.2.2.2.1 hk2) ?_
    refine g_puti rfl rfl (by decide) rfl rfl ?_
    refine g_aload_n rfl rfl ?_
    refine x_geti (v := (t_v T len i)) rfl rfl (by decide) (Or.inl rfl) (ht.2.2.2.1 hk2) ?_
    refine g_iload_n rfl rfl ?_
    refine g_iload_n rfl rfl ?_
    refine g_iS (as := [tI (t_v T len i), tI 0, tI 39]) mX12_in_ok rfl rfl rfl rfl rfl rfl rfl ?_
    refine g_iload_n rfl rfl ?_
    refine g_iload_n rfl rfl ?_
    refine g_icmp_lt (tgt := 14) rfl (by decide) (fun h2 => ?_) (fun h2 => ?_)
    · refine g_iconst rfl ⟨by decide, by decide⟩ ?_
      refine x_zreturn rfl rfl (Or.inl rfl) ?_
      intro _
      refine g_if_ne (tgt := 47) rfl (by decide) (fun hx => absurd hx (by omega)) (fun _ => ?_)
      refine g_aload_n rfl rfl ?_
      refine g_iconst rfl ⟨by decide, by decide⟩ ?_
      refine g_aload_n rfl rfl ?_
      refine x_geti (v := (t_s T len i)) rfl rfl (by decide) (Or.inl rfl) ht.2.2.1 ?_
      refine g_cV (as := [tI 2, tI (t_s T len i)]) (s_aF9 hG (f := f) (p := p) (i := i) (m := m) (ft := ft) (lo := lo) (D := D) (T := T) (len := len) ⟨rd_C_m (mF_pi (by decide) mF_rf) h.1, h.2.1, h.2.2.1, h.2.2.2.1, h.2.2.2.2.1, h.2.2.2.2.2⟩ ⟨ht.1, ht.2.1, ht.2.2.1, ht.2.2.2.1, ht.2.2.2.2⟩ hp) rfl rfl mX12_addsFault_ok rfl rfl rfl (by decide) rfl rfl rfl ?_
      rintro _ w1 ⟨rfl, f1, p1, hz1, hz2, hm1, ht1, h201, hF1⟩ _
      refine g_aload_n rfl rfl ?_
      refine g_iload_n rfl rfl ?_
      refine g_puti rfl rfl (by decide) rfl rfl ?_
      refine g_aload_n rfl rfl ?_
      refine g_cV (as := []) (s_tok9 hG hT (i := t_e T len i) (m := m) (ft := ft) (lo := lo) (D := D) (f := f1) (p := p1) ⟨rd_C_m (mF_pi (by decide) mF_rf) hm1.1, hm1.2.1, hm1.2.2.1, hm1.2.2.2.1, hm1.2.2.2.2.1, hm1.2.2.2.2.2⟩ (by omega) (by omega) ht1.1) rfl rfl mX12_token_ok rfl rfl rfl (by decide) rfl rfl rfl ?_
      rintro _ w2 ⟨rfl, ht2, hm2, h202, hF2⟩ _
      refine g_iconst rfl ⟨by decide, by decide⟩ ?_
      refine x_zreturn rfl rfl (Or.inr rfl) ?_
      refine ⟨Or.inr ⟨hk2, rfl, f1, p1, ?_, hm2, ht2, (by rw [h202]; exact (t_cl_o (w := 18) (v := t_v T len i) (by show _ < (0 : Int) ∨ (39 : Int) < _; omega)).symm)⟩, mF_tr (mF_tr (mF_pi (by decide) mF_rf) hF1) (mF_tr (mF_pi (by decide) mF_rf) hF2)⟩
      by_cases u : f = 0
      · rw [t_chk_a ⟨by show _ < (0 : Int) ∨ (39 : Int) < _; omega, u⟩, (hz1 u).1, (hz1 u).2]
      · rw [t_chk_b (fun z => u z.2), (hz2 u).1, (hz2 u).2]
    · refine g_iload_n rfl rfl ?_
      refine g_iload_n rfl rfl ?_
      refine g_icmp_gt (tgt := 14) rfl (by decide) (fun h3 => ?_) (fun h3 => ?_)
      · refine g_iconst rfl ⟨by decide, by decide⟩ ?_
        refine x_zreturn rfl rfl (Or.inl rfl) ?_
        intro _
        refine g_if_ne (tgt := 47) rfl (by decide) (fun hx => absurd hx (by omega)) (fun _ => ?_)
        refine g_aload_n rfl rfl ?_
        refine g_iconst rfl ⟨by decide, by decide⟩ ?_
        refine g_aload_n rfl rfl ?_
        refine x_geti (v := (t_s T len i)) rfl rfl (by decide) (Or.inl rfl) ht.2.2.1 ?_
        refine g_cV (as := [tI 2, tI (t_s T len i)]) (s_aF9 hG (f := f) (p := p) (i := i) (m := m) (ft := ft) (lo := lo) (D := D) (T := T) (len := len) ⟨rd_C_m (mF_pi (by decide) mF_rf) h.1, h.2.1, h.2.2.1, h.2.2.2.1, h.2.2.2.2.1, h.2.2.2.2.2⟩ ⟨ht.1, ht.2.1, ht.2.2.1, ht.2.2.2.1, ht.2.2.2.2⟩ hp) rfl rfl mX12_addsFault_ok rfl rfl rfl (by decide) rfl rfl rfl ?_
        rintro _ w1 ⟨rfl, f1, p1, hz1, hz2, hm1, ht1, h201, hF1⟩ _
        refine g_aload_n rfl rfl ?_
        refine g_iload_n rfl rfl ?_
        refine g_puti rfl rfl (by decide) rfl rfl ?_
        refine g_aload_n rfl rfl ?_
        refine g_cV (as := []) (s_tok9 hG hT (i := t_e T len i) (m := m) (ft := ft) (lo := lo) (D := D) (f := f1) (p := p1) ⟨rd_C_m (mF_pi (by decide) mF_rf) hm1.1, hm1.2.1, hm1.2.2.1, hm1.2.2.2.1, hm1.2.2.2.2.1, hm1.2.2.2.2.2⟩ (by omega) (by omega) ht1.1) rfl rfl mX12_token_ok rfl rfl rfl (by decide) rfl rfl rfl ?_
        rintro _ w2 ⟨rfl, ht2, hm2, h202, hF2⟩ _
        refine g_iconst rfl ⟨by decide, by decide⟩ ?_
        refine x_zreturn rfl rfl (Or.inr rfl) ?_
        refine ⟨Or.inr ⟨hk2, rfl, f1, p1, ?_, hm2, ht2, (by rw [h202]; exact (t_cl_o (w := 18) (v := t_v T len i) (by show _ < (0 : Int) ∨ (39 : Int) < _; omega)).symm)⟩, mF_tr (mF_tr (mF_pi (by decide) mF_rf) hF1) (mF_tr (mF_pi (by decide) mF_rf) hF2)⟩
        by_cases u : f = 0
        · rw [t_chk_a ⟨by show _ < (0 : Int) ∨ (39 : Int) < _; omega, u⟩, (hz1 u).1, (hz1 u).2]
        · rw [t_chk_b (fun z => u z.2), (hz2 u).1, (hz2 u).2]
      · refine g_iconst rfl ⟨by decide, by decide⟩ ?_
        refine g_goto (tgt := 15) rfl (by decide) ?_
        refine x_zreturn rfl rfl (Or.inr rfl) ?_
        intro _
        refine g_if_ne (tgt := 47) rfl (by decide) (fun _ => ?_) (fun hx => absurd hx (by omega))
        refine g_aload_n rfl rfl ?_
        refine g_cV (as := []) (s_tok9 hG hT (i := t_e T len i) (m := m) (ft := ft) (lo := lo) (D := D) (f := f) (p := p) ⟨rd_C_m (mF_pi (by decide) mF_rf) h.1, h.2.1, h.2.2.1, h.2.2.2.1, h.2.2.2.2.1, h.2.2.2.2.2⟩ (by omega) (by omega) ht.1) rfl rfl mX12_token_ok rfl rfl rfl (by decide) rfl rfl rfl ?_
        rintro _ w2 ⟨rfl, ht2, hm2, h202, hF2⟩ _
        refine g_iconst rfl ⟨by decide, by decide⟩ ?_
        refine x_zreturn rfl rfl (Or.inr rfl) ?_
        exact ⟨Or.inr ⟨hk2, rfl, f, p, t_chk_b (by show ¬ ((_ < (0 : Int) ∨ (39 : Int) < _) ∧ _); omega), hm2, ht2, (by rw [h202]; exact (t_cl_i (w := 18) (v := t_v T len i) (by show (0 : Int) ≤ _ ∧ _ ≤ (39 : Int); omega)).symm)⟩, mF_tr (mF_pi (by decide) mF_rf) hF2⟩
  · refine g_aload_n rfl rfl ?_
    refine g_iV (as := []) mX12_fails_ok rfl rfl rfl rfl rfl rfl (by decide) rfl rfl rfl ?_
    refine g_aload_n rfl rfl ?_
    refine g_aload_n rfl rfl ?_
    refine x_geti (v := (t_s T len i)) rfl rfl (by decide) (Or.inl rfl) ht.2.2.1 ?_
    refine g_puti rfl rfl (by decide) rfl rfl ?_
    refine g_iconst rfl ⟨by decide, by decide⟩ ?_
    refine x_zreturn rfl rfl (Or.inl rfl) ?_
    intro _
    refine x_zreturn rfl rfl (Or.inl rfl) ?_
    exact ⟨Or.inl ⟨by omega, rfl, rfl⟩, (mF_pi (by decide) mF_rf)⟩
set_option maxHeartbeats 4000000 in
set_option maxRecDepth 100000 in
theorem s_take19 {G : tp_G} {μ : tp_M} (hG : tp_Gf G = true) {T : Int → Int} {len f p m ft lo i : Int} {D : Int → Int} {R : Int × Int × Int × (Int → Int)} (hT : ∀ j, 0 ≤ T j ∧ T j ≤ 255) (h0 : 0 ≤ i) (h1 : i ≤ len) (h : ms T len f p m ft lo D μ) (ht : rtk T len i μ) (hp : f ≠ 0 → p < t_s T len i) : tp_k G mX12_take [tR (some 201), tI 0, tI 99] μ (fun r μ' => ((t_k T len i ≠ 2 ∧ r = some (tI 0) ∧ μ'.1 201 16 = t_s T len i) ∨ (t_k T len i = 2 ∧ r = some (tI 1) ∧ ∃ f2 p2, t_chk 19 (t_v T len i) (t_s T len i) (f, p, R) = (f2, p2, R) ∧ ms T len f2 p2 m ft lo D μ' ∧ rtk T len (t_e T len i) μ' ∧ μ'.1 201 20 = t_cl 19 (t_v T len i))) ∧ mF μ μ') := by
  refine tp_ok_of mX12_take_ok rfl (Nat.le_refl _) ?_
  have hrk := t_rk_i (t_k_b T len i)
  have hbe := t_e_B (T := T) h1
  have hbs := t_s_B (T := T) h1
  refine g_aload_n rfl rfl ?_
  refine x_geti (v := (t_rk (t_k T len i))) rfl rfl (by decide) (Or.inl rfl) ht.2.1 ?_
  refine g_iconst rfl ⟨by decide, by decide⟩ ?_
  refine g_icmp_eq (tgt := 13) rfl (by decide) (fun h1 => ?_) (fun h1 => ?_)
  · have hk2 : t_k T len i = 2 := hrk.2.2.1.1 (by omega)
    refine g_aload_n rfl rfl ?_
    refine g_aload_n rfl rfl ?_
    refine x_geti (v := (t_v T len i)) rfl rfl (by decide) (Or.inl rfl) (ht.2.2.2.1 hk2) ?_
    refine g_puti rfl rfl (by decide) rfl rfl ?_
    refine g_aload_n rfl rfl ?_
    refine x_geti (v := (t_v T len i)) rfl rfl (by decide) (Or.inl rfl) (ht.2.2.2.1 hk2) ?_
    refine g_iload_n rfl rfl ?_
    refine g_iload_n rfl rfl ?_
    refine g_iS (as := [tI (t_v T len i), tI 0, tI 99]) mX12_in_ok rfl rfl rfl rfl rfl rfl rfl ?_
    refine g_iload_n rfl rfl ?_
    refine g_iload_n rfl rfl ?_
    refine g_icmp_lt (tgt := 14) rfl (by decide) (fun h2 => ?_) (fun h2 => ?_)
    · refine g_iconst rfl ⟨by decide, by decide⟩ ?_
      refine x_zreturn rfl rfl (Or.inl rfl) ?_
      intro _
      refine g_if_ne (tgt := 47) rfl (by decide) (fun hx => absurd hx (by omega)) (fun _ => ?_)
      refine g_aload_n rfl rfl ?_
      refine g_iconst rfl ⟨by decide, by decide⟩ ?_
      refine g_aload_n rfl rfl ?_
      refine x_geti (v := (t_s T len i)) rfl rfl (by decide) (Or.inl rfl) ht.2.2.1 ?_
      refine g_cV (as := [tI 2, tI (t_s T len i)]) (s_aF9 hG (f := f) (p := p) (i := i) (m := m) (ft := ft) (lo := lo) (D := D) (T := T) (len := len) ⟨rd_C_m (mF_pi (by decide) mF_rf) h.1, h.2.1, h.2.2.1, h.2.2.2.1, h.2.2.2.2.1, h.2.2.2.2.2⟩ ⟨ht.1, ht.2.1, ht.2.2.1, ht.2.2.2.1, ht.2.2.2.2⟩ hp) rfl rfl mX12_addsFault_ok rfl rfl rfl (by decide) rfl rfl rfl ?_
      rintro _ w1 ⟨rfl, f1, p1, hz1, hz2, hm1, ht1, h201, hF1⟩ _
      refine g_aload_n rfl rfl ?_
      refine g_iload_n rfl rfl ?_
      refine g_puti rfl rfl (by decide) rfl rfl ?_
      refine g_aload_n rfl rfl ?_
      refine g_cV (as := []) (s_tok9 hG hT (i := t_e T len i) (m := m) (ft := ft) (lo := lo) (D := D) (f := f1) (p := p1) ⟨rd_C_m (mF_pi (by decide) mF_rf) hm1.1, hm1.2.1, hm1.2.2.1, hm1.2.2.2.1, hm1.2.2.2.2.1, hm1.2.2.2.2.2⟩ (by omega) (by omega) ht1.1) rfl rfl mX12_token_ok rfl rfl rfl (by decide) rfl rfl rfl ?_
      rintro _ w2 ⟨rfl, ht2, hm2, h202, hF2⟩ _
      refine g_iconst rfl ⟨by decide, by decide⟩ ?_
      refine x_zreturn rfl rfl (Or.inr rfl) ?_
      refine ⟨Or.inr ⟨hk2, rfl, f1, p1, ?_, hm2, ht2, (by rw [h202]; exact (t_cl_o (w := 19) (v := t_v T len i) (by show _ < (0 : Int) ∨ (99 : Int) < _; omega)).symm)⟩, mF_tr (mF_tr (mF_pi (by decide) mF_rf) hF1) (mF_tr (mF_pi (by decide) mF_rf) hF2)⟩
      by_cases u : f = 0
      · rw [t_chk_a ⟨by show _ < (0 : Int) ∨ (99 : Int) < _; omega, u⟩, (hz1 u).1, (hz1 u).2]
      · rw [t_chk_b (fun z => u z.2), (hz2 u).1, (hz2 u).2]
    · refine g_iload_n rfl rfl ?_
      refine g_iload_n rfl rfl ?_
      refine g_icmp_gt (tgt := 14) rfl (by decide) (fun h3 => ?_) (fun h3 => ?_)
      · refine g_iconst rfl ⟨by decide, by decide⟩ ?_
        refine x_zreturn rfl rfl (Or.inl rfl) ?_
        intro _
        refine g_if_ne (tgt := 47) rfl (by decide) (fun hx => absurd hx (by omega)) (fun _ => ?_)
        refine g_aload_n rfl rfl ?_
        refine g_iconst rfl ⟨by decide, by decide⟩ ?_
        refine g_aload_n rfl rfl ?_
        refine x_geti (v := (t_s T len i)) rfl rfl (by decide) (Or.inl rfl) ht.2.2.1 ?_
        refine g_cV (as := [tI 2, tI (t_s T len i)]) (s_aF9 hG (f := f) (p := p) (i := i) (m := m) (ft := ft) (lo := lo) (D := D) (T := T) (len := len) ⟨rd_C_m (mF_pi (by decide) mF_rf) h.1, h.2.1, h.2.2.1, h.2.2.2.1, h.2.2.2.2.1, h.2.2.2.2.2⟩ ⟨ht.1, ht.2.1, ht.2.2.1, ht.2.2.2.1, ht.2.2.2.2⟩ hp) rfl rfl mX12_addsFault_ok rfl rfl rfl (by decide) rfl rfl rfl ?_
        rintro _ w1 ⟨rfl, f1, p1, hz1, hz2, hm1, ht1, h201, hF1⟩ _
        refine g_aload_n rfl rfl ?_
        refine g_iload_n rfl rfl ?_
        refine g_puti rfl rfl (by decide) rfl rfl ?_
        refine g_aload_n rfl rfl ?_
        refine g_cV (as := []) (s_tok9 hG hT (i := t_e T len i) (m := m) (ft := ft) (lo := lo) (D := D) (f := f1) (p := p1) ⟨rd_C_m (mF_pi (by decide) mF_rf) hm1.1, hm1.2.1, hm1.2.2.1, hm1.2.2.2.1, hm1.2.2.2.2.1, hm1.2.2.2.2.2⟩ (by omega) (by omega) ht1.1) rfl rfl mX12_token_ok rfl rfl rfl (by decide) rfl rfl rfl ?_
        rintro _ w2 ⟨rfl, ht2, hm2, h202, hF2⟩ _
        refine g_iconst rfl ⟨by decide, by decide⟩ ?_
        refine x_zreturn rfl rfl (Or.inr rfl) ?_
        refine ⟨Or.inr ⟨hk2, rfl, f1, p1, ?_, hm2, ht2, (by rw [h202]; exact (t_cl_o (w := 19) (v := t_v T len i) (by show _ < (0 : Int) ∨ (99 : Int) < _; omega)).symm)⟩, mF_tr (mF_tr (mF_pi (by decide) mF_rf) hF1) (mF_tr (mF_pi (by decide) mF_rf) hF2)⟩
        by_cases u : f = 0
        · rw [t_chk_a ⟨by show _ < (0 : Int) ∨ (99 : Int) < _; omega, u⟩, (hz1 u).1, (hz1 u).2]
        · rw [t_chk_b (fun z => u z.2), (hz2 u).1, (hz2 u).2]
      · refine g_iconst rfl ⟨by decide, by decide⟩ ?_
        refine g_goto (tgt := 15) rfl (by decide) ?_
        refine x_zreturn rfl rfl (Or.inr rfl) ?_
        intro _
        refine g_if_ne (tgt := 47) rfl (by decide) (fun _ => ?_) (fun hx => absurd hx (by omega))
        refine g_aload_n rfl rfl ?_
        refine g_cV (as := []) (s_tok9 hG hT (i := t_e T len i) (m := m) (ft := ft) (lo := lo) (D := D) (f := f) (p := p) ⟨rd_C_m (mF_pi (by decide) mF_rf) h.1, h.2.1, h.2.2.1, h.2.2.2.1, h.2.2.2.2.1, h.2.2.2.2.2⟩ (by omega) (by omega) ht.1) rfl rfl mX12_token_ok rfl rfl rfl (by decide) rfl rfl rfl ?_
        rintro _ w2 ⟨rfl, ht2, hm2, h202, hF2⟩ _
        refine g_iconst rfl ⟨by decide, by decide⟩ ?_
        refine x_zreturn rfl rfl (Or.inr rfl) ?_
        exact ⟨Or.inr ⟨hk2, rfl, f, p, t_chk_b (by show ¬ ((_ < (0 : Int) ∨ (99 : Int) < _) ∧ _); omega), hm2, ht2, (by rw [h202]; exact (t_cl_i (w := 19) (v := t_v T len i) (by show (0 : Int) ≤ _ ∧ _ ≤ (99 : Int); omega)).symm)⟩, mF_tr (mF_pi (by decide) mF_rf) hF2⟩
  · refine g_aload_n rfl rfl ?_
    refine g_iV (as := []) mX12_fails_ok rfl rfl rfl rfl rfl rfl (by decide) rfl rfl rfl ?_
    refine g_aload_n rfl rfl ?_
    refine g_aload_n rfl rfl ?_
    refine x_geti (v := (t_s T len i)) rfl rfl (by decide) (Or.inl rfl) ht.2.2.1 ?_
    refine g_puti rfl rfl (by decide) rfl rfl ?_
    refine g_iconst rfl ⟨by decide, by decide⟩ ?_
    refine x_zreturn rfl rfl (Or.inl rfl) ?_
    intro _
    refine x_zreturn rfl rfl (Or.inl rfl) ?_
    exact ⟨Or.inl ⟨by omega, rfl, rfl⟩, (mF_pi (by decide) mF_rf)⟩
set_option maxHeartbeats 4000000 in
set_option maxRecDepth 100000 in
theorem s_take20 {G : tp_G} {μ : tp_M} (hG : tp_Gf G = true) {T : Int → Int} {len f p m ft lo i : Int} {D : Int → Int} {R : Int × Int × Int × (Int → Int)} (hT : ∀ j, 0 ≤ T j ∧ T j ≤ 255) (h0 : 0 ≤ i) (h1 : i ≤ len) (h : ms T len f p m ft lo D μ) (ht : rtk T len i μ) (hp : f ≠ 0 → p < t_s T len i) : tp_k G mX12_take [tR (some 201), tI 0, tI 39] μ (fun r μ' => ((t_k T len i ≠ 2 ∧ r = some (tI 0) ∧ μ'.1 201 16 = t_s T len i) ∨ (t_k T len i = 2 ∧ r = some (tI 1) ∧ ∃ f2 p2, t_chk 20 (t_v T len i) (t_s T len i) (f, p, R) = (f2, p2, R) ∧ ms T len f2 p2 m ft lo D μ' ∧ rtk T len (t_e T len i) μ' ∧ μ'.1 201 20 = t_cl 20 (t_v T len i))) ∧ mF μ μ') := by
  refine tp_ok_of mX12_take_ok rfl (Nat.le_refl _) ?_
  have hrk := t_rk_i (t_k_b T len i)
  have hbe := t_e_B (T := T) h1
  have hbs := t_s_B (T := T) h1
  refine g_aload_n rfl rfl ?_
  refine x_geti (v := (t_rk (t_k T len i))) rfl rfl (by decide) (Or.inl rfl) ht.2.1 ?_
  refine g_iconst rfl ⟨by decide, by decide⟩ ?_
  refine g_icmp_eq (tgt := 13) rfl (by decide) (fun h1 => ?_) (fun h1 => ?_)
  · have hk2 : t_k T len i = 2 := hrk.2.2.1.1 (by omega)
    refine g_aload_n rfl rfl ?_
    refine g_aload_n rfl rfl ?_
    refine x_geti (v := (t_v T len i)) rfl rfl (by decide) (Or.inl rfl) (ht.2.2.2.1 hk2) ?_
    refine g_puti rfl rfl (by decide) rfl rfl ?_
    refine g_aload_n rfl rfl ?_
    refine x_geti (v := (t_v T len i)) rfl rfl (by decide) (Or.inl rfl) (ht.2.2.2.1 hk2) ?_
    refine g_iload_n rfl rfl ?_
    refine g_iload_n rfl rfl ?_
    refine g_iS (as := [tI (t_v T len i), tI 0, tI 39]) mX12_in_ok rfl rfl rfl rfl rfl rfl rfl ?_
    refine g_iload_n rfl rfl ?_
    refine g_iload_n rfl rfl ?_
    refine g_icmp_lt (tgt := 14) rfl (by decide) (fun h2 => ?_) (fun h2 => ?_)
    · refine g_iconst rfl ⟨by decide, by decide⟩ ?_
      refine x_zreturn rfl rfl (Or.inl rfl) ?_
      intro _
      refine g_if_ne (tgt := 47) rfl (by decide) (fun hx => absurd hx (by omega)) (fun _ => ?_)
      refine g_aload_n rfl rfl ?_
      refine g_iconst rfl ⟨by decide, by decide⟩ ?_
      refine g_aload_n rfl rfl ?_
      refine x_geti (v := (t_s T len i)) rfl rfl (by decide) (Or.inl rfl) ht.2.2.1 ?_
      refine g_cV (as := [tI 2, tI (t_s T len i)]) (s_aF9 hG (f := f) (p := p) (i := i) (m := m) (ft := ft) (lo := lo) (D := D) (T := T) (len := len) ⟨rd_C_m (mF_pi (by decide) mF_rf) h.1, h.2.1, h.2.2.1, h.2.2.2.1, h.2.2.2.2.1, h.2.2.2.2.2⟩ ⟨ht.1, ht.2.1, ht.2.2.1, ht.2.2.2.1, ht.2.2.2.2⟩ hp) rfl rfl mX12_addsFault_ok rfl rfl rfl (by decide) rfl rfl rfl ?_
      rintro _ w1 ⟨rfl, f1, p1, hz1, hz2, hm1, ht1, h201, hF1⟩ _
      refine g_aload_n rfl rfl ?_
      refine g_iload_n rfl rfl ?_
      refine g_puti rfl rfl (by decide) rfl rfl ?_
      refine g_aload_n rfl rfl ?_
      refine g_cV (as := []) (s_tok9 hG hT (i := t_e T len i) (m := m) (ft := ft) (lo := lo) (D := D) (f := f1) (p := p1) ⟨rd_C_m (mF_pi (by decide) mF_rf) hm1.1, hm1.2.1, hm1.2.2.1, hm1.2.2.2.1, hm1.2.2.2.2.1, hm1.2.2.2.2.2⟩ (by omega) (by omega) ht1.1) rfl rfl mX12_token_ok rfl rfl rfl (by decide) rfl rfl rfl ?_
      rintro _ w2 ⟨rfl, ht2, hm2, h202, hF2⟩ _
      refine g_iconst rfl ⟨by decide, by decide⟩ ?_
      refine x_zreturn rfl rfl (Or.inr rfl) ?_
      refine ⟨Or.inr ⟨hk2, rfl, f1, p1, ?_, hm2, ht2, (by rw [h202]; exact (t_cl_o (w := 20) (v := t_v T len i) (by show _ < (0 : Int) ∨ (39 : Int) < _; omega)).symm)⟩, mF_tr (mF_tr (mF_pi (by decide) mF_rf) hF1) (mF_tr (mF_pi (by decide) mF_rf) hF2)⟩
      by_cases u : f = 0
      · rw [t_chk_a ⟨by show _ < (0 : Int) ∨ (39 : Int) < _; omega, u⟩, (hz1 u).1, (hz1 u).2]
      · rw [t_chk_b (fun z => u z.2), (hz2 u).1, (hz2 u).2]
    · refine g_iload_n rfl rfl ?_
      refine g_iload_n rfl rfl ?_
      refine g_icmp_gt (tgt := 14) rfl (by decide) (fun h3 => ?_) (fun h3 => ?_)
      · refine g_iconst rfl ⟨by decide, by decide⟩ ?_
        refine x_zreturn rfl rfl (Or.inl rfl) ?_
        intro _
        refine g_if_ne (tgt := 47) rfl (by decide) (fun hx => absurd hx (by omega)) (fun _ => ?_)
        refine g_aload_n rfl rfl ?_
        refine g_iconst rfl ⟨by decide, by decide⟩ ?_
        refine g_aload_n rfl rfl ?_
        refine x_geti (v := (t_s T len i)) rfl rfl (by decide) (Or.inl rfl) ht.2.2.1 ?_
        refine g_cV (as := [tI 2, tI (t_s T len i)]) (s_aF9 hG (f := f) (p := p) (i := i) (m := m) (ft := ft) (lo := lo) (D := D) (T := T) (len := len) ⟨rd_C_m (mF_pi (by decide) mF_rf) h.1, h.2.1, h.2.2.1, h.2.2.2.1, h.2.2.2.2.1, h.2.2.2.2.2⟩ ⟨ht.1, ht.2.1, ht.2.2.1, ht.2.2.2.1, ht.2.2.2.2⟩ hp) rfl rfl mX12_addsFault_ok rfl rfl rfl (by decide) rfl rfl rfl ?_
        rintro _ w1 ⟨rfl, f1, p1, hz1, hz2, hm1, ht1, h201, hF1⟩ _
        refine g_aload_n rfl rfl ?_
        refine g_iload_n rfl rfl ?_
        refine g_puti rfl rfl (by decide) rfl rfl ?_
        refine g_aload_n rfl rfl ?_
        refine g_cV (as := []) (s_tok9 hG hT (i := t_e T len i) (m := m) (ft := ft) (lo := lo) (D := D) (f := f1) (p := p1) ⟨rd_C_m (mF_pi (by decide) mF_rf) hm1.1, hm1.2.1, hm1.2.2.1, hm1.2.2.2.1, hm1.2.2.2.2.1, hm1.2.2.2.2.2⟩ (by omega) (by omega) ht1.1) rfl rfl mX12_token_ok rfl rfl rfl (by decide) rfl rfl rfl ?_
        rintro _ w2 ⟨rfl, ht2, hm2, h202, hF2⟩ _
        refine g_iconst rfl ⟨by decide, by decide⟩ ?_
        refine x_zreturn rfl rfl (Or.inr rfl) ?_
        refine ⟨Or.inr ⟨hk2, rfl, f1, p1, ?_, hm2, ht2, (by rw [h202]; exact (t_cl_o (w := 20) (v := t_v T len i) (by show _ < (0 : Int) ∨ (39 : Int) < _; omega)).symm)⟩, mF_tr (mF_tr (mF_pi (by decide) mF_rf) hF1) (mF_tr (mF_pi (by decide) mF_rf) hF2)⟩
        by_cases u : f = 0
        · rw [t_chk_a ⟨by show _ < (0 : Int) ∨ (39 : Int) < _; omega, u⟩, (hz1 u).1, (hz1 u).2]
        · rw [t_chk_b (fun z => u z.2), (hz2 u).1, (hz2 u).2]
      · refine g_iconst rfl ⟨by decide, by decide⟩ ?_
        refine g_goto (tgt := 15) rfl (by decide) ?_
        refine x_zreturn rfl rfl (Or.inr rfl) ?_
        intro _
        refine g_if_ne (tgt := 47) rfl (by decide) (fun _ => ?_) (fun hx => absurd hx (by omega))
        refine g_aload_n rfl rfl ?_
        refine g_cV (as := []) (s_tok9 hG hT (i := t_e T len i) (m := m) (ft := ft) (lo := lo) (D := D) (f := f) (p := p) ⟨rd_C_m (mF_pi (by decide) mF_rf) h.1, h.2.1, h.2.2.1, h.2.2.2.1, h.2.2.2.2.1, h.2.2.2.2.2⟩ (by omega) (by omega) ht.1) rfl rfl mX12_token_ok rfl rfl rfl (by decide) rfl rfl rfl ?_
        rintro _ w2 ⟨rfl, ht2, hm2, h202, hF2⟩ _
        refine g_iconst rfl ⟨by decide, by decide⟩ ?_
        refine x_zreturn rfl rfl (Or.inr rfl) ?_
        exact ⟨Or.inr ⟨hk2, rfl, f, p, t_chk_b (by show ¬ ((_ < (0 : Int) ∨ (39 : Int) < _) ∧ _); omega), hm2, ht2, (by rw [h202]; exact (t_cl_i (w := 20) (v := t_v T len i) (by show (0 : Int) ≤ _ ∧ _ ≤ (39 : Int); omega)).symm)⟩, mF_tr (mF_pi (by decide) mF_rf) hF2⟩
  · refine g_aload_n rfl rfl ?_
    refine g_iV (as := []) mX12_fails_ok rfl rfl rfl rfl rfl rfl (by decide) rfl rfl rfl ?_
    refine g_aload_n rfl rfl ?_
    refine g_aload_n rfl rfl ?_
    refine x_geti (v := (t_s T len i)) rfl rfl (by decide) (Or.inl rfl) ht.2.2.1 ?_
    refine g_puti rfl rfl (by decide) rfl rfl ?_
    refine g_iconst rfl ⟨by decide, by decide⟩ ?_
    refine x_zreturn rfl rfl (Or.inl rfl) ?_
    intro _
    refine x_zreturn rfl rfl (Or.inl rfl) ?_
    exact ⟨Or.inl ⟨by omega, rfl, rfl⟩, (mF_pi (by decide) mF_rf)⟩
