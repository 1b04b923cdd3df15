/-! edges -/
def q_ed (A : Int → Int) (k a b : Int) : Prop := ∃ j, 1 ≤ j ∧ j < k ∧ A (j - 1) = a ∧ A j = b
noncomputable def q_E (A : Int → Int) (k a b : Int) : Int := @ite Int (q_ed A k a b) (Classical.propDecidable _) 1 0
theorem q_E_1 {A : Int → Int} {k a b : Int} (h : q_ed A k a b) : q_E A k a b = 1 := if_pos h
theorem q_E_0 {A : Int → Int} {k a b : Int} (h : ¬ q_ed A k a b) : q_E A k a b = 0 := if_neg h
theorem q_E_b (A : Int → Int) (k a b : Int) : 0 ≤ q_E A k a b ∧ q_E A k a b ≤ 1 := by
  by_cases h : q_ed A k a b
  · rw [q_E_1 h]; omega
  · rw [q_E_0 h]; omega
theorem q_ed_s {A : Int → Int} {k a b : Int} (hk : 1 ≤ k) : q_ed A (k + 1) a b ↔ (q_ed A k a b ∨ (a = A (k - 1) ∧ b = A k)) := by
  constructor
  · rintro ⟨j, j1, j2, j3, j4⟩
    rcases (show j < k ∨ j = k by omega) with q | q
    · exact Or.inl ⟨j, j1, q, j3, j4⟩
    · rw [q] at j3 j4; exact Or.inr ⟨j3.symm, j4.symm⟩
  · rintro (⟨j, j1, j2, j3⟩ | ⟨h1, h2⟩)
    · exact ⟨j, j1, by omega, j3⟩
    · exact ⟨k, hk, by omega, h1.symm, h2.symm⟩
theorem q_E_n {A : Int → Int} {k a b : Int} (hk : 1 ≤ k) (h : ¬ (a = A (k - 1) ∧ b = A k)) : q_E A (k + 1) a b = q_E A k a b := by
  by_cases q : q_ed A k a b
  · rw [q_E_1 q, q_E_1 ((q_ed_s hk).2 (Or.inl q))]
  · rw [q_E_0 q, q_E_0 (fun z => by rcases (q_ed_s hk).1 z with z | z; exact q z; exact h z)]
theorem q_E_y {A : Int → Int} {k : Int} (hk : 1 ≤ k) : q_E A (k + 1) (A (k - 1)) (A k) = 1 := q_E_1 ((q_ed_s hk).2 (Or.inr ⟨rfl, rfl⟩))
noncomputable def q_EE (A : Int → Int) (k : Int) : Int := q_s (fun a => q_s (fun b => q_E A k a b) 40) 40
theorem q_EE_s {A : Int → Int} {k : Int} (hk : 1 ≤ k) (ha : 0 ≤ A (k - 1) ∧ A (k - 1) < 40) (hb : 0 ≤ A k ∧ A k < 40) : q_EE A (k + 1) = q_EE A k + (1 - q_E A k (A (k - 1)) (A k)) := by
  unfold q_EE
  rw [q_s_upd (F := fun a => q_s (fun b => q_E A k a b) 40) (F' := fun a => q_s (fun b => q_E A (k + 1) a b) 40) (h := A (k - 1)) (fun j j0 j1 hj => q_s_c (fun b b0 b1 => q_E_n hk (fun z => hj z.1))) ha.1 ha.2]
  show _ + (q_s (fun b => q_E A (k + 1) (A (k - 1)) b) 40 - q_s (fun b => q_E A k (A (k - 1)) b) 40) = _
  rw [q_s_upd (F := fun b => q_E A k (A (k - 1)) b) (F' := fun b => q_E A (k + 1) (A (k - 1)) b) (h := A k) (fun j j0 j1 hj => q_E_n hk (fun z => hj z.2)) hb.1 hb.2]
  show _ + (_ + (q_E A (k + 1) (A (k - 1)) (A k) - q_E A k (A (k - 1)) (A k)) - _) = _
  rw [q_E_y hk]
  omega
theorem q_S_z {C : Int → Int} : ∀ n : Nat, (∀ j, 0 ≤ j → j < (n : Int) → C j = 0) → q_S C n = 0 := by
  intro n
  induction n with
  | zero => intro _; rfl
  | succ n ih =>
    intro h
    show q_S C n + C n = 0
    rw [ih (fun j a b => h j a (by omega)), h n (by omega) (by omega)]
    rfl
theorem q_s_z {C : Int → Int} {n : Int} (h : ∀ j, 0 ≤ j → j < n → C j = 0) : q_s C n = 0 := q_S_z n.toNat (fun j a b => h j a (by omega))
theorem q_EE_0 {A : Int → Int} {k : Int} (hk : k ≤ 1) : q_EE A k = 0 := q_s_z (fun a _ _ => q_s_z (fun b _ _ => q_E_0 (fun ⟨j, j1, j2, _⟩ => by omega)))
theorem q_EE_b (A : Int → Int) (k : Int) : 0 ≤ q_EE A k ∧ q_EE A k ≤ 1600 := by
  have h1 : ∀ a, 0 ≤ q_s (fun b => q_E A k a b) 40 ∧ q_s (fun b => q_E A k a b) 40 ≤ 40 := fun a => q_s_B (by omega) (fun b => q_E_b A k a b)
  have h2 : q_s (fun _ => 0) 40 ≤ q_EE A k := q_s_le (fun a _ _ => (h1 a).1)
  have h3 : q_EE A k ≤ q_s (fun _ => 40) 40 := q_s_le (fun a _ _ => (h1 a).2)
  have e2 : q_s (fun _ => 0) 40 = 0 := by decide
  have e3 : q_s (fun _ => 40) 40 = 1600 := by decide
  omega
theorem m_T_fr {n : Int} {A B Y : Int → Int} {E D U T : Int} {μ μ' : tp_M} (h : ∀ c, c ≠ 227 → μ'.1 c = μ.1 c) (q : m_T n A B Y E D U T μ) : m_T n A B Y E D U T μ' := by
  unfold m_T
  rw [h 201 (by omega), h 212 (by omega), h 213 (by omega), h 214 (by omega)]
  exact q
set_option maxHeartbeats 4000000 in
set_option maxRecDepth 100000 in
theorem l_edM2 {G : tp_G} (hG : tp_Gf G = true) {f : Int → Int} {n : Int} {A B Y H : Int → Int} {E D U T : Int} (hw : tp_Cw f) (hW : r_W f n A B Y H) {μ0 : tp_M} (hT0 : m_T n A B Y E D U T μ0) : ∀ k, k ≤ max n 1 → ∀ (μ : tp_M) (s : Int) (x3 : Option tp_V), 1 ≤ k → s = q_EE A k → (∀ a b, 0 ≤ a → a < 40 → 0 ≤ b → b < 40 → μ.1 227 (40 * a + b) = q_E A k a b) → q_f1 227 μ0 μ → tp_g G mX12_edges 26 [some (tR (some 201)), some (tI s), some (tI k), x3] [] μ (fun r μ' => r = some (tI (q_EE A n)) ∧ q_f1 227 μ0 μ') := by
  have hw0 := hw.1
  have hn0 := hW.1
  refine tp_ind _ ?_
  intro k hkN ih μ s x3 h0 hs hz hF
  have hTv : m_T n A B Y E D U T μ := m_T_fr (fun c9 z1 => hF.1 c9 z1) hT0
  have hn6 := hTv.1
  have hsb := q_EE_b A k
  rw [← hs] at hsb
  have e1 : k < n → μ.1 212 (k - 1) = A (k - 1) := fun q => hTv.2.1 (k - 1) (by omega) (by omega)
  have e2 : k < n → μ.1 212 k = A k := fun q => hTv.2.1 k (by omega) (by omega)
  have r1 : k < n → 0 ≤ A (k - 1) ∧ A (k - 1) < f 0 := fun q => (hW.2.2.2 (k - 1) (by omega) (by omega)).1.1
  have r2 : k < n → 0 ≤ A k ∧ A k < f 0 := fun q => (hW.2.2.2 k (by omega) (by omega)).1.1
  have hz9 : k < n → μ.1 227 (40 * μ.1 212 (k - 1) + μ.1 212 k) = q_E A k (A (k - 1)) (A k) := fun q => by
    rw [e1 q, e2 q]
    exact hz _ _ (r1 q).1 (by have := r1 q; omega) (r2 q).1 (by have := r2 q; omega)
  have hEb := q_E_b A k (A (k - 1)) (A k)
  have hend : n ≤ k → q_EE A k = q_EE A n := fun q => by
    rcases (show k = n ∨ (n = 0 ∧ k = 1) by omega) with t | t
    · rw [t]
    · rw [q_EE_0 (by omega), q_EE_0 (by omega)]
  refine g_iload_n rfl rfl ?_
  refine g_aload_n rfl rfl ?_
  refine x_geti (v := (μ.1 201 27)) rfl rfl (by decide) (Or.inl rfl) rfl ?_
  refine g_icmp_ge (tgt := 83) rfl (by decide) (fun h1 => ?_) (fun h1 => ?_)
  · refine g_iload_n rfl rfl ?_
    refine x_ireturn rfl rfl ?_
    exact ⟨by rw [hs, hend (by omega)], hF⟩
  · refine g_bipush rfl ⟨by decide, by decide⟩ (by decide) ?_
    refine g_aload_n rfl rfl ?_
    refine x_getF (r := 212) hG rfl rfl (by decide) (Or.inr ⟨_, rfl⟩) rfl ?_
    refine g_iload_n rfl rfl ?_
    refine g_iconst rfl ⟨by decide, by decide⟩ ?_
    refine x_isub (z := k - 1) rfl (by omega) ⟨by omega, by omega⟩ ?_
    refine x_iald (v := (μ.1 212 (k - 1))) rfl rfl (by decide) (by omega) (by omega) rfl ?_
    refine x_imul (z := 40 * (μ.1 212 (k - 1))) rfl (by omega) ⟨by omega, by omega⟩ ?_
    refine g_aload_n rfl rfl ?_
    refine x_getF (r := 212) hG rfl rfl (by decide) (Or.inr ⟨_, rfl⟩) rfl ?_
    refine g_iload_n rfl rfl ?_
    refine x_iald (v := (μ.1 212 k)) rfl rfl (by decide) (by omega) (by omega) rfl ?_
    refine x_iadd (z := 40 * (μ.1 212 (k - 1)) + (μ.1 212 k)) rfl (by omega) ⟨by omega, by omega⟩ ?_
    refine g_istore_n rfl rfl rfl ?_
    refine g_iload_n rfl rfl ?_
    refine g_aload_n rfl rfl ?_
    refine x_getF (r := 227) hG rfl rfl (by decide) (Or.inr ⟨_, rfl⟩) rfl ?_
    refine g_iload_n rfl rfl ?_
    refine g_zald rfl rfl (by decide) (by omega) (by omega) ?_
    refine g_if_eq (tgt := 67) rfl (by decide) (fun h2 => ?_) (fun h2 => ?_)
    · refine g_iconst rfl ⟨by decide, by decide⟩ ?_
      refine x_iadd (z := s + 1) rfl (by omega) ⟨by omega, by omega⟩ ?_
      refine g_istore_n rfl rfl rfl ?_
      refine g_aload_n rfl rfl ?_
      refine x_getF (r := 227) hG rfl rfl (by decide) (Or.inr ⟨_, rfl⟩) rfl ?_
      refine g_iload_n rfl rfl ?_
      refine g_iconst rfl ⟨by decide, by decide⟩ ?_
      refine g_zast rfl rfl (by decide) (by omega) (by omega) ?_
      refine x_iinc (z := k + 1) rfl rfl (by omega) ⟨by omega, by omega⟩ rfl rfl ?_
      refine g_goto (tgt := 26) rfl (by decide) ?_
      exact ih (by omega) _ _ _ (by omega) (by rw [q_EE_s (by omega) (by omega) (by omega)]; omega) (fun a b a0 a1 b0 b1 => by
        rw [e1 (by omega), e2 (by omega), tp_pi1]
        by_cases q : a = A (k - 1) ∧ b = A k
        · rw [if_pos ⟨rfl, by omega⟩, q.1, q.2, q_E_y (by omega)]; exact tp_z1
        · rw [if_neg (fun z => q (by omega)), q_E_n (by omega) q]; exact hz a b a0 a1 b0 b1) (q_f1_pi hF)
    · refine g_iconst rfl ⟨by decide, by decide⟩ ?_
      refine g_goto (tgt := 68) rfl (by decide) ?_
      refine x_iadd (z := s) rfl (by omega) ⟨by omega, by omega⟩ ?_
      refine g_istore_n rfl rfl rfl ?_
      refine g_aload_n rfl rfl ?_
      refine x_getF (r := 227) hG rfl rfl (by decide) (Or.inr ⟨_, rfl⟩) rfl ?_
      refine g_iload_n rfl rfl ?_
      refine g_iconst rfl ⟨by decide, by decide⟩ ?_
      refine g_zast rfl rfl (by decide) (by omega) (by omega) ?_
      refine x_iinc (z := k + 1) rfl rfl (by omega) ⟨by omega, by omega⟩ rfl rfl ?_
      refine g_goto (tgt := 26) rfl (by decide) ?_
      exact ih (by omega) _ _ _ (by omega) (by rw [q_EE_s (by omega) (by omega) (by omega)]; omega) (fun a b a0 a1 b0 b1 => by
        rw [e1 (by omega), e2 (by omega), tp_pi1]
        by_cases q : a = A (k - 1) ∧ b = A k
        · rw [if_pos ⟨rfl, by omega⟩, q.1, q.2, q_E_y (by omega)]; exact tp_z1
        · rw [if_neg (fun z => q (by omega)), q_E_n (by omega) q]; exact hz a b a0 a1 b0 b1) (q_f1_pi hF)
set_option maxHeartbeats 4000000 in
set_option maxRecDepth 100000 in
theorem l_edM1 {G : tp_G} (hG : tp_Gf G = true) {f : Int → Int} {n : Int} {A B Y H : Int → Int} {E D U T : Int} (hw : tp_Cw f) (hW : r_W f n A B Y H) {μ0 : tp_M} (hT0 : m_T n A B Y E D U T μ0) : ∀ k, k ≤ 1600 → ∀ (μ : tp_M), 0 ≤ k → (∀ i, 0 ≤ i → i < k → μ.1 227 i = 0) → q_f1 227 μ0 μ → tp_g G mX12_edges 2 [some (tR (some 201)), some (tI k), none, none] [] μ (fun r μ' => r = some (tI (q_EE A n)) ∧ q_f1 227 μ0 μ') := by
  have hw0 := hw.1
  have hn0 := hW.1
  refine tp_ind _ ?_
  intro k hkN ih μ h0 hz hF
  refine g_iload_n rfl rfl ?_
  refine g_sipush rfl ⟨by decide, by decide⟩ (by decide) ?_
  refine g_icmp_ge (tgt := 22) rfl (by decide) (fun h1 => ?_) (fun h1 => ?_)
  · refine g_iconst rfl ⟨by decide, by decide⟩ ?_
    refine g_istore_n rfl rfl rfl ?_
    refine g_iconst rfl ⟨by decide, by decide⟩ ?_
    refine g_istore_n rfl rfl rfl ?_
    exact l_edM2 hG hw hW hT0 1 (by omega) _ _ _ (by omega) (q_EE_0 (by omega)).symm (fun a b a0 a1 b0 b1 => by rw [hz _ (by omega) (by omega)]; exact (q_E_0 (fun ⟨j, j1, j2, _⟩ => by omega)).symm) hF
  · refine g_aload_n rfl rfl ?_
    refine x_getF (r := 227) hG rfl rfl (by decide) (Or.inr ⟨_, rfl⟩) rfl ?_
    refine g_iload_n rfl rfl ?_
    refine g_iconst rfl ⟨by decide, by decide⟩ ?_
    refine g_zast rfl rfl (by decide) (by omega) (by omega) ?_
    refine x_iinc (z := k + 1) rfl rfl (by omega) ⟨by omega, by omega⟩ rfl rfl ?_
    refine g_goto (tgt := 2) rfl (by decide) ?_
    exact ih (by omega) _ (by omega) (fun a h1 h2 => by rw [tp_pi1]; split; exact tp_z0; exact hz a h1 (by omega)) (q_f1_pi hF)
set_option maxHeartbeats 4000000 in
set_option maxRecDepth 100000 in
theorem s_edM {G : tp_G} {μ : tp_M} (hG : tp_Gf G = true) {f : Int → Int} {n : Int} {A B Y H : Int → Int} {E D U T : Int} (hw : tp_Cw f) (hW : r_W f n A B Y H) (hT : m_T n A B Y E D U T μ) : tp_k G mX12_edges [tR (some 201)] μ (fun r μ' => r = some (tI (q_EE A n)) ∧ q_f1 227 μ μ') := by
  refine tp_ok_of mX12_edges_ok rfl (Nat.le_refl _) ?_
  have hw0 := hw.1
  have hn0 := hW.1
  refine g_iconst rfl ⟨by decide, by decide⟩ ?_
  refine g_istore_n rfl rfl rfl ?_
  exact l_edM1 hG hw hW hT 0 (by omega) _ (by omega) (fun a h1 h2 => by omega) q_f1_rf
theorem q_pc_ed {L : Int} {A : Int → Int} {k a : Int} (h : ∀ b, 0 ≤ b → (q_bt L b = true ↔ q_ed A k a b)) : q_pc L = q_s (fun b => q_E A k a b) 40 := q_s_c (fun b b0 b1 => by
  show (if q_bt L b = true then (1 : Int) else 0) = q_E A k a b
  by_cases q : q_bt L b = true
  · rw [if_pos q, q_E_1 ((h b b0).1 q)]
  · rw [if_neg q, q_E_0 (fun z => q ((h b b0).2 z))])
set_option maxHeartbeats 4000000 in
set_option maxRecDepth 100000 in
theorem l_edX3 {G : tp_G} {μ : tp_M} (hG : tp_Gf G = true) {f : Int → Int} {n : Int} {A B Y H : Int → Int} (hw : tp_Cw f) (hW : r_W f n A B Y H) {μ0 : tp_M} (hz : (∀ a, 0 ≤ a → a < 40 → q_st (μ.1 55 a) ∧ ∀ b, 0 ≤ b → (q_bt (μ.1 55 a) b = true ↔ q_ed A n a b))) (hF : q_f1 55 μ0 μ) : ∀ k, k ≤ 40 → ∀ (s : Int), 0 ≤ k → s = q_s (fun a => q_s (fun b => q_E A n a b) 40) k → (0 ≤ s ∧ s ≤ 40 * k) → tp_g G mX7_edgeCount 76 [some (tR (some 50)), some (tI s), some (tI k)] [] μ (fun r μ' => r = some (tI (q_EE A n)) ∧ q_f1 55 μ0 μ') := by
  have hw0 := hw.1
  have hn0 := hW.1
  refine tp_ind _ ?_
  intro k hkN ih s h0 hs hsb
  refine g_iload_n rfl rfl ?_
  refine g_bipush rfl ⟨by decide, by decide⟩ (by decide) ?_
  refine g_icmp_ge (tgt := 100) rfl (by decide) (fun h1 => ?_) (fun h1 => ?_)
  · refine g_iload_n rfl rfl ?_
    refine x_ireturn rfl rfl ?_
    exact ⟨by rw [hs, show k = 40 by omega]; rfl, hF⟩
  · refine g_iload_n rfl rfl ?_
    refine g_aload_n rfl rfl ?_
    refine x_getF (r := 55) hG rfl rfl (by decide) (Or.inr ⟨_, rfl⟩) rfl ?_
    refine g_iload_n rfl rfl ?_
    refine g_lald rfl rfl (by decide) (by omega) (by omega) ?_
    refine g_cS (as := [tL (μ.1 55 k)]) (s_bitCount hG (hz k (by omega) (by omega)).1) rfl rfl mJ13_bitCount_95d88_ok rfl rfl rfl rfl ?_
    rintro _ w9 ⟨rfl, hw9⟩ _
    have hw9 := hw9.symm
    subst hw9
    rw [q_pc_ed (hz k (by omega) (by omega)).2]
    have hpb := q_s_B (F := fun b => q_E A n k b) (k := 40) (by omega) (fun b => q_E_b A n k b)
    refine x_iadd (z := s + (q_s (fun b => q_E A n k b) 40)) rfl (by omega) ⟨by omega, by omega⟩ ?_
    refine g_istore_n rfl rfl rfl ?_
    refine x_iinc (z := k + 1) rfl rfl (by omega) ⟨by omega, by omega⟩ rfl rfl ?_
    refine g_goto (tgt := 76) rfl (by decide) ?_
    exact ih (by omega) _ (by omega) (by rw [q_s1 (by omega)]; omega) (by omega)
set_option maxHeartbeats 4000000 in
set_option maxRecDepth 100000 in
theorem l_edX2 {G : tp_G} (hG : tp_Gf G = true) {f : Int → Int} {n : Int} {A B Y H : Int → Int} {E D U T : Int} (hw : tp_Cw f) (hW : r_W f n A B Y H) {μ0 : tp_M} (hT0 : c_T 50 n A B Y E D U T μ0) : ∀ k, k ≤ max n 1 → ∀ (μ : tp_M) (x : Option tp_V), 1 ≤ k → (∀ a, 0 ≤ a → a < 40 → q_st (μ.1 55 a) ∧ ∀ b, 0 ≤ b → (q_bt (μ.1 55 a) b = true ↔ q_ed A k a b)) → q_f1 55 μ0 μ → tp_g G mX7_edgeCount 23 [some (tR (some 50)), some (tI k), x] [] μ (fun r μ' => r = some (tI (q_EE A n)) ∧ q_f1 55 μ0 μ') := by
  have hw0 := hw.1
  have hn0 := hW.1
  refine tp_ind _ ?_
  intro k hkN ih μ x h0 hz hF
  have hTv : c_T 50 n A B Y E D U T μ := c_T_fr (fun c9 z1 z2 => hF.1 c9 (by omega)) hT0
  have hn6 := hTv.1
  have hzn : n ≤ k → (∀ a, 0 ≤ a → a < 40 → q_st (μ.1 55 a) ∧ ∀ b, 0 ≤ b → (q_bt (μ.1 55 a) b = true ↔ q_ed A n a b)) := fun q a a0 a1 => by
    rcases (show k = n ∨ (n = 0 ∧ k = 1) by omega) with t | t
    · rw [← t]; exact hz a a0 a1
    · refine ⟨(hz a a0 a1).1, fun b b0 => ?_⟩
      rw [(hz a a0 a1).2 b b0]
      exact ⟨fun ⟨j, j1, j2, _⟩ => by omega, fun ⟨j, j1, j2, _⟩ => by omega⟩
  refine g_iload_n rfl rfl ?_
  refine g_aload_n rfl rfl ?_
  refine x_geti (v := (μ.1 50 6)) rfl rfl (by decide) (Or.inl rfl) rfl ?_
  refine g_icmp_ge (tgt := 72) rfl (by decide) (fun h1 => ?_) (fun h1 => ?_)
  · refine g_iconst rfl ⟨by decide, by decide⟩ ?_
    refine g_istore_n rfl rfl rfl ?_
    refine g_iconst rfl ⟨by decide, by decide⟩ ?_
    refine g_istore_n rfl rfl rfl ?_
    exact l_edX3 hG hw hW (hzn (by omega)) hF 0 (by omega) _ (by omega) rfl (by omega)
  · refine g_aload_n rfl rfl ?_
    refine g_iload_n rfl rfl ?_
    refine g_iconst rfl ⟨by decide, by decide⟩ ?_
    refine x_isub (z := k - 1) rfl (by omega) ⟨by omega, by omega⟩ ?_
    refine g_cV (as := [tI (k - 1)]) (s_at50 hG hTv (by omega) (by omega) (by omega)) rfl rfl mX7_at_ok rfl rfl rfl (by decide) rfl rfl rfl ?_
    rintro _ w9 ⟨rfl, hw9⟩ _
    have hw9 := hw9.symm
    subst hw9
    have hr1 := (hW.2.2.2 (k - 1) (by omega) (by omega)).1.1
    refine g_istore_n rfl rfl rfl ?_
    refine g_iload_n rfl rfl ?_
    refine g_if_lt (tgt := 66) rfl (by decide) (fun hx => absurd hx (by omega)) (fun _ => ?_)
    refine g_iload_n rfl rfl ?_
    refine g_bipush rfl ⟨by decide, by decide⟩ (by decide) ?_
    refine g_icmp_ge (tgt := 66) rfl (by decide) (fun hx => absurd hx (by omega)) (fun _ => ?_)
    refine g_aload_n rfl rfl ?_
    refine x_getF (r := 55) hG rfl rfl (by decide) (Or.inr ⟨_, rfl⟩) rfl ?_
    refine g_iload_n rfl rfl ?_
    refine g_dup2 rfl ?_
    refine g_lald rfl rfl (by decide) (by omega) (by omega) ?_
    refine g_aload_n rfl rfl ?_
    refine g_iload_n rfl rfl ?_
    refine g_cV (as := [tI k]) (s_at50 hG hTv (by omega) (by omega) (by omega)) rfl rfl mX7_at_ok rfl rfl rfl (by decide) rfl rfl rfl ?_
    rintro _ w9 ⟨rfl, hw9⟩ _
    have hw9 := hw9.symm
    subst hw9
    have hr2 := (hW.2.2.2 (k) (by omega) (by omega)).1.1
    refine g_cN (as := [tI (A k)]) (s_member hG) rfl rfl mX11_member_ok rfl rfl rfl rfl ?_
    rintro _ w9 ⟨rfl, hw9⟩ _
    have hw9 := hw9.symm
    subst hw9
    refine g_lor rfl ?_
    refine g_last rfl rfl (by decide) (by omega) (by omega) ?_
    refine x_iinc (z := k + 1) rfl rfl (by omega) ⟨by omega, by omega⟩ rfl rfl ?_
    refine g_goto (tgt := 23) rfl (by decide) ?_
    exact ih (by omega) _ _ (by omega) (fun a a0 a1 => by
      rw [tp_pi1]
      by_cases q : a = A (k - 1)
      · rw [if_pos ⟨rfl, q⟩]
        refine ⟨q_st_or (hz _ (by omega) (by omega)).1 (q_mb_st _), fun b b0 => ?_⟩
        rw [q_bt_or, Bool.or_eq_true, (hz _ (by omega) (by omega)).2 b b0, q_mb_bt b0, q_ed_s (by omega), q]
        constructor
        · rintro (z | z)
          · exact Or.inl z
          · exact Or.inr ⟨rfl, z.1⟩
        · rintro (z | z)
          · exact Or.inl z
          · exact Or.inr ⟨z.2, by omega⟩
      · rw [if_neg (fun z => q z.2)]
        refine ⟨(hz a a0 a1).1, fun b b0 => ?_⟩
        rw [(hz a a0 a1).2 b b0, q_ed_s (by omega)]
        exact ⟨fun z => Or.inl z, fun z => by rcases z with z | z; exact z; exact absurd z.1 q⟩) (q_f1_pi hF)
set_option maxHeartbeats 4000000 in
set_option maxRecDepth 100000 in
theorem l_edX1 {G : tp_G} (hG : tp_Gf G = true) {f : Int → Int} {n : Int} {A B Y H : Int → Int} {E D U T : Int} (hw : tp_Cw f) (hW : r_W f n A B Y H) {μ0 : tp_M} (hT0 : c_T 50 n A B Y E D U T μ0) : ∀ k, k ≤ 40 → ∀ (μ : tp_M), 0 ≤ k → (∀ i, 0 ≤ i → i < k → μ.1 55 i = 0) → q_f1 55 μ0 μ → tp_g G mX7_edgeCount 2 [some (tR (some 50)), some (tI k), none] [] μ (fun r μ' => r = some (tI (q_EE A n)) ∧ q_f1 55 μ0 μ') := by
  have hw0 := hw.1
  have hn0 := hW.1
  refine tp_ind _ ?_
  intro k hkN ih μ h0 hz hF
  refine g_iload_n rfl rfl ?_
  refine g_bipush rfl ⟨by decide, by decide⟩ (by decide) ?_
  refine g_icmp_ge (tgt := 21) rfl (by decide) (fun h1 => ?_) (fun h1 => ?_)
  · refine g_iconst rfl ⟨by decide, by decide⟩ ?_
    refine g_istore_n rfl rfl rfl ?_
    exact l_edX2 hG hw hW hT0 1 (by omega) _ _ (by omega) (fun a a0 a1 => by rw [hz a a0 (by omega)]; exact ⟨q_st_0, fun b b0 => by rw [q_bt_0]; exact ⟨fun z => (by cases z), fun ⟨j, j1, j2, _⟩ => by omega⟩⟩) hF
  · refine g_aload_n rfl rfl ?_
    refine x_getF (r := 55) hG rfl rfl (by decide) (Or.inr ⟨_, rfl⟩) rfl ?_
    refine g_iload_n rfl rfl ?_
    refine g_lconst (b := 0) rfl rfl ⟨by decide, by decide⟩ ?_
    refine g_last rfl rfl (by decide) (by omega) (by omega) ?_
    refine x_iinc (z := k + 1) rfl rfl (by omega) ⟨by omega, by omega⟩ rfl rfl ?_
    refine g_goto (tgt := 2) rfl (by decide) ?_
    exact ih (by omega) _ (by omega) (fun a h1 h2 => by rw [tp_pi1]; split; rfl; exact hz a h1 (by omega)) (q_f1_pi hF)
set_option maxHeartbeats 4000000 in
set_option maxRecDepth 100000 in
theorem s_edX {G : tp_G} {μ : tp_M} (hG : tp_Gf G = true) {f : Int → Int} {n : Int} {A B Y H : Int → Int} {E D U T : Int} (hw : tp_Cw f) (hW : r_W f n A B Y H) (hT : c_T 50 n A B Y E D U T μ) : tp_k G mX7_edgeCount [tR (some 50)] μ (fun r μ' => r = some (tI (q_EE A n)) ∧ q_f1 55 μ μ') := by
  refine tp_ok_of mX7_edgeCount_ok rfl (Nat.le_refl _) ?_
  have hw0 := hw.1
  have hn0 := hW.1
  refine g_iconst rfl ⟨by decide, by decide⟩ ?_
  refine g_istore_n rfl rfl rfl ?_
  exact l_edX1 hG hw hW hT 0 (by omega) _ (by omega) (fun a h1 h2 => by omega) q_f1_rf
noncomputable def q_tl (f : Int → Int) (n : Int) (A : Int → Int) (E D U T w : Int) : Int := if w = 0 then n else if w = 1 then E else if w = 2 then q_EE A n else if w = 3 then q_s (fun j => q_lp A j) n else if w = 4 then D else if w = 5 then U else if w = 6 then q_s (fun j => q_tr f (A j)) n else if w = 7 then T else -1
set_option maxHeartbeats 4000000 in
set_option maxRecDepth 100000 in
theorem s_tell50 {G : tp_G} {μ : tp_M} (hG : tp_Gf G = true) {c : Nat} {f : Int → Int} {n : Int} {A B Y H : Int → Int} {E D U T : Int} (hc : tp_SH c = .inl 0) (hcl : c < 37) (hw : tp_Cw f) (hW : r_W f n A B Y H) {w : Int} (hT : c_T 50 n A B Y E D U T μ) (hCd : tp_Cd c f μ) (hco : μ.2 50 5 = some c) : tp_k G mX7_tell [tR (some 50), tI w] μ (fun r μ' => r = some (tI (q_tl f n A E D U T w)) ∧ q_f1 55 μ μ') := by
  refine tp_ok_of mX7_tell_ok rfl (Nat.le_refl _) ?_
  have hcn : c < 234 := by omega
  have hw0 := hw.1
  have hn0 := hW.1
  obtain ⟨t1, _, _, _, t2, t3, t4, t5⟩ := id hT
  refine g_iload_n rfl rfl ?_
  rcases (show w < 0 ∨ w = 0 ∨ w = 1 ∨ w = 2 ∨ w = 3 ∨ w = 4 ∨ w = 5 ∨ w = 6 ∨ w = 7 ∨ 7 < w by omega) with h1 | h1 | h1 | h1 | h1 | h1 | h1 | h1 | h1 | h1
  · refine g_swOut (tgt := 88) rfl (by omega) (by decide) ?_
    refine g_iconst rfl ⟨by decide, by decide⟩ ?_
    refine x_ireturn rfl rfl ?_
    refine ⟨congrArg (fun z => some (tI z)) ?_, q_f1_rf⟩
    unfold q_tl
    (first | rw [if_pos (by omega)] | rw [if_neg (by omega), if_pos (by omega)] | rw [if_neg (by omega), if_neg (by omega), if_pos (by omega)] | rw [if_neg (by omega), if_neg (by omega), if_neg (by omega), if_pos (by omega)] | rw [if_neg (by omega), if_neg (by omega), if_neg (by omega), if_neg (by omega), if_pos (by omega)] | rw [if_neg (by omega), if_neg (by omega), if_neg (by omega), if_neg (by omega), if_neg (by omega), if_pos (by omega)] | rw [if_neg (by omega), if_neg (by omega), if_neg (by omega), if_neg (by omega), if_neg (by omega), if_neg (by omega), if_pos (by omega)] | rw [if_neg (by omega), if_neg (by omega), if_neg (by omega), if_neg (by omega), if_neg (by omega), if_neg (by omega), if_neg (by omega), if_pos (by omega)] | rw [if_neg (by omega), if_neg (by omega), if_neg (by omega), if_neg (by omega), if_neg (by omega), if_neg (by omega), if_neg (by omega), if_neg (by omega)])
    all_goals omega
  · refine g_swIn (off := 47) (tgt := 48) rfl (by omega) (by omega) (by rw [show (w - 0).toNat = 0 by omega]; rfl) (by decide) ?_
    refine g_aload_n rfl rfl ?_
    refine x_geti (v := (μ.1 50 6)) rfl rfl (by decide) (Or.inl rfl) rfl ?_
    refine x_ireturn rfl rfl ?_
    refine ⟨congrArg (fun z => some (tI z)) ?_, q_f1_rf⟩
    unfold q_tl
    (first | rw [if_pos (by omega)] | rw [if_neg (by omega), if_pos (by omega)] | rw [if_neg (by omega), if_neg (by omega), if_pos (by omega)] | rw [if_neg (by omega), if_neg (by omega), if_neg (by omega), if_pos (by omega)] | rw [if_neg (by omega), if_neg (by omega), if_neg (by omega), if_neg (by omega), if_pos (by omega)] | rw [if_neg (by omega), if_neg (by omega), if_neg (by omega), if_neg (by omega), if_neg (by omega), if_pos (by omega)] | rw [if_neg (by omega), if_neg (by omega), if_neg (by omega), if_neg (by omega), if_neg (by omega), if_neg (by omega), if_pos (by omega)] | rw [if_neg (by omega), if_neg (by omega), if_neg (by omega), if_neg (by omega), if_neg (by omega), if_neg (by omega), if_neg (by omega), if_pos (by omega)] | rw [if_neg (by omega), if_neg (by omega), if_neg (by omega), if_neg (by omega), if_neg (by omega), if_neg (by omega), if_neg (by omega), if_neg (by omega)])
    all_goals omega
  · refine g_swIn (off := 52) (tgt := 53) rfl (by omega) (by omega) (by rw [show (w - 0).toNat = 1 by omega]; rfl) (by decide) ?_
    refine g_aload_n rfl rfl ?_
    refine x_geti (v := (μ.1 50 11)) rfl rfl (by decide) (Or.inl rfl) rfl ?_
    refine x_ireturn rfl rfl ?_
    refine ⟨congrArg (fun z => some (tI z)) ?_, q_f1_rf⟩
    unfold q_tl
    (first | rw [if_pos (by omega)] | rw [if_neg (by omega), if_pos (by omega)] | rw [if_neg (by omega), if_neg (by omega), if_pos (by omega)] | rw [if_neg (by omega), if_neg (by omega), if_neg (by omega), if_pos (by omega)] | rw [if_neg (by omega), if_neg (by omega), if_neg (by omega), if_neg (by omega), if_pos (by omega)] | rw [if_neg (by omega), if_neg (by omega), if_neg (by omega), if_neg (by omega), if_neg (by omega), if_pos (by omega)] | rw [if_neg (by omega), if_neg (by omega), if_neg (by omega), if_neg (by omega), if_neg (by omega), if_neg (by omega), if_pos (by omega)] | rw [if_neg (by omega), if_neg (by omega), if_neg (by omega), if_neg (by omega), if_neg (by omega), if_neg (by omega), if_neg (by omega), if_pos (by omega)] | rw [if_neg (by omega), if_neg (by omega), if_neg (by omega), if_neg (by omega), if_neg (by omega), if_neg (by omega), if_neg (by omega), if_neg (by omega)])
    all_goals omega
  · refine g_swIn (off := 57) (tgt := 58) rfl (by omega) (by omega) (by rw [show (w - 0).toNat = 2 by omega]; rfl) (by decide) ?_
    refine g_aload_n rfl rfl ?_
    refine g_cV (as := []) (s_edX hG hw hW hT) rfl rfl mX7_edgeCount_ok rfl rfl rfl (by decide) rfl rfl rfl ?_
    rintro _ w5 ⟨rfl, hfr⟩ _
    refine x_ireturn rfl rfl ?_
    refine ⟨congrArg (fun z => some (tI z)) ?_, hfr⟩
    unfold q_tl
    (first | rw [if_pos (by omega)] | rw [if_neg (by omega), if_pos (by omega)] | rw [if_neg (by omega), if_neg (by omega), if_pos (by omega)] | rw [if_neg (by omega), if_neg (by omega), if_neg (by omega), if_pos (by omega)] | rw [if_neg (by omega), if_neg (by omega), if_neg (by omega), if_neg (by omega), if_pos (by omega)] | rw [if_neg (by omega), if_neg (by omega), if_neg (by omega), if_neg (by omega), if_neg (by omega), if_pos (by omega)] | rw [if_neg (by omega), if_neg (by omega), if_neg (by omega), if_neg (by omega), if_neg (by omega), if_neg (by omega), if_pos (by omega)] | rw [if_neg (by omega), if_neg (by omega), if_neg (by omega), if_neg (by omega), if_neg (by omega), if_neg (by omega), if_neg (by omega), if_pos (by omega)] | rw [if_neg (by omega), if_neg (by omega), if_neg (by omega), if_neg (by omega), if_neg (by omega), if_neg (by omega), if_neg (by omega), if_neg (by omega)])
    all_goals rfl
  · refine g_swIn (off := 62) (tgt := 63) rfl (by omega) (by omega) (by rw [show (w - 0).toNat = 3 by omega]; rfl) (by decide) ?_
    refine g_aload_n rfl rfl ?_
    refine g_cV (as := []) (s_loops50 hG hc hcl hw hW hT hCd hco) rfl rfl mX7_loops_ok rfl rfl rfl (by decide) rfl rfl rfl ?_
    rintro _ w9 ⟨rfl, hw9⟩ _
    have hw9 := hw9.symm
    subst hw9
    refine x_ireturn rfl rfl ?_
    refine ⟨congrArg (fun z => some (tI z)) ?_, q_f1_rf⟩
    unfold q_tl
    (first | rw [if_pos (by omega)] | rw [if_neg (by omega), if_pos (by omega)] | rw [if_neg (by omega), if_neg (by omega), if_pos (by omega)] | rw [if_neg (by omega), if_neg (by omega), if_neg (by omega), if_pos (by omega)] | rw [if_neg (by omega), if_neg (by omega), if_neg (by omega), if_neg (by omega), if_pos (by omega)] | rw [if_neg (by omega), if_neg (by omega), if_neg (by omega), if_neg (by omega), if_neg (by omega), if_pos (by omega)] | rw [if_neg (by omega), if_neg (by omega), if_neg (by omega), if_neg (by omega), if_neg (by omega), if_neg (by omega), if_pos (by omega)] | rw [if_neg (by omega), if_neg (by omega), if_neg (by omega), if_neg (by omega), if_neg (by omega), if_neg (by omega), if_neg (by omega), if_pos (by omega)] | rw [if_neg (by omega), if_neg (by omega), if_neg (by omega), if_neg (by omega), if_neg (by omega), if_neg (by omega), if_neg (by omega), if_neg (by omega)])
    all_goals rfl
  · refine g_swIn (off := 67) (tgt := 68) rfl (by omega) (by omega) (by rw [show (w - 0).toNat = 4 by omega]; rfl) (by decide) ?_
    refine g_aload_n rfl rfl ?_
    refine x_geti (v := (μ.1 50 12)) rfl rfl (by decide) (Or.inl rfl) rfl ?_
    refine x_ireturn rfl rfl ?_
    refine ⟨congrArg (fun z => some (tI z)) ?_, q_f1_rf⟩
    unfold q_tl
    (first | rw [if_pos (by omega)] | rw [if_neg (by omega), if_pos (by omega)] | rw [if_neg (by omega), if_neg (by omega), if_pos (by omega)] | rw [if_neg (by omega), if_neg (by omega), if_neg (by omega), if_pos (by omega)] | rw [if_neg (by omega), if_neg (by omega), if_neg (by omega), if_neg (by omega), if_pos (by omega)] | rw [if_neg (by omega), if_neg (by omega), if_neg (by omega), if_neg (by omega), if_neg (by omega), if_pos (by omega)] | rw [if_neg (by omega), if_neg (by omega), if_neg (by omega), if_neg (by omega), if_neg (by omega), if_neg (by omega), if_pos (by omega)] | rw [if_neg (by omega), if_neg (by omega), if_neg (by omega), if_neg (by omega), if_neg (by omega), if_neg (by omega), if_neg (by omega), if_pos (by omega)] | rw [if_neg (by omega), if_neg (by omega), if_neg (by omega), if_neg (by omega), if_neg (by omega), if_neg (by omega), if_neg (by omega), if_neg (by omega)])
    all_goals omega
  · refine g_swIn (off := 72) (tgt := 73) rfl (by omega) (by omega) (by rw [show (w - 0).toNat = 5 by omega]; rfl) (by decide) ?_
    refine g_aload_n rfl rfl ?_
    refine x_geti (v := (μ.1 50 13)) rfl rfl (by decide) (Or.inl rfl) rfl ?_
    refine x_ireturn rfl rfl ?_
    refine ⟨congrArg (fun z => some (tI z)) ?_, q_f1_rf⟩
    unfold q_tl
    (first | rw [if_pos (by omega)] | rw [if_neg (by omega), if_pos (by omega)] | rw [if_neg (by omega), if_neg (by omega), if_pos (by omega)] | rw [if_neg (by omega), if_neg (by omega), if_neg (by omega), if_pos (by omega)] | rw [if_neg (by omega), if_neg (by omega), if_neg (by omega), if_neg (by omega), if_pos (by omega)] | rw [if_neg (by omega), if_neg (by omega), if_neg (by omega), if_neg (by omega), if_neg (by omega), if_pos (by omega)] | rw [if_neg (by omega), if_neg (by omega), if_neg (by omega), if_neg (by omega), if_neg (by omega), if_neg (by omega), if_pos (by omega)] | rw [if_neg (by omega), if_neg (by omega), if_neg (by omega), if_neg (by omega), if_neg (by omega), if_neg (by omega), if_neg (by omega), if_pos (by omega)] | rw [if_neg (by omega), if_neg (by omega), if_neg (by omega), if_neg (by omega), if_neg (by omega), if_neg (by omega), if_neg (by omega), if_neg (by omega)])
    all_goals omega
  · refine g_swIn (off := 77) (tgt := 78) rfl (by omega) (by omega) (by rw [show (w - 0).toNat = 6 by omega]; rfl) (by decide) ?_
    refine g_aload_n rfl rfl ?_
    refine g_cV (as := []) (s_traced50 hG hc hcl hw hW hT hCd hco) rfl rfl mX7_traced_ok rfl rfl rfl (by decide) rfl rfl rfl ?_
    rintro _ w9 ⟨rfl, hw9⟩ _
    have hw9 := hw9.symm
    subst hw9
    refine x_ireturn rfl rfl ?_
    refine ⟨congrArg (fun z => some (tI z)) ?_, q_f1_rf⟩
    unfold q_tl
    (first | rw [if_pos (by omega)] | rw [if_neg (by omega), if_pos (by omega)] | rw [if_neg (by omega), if_neg (by omega), if_pos (by omega)] | rw [if_neg (by omega), if_neg (by omega), if_neg (by omega), if_pos (by omega)] | rw [if_neg (by omega), if_neg (by omega), if_neg (by omega), if_neg (by omega), if_pos (by omega)] | rw [if_neg (by omega), if_neg (by omega), if_neg (by omega), if_neg (by omega), if_neg (by omega), if_pos (by omega)] | rw [if_neg (by omega), if_neg (by omega), if_neg (by omega), if_neg (by omega), if_neg (by omega), if_neg (by omega), if_pos (by omega)] | rw [if_neg (by omega), if_neg (by omega), if_neg (by omega), if_neg (by omega), if_neg (by omega), if_neg (by omega), if_neg (by omega), if_pos (by omega)] | rw [if_neg (by omega), if_neg (by omega), if_neg (by omega), if_neg (by omega), if_neg (by omega), if_neg (by omega), if_neg (by omega), if_neg (by omega)])
    all_goals rfl
  · refine g_swIn (off := 82) (tgt := 83) rfl (by omega) (by omega) (by rw [show (w - 0).toNat = 7 by omega]; rfl) (by decide) ?_
    refine g_aload_n rfl rfl ?_
    refine x_geti (v := (μ.1 50 14)) rfl rfl (by decide) (Or.inl rfl) rfl ?_
    refine x_ireturn rfl rfl ?_
    refine ⟨congrArg (fun z => some (tI z)) ?_, q_f1_rf⟩
    unfold q_tl
    (first | rw [if_pos (by omega)] | rw [if_neg (by omega), if_pos (by omega)] | rw [if_neg (by omega), if_neg (by omega), if_pos (by omega)] | rw [if_neg (by omega), if_neg (by omega), if_neg (by omega), if_pos (by omega)] | rw [if_neg (by omega), if_neg (by omega), if_neg (by omega), if_neg (by omega), if_pos (by omega)] | rw [if_neg (by omega), if_neg (by omega), if_neg (by omega), if_neg (by omega), if_neg (by omega), if_pos (by omega)] | rw [if_neg (by omega), if_neg (by omega), if_neg (by omega), if_neg (by omega), if_neg (by omega), if_neg (by omega), if_pos (by omega)] | rw [if_neg (by omega), if_neg (by omega), if_neg (by omega), if_neg (by omega), if_neg (by omega), if_neg (by omega), if_neg (by omega), if_pos (by omega)] | rw [if_neg (by omega), if_neg (by omega), if_neg (by omega), if_neg (by omega), if_neg (by omega), if_neg (by omega), if_neg (by omega), if_neg (by omega)])
    all_goals omega
  · refine g_swOut (tgt := 88) rfl (by omega) (by decide) ?_
    refine g_iconst rfl ⟨by decide, by decide⟩ ?_
    refine x_ireturn rfl rfl ?_
    refine ⟨congrArg (fun z => some (tI z)) ?_, q_f1_rf⟩
    unfold q_tl
    (first | rw [if_pos (by omega)] | rw [if_neg (by omega), if_pos (by omega)] | rw [if_neg (by omega), if_neg (by omega), if_pos (by omega)] | rw [if_neg (by omega), if_neg (by omega), if_neg (by omega), if_pos (by omega)] | rw [if_neg (by omega), if_neg (by omega), if_neg (by omega), if_neg (by omega), if_pos (by omega)] | rw [if_neg (by omega), if_neg (by omega), if_neg (by omega), if_neg (by omega), if_neg (by omega), if_pos (by omega)] | rw [if_neg (by omega), if_neg (by omega), if_neg (by omega), if_neg (by omega), if_neg (by omega), if_neg (by omega), if_pos (by omega)] | rw [if_neg (by omega), if_neg (by omega), if_neg (by omega), if_neg (by omega), if_neg (by omega), if_neg (by omega), if_neg (by omega), if_pos (by omega)] | rw [if_neg (by omega), if_neg (by omega), if_neg (by omega), if_neg (by omega), if_neg (by omega), if_neg (by omega), if_neg (by omega), if_neg (by omega)])
    all_goals omega
set_option maxHeartbeats 4000000 in
set_option maxRecDepth 100000 in
theorem s_ofRunM {G : tp_G} {μ : tp_M} (hG : tp_Gf G = true) {ck : Int} {f : Int → Int} {n : Int} {A B Y H : Int → Int} {E D U T : Int} (hw : tp_Cw f) (hW : r_W f n A B Y H) {w : Int} (hT : m_T n A B Y E D U T μ) (hMc : tp_Mc ck f μ) : tp_k G mX12_ofRun [tR (some 201), tI w] μ (fun r μ' => r = some (tI (q_tl f n A E D U T w)) ∧ q_f1 227 μ μ') := by
  refine tp_ok_of mX12_ofRun_ok rfl (Nat.le_refl _) ?_
  have hw0 := hw.1
  have hn0 := hW.1
  obtain ⟨t1, _, _, _, t2, t3, t4, t5⟩ := id hT
  refine g_iload_n rfl rfl ?_
  rcases (show w < 0 ∨ w = 0 ∨ w = 1 ∨ w = 2 ∨ w = 3 ∨ w = 4 ∨ w = 5 ∨ w = 6 ∨ w = 7 ∨ 7 < w by omega) with h1 | h1 | h1 | h1 | h1 | h1 | h1 | h1 | h1 | h1
  · refine g_swOut (tgt := 88) rfl (by omega) (by decide) ?_
    refine g_iconst rfl ⟨by decide, by decide⟩ ?_
    refine x_ireturn rfl rfl ?_
    refine ⟨congrArg (fun z => some (tI z)) ?_, q_f1_rf⟩
    unfold q_tl
    (first | rw [if_pos (by omega)] | rw [if_neg (by omega), if_pos (by omega)] | rw [if_neg (by omega), if_neg (by omega), if_pos (by omega)] | rw [if_neg (by omega), if_neg (by omega), if_neg (by omega), if_pos (by omega)] | rw [if_neg (by omega), if_neg (by omega), if_neg (by omega), if_neg (by omega), if_pos (by omega)] | rw [if_neg (by omega), if_neg (by omega), if_neg (by omega), if_neg (by omega), if_neg (by omega), if_pos (by omega)] | rw [if_neg (by omega), if_neg (by omega), if_neg (by omega), if_neg (by omega), if_neg (by omega), if_neg (by omega), if_pos (by omega)] | rw [if_neg (by omega), if_neg (by omega), if_neg (by omega), if_neg (by omega), if_neg (by omega), if_neg (by omega), if_neg (by omega), if_pos (by omega)] | rw [if_neg (by omega), if_neg (by omega), if_neg (by omega), if_neg (by omega), if_neg (by omega), if_neg (by omega), if_neg (by omega), if_neg (by omega)])
    all_goals omega
  · refine g_swIn (off := 47) (tgt := 48) rfl (by omega) (by omega) (by rw [show (w - 0).toNat = 0 by omega]; rfl) (by decide) ?_
    refine g_aload_n rfl rfl ?_
    refine x_geti (v := (μ.1 201 27)) rfl rfl (by decide) (Or.inl rfl) rfl ?_
    refine x_ireturn rfl rfl ?_
    refine ⟨congrArg (fun z => some (tI z)) ?_, q_f1_rf⟩
    unfold q_tl
    (first | rw [if_pos (by omega)] | rw [if_neg (by omega), if_pos (by omega)] | rw [if_neg (by omega), if_neg (by omega), if_pos (by omega)] | rw [if_neg (by omega), if_neg (by omega), if_neg (by omega), if_pos (by omega)] | rw [if_neg (by omega), if_neg (by omega), if_neg (by omega), if_neg (by omega), if_pos (by omega)] | rw [if_neg (by omega), if_neg (by omega), if_neg (by omega), if_neg (by omega), if_neg (by omega), if_pos (by omega)] | rw [if_neg (by omega), if_neg (by omega), if_neg (by omega), if_neg (by omega), if_neg (by omega), if_neg (by omega), if_pos (by omega)] | rw [if_neg (by omega), if_neg (by omega), if_neg (by omega), if_neg (by omega), if_neg (by omega), if_neg (by omega), if_neg (by omega), if_pos (by omega)] | rw [if_neg (by omega), if_neg (by omega), if_neg (by omega), if_neg (by omega), if_neg (by omega), if_neg (by omega), if_neg (by omega), if_neg (by omega)])
    all_goals omega
  · refine g_swIn (off := 52) (tgt := 53) rfl (by omega) (by omega) (by rw [show (w - 0).toNat = 1 by omega]; rfl) (by decide) ?_
    refine g_aload_n rfl rfl ?_
    refine x_geti (v := (μ.1 201 28)) rfl rfl (by decide) (Or.inl rfl) rfl ?_
    refine x_ireturn rfl rfl ?_
    refine ⟨congrArg (fun z => some (tI z)) ?_, q_f1_rf⟩
    unfold q_tl
    (first | rw [if_pos (by omega)] | rw [if_neg (by omega), if_pos (by omega)] | rw [if_neg (by omega), if_neg (by omega), if_pos (by omega)] | rw [if_neg (by omega), if_neg (by omega), if_neg (by omega), if_pos (by omega)] | rw [if_neg (by omega), if_neg (by omega), if_neg (by omega), if_neg (by omega), if_pos (by omega)] | rw [if_neg (by omega), if_neg (by omega), if_neg (by omega), if_neg (by omega), if_neg (by omega), if_pos (by omega)] | rw [if_neg (by omega), if_neg (by omega), if_neg (by omega), if_neg (by omega), if_neg (by omega), if_neg (by omega), if_pos (by omega)] | rw [if_neg (by omega), if_neg (by omega), if_neg (by omega), if_neg (by omega), if_neg (by omega), if_neg (by omega), if_neg (by omega), if_pos (by omega)] | rw [if_neg (by omega), if_neg (by omega), if_neg (by omega), if_neg (by omega), if_neg (by omega), if_neg (by omega), if_neg (by omega), if_neg (by omega)])
    all_goals omega
  · refine g_swIn (off := 57) (tgt := 58) rfl (by omega) (by omega) (by rw [show (w - 0).toNat = 2 by omega]; rfl) (by decide) ?_
    refine g_aload_n rfl rfl ?_
    refine g_cV (as := []) (s_edM hG hw hW hT) rfl rfl mX12_edges_ok rfl rfl rfl (by decide) rfl rfl rfl ?_
    rintro _ w5 ⟨rfl, hfr⟩ _
    refine x_ireturn rfl rfl ?_
    refine ⟨congrArg (fun z => some (tI z)) ?_, hfr⟩
    unfold q_tl
    (first | rw [if_pos (by omega)] | rw [if_neg (by omega), if_pos (by omega)] | rw [if_neg (by omega), if_neg (by omega), if_pos (by omega)] | rw [if_neg (by omega), if_neg (by omega), if_neg (by omega), if_pos (by omega)] | rw [if_neg (by omega), if_neg (by omega), if_neg (by omega), if_neg (by omega), if_pos (by omega)] | rw [if_neg (by omega), if_neg (by omega), if_neg (by omega), if_neg (by omega), if_neg (by omega), if_pos (by omega)] | rw [if_neg (by omega), if_neg (by omega), if_neg (by omega), if_neg (by omega), if_neg (by omega), if_neg (by omega), if_pos (by omega)] | rw [if_neg (by omega), if_neg (by omega), if_neg (by omega), if_neg (by omega), if_neg (by omega), if_neg (by omega), if_neg (by omega), if_pos (by omega)] | rw [if_neg (by omega), if_neg (by omega), if_neg (by omega), if_neg (by omega), if_neg (by omega), if_neg (by omega), if_neg (by omega), if_neg (by omega)])
    all_goals rfl
  · refine g_swIn (off := 62) (tgt := 63) rfl (by omega) (by omega) (by rw [show (w - 0).toNat = 3 by omega]; rfl) (by decide) ?_
    refine g_aload_n rfl rfl ?_
    refine g_cV (as := []) (s_loopsM hG hw hW hT hMc) rfl rfl mX12_loops_ok rfl rfl rfl (by decide) rfl rfl rfl ?_
    rintro _ w9 ⟨rfl, hw9⟩ _
    have hw9 := hw9.symm
    subst hw9
    refine x_ireturn rfl rfl ?_
    refine ⟨congrArg (fun z => some (tI z)) ?_, q_f1_rf⟩
    unfold q_tl
    (first | rw [if_pos (by omega)] | rw [if_neg (by omega), if_pos (by omega)] | rw [if_neg (by omega), if_neg (by omega), if_pos (by omega)] | rw [if_neg (by omega), if_neg (by omega), if_neg (by omega), if_pos (by omega)] | rw [if_neg (by omega), if_neg (by omega), if_neg (by omega), if_neg (by omega), if_pos (by omega)] | rw [if_neg (by omega), if_neg (by omega), if_neg (by omega), if_neg (by omega), if_neg (by omega), if_pos (by omega)] | rw [if_neg (by omega), if_neg (by omega), if_neg (by omega), if_neg (by omega), if_neg (by omega), if_neg (by omega), if_pos (by omega)] | rw [if_neg (by omega), if_neg (by omega), if_neg (by omega), if_neg (by omega), if_neg (by omega), if_neg (by omega), if_neg (by omega), if_pos (by omega)] | rw [if_neg (by omega), if_neg (by omega), if_neg (by omega), if_neg (by omega), if_neg (by omega), if_neg (by omega), if_neg (by omega), if_neg (by omega)])
    all_goals rfl
  · refine g_swIn (off := 67) (tgt := 68) rfl (by omega) (by omega) (by rw [show (w - 0).toNat = 4 by omega]; rfl) (by decide) ?_
    refine g_aload_n rfl rfl ?_
    refine x_geti (v := (μ.1 201 30)) rfl rfl (by decide) (Or.inl rfl) rfl ?_
    refine x_ireturn rfl rfl ?_
    refine ⟨congrArg (fun z => some (tI z)) ?_, q_f1_rf⟩
    unfold q_tl
    (first | rw [if_pos (by omega)] | rw [if_neg (by omega), if_pos (by omega)] | rw [if_neg (by omega), if_neg (by omega), if_pos (by omega)] | rw [if_neg (by omega), if_neg (by omega), if_neg (by omega), if_pos (by omega)] | rw [if_neg (by omega), if_neg (by omega), if_neg (by omega), if_neg (by omega), if_pos (by omega)] | rw [if_neg (by omega), if_neg (by omega), if_neg (by omega), if_neg (by omega), if_neg (by omega), if_pos (by omega)] | rw [if_neg (by omega), if_neg (by omega), if_neg (by omega), if_neg (by omega), if_neg (by omega), if_neg (by omega), if_pos (by omega)] | rw [if_neg (by omega), if_neg (by omega), if_neg (by omega), if_neg (by omega), if_neg (by omega), if_neg (by omega), if_neg (by omega), if_pos (by omega)] | rw [if_neg (by omega), if_neg (by omega), if_neg (by omega), if_neg (by omega), if_neg (by omega), if_neg (by omega), if_neg (by omega), if_neg (by omega)])
    all_goals omega
  · refine g_swIn (off := 72) (tgt := 73) rfl (by omega) (by omega) (by rw [show (w - 0).toNat = 5 by omega]; rfl) (by decide) ?_
    refine g_aload_n rfl rfl ?_
    refine x_geti (v := (μ.1 201 31)) rfl rfl (by decide) (Or.inl rfl) rfl ?_
    refine x_ireturn rfl rfl ?_
    refine ⟨congrArg (fun z => some (tI z)) ?_, q_f1_rf⟩
    unfold q_tl
    (first | rw [if_pos (by omega)] | rw [if_neg (by omega), if_pos (by omega)] | rw [if_neg (by omega), if_neg (by omega), if_pos (by omega)] | rw [if_neg (by omega), if_neg (by omega), if_neg (by omega), if_pos (by omega)] | rw [if_neg (by omega), if_neg (by omega), if_neg (by omega), if_neg (by omega), if_pos (by omega)] | rw [if_neg (by omega), if_neg (by omega), if_neg (by omega), if_neg (by omega), if_neg (by omega), if_pos (by omega)] | rw [if_neg (by omega), if_neg (by omega), if_neg (by omega), if_neg (by omega), if_neg (by omega), if_neg (by omega), if_pos (by omega)] | rw [if_neg (by omega), if_neg (by omega), if_neg (by omega), if_neg (by omega), if_neg (by omega), if_neg (by omega), if_neg (by omega), if_pos (by omega)] | rw [if_neg (by omega), if_neg (by omega), if_neg (by omega), if_neg (by omega), if_neg (by omega), if_neg (by omega), if_neg (by omega), if_neg (by omega)])
    all_goals omega
  · refine g_swIn (off := 77) (tgt := 78) rfl (by omega) (by omega) (by rw [show (w - 0).toNat = 6 by omega]; rfl) (by decide) ?_
    refine g_aload_n rfl rfl ?_
    refine g_cV (as := []) (s_tracedM hG hw hW hT hMc) rfl rfl mX12_tracedMany_ok rfl rfl rfl (by decide) rfl rfl rfl ?_
    rintro _ w9 ⟨rfl, hw9⟩ _
    have hw9 := hw9.symm
    subst hw9
    refine x_ireturn rfl rfl ?_
    refine ⟨congrArg (fun z => some (tI z)) ?_, q_f1_rf⟩
    unfold q_tl
    (first | rw [if_pos (by omega)] | rw [if_neg (by omega), if_pos (by omega)] | rw [if_neg (by omega), if_neg (by omega), if_pos (by omega)] | rw [if_neg (by omega), if_neg (by omega), if_neg (by omega), if_pos (by omega)] | rw [if_neg (by omega), if_neg (by omega), if_neg (by omega), if_neg (by omega), if_pos (by omega)] | rw [if_neg (by omega), if_neg (by omega), if_neg (by omega), if_neg (by omega), if_neg (by omega), if_pos (by omega)] | rw [if_neg (by omega), if_neg (by omega), if_neg (by omega), if_neg (by omega), if_neg (by omega), if_neg (by omega), if_pos (by omega)] | rw [if_neg (by omega), if_neg (by omega), if_neg (by omega), if_neg (by omega), if_neg (by omega), if_neg (by omega), if_neg (by omega), if_pos (by omega)] | rw [if_neg (by omega), if_neg (by omega), if_neg (by omega), if_neg (by omega), if_neg (by omega), if_neg (by omega), if_neg (by omega), if_neg (by omega)])
    all_goals rfl
  · refine g_swIn (off := 82) (tgt := 83) rfl (by omega) (by omega) (by rw [show (w - 0).toNat = 7 by omega]; rfl) (by decide) ?_
    refine g_aload_n rfl rfl ?_
    refine x_geti (v := (μ.1 201 32)) rfl rfl (by decide) (Or.inl rfl) rfl ?_
    refine x_ireturn rfl rfl ?_
    refine ⟨congrArg (fun z => some (tI z)) ?_, q_f1_rf⟩
    unfold q_tl
    (first | rw [if_pos (by omega)] | rw [if_neg (by omega), if_pos (by omega)] | rw [if_neg (by omega), if_neg (by omega), if_pos (by omega)] | rw [if_neg (by omega), if_neg (by omega), if_neg (by omega), if_pos (by omega)] | rw [if_neg (by omega), if_neg (by omega), if_neg (by omega), if_neg (by omega), if_pos (by omega)] | rw [if_neg (by omega), if_neg (by omega), if_neg (by omega), if_neg (by omega), if_neg (by omega), if_pos (by omega)] | rw [if_neg (by omega), if_neg (by omega), if_neg (by omega), if_neg (by omega), if_neg (by omega), if_neg (by omega), if_pos (by omega)] | rw [if_neg (by omega), if_neg (by omega), if_neg (by omega), if_neg (by omega), if_neg (by omega), if_neg (by omega), if_neg (by omega), if_pos (by omega)] | rw [if_neg (by omega), if_neg (by omega), if_neg (by omega), if_neg (by omega), if_neg (by omega), if_neg (by omega), if_neg (by omega), if_neg (by omega)])
    all_goals omega
  · refine g_swOut (tgt := 88) rfl (by omega) (by decide) ?_
    refine g_iconst rfl ⟨by decide, by decide⟩ ?_
    refine x_ireturn rfl rfl ?_
    refine ⟨congrArg (fun z => some (tI z)) ?_, q_f1_rf⟩
    unfold q_tl
    (first | rw [if_pos (by omega)] | rw [if_neg (by omega), if_pos (by omega)] | rw [if_neg (by omega), if_neg (by omega), if_pos (by omega)] | rw [if_neg (by omega), if_neg (by omega), if_neg (by omega), if_pos (by omega)] | rw [if_neg (by omega), if_neg (by omega), if_neg (by omega), if_neg (by omega), if_pos (by omega)] | rw [if_neg (by omega), if_neg (by omega), if_neg (by omega), if_neg (by omega), if_neg (by omega), if_pos (by omega)] | rw [if_neg (by omega), if_neg (by omega), if_neg (by omega), if_neg (by omega), if_neg (by omega), if_neg (by omega), if_pos (by omega)] | rw [if_neg (by omega), if_neg (by omega), if_neg (by omega), if_neg (by omega), if_neg (by omega), if_neg (by omega), if_neg (by omega), if_pos (by omega)] | rw [if_neg (by omega), if_neg (by omega), if_neg (by omega), if_neg (by omega), if_neg (by omega), if_neg (by omega), if_neg (by omega), if_neg (by omega)])
    all_goals omega
set_option maxHeartbeats 4000000 in
set_option maxRecDepth 100000 in
theorem p_run {G : tp_G} (hG : tp_Gf G = true) {a d w : Int} : tp_pair G mX11_run mX12_run [tI a, tI d, tI w] := by
  intro μ hR
  have hm0 := tp_R_many hR 0 (by decide) (by decide)
  have hm1 := tp_R_many hR 1 (by decide) (by decide)
  by_cases hab : ((a < 0 ∨ μ.1 5 0 ≤ a) ∨ (d < 0 ∨ μ.1 5 1 ≤ d))
  · obtain ⟨hX, hM⟩ := tp_layo hG hR hab
    refine tp_ok_of mX11_run_ok rfl (Nat.le_refl _) ?_
    refine g_aload_n rfl rfl ?_
    refine g_iload_n rfl rfl ?_
    refine g_iload_n rfl rfl ?_
    refine g_cV (as := [tI a, tI d]) (hX) rfl rfl mX11_follow_ok rfl rfl rfl (by decide) rfl rfl rfl ?_
    rintro _ w9 ⟨rfl, hw9⟩ _
    have hw9 := hw9.symm
    subst hw9
    refine g_if_eq (tgt := 20) rfl (by decide) (fun _ => ?_) (fun hx => absurd hx (by omega))
    refine g_iconst rfl ⟨by decide, by decide⟩ ?_
    refine x_ireturn rfl rfl ?_
    refine ⟨_, rfl, ?_⟩
    refine tp_ok_of mX12_run_ok rfl (Nat.le_refl _) ?_
    refine g_aload_n rfl rfl ?_
    refine g_iconst rfl ⟨by decide, by decide⟩ ?_
    refine g_puti rfl rfl (by decide) rfl rfl ?_
    refine g_aload_n rfl rfl ?_
    refine g_iload_n rfl rfl ?_
    refine g_iload_n rfl rfl ?_
    refine g_cV (as := [tI a, tI d]) (hM _ (tp_kp_pi (by decide) tp_kp_rf)) rfl rfl mX12_lay_ok rfl rfl rfl (by decide) rfl rfl rfl ?_
    rintro _ w2 ⟨rfl, hGm⟩ _
    have hkp2 : tp_kp μ w2 := m_G_kp (tp_kp_pi (by decide) tp_kp_rf) hGm
    refine g_if_eq (tgt := 22) rfl (by decide) (fun _ => ?_) (fun hx => absurd hx (by omega))
    refine g_iconst rfl ⟨by decide, by decide⟩ ?_
    refine x_ireturn rfl rfl ?_
    exact ⟨rfl, tp_R_kp hR hkp2⟩
  · obtain ⟨a, rfl⟩ : ∃ a9 : Nat, a = (a9 : Int) := ⟨a.toNat, by omega⟩
    obtain ⟨d, rfl⟩ : ∃ d9 : Nat, d = (d9 : Int) := ⟨d.toNat, by omega⟩
    obtain ⟨n, A, B, Y, H, E, D, U, T, hW, hw, hCd0, hX, hM⟩ := tp_lay hG hR (k := a) (d := d) (by omega) (by omega) (by omega) (by omega)
    generalize tp_cf μ (a : Int) = f at hW hw hCd0 hX hM
    obtain ⟨c, hcE⟩ : ∃ c, c = 6 + 5 * a := ⟨_, rfl⟩
    rw [← hcE] at hCd0 hX
    have hc : tp_SH c = .inl 0 := by rcases (show a = 0 ∨ a = 1 by omega) with q | q <;> (subst q; subst hcE; rfl)
    have hcl : c < 37 := by omega
    have hcn : c < 234 := by omega
    have hw0 := hw.1
    have hn0 := hW.1
    refine tp_ok_of mX11_run_ok rfl (Nat.le_refl _) ?_
    refine g_aload_n rfl rfl ?_
    refine g_iload_n rfl rfl ?_
    refine g_iload_n rfl rfl ?_
    refine g_cV (as := [tI (a : Int), tI (d : Int)]) (hX) rfl rfl mX11_follow_ok rfl rfl rfl (by decide) rfl rfl rfl ?_
    rintro _ w1 ⟨rfl, hT, hco, hfr⟩ _
    have hCd : tp_Cd c f w1 := tp_Cd_fr hcl (fun k9 z9 => hfr k9 (by omega)) hCd0
    have hkp1 : tp_kp μ w1 := fun k9 z9 => hfr k9 (by unfold tp_tl at z9; omega)
    have hn6 := hT.1
    refine g_if_eq (tgt := 20) rfl (by decide) (fun hx => absurd hx (by omega)) (fun _ => ?_)
    refine g_aload_n rfl rfl ?_
    refine x_getF (r := 50) hG rfl rfl (by decide) (Or.inl ⟨_, rfl⟩) rfl ?_
    refine g_iload_n rfl rfl ?_
    refine g_cV (as := [tI w]) (s_tell50 hG hc hcl hw hW hT hCd hco) rfl rfl mX7_tell_ok rfl rfl rfl (by decide) rfl rfl rfl ?_
    rintro _ w3 ⟨rfl, hf1⟩ _
    have hkp3 : tp_kp μ w3 := q_f1_kp (by unfold tp_tl; omega) hkp1 hf1
    refine g_goto (tgt := 21) rfl (by decide) ?_
    refine x_ireturn rfl rfl ?_
    refine ⟨_, rfl, ?_⟩
    refine tp_ok_of mX12_run_ok rfl (Nat.le_refl _) ?_
    refine g_aload_n rfl rfl ?_
    refine g_iconst rfl ⟨by decide, by decide⟩ ?_
    refine g_puti rfl rfl (by decide) rfl rfl ?_
    refine g_aload_n rfl rfl ?_
    refine g_iload_n rfl rfl ?_
    refine g_iload_n rfl rfl ?_
    refine g_cV (as := [tI (a : Int), tI (d : Int)]) (hM _ (tp_kp_pi (by decide) hkp3)) rfl rfl mX12_lay_ok rfl rfl rfl (by decide) rfl rfl rfl ?_
    rintro _ w2 ⟨rfl, hTm, hMc, hGm, hdr, hdm⟩ _
    have hkp2 : tp_kp μ w2 := m_G_kp (tp_kp_pi (by decide) hkp3) hGm
    have hm6 := hTm.1
    have hall := hMc.2.2.1
    refine g_if_eq (tgt := 22) rfl (by decide) (fun hx => absurd hx (by omega)) (fun _ => ?_)
    refine g_aload_n rfl rfl ?_
    refine g_iload_n rfl rfl ?_
    refine g_cV (as := [tI w]) (s_ofRunM hG hw hW hTm hMc) rfl rfl mX12_ofRun_ok rfl rfl rfl (by decide) rfl rfl rfl ?_
    rintro _ w4 ⟨rfl, hf2⟩ _
    have hkp4 : tp_kp μ w4 := q_f1_kp (by unfold tp_tl; omega) hkp2 hf2
    refine g_goto (tgt := 23) rfl (by decide) ?_
    refine x_ireturn rfl rfl ?_
    exact ⟨rfl, tp_R_kp hR hkp4⟩
