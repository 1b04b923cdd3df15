theorem v_K_n {f A B Y : Int → Int} {dp n : Int} {σ : tp_M} (hn : 0 ≤ n) (H : ∀ p, 0 ≤ p → p < σ.1 0 9 → s_H f A B Y dp n σ p) : v_K σ (σ.1 0 9) ≤ n := by
  unfold v_K
  split
  · exact (H (σ.1 0 9 - 1) (by omega) (by omega)).2.1.2
  · exact hn
theorem v_Q_G {σ μ μ' : tp_M} (h : v_G μ μ') (hQ : v_Q σ μ) : v_Q σ μ' := by
  unfold v_Q
  rw [h.2 47 (by omega) (by omega), h.1 216 (by omega) (by omega) (by omega) (by omega), h.1 220 (by omega) (by omega) (by omega) (by omega), h.1 221 (by omega) (by omega) (by omega) (by omega)]
  exact hQ
/-- a pair at one memory -/
abbrev tp_q (G : tp_G) (dx dm : tp_D) (as : List tp_V) (μ : tp_M) : Prop := tp_k G dx (tR (some 0) :: as) μ (fun r μ1 => ∃ v, r = some (tI v) ∧ tp_k G dm (tR (some 201) :: as) μ1 (fun r2 μ2 => r2 = some (tI v) ∧ tp_R μ2))
set_option maxHeartbeats 4000000 in
set_option maxRecDepth 100000 in
theorem l_rstep {G : tp_G} {μ : tp_M} (hG : tp_Gf G = true) {s : v_T} {n : Int} {J : Int → Int} (hJ : v_J s n J) (hnp : s.2.1 ≤ 209) (hn : n ≤ 200) {q : Int} (hM : v_M s μ) (hq : 0 ≤ q ∧ q < q_s s.2.2.2 s.2.1) : ∀ k, k ≤ s.2.1 → ∀ (l : Int), 0 ≤ k → l = q - q_s s.2.2.2 k → 0 ≤ l → tp_g G mX12_rebuiltStep 4 [some (tR (some 201)), some (tI q), some (tI l), some (tI k)] [] μ (fun r μ' => r = some (tI (J q)) ∧ μ' = μ) := by
  refine tp_ind _ ?_
  intro k hkN ih l h0 hl hl0
  have hk : k < s.2.1 := by
    rcases (show k < s.2.1 ∨ k = s.2.1 by omega) with z | z
    · exact z
    · rw [z] at hl; omega
  have hM2 := hM.2 k h0 hk
  have hb := hJ.2.2.2.2.2.2 k h0 hk
  have hsz := hJ.2.2.2.2.1
  have hq0 : 0 ≤ q_s s.2.2.2 k := q_s_nn (fun j j0 j1 => (hJ.2.2.2.2.2.2 j j0 (by omega)).2.1)
  refine g_iload_n rfl rfl ?_
  refine g_aload_n rfl rfl ?_
  refine x_getF (r := 225) hG rfl rfl (by decide) (Or.inr ⟨_, rfl⟩) rfl ?_
  refine g_iload_n rfl rfl ?_
  refine x_iald (v := (μ.1 225 k)) rfl rfl (by decide) (by omega) (by omega) rfl ?_
  refine g_icmp_lt (tgt := 29) rfl (by decide) (fun h1 => ?_) (fun h1 => ?_)
  · refine g_aload_n rfl rfl ?_
    refine x_getF (r := 224) hG rfl rfl (by decide) (Or.inr ⟨_, rfl⟩) rfl ?_
    refine g_iload_n rfl rfl ?_
    refine x_iald (v := (μ.1 224 k)) rfl rfl (by decide) (by omega) (by omega) rfl ?_
    refine g_iload_n rfl rfl ?_
    refine x_iadd (z := (μ.1 224 k) + l) rfl (by omega) ⟨by omega, by omega⟩ ?_
    refine x_ireturn rfl rfl ?_
    exact ⟨congrArg (fun z => some (tI z)) (by rw [hM2.1, show q = q_s s.2.2.2 k + l by omega, hJ.1 k l h0 hk (by omega) (by omega)]), rfl⟩
  · refine g_iload_n rfl rfl ?_
    refine g_aload_n rfl rfl ?_
    refine x_getF (r := 225) hG rfl rfl (by decide) (Or.inr ⟨_, rfl⟩) rfl ?_
    refine g_iload_n rfl rfl ?_
    refine x_iald (v := (μ.1 225 k)) rfl rfl (by decide) (by omega) (by omega) rfl ?_
    refine x_isub (z := l - (μ.1 225 k)) rfl (by omega) ⟨by omega, by omega⟩ ?_
    refine g_istore_n rfl rfl rfl ?_
    refine x_iinc (z := k + 1) rfl rfl (by omega) ⟨by omega, by omega⟩ rfl rfl ?_
    refine g_goto (tgt := 4) rfl (by decide) ?_
    exact ih (by omega) _ (by omega) (by rw [q_s1 h0, ← hM2.2]; omega) (by omega)
set_option maxHeartbeats 4000000 in
set_option maxRecDepth 100000 in
theorem s_rstep {G : tp_G} {μ : tp_M} (hG : tp_Gf G = true) {s : v_T} {n : Int} {J : Int → Int} (hJ : v_J s n J) (hnp : s.2.1 ≤ 209) (hn : n ≤ 200) {q : Int} (hM : v_M s μ) (hq : 0 ≤ q ∧ q < q_s s.2.2.2 s.2.1) : tp_k G mX12_rebuiltStep [tR (some 201), tI q] μ (fun r μ' => r = some (tI (J q)) ∧ μ' = μ) := by
  refine tp_ok_of mX12_rebuiltStep_ok rfl (Nat.le_refl _) ?_
  refine g_iload_n rfl rfl ?_
  refine g_istore_n rfl rfl rfl ?_
  refine g_iconst rfl ⟨by decide, by decide⟩ ?_
  refine g_istore_n rfl rfl rfl ?_
  exact l_rstep hG hJ hnp hn hM hq 0 hJ.2.2.2.2.2.1 _ (by omega) (by rw [show q_s s.2.2.2 0 = 0 from rfl]; omega) hq.1
theorem v_M_f {s : v_T} {μ μ' : tp_M} (h : q_f1 226 μ μ') (hM : v_M s μ) : v_M s μ' := by
  unfold v_M
  rw [h.1 201 (by omega), h.1 224 (by omega), h.1 225 (by omega)]
  exact hM
set_option maxHeartbeats 4000000 in
set_option maxRecDepth 100000 in
theorem l_marks2 {G : tp_G} (hG : tp_Gf G = true) {μ0 : tp_M} {s : v_T} {n : Int} {J : Int → Int} (hJ : v_J s n J) (hnp : s.2.1 ≤ 209) (hn : n ≤ 200) (hM0 : v_M s μ0) (hn0 : μ0.1 201 27 = n) (hr0 : μ0.1 201 63 = q_s s.2.2.2 s.2.1) : ∀ k, k ≤ q_s s.2.2.2 s.2.1 → ∀ (μ : tp_M), 0 ≤ k → (∀ i, 0 ≤ i → i < n → μ.1 226 i = q_im J k i) → q_f1 226 μ0 μ → tp_g G mX12_marks 25 [some (tR (some 201)), some (tI k)] [] μ (fun r μ' => r = none ∧ (∀ i, 0 ≤ i → i < n → μ'.1 226 i = q_im J (q_s s.2.2.2 s.2.1) i) ∧ q_f1 226 μ0 μ') := by
  refine tp_ind _ ?_
  intro k hkN ih μ h0 hz hF
  have hn6 : μ.1 201 27 = n := by rw [hF.1 201 (by omega)]; exact hn0
  have hr6 : μ.1 201 63 = q_s s.2.2.2 s.2.1 := by rw [hF.1 201 (by omega)]; exact hr0
  have hM := v_M_f hF hM0
  have hsz := hJ.2.2.2.2.1
  refine g_iload_n rfl rfl ?_
  refine g_aload_n rfl rfl ?_
  refine x_geti (v := (μ.1 201 63)) rfl rfl (by decide) (Or.inl rfl) rfl ?_
  refine g_icmp_ge (tgt := 50) rfl (by decide) (fun h1 => ?_) (fun h1 => ?_)
  · refine x_return rfl rfl ?_
    exact ⟨rfl, fun i i0 i1 => by rw [hz i i0 i1, show k = q_s s.2.2.2 s.2.1 by omega], hF⟩
  · refine g_aload_n rfl rfl ?_
    refine x_getF (r := 226) hG rfl rfl (by decide) (Or.inr ⟨_, rfl⟩) rfl ?_
    refine g_aload_n rfl rfl ?_
    refine g_iload_n rfl rfl ?_
    refine g_cV (as := [tI k]) (s_rstep hG hJ hnp hn hM (by omega)) rfl rfl mX12_rebuiltStep_ok rfl rfl rfl (by decide) rfl rfl rfl ?_
    rintro _ w9 ⟨rfl, hw9⟩ _
    have hw9 := hw9.symm
    subst hw9
    have hjb := hJ.2.2.2.1 (k) (by omega) (by omega)
    refine g_iconst rfl ⟨by decide, by decide⟩ ?_
    refine g_zast rfl rfl (by decide) (by omega) (by omega) ?_
    refine x_iinc (z := k + 1) rfl rfl (by omega) ⟨by omega, by omega⟩ rfl rfl ?_
    refine g_goto (tgt := 25) rfl (by decide) ?_
    exact ih (by omega) _ (by omega) (fun i i0 i1 => by
      rw [tp_pi1, q_im_s h0]
      by_cases z : i = J k
      · rw [if_pos ⟨rfl, z⟩, if_pos z.symm, tp_z1]
      · rw [if_neg (fun u => z u.2), if_neg (fun u => z u.symm)]; exact hz i i0 i1) (q_f1_pi hF)
set_option maxHeartbeats 4000000 in
set_option maxRecDepth 100000 in
theorem l_marks1 {G : tp_G} (hG : tp_Gf G = true) {μ0 : tp_M} {s : v_T} {n : Int} {J : Int → Int} (hJ : v_J s n J) (hnp : s.2.1 ≤ 209) (hn : n ≤ 200) (hM0 : v_M s μ0) (hn0 : μ0.1 201 27 = n) (hr0 : μ0.1 201 63 = q_s s.2.2.2 s.2.1) : ∀ k, k ≤ n → ∀ (μ : tp_M), 0 ≤ k → (∀ i, 0 ≤ i → i < k → μ.1 226 i = 0) → q_f1 226 μ0 μ → tp_g G mX12_marks 2 [some (tR (some 201)), some (tI k)] [] μ (fun r μ' => r = none ∧ (∀ i, 0 ≤ i → i < n → μ'.1 226 i = q_im J (q_s s.2.2.2 s.2.1) i) ∧ q_f1 226 μ0 μ') := by
  refine tp_ind _ ?_
  intro k hkN ih μ h0 hz hF
  have hn6 : μ.1 201 27 = n := by rw [hF.1 201 (by omega)]; exact hn0
  have hr6 : μ.1 201 63 = q_s s.2.2.2 s.2.1 := by rw [hF.1 201 (by omega)]; exact hr0
  have hM := v_M_f hF hM0
  have hsz := hJ.2.2.2.2.1
  refine g_iload_n rfl rfl ?_
  refine g_aload_n rfl rfl ?_
  refine x_geti (v := (μ.1 201 27)) rfl rfl (by decide) (Or.inl rfl) rfl ?_
  refine g_icmp_ge (tgt := 23) rfl (by decide) (fun h1 => ?_) (fun h1 => ?_)
  · refine g_iconst rfl ⟨by decide, by decide⟩ ?_
    refine g_istore_n rfl rfl rfl ?_
    exact l_marks2 hG hJ hnp hn hM0 hn0 hr0 0 (by omega) _ (by omega) (fun i i0 i1 => by rw [q_im_0]; exact hz i i0 (by omega)) hF
  · refine g_aload_n rfl rfl ?_
    refine x_getF (r := 226) hG rfl rfl (by decide) (Or.inr ⟨_, rfl⟩) rfl ?_
    refine g_iload_n rfl rfl ?_
    refine g_iconst rfl ⟨by decide, by decide⟩ ?_
    refine g_zast rfl rfl (by decide) (by omega) (by omega) ?_
    refine x_iinc (z := k + 1) rfl rfl (by omega) ⟨by omega, by omega⟩ rfl rfl ?_
    refine g_goto (tgt := 2) rfl (by decide) ?_
    exact ih (by omega) _ (by omega) (fun i i0 i1 => by
      rw [tp_pi1]
      by_cases z : i = k
      · rw [if_pos ⟨rfl, z⟩, tp_z0]
      · rw [if_neg (fun u => z u.2)]; exact hz i i0 (by omega)) (q_f1_pi hF)
set_option maxHeartbeats 4000000 in
set_option maxRecDepth 100000 in
theorem s_marks {G : tp_G} {μ : tp_M} (hG : tp_Gf G = true) {s : v_T} {n : Int} {J : Int → Int} (hJ : v_J s n J) (hnp : s.2.1 ≤ 209) (hn : n ≤ 200) (hM : v_M s μ) (hn0 : μ.1 201 27 = n) (hr0 : μ.1 201 63 = q_s s.2.2.2 s.2.1) : tp_k G mX12_marks [tR (some 201)] μ (fun r μ' => r = none ∧ (∀ i, 0 ≤ i → i < n → μ'.1 226 i = q_im J (q_s s.2.2.2 s.2.1) i) ∧ q_f1 226 μ μ') := by
  refine tp_ok_of mX12_marks_ok rfl (Nat.le_refl _) ?_
  have hsz := hJ.2.2.2.2.1
  refine g_iconst rfl ⟨by decide, by decide⟩ ?_
  refine g_istore_n rfl rfl rfl ?_
  exact l_marks1 hG hJ hnp hn hM hn0 hr0 0 (by omega) _ (by omega) (fun i i0 i1 => by omega) q_f1_rf
set_option maxHeartbeats 4000000 in
set_option maxRecDepth 100000 in
theorem l_rat {G : tp_G} {μ : tp_M} (hG : tp_Gf G = true) {A J : Int → Int} {n m a : Int} (hn : 0 ≤ n ∧ n ≤ 200) (hn6 : μ.1 201 27 = n) (hA : ∀ j, 0 ≤ j → j < n → μ.1 212 j = A j) (hI : ∀ i, 0 ≤ i → i < n → μ.1 226 i = q_im J m i) : ∀ k, k ≤ n → ∀ (s : Int), 0 ≤ k → s = q_s (q_ra A J m a) k → tp_g G mX12_rebuiltAt 4 [some (tR (some 201)), some (tI a), some (tI s), some (tI k)] [] μ (fun r μ' => r = some (tI (q_s (q_ra A J m a) n)) ∧ μ' = μ) := by
  refine tp_ind _ ?_
  intro k hkN ih s h0 hs
  have hsb := q_s_B (F := q_ra A J m a) (k := k) h0 (fun j => q_ra_b A J m a j)
  rw [← hs] at hsb
  have e1 : k < n → μ.1 212 k = A k := fun z => hA k h0 z
  have e2 : k < n → μ.1 226 k = q_im J m k := fun z => hI k h0 z
  have e3 := q_im_b J m k
  refine g_iload_n rfl rfl ?_
  refine g_aload_n rfl rfl ?_
  refine x_geti (v := (μ.1 201 27)) rfl rfl (by decide) (Or.inl rfl) rfl ?_
  refine g_icmp_ge (tgt := 45) rfl (by decide) (fun h1 => ?_) (fun h1 => ?_)
  · refine g_iload_n rfl rfl ?_
    refine x_ireturn rfl rfl ?_
    exact ⟨by rw [show n = k by omega, ← hs], rfl⟩
  · refine g_iload_n rfl rfl ?_
    refine g_aload_n rfl rfl ?_
    refine x_getF (r := 212) hG rfl rfl (by decide) (Or.inr ⟨_, rfl⟩) rfl ?_
    refine g_iload_n rfl rfl ?_
    refine x_iald (v := (μ.1 212 k)) rfl rfl (by decide) (by omega) (by omega) rfl ?_
    refine g_iload_n rfl rfl ?_
    refine g_icmp_ne (tgt := 36) rfl (by decide) (fun h2 => ?_) (fun h2 => ?_)
    · refine g_iconst rfl ⟨by decide, by decide⟩ ?_
      refine x_iadd (z := s) rfl (by omega) ⟨by omega, by omega⟩ ?_
      refine g_istore_n rfl rfl rfl ?_
      refine x_iinc (z := k + 1) rfl rfl (by omega) ⟨by omega, by omega⟩ rfl rfl ?_
      refine g_goto (tgt := 4) rfl (by decide) ?_
      exact ih (by omega) _ (by omega) (by rw [q_s1 h0]; (first | rw [show q_ra A J m a k = 1 from if_pos (by omega)] | rw [show q_ra A J m a k = 0 from if_neg (by omega)]); omega)
    · refine g_aload_n rfl rfl ?_
      refine x_getF (r := 226) hG rfl rfl (by decide) (Or.inr ⟨_, rfl⟩) rfl ?_
      refine g_iload_n rfl rfl ?_
      refine g_zald rfl rfl (by decide) (by omega) (by omega) ?_
      refine g_if_eq (tgt := 36) rfl (by decide) (fun h3 => ?_) (fun h3 => ?_)
      · refine g_iconst rfl ⟨by decide, by decide⟩ ?_
        refine x_iadd (z := s) rfl (by omega) ⟨by omega, by omega⟩ ?_
        refine g_istore_n rfl rfl rfl ?_
        refine x_iinc (z := k + 1) rfl rfl (by omega) ⟨by omega, by omega⟩ rfl rfl ?_
        refine g_goto (tgt := 4) rfl (by decide) ?_
        exact ih (by omega) _ (by omega) (by rw [q_s1 h0]; (first | rw [show q_ra A J m a k = 1 from if_pos (by omega)] | rw [show q_ra A J m a k = 0 from if_neg (by omega)]); omega)
      · refine g_iconst rfl ⟨by decide, by decide⟩ ?_
        refine g_goto (tgt := 37) rfl (by decide) ?_
        refine x_iadd (z := s + 1) rfl (by omega) ⟨by omega, by omega⟩ ?_
        refine g_istore_n rfl rfl rfl ?_
        refine x_iinc (z := k + 1) rfl rfl (by omega) ⟨by omega, by omega⟩ rfl rfl ?_
        refine g_goto (tgt := 4) rfl (by decide) ?_
        exact ih (by omega) _ (by omega) (by rw [q_s1 h0]; (first | rw [show q_ra A J m a k = 1 from if_pos (by omega)] | rw [show q_ra A J m a k = 0 from if_neg (by omega)]); omega)
set_option maxHeartbeats 4000000 in
set_option maxRecDepth 100000 in
theorem s_rat {G : tp_G} {μ : tp_M} (hG : tp_Gf G = true) {A J : Int → Int} {n m a : Int} (hn : 0 ≤ n ∧ n ≤ 200) (hn6 : μ.1 201 27 = n) (hA : ∀ j, 0 ≤ j → j < n → μ.1 212 j = A j) (hI : ∀ i, 0 ≤ i → i < n → μ.1 226 i = q_im J m i) : tp_k G mX12_rebuiltAt [tR (some 201), tI a] μ (fun r μ' => r = some (tI (q_s (q_ra A J m a) n)) ∧ μ' = μ) := by
  refine tp_ok_of mX12_rebuiltAt_ok rfl (Nat.le_refl _) ?_
  refine g_iconst rfl ⟨by decide, by decide⟩ ?_
  refine g_istore_n rfl rfl rfl ?_
  refine g_iconst rfl ⟨by decide, by decide⟩ ?_
  refine g_istore_n rfl rfl rfl ?_
  exact l_rat hG hn hn6 hA hI 0 (by omega) 0 (by omega) rfl
set_option maxHeartbeats 4000000 in
set_option maxRecDepth 100000 in
theorem p_rebuiltN {G : tp_G} (hG : tp_Gf G = true) {a d w : Int} {μ : tp_M} (hR : tp_R μ) (hwr : tp_r32 w) : tp_q G mX11_rebuilt mX12_rebuilt [tI a, tI d, tI (-1), tI w] μ := by
  have hm2l := tp_R_many hR 2 (by decide) (by decide)
  have hm0 := tp_R_many hR 0 (by decide) (by decide)
  have hm1 := tp_R_many hR 1 (by decide) (by decide)
  by_cases hab : ((a < 0 ∨ μ.1 5 0 ≤ a) ∨ (d < 0 ∨ μ.1 5 1 ≤ d))
  · obtain ⟨hX, hM⟩ := tp_layo hG hR hab
    refine tp_ok_of mX11_rebuilt_ok rfl (Nat.le_refl _) ?_
    refine g_aload_n rfl rfl ?_
    refine x_getF (r := 1) hG rfl rfl (by decide) (Or.inl ⟨_, rfl⟩) rfl ?_
    refine g_iconst rfl ⟨by decide, by decide⟩ ?_
    refine g_iload_n rfl rfl ?_
    refine g_cV (as := [tI 2, tI (-1)]) (s_rowOf2o hG (by omega)) rfl rfl mX9_rowOf_ok rfl rfl rfl (by decide) rfl rfl rfl ?_
    rintro _ w9 ⟨rfl, hw9⟩ _
    have hw9 := hw9.symm
    subst hw9
    refine g_astore rfl rfl rfl ?_
    refine g_aload rfl rfl ?_
    refine g_ifnonnull (tgt := 21) rfl (by decide) (fun _ hx => by cases hx) (fun _ => ?_)
    refine g_iload_n rfl rfl ?_
    refine g_iconst rfl ⟨by decide, by decide⟩ ?_
    refine g_icmp_ne (tgt := 30) rfl (by decide) (fun hx => absurd hx (by omega)) (fun _ => ?_)
    refine g_aload_n rfl rfl ?_
    refine g_iload_n rfl rfl ?_
    refine g_iload_n rfl rfl ?_
    refine g_cV (as := [tI a, tI d]) (hX) rfl rfl mX11_follow_ok rfl rfl rfl (by decide) rfl rfl rfl ?_
    rintro _ w9 ⟨rfl, hw9⟩ _
    have hw9 := hw9.symm
    subst hw9
    refine g_if_ne (tgt := 32) rfl (by decide) (fun hx => absurd hx (by omega)) (fun _ => ?_)
    refine g_iconst rfl ⟨by decide, by decide⟩ ?_
    refine x_ireturn rfl rfl ?_
    refine ⟨_, rfl, ?_⟩
    refine tp_ok_of mX12_rebuilt_ok rfl (Nat.le_refl _) ?_
    refine g_aload_n rfl rfl ?_
    refine g_iconst rfl ⟨by decide, by decide⟩ ?_
    refine g_puti rfl rfl (by decide) rfl rfl ?_
    refine g_aload_n rfl rfl ?_
    refine g_iload_n rfl rfl ?_
    refine g_iload_n rfl rfl ?_
    refine g_iload_n rfl rfl ?_
    refine g_iV (as := [tI a, tI d, tI (-1)]) mX12_layRebuilt_ok rfl rfl rfl rfl rfl rfl (by decide) rfl rfl rfl ?_
    refine g_iload_n rfl rfl ?_
    refine g_iconst rfl ⟨by decide, by decide⟩ ?_
    refine g_icmp_eq (tgt := 14) rfl (by decide) (fun _ => ?_) (fun hx => absurd hx (by omega))
    refine g_aload_n rfl rfl ?_
    refine g_iload_n rfl rfl ?_
    refine g_iload_n rfl rfl ?_
    refine g_iV (as := [tI a, tI d]) mX12_layPackets_ok rfl rfl rfl rfl rfl rfl (by decide) rfl rfl rfl ?_
    refine g_aload_n rfl rfl ?_
    refine g_iload_n rfl rfl ?_
    refine g_iload_n rfl rfl ?_
    refine g_cV (as := [tI a, tI d]) (hM _ (tp_kp_pi (by decide) tp_kp_rf)) rfl rfl mX12_lay_ok rfl rfl rfl (by decide) rfl rfl rfl ?_
    rintro _ w2 ⟨rfl, hGm⟩ _
    have hkp2 : tp_kp μ w2 := m_G_kp (tp_kp_pi (by decide) tp_kp_rf) hGm
    refine g_if_ne (tgt := 11) rfl (by decide) (fun hx => absurd hx (by omega)) (fun _ => ?_)
    refine g_iconst rfl ⟨by decide, by decide⟩ ?_
    refine x_zreturn rfl rfl (Or.inl rfl) ?_
    intro _
    refine g_if_ne (tgt := 25) rfl (by decide) (fun hx => absurd hx (by omega)) (fun _ => ?_)
    refine g_iconst rfl ⟨by decide, by decide⟩ ?_
    refine x_zreturn rfl rfl (Or.inl rfl) ?_
    intro _
    refine g_if_ne (tgt := 17) rfl (by decide) (fun hx => absurd hx (by omega)) (fun _ => ?_)
    refine g_iconst rfl ⟨by decide, by decide⟩ ?_
    refine x_ireturn rfl rfl ?_
    exact ⟨rfl, tp_R_kp hR hkp2⟩
  · obtain ⟨a, rfl⟩ : ∃ a9 : Nat, a = (a9 : Int) := ⟨a.toNat, by omega⟩
    obtain ⟨d, rfl⟩ : ∃ d9 : Nat, d = (d9 : Int) := ⟨d.toNat, by omega⟩
    obtain ⟨n, A, B, Y, H, E, D, U, T, hW, hw, hCd0, hX, hM⟩ := tp_lay hG hR (k := a) (d := d) (by omega) (by omega) (by omega) (by omega)
    generalize tp_cf μ (a : Int) = f at hW hw hCd0 hX hM
    obtain ⟨c, hcE⟩ : ∃ c, c = 6 + 5 * a := ⟨_, rfl⟩
    rw [← hcE] at hCd0 hX
    have hc : tp_SH c = .inl 0 := by rcases (show a = 0 ∨ a = 1 by omega) with q | q <;> (subst q; subst hcE; rfl)
    have hcl : c < 37 := by omega
    have hcn : c < 234 := by omega
    have hw0 := hw.1
    have hn0 := hW.1
    have hrl := hw.2.2
    have hwl := hwr.1
    have hwu := hwr.2
    have hwp : 100 ≤ w → tp_w (w - 100) = w - 100 := fun z => tp_w_id ⟨by omega, by omega⟩
    refine tp_ok_of mX11_rebuilt_ok rfl (Nat.le_refl _) ?_
    refine g_aload_n rfl rfl ?_
    refine x_getF (r := 1) hG rfl rfl (by decide) (Or.inl ⟨_, rfl⟩) rfl ?_
    refine g_iconst rfl ⟨by decide, by decide⟩ ?_
    refine g_iload_n rfl rfl ?_
    refine g_cV (as := [tI 2, tI (-1)]) (s_rowOf2o hG (by omega)) rfl rfl mX9_rowOf_ok rfl rfl rfl (by decide) rfl rfl rfl ?_
    rintro _ w9 ⟨rfl, hw9⟩ _
    have hw9 := hw9.symm
    subst hw9
    refine g_astore rfl rfl rfl ?_
    refine g_aload rfl rfl ?_
    refine g_ifnonnull (tgt := 21) rfl (by decide) (fun _ hx => by cases hx) (fun _ => ?_)
    refine g_iload_n rfl rfl ?_
    refine g_iconst rfl ⟨by decide, by decide⟩ ?_
    refine g_icmp_ne (tgt := 30) rfl (by decide) (fun hx => absurd hx (by omega)) (fun _ => ?_)
    refine g_aload_n rfl rfl ?_
    refine g_iload_n rfl rfl ?_
    refine g_iload_n rfl rfl ?_
    refine g_cV (as := [tI (a : Int), tI (d : Int)]) (hX) rfl rfl mX11_follow_ok rfl rfl rfl (by decide) rfl rfl rfl ?_
    rintro _ w1 ⟨rfl, hT, hco, hfr⟩ _
    have hCd : tp_Cd c f w1 := tp_Cd_fr hcl (fun k9 z9 => hfr k9 (by omega)) hCd0
    have hkp1 : tp_kp μ w1 := fun k9 z9 => hfr k9 (by unfold tp_tl at z9; omega)
    have hn6 := hT.1
    refine g_if_ne (tgt := 32) rfl (by decide) (fun _ => ?_) (fun hx => absurd hx (by omega))
    refine g_aload_n rfl rfl ?_
    refine g_iV (as := []) mX11_encode_ok rfl rfl rfl rfl rfl rfl (by decide) rfl rfl rfl ?_
    refine g_aload_n rfl rfl ?_
    refine x_getF (r := 50) hG rfl rfl (by decide) (Or.inl ⟨_, rfl⟩) rfl ?_
    refine x_getM (v := (some c)) hG rfl rfl (by decide) (Or.inl ⟨_, rfl⟩) rfl (by first | exact hco | exact hco3 | exact hco5) ?_
    refine g_astore_n rfl rfl rfl ?_
    refine g_aload_n rfl rfl ?_
    refine g_ifnull (tgt := 34) rfl (by decide) (fun hx => by cases hx) (fun _ _ => ?_)
    refine g_aload_n rfl rfl ?_
    refine x_getF (r := 62) hG rfl rfl (by decide) (Or.inl ⟨_, rfl⟩) rfl ?_
    refine g_aload_n rfl rfl ?_
    refine g_aload_n rfl rfl ?_
    refine x_getF (r := 50) hG rfl rfl (by decide) (Or.inl ⟨_, rfl⟩) rfl ?_
    refine g_aload_n rfl rfl ?_
    refine g_iconst rfl ⟨by decide, by decide⟩ ?_
    refine g_cV (as := [tI 0]) (s_ruleN (n := 1) hG hc hcl hCd (by decide) (by decide) (by decide)) rfl rfl mX0_rule_ok rfl hc rfl hcn rfl rfl rfl ?_
    rintro _ w9 ⟨rfl, hw9⟩ _
    have hw9 := hw9.symm
    subst hw9
    refine g_aload_n rfl rfl ?_
    refine g_iconst rfl ⟨by decide, by decide⟩ ?_
    refine g_cV (as := [tI 1]) (s_ruleN (n := 2) hG hc hcl hCd (by decide) (by decide) (by decide)) rfl rfl mX0_rule_ok rfl hc rfl hcn rfl rfl rfl ?_
    rintro _ w9 ⟨rfl, hw9⟩ _
    have hw9 := hw9.symm
    subst hw9
    refine g_cV (as := [tR (some c), tR (some 50), tI (f 1), tI (f 2)]) (s_encode hG hc hcl hw hCd hW hT (by omega) (by omega)) rfl rfl mX1_encode_ok rfl rfl rfl (by decide) rfl rfl rfl ?_
    rintro _ w3 ⟨rfl, hE3⟩ _
    have hkp3 : tp_kp μ w3 := fun k9 z9 => (hE3.2.2.2.2.1 k9 (by unfold tp_tl at z9; omega)).trans (hkp1 k9 z9)
    have hBJ := e_all_B (bt := f 1) (dp := f 2) hw hW (by omega) (by omega)
    obtain ⟨σ, hσ⟩ : ∃ σ9, σ9 = (e_all f (f 1) (f 2) A B Y n) := ⟨_, rfl⟩
    rw [← hσ] at hE3 hBJ
    have hbB := hBJ.1
    have hJ1 := hBJ.2.1
    have hJ2 := hBJ.2.2.1
    have hsz3 : w3.1 63 4 = σ.1 0 9 := hE3.1.2.2.2.2.2.2.2.2.1
    have hp9 : 0 ≤ σ.1 0 9 ∧ σ.1 0 9 ≤ 209 := by omega
    have HH : ∀ p, 0 ≤ p → p < σ.1 0 9 → s_H f A B Y (f 2) n σ p := by rw [hσ]; exact H_all hw hW (by omega) (by omega)
    have hCd3 : tp_Cd c f w3 := tp_Cd_fr hcl (fun k9 z9 => hE3.2.2.2.2.1 k9 (by omega)) hCd
    have hco3 : w3.2 50 5 = some c := by rw [hE3.2.2.2.2.2]; exact hco
    have hT3 : c_T 50 n A B Y E D U T w3 := c_T_fr (fun c9 z1 z2 => hE3.2.2.2.2.1 c9 (by omega)) hT
    refine x_return rfl rfl ?_
    intro _
    refine g_aload_n rfl rfl ?_
    refine g_aload rfl rfl ?_
    refine g_iV (as := [tR none]) mX11_rebuild_ok rfl rfl rfl rfl rfl rfl (by decide) rfl rfl rfl ?_
    refine g_aload_n rfl rfl ?_
    refine x_getF (r := 70) hG rfl rfl (by decide) (Or.inl ⟨_, rfl⟩) rfl ?_
    refine g_aload_n rfl rfl ?_
    refine x_getF (r := 50) hG rfl rfl (by decide) (Or.inl ⟨_, rfl⟩) rfl ?_
    refine x_getM (v := (some c)) hG rfl rfl (by decide) (Or.inl ⟨_, rfl⟩) rfl (by first | exact hco | exact hco3 | exact hco5) ?_
    refine g_aload_n rfl rfl ?_
    refine x_getF (r := 62) hG rfl rfl (by decide) (Or.inl ⟨_, rfl⟩) rfl ?_
    refine x_getF (r := 63) hG rfl rfl (by decide) (Or.inl ⟨_, rfl⟩) rfl ?_
    refine g_cV (as := [tR (some c), tR (some 63)]) (s_walk hG hc hcl hw hW hCd3 hsz3 hE3.2.1 hp9 HH) rfl rfl mX10_go_ok rfl rfl rfl (by decide) rfl rfl rfl ?_
    rintro _ w5 ⟨rfl, hQ5, hF5, hP5⟩ _
    have hkp5 : tp_kp μ w5 := fun k9 z9 => (hF5 k9 (by unfold tp_tl at z9; omega)).trans (hkp3 k9 z9)
    have hpk5 : w5.2 70 5 = some 63 := by rw [hP5]; rfl
    have hco5 : w5.2 50 5 = some c := by rw [hP5]; exact hco3
    have hsz5 : w5.1 63 4 = σ.1 0 9 := by rw [hF5 63 (by omega)]; exact hsz3
    have hB5 : c_B σ w5 := fun i z0 z1 => by rw [hF5 64 (by omega), hF5 65 (by omega), hF5 66 (by omega), hF5 67 (by omega)]; exact hE3.2.1 i z0 z1
    have hT5 : c_T 50 n A B Y E D U T w5 := c_T_fr (fun c9 z1 z2 => hF5 c9 (by omega)) hT3
    have hCd5 : tp_Cd c f w5 := tp_Cd_fr hcl (fun k9 z9 => hF5 k9 (by omega)) hCd3
    have hU9 : 0 ≤ w_U σ (σ.1 0 9) ∧ w_U σ (σ.1 0 9) ≤ 200 := by
      have q := w_U_b HH (σ.1 0 9).toNat (by omega)
      rw [show (((σ.1 0 9).toNat : Nat) : Int) = σ.1 0 9 by omega] at q
      refine ⟨q.1, ?_⟩
      rcases (show σ.1 0 9 = 0 ∨ 1 ≤ σ.1 0 9 by omega) with z | z
      · rw [z]; show (0 : Int) ≤ 200; omega
      · have q2 := q.2 (by omega); have q3 := (HH (σ.1 0 9 - 1) (by omega) (by omega)).2.1; omega
    refine g_aload_n rfl rfl ?_
    refine x_getF (r := 76) hG rfl rfl (by decide) (Or.inl ⟨_, rfl⟩) rfl ?_
    refine g_aload_n rfl rfl ?_
    refine x_getF (r := 70) hG rfl rfl (by decide) (Or.inl ⟨_, rfl⟩) rfl ?_
    refine g_aload_n rfl rfl ?_
    refine g_iconst rfl ⟨by decide, by decide⟩ ?_
    refine g_cV (as := [tR (some 70), tR none, tI (-1)]) (s_siftN hG hsz5 hB5 hp9 (by omega) HH hQ5 hpk5) rfl rfl mX4_sift_ok rfl rfl rfl (by decide) rfl rfl rfl ?_
    rintro _ w6 ⟨rfl, hM6, hF6⟩ _
    obtain ⟨s, hs⟩ : ∃ s9, s9 = v_S (v_1 (-1)) σ (σ.1 0 9) := ⟨_, rfl⟩
    rw [← hs] at hM6
    have hI6 := v_I_all (l := (v_1 (-1))) HH hp9.1 (Int.le_refl _)
    rw [← hs] at hI6
    obtain ⟨J, hJ⟩ := v_J_ex (n := n) hI6 (v_K_n hn0.1 HH)
    have hnp6 : 0 ≤ s.2.1 ∧ s.2.1 ≤ 209 := by have := hI6.2.1; omega
    have hsz6 := hJ.2.2.2.2.1
    have hm1 := hM6.1
    have hm2 := hM6.2.1
    have hkp6 : tp_kp μ w6 := fun k9 z9 => (hF6.1 k9 (by unfold tp_tl at z9; omega) (by unfold tp_tl at z9; omega) (by unfold tp_tl at z9; omega)).trans (hkp5 k9 z9)
    have hw70 : w6.1 70 6 = w_U σ (σ.1 0 9) := by rw [hF6.1 70 (by omega) (by omega) (by omega)]; exact hQ5.1
    have h206 : w6.1 206 2 = μ.1 206 2 := by rw [hkp6 206 (by unfold tp_tl; omega)]
    refine x_return rfl rfl ?_
    intro _
    refine g_iload rfl rfl ?_
    refine g_iconst rfl ⟨by decide, by decide⟩ ?_
    refine g_icmp_ne (tgt := 66) rfl (by decide) (fun h1 => ?_) (fun h1 => ?_)
    · refine g_aload_n rfl rfl ?_
      refine x_getF (r := 76) hG rfl rfl (by decide) (Or.inl ⟨_, rfl⟩) rfl ?_
      refine g_iload rfl rfl ?_
      refine g_iV (as := [tI w]) mX4_tell_ok rfl rfl rfl rfl rfl rfl (by decide) rfl rfl rfl ?_
      refine g_iload_n rfl rfl ?_
      refine g_if_ne (tgt := 9) rfl (by decide) (fun h2 => ?_) (fun h2 => ?_)
      · refine g_iload_n rfl rfl ?_
        refine g_iconst rfl ⟨by decide, by decide⟩ ?_
        refine g_icmp_ne (tgt := 19) rfl (by decide) (fun h3 => ?_) (fun h3 => ?_)
        · refine g_iload_n rfl rfl ?_
          refine g_sipush rfl ⟨by decide, by decide⟩ (by decide) ?_
          refine g_icmp_lt (tgt := 36) rfl (by decide) (fun h4 => ?_) (fun h4 => ?_)
          · refine g_iload_n rfl rfl ?_
            refine g_bipush rfl ⟨by decide, by decide⟩ (by decide) ?_
            refine g_isub rfl ?_
            refine g_istore_n rfl rfl rfl ?_
            refine g_iload_n rfl rfl ?_
            refine g_bipush rfl ⟨by decide, by decide⟩ (by decide) ?_
            refine g_icmp_lt (tgt := 62) rfl (by decide) (fun h5 => ?_) (fun h5 => ?_)
            · refine g_iconst rfl ⟨by decide, by decide⟩ ?_
              refine g_goto (tgt := 72) rfl (by decide) ?_
              refine x_ireturn rfl rfl ?_
              intro _
              refine x_ireturn rfl rfl ?_
              refine ⟨_, rfl, ?_⟩
              refine tp_ok_of mX12_rebuilt_ok rfl (Nat.le_refl _) ?_
              refine g_aload_n rfl rfl ?_
              refine g_iconst rfl ⟨by decide, by decide⟩ ?_
              refine g_puti rfl rfl (by decide) rfl rfl ?_
              refine g_aload_n rfl rfl ?_
              refine g_iload_n rfl rfl ?_
              refine g_iload_n rfl rfl ?_
              refine g_iload_n rfl rfl ?_
              refine g_iV (as := [tI (a : Int), tI (d : Int), tI (-1)]) mX12_layRebuilt_ok rfl rfl rfl rfl rfl rfl (by decide) rfl rfl rfl ?_
              refine g_iload_n rfl rfl ?_
              refine g_iconst rfl ⟨by decide, by decide⟩ ?_
              refine g_icmp_eq (tgt := 14) rfl (by decide) (fun _ => ?_) (fun hx => absurd hx (by omega))
              refine g_aload_n rfl rfl ?_
              refine g_iload_n rfl rfl ?_
              refine g_iload_n rfl rfl ?_
              refine g_iV (as := [tI (a : Int), tI (d : Int)]) mX12_layPackets_ok rfl rfl rfl rfl rfl rfl (by decide) rfl rfl rfl ?_
              refine g_aload_n rfl rfl ?_
              refine g_iload_n rfl rfl ?_
              refine g_iload_n rfl rfl ?_
              refine g_cV (as := [tI (a : Int), tI (d : Int)]) (hM _ (tp_kp_pi (by decide) hkp6)) rfl rfl mX12_lay_ok rfl rfl rfl (by decide) rfl rfl rfl ?_
              rintro _ w2 ⟨rfl, hTm, hMc, hGm, hdr, hdm⟩ _
              have hkp2 : tp_kp μ w2 := m_G_kp (tp_kp_pi (by decide) hkp6) hGm
              have hm6 := hTm.1
              have hall := hMc.2.2.1
              refine g_if_ne (tgt := 11) rfl (by decide) (fun _ => ?_) (fun hx => absurd hx (by omega))
              refine g_aload_n rfl rfl ?_
              refine g_aload_n rfl rfl ?_
              refine g_iconst rfl ⟨by decide, by decide⟩ ?_
              refine g_cV (as := [tI 1]) (s_of hG hMc (by omega) (by omega)) rfl rfl mX12_of_ok rfl rfl rfl (by decide) rfl rfl rfl ?_
              rintro _ w9 ⟨rfl, hw9⟩ _
              have hw9 := hw9.symm
              subst hw9
              refine g_aload_n rfl rfl ?_
              refine g_iconst rfl ⟨by decide, by decide⟩ ?_
              refine g_cV (as := [tI 2]) (s_of hG hMc (by omega) (by omega)) rfl rfl mX12_of_ok rfl rfl rfl (by decide) rfl rfl rfl ?_
              rintro _ w9 ⟨rfl, hw9⟩ _
              have hw9 := hw9.symm
              subst hw9
              refine g_cV (as := [tI (f 1), tI (f 2)]) (s_encodesM hG hw hMc hW hTm (by omega) (by omega)) rfl rfl mX12_encodes_ok rfl rfl rfl (by decide) rfl rfl rfl ?_
              rintro _ w4 ⟨rfl, hE4⟩ _
              have hkp4 : tp_kp μ w4 := fun k9 z9 => (hE4.2.2.2.1 k9 (by unfold tp_tl at z9; omega) (by unfold tp_tl at z9; omega)).trans (hkp2 k9 z9)
              rw [← hσ] at hE4
              have hMB := hE4.2.1
              have hsz4 : w4.1 201 47 = σ.1 0 9 := hE4.1.2.2.2.2.2.2.2.2.1
              have hQ4 : v_Q σ w4 := ⟨hsz4, fun i i0 i1 => ⟨(hMB i i0 i1).1, (hMB i i0 i1).2.2.2.1, (hMB i i0 i1).2.2.2.2.1⟩⟩
              have hn4 : w4.1 201 27 = n := by rw [hE4.2.2.2.2 27 (by omega)]; exact hm6
              have hA4 : ∀ j, 0 ≤ j → j < n → w4.1 212 j = A j := fun j j0 j1 => by rw [hE4.2.2.2.1 212 (by omega) (by omega)]; exact hTm.2.1 j j0 j1
              refine g_iconst rfl ⟨by decide, by decide⟩ ?_
              refine x_zreturn rfl rfl (Or.inr rfl) ?_
              intro _
              refine g_if_ne (tgt := 25) rfl (by decide) (fun _ => ?_) (fun hx => absurd hx (by omega))
              refine g_aload_n rfl rfl ?_
              refine g_iload_n rfl rfl ?_
              refine g_cV (as := [tI (-1)]) (s_byN hG hQ4 hp9 (by omega) HH) rfl rfl mX12_rebuildsBy_ok rfl rfl rfl (by decide) rfl rfl rfl ?_
              rintro _ w7 ⟨rfl, hM7, hs7, hG7⟩ _
              rw [show v_S (fun _ => 0) σ (σ.1 0 9) = v_S (v_1 (-1)) σ (σ.1 0 9) from v_S_c (fun i i0 i1 => (show v_1 (-1) i = 0 from if_neg (by omega)).symm)] at hM7 hs7
              rw [← hs] at hM7 hs7
              have hkp7 : tp_kp μ w7 := fun k9 z9 => (hG7.1 k9 (by unfold tp_tl at z9; omega) (by unfold tp_tl at z9; omega) (by unfold tp_tl at z9; omega) (by unfold tp_tl at z9; omega)).trans (hkp4 k9 z9)
              have hn7 : w7.1 201 27 = n := by rw [hG7.2 27 (by omega) (by omega)]; exact hn4
              have hA7 : ∀ j, 0 ≤ j → j < n → w7.1 212 j = A j := fun j j0 j1 => by rw [hG7.1 212 (by omega) (by omega) (by omega) (by omega)]; exact hA4 j j0 j1
              have hr7 := hM7.1
              have hQ7 : v_Q σ w7 := v_Q_G hG7 hQ4
              refine g_iconst rfl ⟨by decide, by decide⟩ ?_
              refine x_zreturn rfl rfl (Or.inr rfl) ?_
              intro _
              refine g_if_ne (tgt := 17) rfl (by decide) (fun _ => ?_) (fun hx => absurd hx (by omega))
              refine g_iload rfl rfl ?_
              refine g_sipush rfl ⟨by decide, by decide⟩ (by decide) ?_
              refine g_icmp_lt (tgt := 58) rfl (by decide) (fun _ => ?_) (fun hx => absurd hx (by omega))
              refine g_iload rfl rfl ?_
              refine g_bipush rfl ⟨by decide, by decide⟩ (by decide) ?_
              refine g_icmp_lt (tgt := 92) rfl (by decide) (fun _ => ?_) (fun hx => absurd hx (by omega))
              refine g_iload rfl rfl ?_
              refine g_if_ne (tgt := 104) rfl (by decide) (fun h6 => ?_) (fun h6 => ?_)
              · refine g_iload rfl rfl ?_
                refine g_iconst rfl ⟨by decide, by decide⟩ ?_
                refine g_icmp_ne (tgt := 117) rfl (by decide) (fun h7 => ?_) (fun h7 => ?_)
                · refine g_iload rfl rfl ?_
                  refine g_iconst rfl ⟨by decide, by decide⟩ ?_
                  refine g_icmp_ne (tgt := 130) rfl (by decide) (fun h8 => ?_) (fun h8 => ?_)
                  · refine g_iconst rfl ⟨by decide, by decide⟩ ?_
                    refine x_ireturn rfl rfl ?_
                    exact ⟨(by first | rfl | (exfalso; omega) | exact congrArg (fun z => some (tI z)) (by rw [hs7, hm2]; done) | exact congrArg (fun z => some (tI z)) (by rw [hr7, hm1]; done) | exact congrArg (fun z => some (tI z)) ((hA7 _ (by omega) (by omega)).trans (p_M_J hM6 hJ (w - 1000) (by omega) (by omega)).symm) | exact congrArg (fun z => some (tI z)) (by rw [hwp (by omega), (hM7.2 (w - 100) (by omega) (by omega)).2, hM6.2.2.1 (w - 100) (by omega) (by omega)]; done) | exact congrArg (fun z => some (tI z)) (by rw [hs8, hs7, hm2, hw70]; done) | exact congrArg (fun z => some (tI z)) (by omega)), tp_R_kp hR hkp7⟩
                  · refine g_aload_n rfl rfl ?_
                    refine g_iV (as := []) mX12_cost_ok rfl rfl rfl rfl rfl rfl (by decide) rfl rfl rfl ?_
                    refine g_aload_n rfl rfl ?_
                    refine x_geti (v := (w7.1 201 63)) rfl rfl (by decide) (Or.inl rfl) rfl ?_
                    refine g_istore_n rfl rfl rfl ?_
                    refine g_aload_n rfl rfl ?_
                    refine g_iconst rfl ⟨by decide, by decide⟩ ?_
                    refine g_cV (as := [tI (-1)]) (s_but (a := -1) hG hQ7 hp9 (by omega) HH) rfl rfl mX12_rebuildsBut_ok rfl rfl rfl (by decide) rfl rfl rfl ?_
                    rintro _ w8 ⟨rfl, hM8, hs8, hG8⟩ _
                    have hkp8 : tp_kp μ w8 := fun k9 z9 => (hG8.1 k9 (by unfold tp_tl at z9; omega) (by unfold tp_tl at z9; omega) (by unfold tp_tl at z9; omega) (by unfold tp_tl at z9; omega)).trans (hkp7 k9 z9)
                    have hU8 := (v_U (l := v_1 (-1)) HH (fun i i0 i1 => if_neg (by omega)) (σ.1 0 9).toNat (by omega)).2.1
                    rw [show (((σ.1 0 9).toNat : Nat) : Int) = σ.1 0 9 by omega] at hU8
                    rw [hU8] at hs8
                    refine g_aload_n rfl rfl ?_
                    refine x_geti (v := (w8.1 201 63)) rfl rfl (by decide) (Or.inl rfl) rfl ?_
                    refine g_iload_n rfl rfl ?_
                    refine x_isub (z := (w8.1 201 63) - (w7.1 201 63)) rfl (by omega) ⟨by omega, by omega⟩ ?_
                    refine x_ireturn rfl rfl ?_
                    intro _
                    refine g_goto (tgt := 131) rfl (by decide) ?_
                    refine x_ireturn rfl rfl ?_
                    exact ⟨(by first | (exfalso; omega) | exact congrArg (fun z => some (tI z)) (by rw [hs8, hs7, hm2, hw70])), tp_R_kp hR hkp8⟩
                · refine g_aload_n rfl rfl ?_
                  refine x_geti (v := (w7.1 201 62)) rfl rfl (by decide) (Or.inl rfl) rfl ?_
                  refine g_goto (tgt := 131) rfl (by decide) ?_
                  refine x_ireturn rfl rfl ?_
                  exact ⟨(by first | rfl | (exfalso; omega) | exact congrArg (fun z => some (tI z)) (by rw [hs7, hm2]; done) | exact congrArg (fun z => some (tI z)) (by rw [hr7, hm1]; done) | exact congrArg (fun z => some (tI z)) ((hA7 _ (by omega) (by omega)).trans (p_M_J hM6 hJ (w - 1000) (by omega) (by omega)).symm) | exact congrArg (fun z => some (tI z)) (by rw [hwp (by omega), (hM7.2 (w - 100) (by omega) (by omega)).2, hM6.2.2.1 (w - 100) (by omega) (by omega)]; done) | exact congrArg (fun z => some (tI z)) (by rw [hs8, hs7, hm2, hw70]; done) | exact congrArg (fun z => some (tI z)) (by omega)), tp_R_kp hR hkp7⟩
              · refine g_aload_n rfl rfl ?_
                refine x_geti (v := (w7.1 201 63)) rfl rfl (by decide) (Or.inl rfl) rfl ?_
                refine g_goto (tgt := 131) rfl (by decide) ?_
                refine x_ireturn rfl rfl ?_
                exact ⟨(by first | rfl | (exfalso; omega) | exact congrArg (fun z => some (tI z)) (by rw [hs7, hm2]; done) | exact congrArg (fun z => some (tI z)) (by rw [hr7, hm1]; done) | exact congrArg (fun z => some (tI z)) ((hA7 _ (by omega) (by omega)).trans (p_M_J hM6 hJ (w - 1000) (by omega) (by omega)).symm) | exact congrArg (fun z => some (tI z)) (by rw [hwp (by omega), (hM7.2 (w - 100) (by omega) (by omega)).2, hM6.2.2.1 (w - 100) (by omega) (by omega)]; done) | exact congrArg (fun z => some (tI z)) (by rw [hs8, hs7, hm2, hw70]; done) | exact congrArg (fun z => some (tI z)) (by omega)), tp_R_kp hR hkp7⟩
            · refine g_iload_n rfl rfl ?_
              refine g_aload_n rfl rfl ?_
              refine x_geti (v := (w6.1 76 3)) rfl rfl (by decide) (Or.inl rfl) rfl ?_
              refine g_icmp_ge (tgt := 62) rfl (by decide) (fun h9 => ?_) (fun h9 => ?_)
              · refine g_iconst rfl ⟨by decide, by decide⟩ ?_
                refine g_goto (tgt := 72) rfl (by decide) ?_
                refine x_ireturn rfl rfl ?_
                intro _
                refine x_ireturn rfl rfl ?_
                refine ⟨_, rfl, ?_⟩
                refine tp_ok_of mX12_rebuilt_ok rfl (Nat.le_refl _) ?_
                refine g_aload_n rfl rfl ?_
                refine g_iconst rfl ⟨by decide, by decide⟩ ?_
                refine g_puti rfl rfl (by decide) rfl rfl ?_
                refine g_aload_n rfl rfl ?_
                refine g_iload_n rfl rfl ?_
                refine g_iload_n rfl rfl ?_
                refine g_iload_n rfl rfl ?_
                refine g_iV (as := [tI (a : Int), tI (d : Int), tI (-1)]) mX12_layRebuilt_ok rfl rfl rfl rfl rfl rfl (by decide) rfl rfl rfl ?_
                refine g_iload_n rfl rfl ?_
                refine g_iconst rfl ⟨by decide, by decide⟩ ?_
                refine g_icmp_eq (tgt := 14) rfl (by decide) (fun _ => ?_) (fun hx => absurd hx (by omega))
                refine g_aload_n rfl rfl ?_
                refine g_iload_n rfl rfl ?_
                refine g_iload_n rfl rfl ?_
                refine g_iV (as := [tI (a : Int), tI (d : Int)]) mX12_layPackets_ok rfl rfl rfl rfl rfl rfl (by decide) rfl rfl rfl ?_
                refine g_aload_n rfl rfl ?_
                refine g_iload_n rfl rfl ?_
                refine g_iload_n rfl rfl ?_
                refine g_cV (as := [tI (a : Int), tI (d : Int)]) (hM _ (tp_kp_pi (by decide) hkp6)) rfl rfl mX12_lay_ok rfl rfl rfl (by decide) rfl rfl rfl ?_
                rintro _ w2 ⟨rfl, hTm, hMc, hGm, hdr, hdm⟩ _
                have hkp2 : tp_kp μ w2 := m_G_kp (tp_kp_pi (by decide) hkp6) hGm
                have hm6 := hTm.1
                have hall := hMc.2.2.1
                refine g_if_ne (tgt := 11) rfl (by decide) (fun _ => ?_) (fun hx => absurd hx (by omega))
                refine g_aload_n rfl rfl ?_
                refine g_aload_n rfl rfl ?_
                refine g_iconst rfl ⟨by decide, by decide⟩ ?_
                refine g_cV (as := [tI 1]) (s_of hG hMc (by omega) (by omega)) rfl rfl mX12_of_ok rfl rfl rfl (by decide) rfl rfl rfl ?_
                rintro _ w9 ⟨rfl, hw9⟩ _
                have hw9 := hw9.symm
                subst hw9
                refine g_aload_n rfl rfl ?_
                refine g_iconst rfl ⟨by decide, by decide⟩ ?_
                refine g_cV (as := [tI 2]) (s_of hG hMc (by omega) (by omega)) rfl rfl mX12_of_ok rfl rfl rfl (by decide) rfl rfl rfl ?_
                rintro _ w9 ⟨rfl, hw9⟩ _
                have hw9 := hw9.symm
                subst hw9
                refine g_cV (as := [tI (f 1), tI (f 2)]) (s_encodesM hG hw hMc hW hTm (by omega) (by omega)) rfl rfl mX12_encodes_ok rfl rfl rfl (by decide) rfl rfl rfl ?_
                rintro _ w4 ⟨rfl, hE4⟩ _
                have hkp4 : tp_kp μ w4 := fun k9 z9 => (hE4.2.2.2.1 k9 (by unfold tp_tl at z9; omega) (by unfold tp_tl at z9; omega)).trans (hkp2 k9 z9)
                rw [← hσ] at hE4
                have hMB := hE4.2.1
                have hsz4 : w4.1 201 47 = σ.1 0 9 := hE4.1.2.2.2.2.2.2.2.2.1
                have hQ4 : v_Q σ w4 := ⟨hsz4, fun i i0 i1 => ⟨(hMB i i0 i1).1, (hMB i i0 i1).2.2.2.1, (hMB i i0 i1).2.2.2.2.1⟩⟩
                have hn4 : w4.1 201 27 = n := by rw [hE4.2.2.2.2 27 (by omega)]; exact hm6
                have hA4 : ∀ j, 0 ≤ j → j < n → w4.1 212 j = A j := fun j j0 j1 => by rw [hE4.2.2.2.1 212 (by omega) (by omega)]; exact hTm.2.1 j j0 j1
                refine g_iconst rfl ⟨by decide, by decide⟩ ?_
                refine x_zreturn rfl rfl (Or.inr rfl) ?_
                intro _
                refine g_if_ne (tgt := 25) rfl (by decide) (fun _ => ?_) (fun hx => absurd hx (by omega))
                refine g_aload_n rfl rfl ?_
                refine g_iload_n rfl rfl ?_
                refine g_cV (as := [tI (-1)]) (s_byN hG hQ4 hp9 (by omega) HH) rfl rfl mX12_rebuildsBy_ok rfl rfl rfl (by decide) rfl rfl rfl ?_
                rintro _ w7 ⟨rfl, hM7, hs7, hG7⟩ _
                rw [show v_S (fun _ => 0) σ (σ.1 0 9) = v_S (v_1 (-1)) σ (σ.1 0 9) from v_S_c (fun i i0 i1 => (show v_1 (-1) i = 0 from if_neg (by omega)).symm)] at hM7 hs7
                rw [← hs] at hM7 hs7
                have hkp7 : tp_kp μ w7 := fun k9 z9 => (hG7.1 k9 (by unfold tp_tl at z9; omega) (by unfold tp_tl at z9; omega) (by unfold tp_tl at z9; omega) (by unfold tp_tl at z9; omega)).trans (hkp4 k9 z9)
                have hn7 : w7.1 201 27 = n := by rw [hG7.2 27 (by omega) (by omega)]; exact hn4
                have hA7 : ∀ j, 0 ≤ j → j < n → w7.1 212 j = A j := fun j j0 j1 => by rw [hG7.1 212 (by omega) (by omega) (by omega) (by omega)]; exact hA4 j j0 j1
                have hr7 := hM7.1
                have hQ7 : v_Q σ w7 := v_Q_G hG7 hQ4
                refine g_iconst rfl ⟨by decide, by decide⟩ ?_
                refine x_zreturn rfl rfl (Or.inr rfl) ?_
                intro _
                refine g_if_ne (tgt := 17) rfl (by decide) (fun _ => ?_) (fun hx => absurd hx (by omega))
                refine g_iload rfl rfl ?_
                refine g_sipush rfl ⟨by decide, by decide⟩ (by decide) ?_
                refine g_icmp_lt (tgt := 58) rfl (by decide) (fun _ => ?_) (fun hx => absurd hx (by omega))
                refine g_iload rfl rfl ?_
                refine g_bipush rfl ⟨by decide, by decide⟩ (by decide) ?_
                refine g_icmp_lt (tgt := 92) rfl (by decide) (fun hx => absurd hx (by omega)) (fun _ => ?_)
                refine g_iload rfl rfl ?_
                refine g_bipush rfl ⟨by decide, by decide⟩ (by decide) ?_
                refine x_isub (z := w - 100) rfl (by omega) ⟨by omega, by omega⟩ ?_
                refine g_aload_n rfl rfl ?_
                refine x_geti (v := (w7.1 201 62)) rfl rfl (by decide) (Or.inl rfl) rfl ?_
                refine g_icmp_ge (tgt := 90) rfl (by decide) (fun h10 => ?_) (fun h10 => ?_)
                · refine g_iconst rfl ⟨by decide, by decide⟩ ?_
                  refine x_ireturn rfl rfl ?_
                  exact ⟨(by first | rfl | (exfalso; omega) | exact congrArg (fun z => some (tI z)) (by rw [hs7, hm2]; done) | exact congrArg (fun z => some (tI z)) (by rw [hr7, hm1]; done) | exact congrArg (fun z => some (tI z)) ((hA7 _ (by omega) (by omega)).trans (p_M_J hM6 hJ (w - 1000) (by omega) (by omega)).symm) | exact congrArg (fun z => some (tI z)) (by rw [hwp (by omega), (hM7.2 (w - 100) (by omega) (by omega)).2, hM6.2.2.1 (w - 100) (by omega) (by omega)]; done) | exact congrArg (fun z => some (tI z)) (by rw [hs8, hs7, hm2, hw70]; done) | exact congrArg (fun z => some (tI z)) (by omega)), tp_R_kp hR hkp7⟩
                · refine g_aload_n rfl rfl ?_
                  refine x_getF (r := 225) hG rfl rfl (by decide) (Or.inr ⟨_, rfl⟩) rfl ?_
                  refine g_iload rfl rfl ?_
                  refine g_bipush rfl ⟨by decide, by decide⟩ (by decide) ?_
                  refine x_isub (z := w - 100) rfl (by omega) ⟨by omega, by omega⟩ ?_
                  refine x_iald (v := (w7.1 225 (w - 100))) rfl rfl (by decide) (by omega) (by omega) rfl ?_
                  refine g_goto (tgt := 91) rfl (by decide) ?_
                  refine x_ireturn rfl rfl ?_
                  exact ⟨(by first | rfl | (exfalso; omega) | exact congrArg (fun z => some (tI z)) (by rw [hs7, hm2]; done) | exact congrArg (fun z => some (tI z)) (by rw [hr7, hm1]; done) | exact congrArg (fun z => some (tI z)) ((hA7 _ (by omega) (by omega)).trans (p_M_J hM6 hJ (w - 1000) (by omega) (by omega)).symm) | exact congrArg (fun z => some (tI z)) (by rw [hwp (by omega), (hM7.2 (w - 100) (by omega) (by omega)).2, hM6.2.2.1 (w - 100) (by omega) (by omega)]; done) | exact congrArg (fun z => some (tI z)) (by rw [hs8, hs7, hm2, hw70]; done) | exact congrArg (fun z => some (tI z)) (by omega)), tp_R_kp hR hkp7⟩
              · refine g_iload_n rfl rfl ?_
                refine g_sipush rfl ⟨by decide, by decide⟩ (by decide) ?_
                refine g_icmp_lt (tgt := 66) rfl (by decide) (fun h11 => ?_) (fun h11 => ?_)
                · refine g_aload_n rfl rfl ?_
                  refine x_getF (r := 78) hG rfl rfl (by decide) (Or.inr ⟨_, rfl⟩) rfl ?_
                  refine g_iload_n rfl rfl ?_
                  refine x_iald (v := (w6.1 78 (tp_w (w - 100)))) rfl rfl (by decide) (by omega) (by omega) rfl ?_
                  refine x_ireturn rfl rfl ?_
                  intro _
                  refine x_ireturn rfl rfl ?_
                  refine ⟨_, rfl, ?_⟩
                  refine tp_ok_of mX12_rebuilt_ok rfl (Nat.le_refl _) ?_
                  refine g_aload_n rfl rfl ?_
                  refine g_iconst rfl ⟨by decide, by decide⟩ ?_
                  refine g_puti rfl rfl (by decide) rfl rfl ?_
                  refine g_aload_n rfl rfl ?_
                  refine g_iload_n rfl rfl ?_
                  refine g_iload_n rfl rfl ?_
                  refine g_iload_n rfl rfl ?_
                  refine g_iV (as := [tI (a : Int), tI (d : Int), tI (-1)]) mX12_layRebuilt_ok rfl rfl rfl rfl rfl rfl (by decide) rfl rfl rfl ?_
                  refine g_iload_n rfl rfl ?_
                  refine g_iconst rfl ⟨by decide, by decide⟩ ?_
                  refine g_icmp_eq (tgt := 14) rfl (by decide) (fun _ => ?_) (fun hx => absurd hx (by omega))
                  refine g_aload_n rfl rfl ?_
                  refine g_iload_n rfl rfl ?_
                  refine g_iload_n rfl rfl ?_
                  refine g_iV (as := [tI (a : Int), tI (d : Int)]) mX12_layPackets_ok rfl rfl rfl rfl rfl rfl (by decide) rfl rfl rfl ?_
                  refine g_aload_n rfl rfl ?_
                  refine g_iload_n rfl rfl ?_
                  refine g_iload_n rfl rfl ?_
                  refine g_cV (as := [tI (a : Int), tI (d : Int)]) (hM _ (tp_kp_pi (by decide) hkp6)) rfl rfl mX12_lay_ok rfl rfl rfl (by decide) rfl rfl rfl ?_
                  rintro _ w2 ⟨rfl, hTm, hMc, hGm, hdr, hdm⟩ _
                  have hkp2 : tp_kp μ w2 := m_G_kp (tp_kp_pi (by decide) hkp6) hGm
                  have hm6 := hTm.1
                  have hall := hMc.2.2.1
                  refine g_if_ne (tgt := 11) rfl (by decide) (fun _ => ?_) (fun hx => absurd hx (by omega))
                  refine g_aload_n rfl rfl ?_
                  refine g_aload_n rfl rfl ?_
                  refine g_iconst rfl ⟨by decide, by decide⟩ ?_
                  refine g_cV (as := [tI 1]) (s_of hG hMc (by omega) (by omega)) rfl rfl mX12_of_ok rfl rfl rfl (by decide) rfl rfl rfl ?_
                  rintro _ w9 ⟨rfl, hw9⟩ _
                  have hw9 := hw9.symm
                  subst hw9
                  refine g_aload_n rfl rfl ?_
                  refine g_iconst rfl ⟨by decide, by decide⟩ ?_
                  refine g_cV (as := [tI 2]) (s_of hG hMc (by omega) (by omega)) rfl rfl mX12_of_ok rfl rfl rfl (by decide) rfl rfl rfl ?_
                  rintro _ w9 ⟨rfl, hw9⟩ _
                  have hw9 := hw9.symm
                  subst hw9
                  refine g_cV (as := [tI (f 1), tI (f 2)]) (s_encodesM hG hw hMc hW hTm (by omega) (by omega)) rfl rfl mX12_encodes_ok rfl rfl rfl (by decide) rfl rfl rfl ?_
                  rintro _ w4 ⟨rfl, hE4⟩ _
                  have hkp4 : tp_kp μ w4 := fun k9 z9 => (hE4.2.2.2.1 k9 (by unfold tp_tl at z9; omega) (by unfold tp_tl at z9; omega)).trans (hkp2 k9 z9)
                  rw [← hσ] at hE4
                  have hMB := hE4.2.1
                  have hsz4 : w4.1 201 47 = σ.1 0 9 := hE4.1.2.2.2.2.2.2.2.2.1
                  have hQ4 : v_Q σ w4 := ⟨hsz4, fun i i0 i1 => ⟨(hMB i i0 i1).1, (hMB i i0 i1).2.2.2.1, (hMB i i0 i1).2.2.2.2.1⟩⟩
                  have hn4 : w4.1 201 27 = n := by rw [hE4.2.2.2.2 27 (by omega)]; exact hm6
                  have hA4 : ∀ j, 0 ≤ j → j < n → w4.1 212 j = A j := fun j j0 j1 => by rw [hE4.2.2.2.1 212 (by omega) (by omega)]; exact hTm.2.1 j j0 j1
                  refine g_iconst rfl ⟨by decide, by decide⟩ ?_
                  refine x_zreturn rfl rfl (Or.inr rfl) ?_
                  intro _
                  refine g_if_ne (tgt := 25) rfl (by decide) (fun _ => ?_) (fun hx => absurd hx (by omega))
                  refine g_aload_n rfl rfl ?_
                  refine g_iload_n rfl rfl ?_
                  refine g_cV (as := [tI (-1)]) (s_byN hG hQ4 hp9 (by omega) HH) rfl rfl mX12_rebuildsBy_ok rfl rfl rfl (by decide) rfl rfl rfl ?_
                  rintro _ w7 ⟨rfl, hM7, hs7, hG7⟩ _
                  rw [show v_S (fun _ => 0) σ (σ.1 0 9) = v_S (v_1 (-1)) σ (σ.1 0 9) from v_S_c (fun i i0 i1 => (show v_1 (-1) i = 0 from if_neg (by omega)).symm)] at hM7 hs7
                  rw [← hs] at hM7 hs7
                  have hkp7 : tp_kp μ w7 := fun k9 z9 => (hG7.1 k9 (by unfold tp_tl at z9; omega) (by unfold tp_tl at z9; omega) (by unfold tp_tl at z9; omega) (by unfold tp_tl at z9; omega)).trans (hkp4 k9 z9)
                  have hn7 : w7.1 201 27 = n := by rw [hG7.2 27 (by omega) (by omega)]; exact hn4
                  have hA7 : ∀ j, 0 ≤ j → j < n → w7.1 212 j = A j := fun j j0 j1 => by rw [hG7.1 212 (by omega) (by omega) (by omega) (by omega)]; exact hA4 j j0 j1
                  have hr7 := hM7.1
                  have hQ7 : v_Q σ w7 := v_Q_G hG7 hQ4
                  refine g_iconst rfl ⟨by decide, by decide⟩ ?_
                  refine x_zreturn rfl rfl (Or.inr rfl) ?_
                  intro _
                  refine g_if_ne (tgt := 17) rfl (by decide) (fun _ => ?_) (fun hx => absurd hx (by omega))
                  refine g_iload rfl rfl ?_
                  refine g_sipush rfl ⟨by decide, by decide⟩ (by decide) ?_
                  refine g_icmp_lt (tgt := 58) rfl (by decide) (fun _ => ?_) (fun hx => absurd hx (by omega))
                  refine g_iload rfl rfl ?_
                  refine g_bipush rfl ⟨by decide, by decide⟩ (by decide) ?_
                  refine g_icmp_lt (tgt := 92) rfl (by decide) (fun hx => absurd hx (by omega)) (fun _ => ?_)
                  refine g_iload rfl rfl ?_
                  refine g_bipush rfl ⟨by decide, by decide⟩ (by decide) ?_
                  refine x_isub (z := w - 100) rfl (by omega) ⟨by omega, by omega⟩ ?_
                  refine g_aload_n rfl rfl ?_
                  refine x_geti (v := (w7.1 201 62)) rfl rfl (by decide) (Or.inl rfl) rfl ?_
                  refine g_icmp_ge (tgt := 90) rfl (by decide) (fun h12 => ?_) (fun h12 => ?_)
                  · refine g_iconst rfl ⟨by decide, by decide⟩ ?_
                    refine x_ireturn rfl rfl ?_
                    exact ⟨(by first | rfl | (exfalso; omega) | exact congrArg (fun z => some (tI z)) (by rw [hs7, hm2]; done) | exact congrArg (fun z => some (tI z)) (by rw [hr7, hm1]; done) | exact congrArg (fun z => some (tI z)) ((hA7 _ (by omega) (by omega)).trans (p_M_J hM6 hJ (w - 1000) (by omega) (by omega)).symm) | exact congrArg (fun z => some (tI z)) (by rw [hwp (by omega), (hM7.2 (w - 100) (by omega) (by omega)).2, hM6.2.2.1 (w - 100) (by omega) (by omega)]; done) | exact congrArg (fun z => some (tI z)) (by rw [hs8, hs7, hm2, hw70]; done) | exact congrArg (fun z => some (tI z)) (by omega)), tp_R_kp hR hkp7⟩
                  · refine g_aload_n rfl rfl ?_
                    refine x_getF (r := 225) hG rfl rfl (by decide) (Or.inr ⟨_, rfl⟩) rfl ?_
                    refine g_iload rfl rfl ?_
                    refine g_bipush rfl ⟨by decide, by decide⟩ (by decide) ?_
                    refine x_isub (z := w - 100) rfl (by omega) ⟨by omega, by omega⟩ ?_
                    refine x_iald (v := (w7.1 225 (w - 100))) rfl rfl (by decide) (by omega) (by omega) rfl ?_
                    refine g_goto (tgt := 91) rfl (by decide) ?_
                    refine x_ireturn rfl rfl ?_
                    exact ⟨(by first | rfl | (exfalso; omega) | exact congrArg (fun z => some (tI z)) (by rw [hs7, hm2]; done) | exact congrArg (fun z => some (tI z)) (by rw [hr7, hm1]; done) | exact congrArg (fun z => some (tI z)) ((hA7 _ (by omega) (by omega)).trans (p_M_J hM6 hJ (w - 1000) (by omega) (by omega)).symm) | exact congrArg (fun z => some (tI z)) (by rw [hwp (by omega), (hM7.2 (w - 100) (by omega) (by omega)).2, hM6.2.2.1 (w - 100) (by omega) (by omega)]; done) | exact congrArg (fun z => some (tI z)) (by rw [hs8, hs7, hm2, hw70]; done) | exact congrArg (fun z => some (tI z)) (by omega)), tp_R_kp hR hkp7⟩
                · refine g_iconst rfl ⟨by decide, by decide⟩ ?_
                  refine g_goto (tgt := 72) rfl (by decide) ?_
                  refine x_ireturn rfl rfl ?_
                  intro _
                  refine x_ireturn rfl rfl ?_
                  refine ⟨_, rfl, ?_⟩
                  refine tp_ok_of mX12_rebuilt_ok rfl (Nat.le_refl _) ?_
                  refine g_aload_n rfl rfl ?_
                  refine g_iconst rfl ⟨by decide, by decide⟩ ?_
                  refine g_puti rfl rfl (by decide) rfl rfl ?_
                  refine g_aload_n rfl rfl ?_
                  refine g_iload_n rfl rfl ?_
                  refine g_iload_n rfl rfl ?_
                  refine g_iload_n rfl rfl ?_
                  refine g_iV (as := [tI (a : Int), tI (d : Int), tI (-1)]) mX12_layRebuilt_ok rfl rfl rfl rfl rfl rfl (by decide) rfl rfl rfl ?_
                  refine g_iload_n rfl rfl ?_
                  refine g_iconst rfl ⟨by decide, by decide⟩ ?_
                  refine g_icmp_eq (tgt := 14) rfl (by decide) (fun _ => ?_) (fun hx => absurd hx (by omega))
                  refine g_aload_n rfl rfl ?_
                  refine g_iload_n rfl rfl ?_
                  refine g_iload_n rfl rfl ?_
                  refine g_iV (as := [tI (a : Int), tI (d : Int)]) mX12_layPackets_ok rfl rfl rfl rfl rfl rfl (by decide) rfl rfl rfl ?_
                  refine g_aload_n rfl rfl ?_
                  refine g_iload_n rfl rfl ?_
                  refine g_iload_n rfl rfl ?_
                  refine g_cV (as := [tI (a : Int), tI (d : Int)]) (hM _ (tp_kp_pi (by decide) hkp6)) rfl rfl mX12_lay_ok rfl rfl rfl (by decide) rfl rfl rfl ?_
                  rintro _ w2 ⟨rfl, hTm, hMc, hGm, hdr, hdm⟩ _
                  have hkp2 : tp_kp μ w2 := m_G_kp (tp_kp_pi (by decide) hkp6) hGm
                  have hm6 := hTm.1
                  have hall := hMc.2.2.1
                  refine g_if_ne (tgt := 11) rfl (by decide) (fun _ => ?_) (fun hx => absurd hx (by omega))
                  refine g_aload_n rfl rfl ?_
                  refine g_aload_n rfl rfl ?_
                  refine g_iconst rfl ⟨by decide, by decide⟩ ?_
                  refine g_cV (as := [tI 1]) (s_of hG hMc (by omega) (by omega)) rfl rfl mX12_of_ok rfl rfl rfl (by decide) rfl rfl rfl ?_
                  rintro _ w9 ⟨rfl, hw9⟩ _
                  have hw9 := hw9.symm
                  subst hw9
                  refine g_aload_n rfl rfl ?_
                  refine g_iconst rfl ⟨by decide, by decide⟩ ?_
                  refine g_cV (as := [tI 2]) (s_of hG hMc (by omega) (by omega)) rfl rfl mX12_of_ok rfl rfl rfl (by decide) rfl rfl rfl ?_
                  rintro _ w9 ⟨rfl, hw9⟩ _
                  have hw9 := hw9.symm
                  subst hw9
                  refine g_cV (as := [tI (f 1), tI (f 2)]) (s_encodesM hG hw hMc hW hTm (by omega) (by omega)) rfl rfl mX12_encodes_ok rfl rfl rfl (by decide) rfl rfl rfl ?_
                  rintro _ w4 ⟨rfl, hE4⟩ _
                  have hkp4 : tp_kp μ w4 := fun k9 z9 => (hE4.2.2.2.1 k9 (by unfold tp_tl at z9; omega) (by unfold tp_tl at z9; omega)).trans (hkp2 k9 z9)
                  rw [← hσ] at hE4
                  have hMB := hE4.2.1
                  have hsz4 : w4.1 201 47 = σ.1 0 9 := hE4.1.2.2.2.2.2.2.2.2.1
                  have hQ4 : v_Q σ w4 := ⟨hsz4, fun i i0 i1 => ⟨(hMB i i0 i1).1, (hMB i i0 i1).2.2.2.1, (hMB i i0 i1).2.2.2.2.1⟩⟩
                  have hn4 : w4.1 201 27 = n := by rw [hE4.2.2.2.2 27 (by omega)]; exact hm6
                  have hA4 : ∀ j, 0 ≤ j → j < n → w4.1 212 j = A j := fun j j0 j1 => by rw [hE4.2.2.2.1 212 (by omega) (by omega)]; exact hTm.2.1 j j0 j1
                  refine g_iconst rfl ⟨by decide, by decide⟩ ?_
                  refine x_zreturn rfl rfl (Or.inr rfl) ?_
                  intro _
                  refine g_if_ne (tgt := 25) rfl (by decide) (fun _ => ?_) (fun hx => absurd hx (by omega))
                  refine g_aload_n rfl rfl ?_
                  refine g_iload_n rfl rfl ?_
                  refine g_cV (as := [tI (-1)]) (s_byN hG hQ4 hp9 (by omega) HH) rfl rfl mX12_rebuildsBy_ok rfl rfl rfl (by decide) rfl rfl rfl ?_
                  rintro _ w7 ⟨rfl, hM7, hs7, hG7⟩ _
                  rw [show v_S (fun _ => 0) σ (σ.1 0 9) = v_S (v_1 (-1)) σ (σ.1 0 9) from v_S_c (fun i i0 i1 => (show v_1 (-1) i = 0 from if_neg (by omega)).symm)] at hM7 hs7
                  rw [← hs] at hM7 hs7
                  have hkp7 : tp_kp μ w7 := fun k9 z9 => (hG7.1 k9 (by unfold tp_tl at z9; omega) (by unfold tp_tl at z9; omega) (by unfold tp_tl at z9; omega) (by unfold tp_tl at z9; omega)).trans (hkp4 k9 z9)
                  have hn7 : w7.1 201 27 = n := by rw [hG7.2 27 (by omega) (by omega)]; exact hn4
                  have hA7 : ∀ j, 0 ≤ j → j < n → w7.1 212 j = A j := fun j j0 j1 => by rw [hG7.1 212 (by omega) (by omega) (by omega) (by omega)]; exact hA4 j j0 j1
                  have hr7 := hM7.1
                  have hQ7 : v_Q σ w7 := v_Q_G hG7 hQ4
                  refine g_iconst rfl ⟨by decide, by decide⟩ ?_
                  refine x_zreturn rfl rfl (Or.inr rfl) ?_
                  intro _
                  refine g_if_ne (tgt := 17) rfl (by decide) (fun _ => ?_) (fun hx => absurd hx (by omega))
                  refine g_iload rfl rfl ?_
                  refine g_sipush rfl ⟨by decide, by decide⟩ (by decide) ?_
                  refine g_icmp_lt (tgt := 58) rfl (by decide) (fun _ => ?_) (fun hx => absurd hx (by omega))
                  refine g_iload rfl rfl ?_
                  refine g_bipush rfl ⟨by decide, by decide⟩ (by decide) ?_
                  refine g_icmp_lt (tgt := 92) rfl (by decide) (fun hx => absurd hx (by omega)) (fun _ => ?_)
                  refine g_iload rfl rfl ?_
                  refine g_bipush rfl ⟨by decide, by decide⟩ (by decide) ?_
                  refine x_isub (z := w - 100) rfl (by omega) ⟨by omega, by omega⟩ ?_
                  refine g_aload_n rfl rfl ?_
                  refine x_geti (v := (w7.1 201 62)) rfl rfl (by decide) (Or.inl rfl) rfl ?_
                  refine g_icmp_ge (tgt := 90) rfl (by decide) (fun h13 => ?_) (fun h13 => ?_)
                  · refine g_iconst rfl ⟨by decide, by decide⟩ ?_
                    refine x_ireturn rfl rfl ?_
                    exact ⟨(by first | rfl | (exfalso; omega) | exact congrArg (fun z => some (tI z)) (by rw [hs7, hm2]; done) | exact congrArg (fun z => some (tI z)) (by rw [hr7, hm1]; done) | exact congrArg (fun z => some (tI z)) ((hA7 _ (by omega) (by omega)).trans (p_M_J hM6 hJ (w - 1000) (by omega) (by omega)).symm) | exact congrArg (fun z => some (tI z)) (by rw [hwp (by omega), (hM7.2 (w - 100) (by omega) (by omega)).2, hM6.2.2.1 (w - 100) (by omega) (by omega)]; done) | exact congrArg (fun z => some (tI z)) (by rw [hs8, hs7, hm2, hw70]; done) | exact congrArg (fun z => some (tI z)) (by omega)), tp_R_kp hR hkp7⟩
                  · refine g_aload_n rfl rfl ?_
                    refine x_getF (r := 225) hG rfl rfl (by decide) (Or.inr ⟨_, rfl⟩) rfl ?_
                    refine g_iload rfl rfl ?_
                    refine g_bipush rfl ⟨by decide, by decide⟩ (by decide) ?_
                    refine x_isub (z := w - 100) rfl (by omega) ⟨by omega, by omega⟩ ?_
                    refine x_iald (v := (w7.1 225 (w - 100))) rfl rfl (by decide) (by omega) (by omega) rfl ?_
                    refine g_goto (tgt := 91) rfl (by decide) ?_
                    refine x_ireturn rfl rfl ?_
                    exact ⟨(by first | rfl | (exfalso; omega) | exact congrArg (fun z => some (tI z)) (by rw [hs7, hm2]; done) | exact congrArg (fun z => some (tI z)) (by rw [hr7, hm1]; done) | exact congrArg (fun z => some (tI z)) ((hA7 _ (by omega) (by omega)).trans (p_M_J hM6 hJ (w - 1000) (by omega) (by omega)).symm) | exact congrArg (fun z => some (tI z)) (by rw [hwp (by omega), (hM7.2 (w - 100) (by omega) (by omega)).2, hM6.2.2.1 (w - 100) (by omega) (by omega)]; done) | exact congrArg (fun z => some (tI z)) (by rw [hs8, hs7, hm2, hw70]; done) | exact congrArg (fun z => some (tI z)) (by omega)), tp_R_kp hR hkp7⟩
          · refine g_aload_n rfl rfl ?_
            refine g_iload_n rfl rfl ?_
            refine g_sipush rfl ⟨by decide, by decide⟩ (by decide) ?_
            refine x_isub (z := w - 1000) rfl (by omega) ⟨by omega, by omega⟩ ?_
            refine g_iV (as := [tI (w - 1000)]) mX4_address_ok rfl rfl rfl rfl rfl rfl (by decide) rfl rfl rfl ?_
            refine g_iload_n rfl rfl ?_
            refine g_if_lt (tgt := 19) rfl (by decide) (fun hx => absurd hx (by omega)) (fun _ => ?_)
            refine g_iload_n rfl rfl ?_
            refine g_aload_n rfl rfl ?_
            refine x_geti (v := (w6.1 76 2)) rfl rfl (by decide) (Or.inl rfl) rfl ?_
            refine g_icmp_ge (tgt := 19) rfl (by decide) (fun h14 => ?_) (fun h14 => ?_)
            · refine g_iconst rfl ⟨by decide, by decide⟩ ?_
              refine g_goto (tgt := 29) rfl (by decide) ?_
              refine x_ireturn rfl rfl ?_
              intro _
              refine x_ireturn rfl rfl ?_
              intro _
              refine x_ireturn rfl rfl ?_
              refine ⟨_, rfl, ?_⟩
              refine tp_ok_of mX12_rebuilt_ok rfl (Nat.le_refl _) ?_
              refine g_aload_n rfl rfl ?_
              refine g_iconst rfl ⟨by decide, by decide⟩ ?_
              refine g_puti rfl rfl (by decide) rfl rfl ?_
              refine g_aload_n rfl rfl ?_
              refine g_iload_n rfl rfl ?_
              refine g_iload_n rfl rfl ?_
              refine g_iload_n rfl rfl ?_
              refine g_iV (as := [tI (a : Int), tI (d : Int), tI (-1)]) mX12_layRebuilt_ok rfl rfl rfl rfl rfl rfl (by decide) rfl rfl rfl ?_
              refine g_iload_n rfl rfl ?_
              refine g_iconst rfl ⟨by decide, by decide⟩ ?_
              refine g_icmp_eq (tgt := 14) rfl (by decide) (fun _ => ?_) (fun hx => absurd hx (by omega))
              refine g_aload_n rfl rfl ?_
              refine g_iload_n rfl rfl ?_
              refine g_iload_n rfl rfl ?_
              refine g_iV (as := [tI (a : Int), tI (d : Int)]) mX12_layPackets_ok rfl rfl rfl rfl rfl rfl (by decide) rfl rfl rfl ?_
              refine g_aload_n rfl rfl ?_
              refine g_iload_n rfl rfl ?_
              refine g_iload_n rfl rfl ?_
              refine g_cV (as := [tI (a : Int), tI (d : Int)]) (hM _ (tp_kp_pi (by decide) hkp6)) rfl rfl mX12_lay_ok rfl rfl rfl (by decide) rfl rfl rfl ?_
              rintro _ w2 ⟨rfl, hTm, hMc, hGm, hdr, hdm⟩ _
              have hkp2 : tp_kp μ w2 := m_G_kp (tp_kp_pi (by decide) hkp6) hGm
              have hm6 := hTm.1
              have hall := hMc.2.2.1
              refine g_if_ne (tgt := 11) rfl (by decide) (fun _ => ?_) (fun hx => absurd hx (by omega))
              refine g_aload_n rfl rfl ?_
              refine g_aload_n rfl rfl ?_
              refine g_iconst rfl ⟨by decide, by decide⟩ ?_
              refine g_cV (as := [tI 1]) (s_of hG hMc (by omega) (by omega)) rfl rfl mX12_of_ok rfl rfl rfl (by decide) rfl rfl rfl ?_
              rintro _ w9 ⟨rfl, hw9⟩ _
              have hw9 := hw9.symm
              subst hw9
              refine g_aload_n rfl rfl ?_
              refine g_iconst rfl ⟨by decide, by decide⟩ ?_
              refine g_cV (as := [tI 2]) (s_of hG hMc (by omega) (by omega)) rfl rfl mX12_of_ok rfl rfl rfl (by decide) rfl rfl rfl ?_
              rintro _ w9 ⟨rfl, hw9⟩ _
              have hw9 := hw9.symm
              subst hw9
              refine g_cV (as := [tI (f 1), tI (f 2)]) (s_encodesM hG hw hMc hW hTm (by omega) (by omega)) rfl rfl mX12_encodes_ok rfl rfl rfl (by decide) rfl rfl rfl ?_
              rintro _ w4 ⟨rfl, hE4⟩ _
              have hkp4 : tp_kp μ w4 := fun k9 z9 => (hE4.2.2.2.1 k9 (by unfold tp_tl at z9; omega) (by unfold tp_tl at z9; omega)).trans (hkp2 k9 z9)
              rw [← hσ] at hE4
              have hMB := hE4.2.1
              have hsz4 : w4.1 201 47 = σ.1 0 9 := hE4.1.2.2.2.2.2.2.2.2.1
              have hQ4 : v_Q σ w4 := ⟨hsz4, fun i i0 i1 => ⟨(hMB i i0 i1).1, (hMB i i0 i1).2.2.2.1, (hMB i i0 i1).2.2.2.2.1⟩⟩
              have hn4 : w4.1 201 27 = n := by rw [hE4.2.2.2.2 27 (by omega)]; exact hm6
              have hA4 : ∀ j, 0 ≤ j → j < n → w4.1 212 j = A j := fun j j0 j1 => by rw [hE4.2.2.2.1 212 (by omega) (by omega)]; exact hTm.2.1 j j0 j1
              refine g_iconst rfl ⟨by decide, by decide⟩ ?_
              refine x_zreturn rfl rfl (Or.inr rfl) ?_
              intro _
              refine g_if_ne (tgt := 25) rfl (by decide) (fun _ => ?_) (fun hx => absurd hx (by omega))
              refine g_aload_n rfl rfl ?_
              refine g_iload_n rfl rfl ?_
              refine g_cV (as := [tI (-1)]) (s_byN hG hQ4 hp9 (by omega) HH) rfl rfl mX12_rebuildsBy_ok rfl rfl rfl (by decide) rfl rfl rfl ?_
              rintro _ w7 ⟨rfl, hM7, hs7, hG7⟩ _
              rw [show v_S (fun _ => 0) σ (σ.1 0 9) = v_S (v_1 (-1)) σ (σ.1 0 9) from v_S_c (fun i i0 i1 => (show v_1 (-1) i = 0 from if_neg (by omega)).symm)] at hM7 hs7
              rw [← hs] at hM7 hs7
              have hkp7 : tp_kp μ w7 := fun k9 z9 => (hG7.1 k9 (by unfold tp_tl at z9; omega) (by unfold tp_tl at z9; omega) (by unfold tp_tl at z9; omega) (by unfold tp_tl at z9; omega)).trans (hkp4 k9 z9)
              have hn7 : w7.1 201 27 = n := by rw [hG7.2 27 (by omega) (by omega)]; exact hn4
              have hA7 : ∀ j, 0 ≤ j → j < n → w7.1 212 j = A j := fun j j0 j1 => by rw [hG7.1 212 (by omega) (by omega) (by omega) (by omega)]; exact hA4 j j0 j1
              have hr7 := hM7.1
              have hQ7 : v_Q σ w7 := v_Q_G hG7 hQ4
              refine g_iconst rfl ⟨by decide, by decide⟩ ?_
              refine x_zreturn rfl rfl (Or.inr rfl) ?_
              intro _
              refine g_if_ne (tgt := 17) rfl (by decide) (fun _ => ?_) (fun hx => absurd hx (by omega))
              refine g_iload rfl rfl ?_
              refine g_sipush rfl ⟨by decide, by decide⟩ (by decide) ?_
              refine g_icmp_lt (tgt := 58) rfl (by decide) (fun hx => absurd hx (by omega)) (fun _ => ?_)
              refine g_iload rfl rfl ?_
              refine g_sipush rfl ⟨by decide, by decide⟩ (by decide) ?_
              refine x_isub (z := w - 1000) rfl (by omega) ⟨by omega, by omega⟩ ?_
              refine g_aload_n rfl rfl ?_
              refine x_geti (v := (w7.1 201 63)) rfl rfl (by decide) (Or.inl rfl) rfl ?_
              refine g_icmp_ge (tgt := 56) rfl (by decide) (fun h15 => ?_) (fun h15 => ?_)
              · refine g_iconst rfl ⟨by decide, by decide⟩ ?_
                refine x_ireturn rfl rfl ?_
                exact ⟨(by first | rfl | (exfalso; omega) | exact congrArg (fun z => some (tI z)) (by rw [hs7, hm2]; done) | exact congrArg (fun z => some (tI z)) (by rw [hr7, hm1]; done) | exact congrArg (fun z => some (tI z)) ((hA7 _ (by omega) (by omega)).trans (p_M_J hM6 hJ (w - 1000) (by omega) (by omega)).symm) | exact congrArg (fun z => some (tI z)) (by rw [hwp (by omega), (hM7.2 (w - 100) (by omega) (by omega)).2, hM6.2.2.1 (w - 100) (by omega) (by omega)]; done) | exact congrArg (fun z => some (tI z)) (by rw [hs8, hs7, hm2, hw70]; done) | exact congrArg (fun z => some (tI z)) (by omega)), tp_R_kp hR hkp7⟩
              · refine g_aload_n rfl rfl ?_
                refine x_getF (r := 212) hG rfl rfl (by decide) (Or.inr ⟨_, rfl⟩) rfl ?_
                refine g_aload_n rfl rfl ?_
                refine g_iload rfl rfl ?_
                refine g_sipush rfl ⟨by decide, by decide⟩ (by decide) ?_
                refine x_isub (z := w - 1000) rfl (by omega) ⟨by omega, by omega⟩ ?_
                refine g_cV (as := [tI (w - 1000)]) (s_rstep hG hJ (by omega) (by omega) hM7 (by omega)) rfl rfl mX12_rebuiltStep_ok rfl rfl rfl (by decide) rfl rfl rfl ?_
                rintro _ w9 ⟨rfl, hw9⟩ _
                have hw9 := hw9.symm
                subst hw9
                have hjb := hJ.2.2.2.1 (w - 1000) (by omega) (by omega)
                refine x_iald (v := (w7.1 212 (J (w - 1000)))) rfl rfl (by decide) (by omega) (by omega) rfl ?_
                refine g_goto (tgt := 57) rfl (by decide) ?_
                refine x_ireturn rfl rfl ?_
                exact ⟨(by first | rfl | (exfalso; omega) | exact congrArg (fun z => some (tI z)) (by rw [hs7, hm2]; done) | exact congrArg (fun z => some (tI z)) (by rw [hr7, hm1]; done) | exact congrArg (fun z => some (tI z)) ((hA7 _ (by omega) (by omega)).trans (p_M_J hM6 hJ (w - 1000) (by omega) (by omega)).symm) | exact congrArg (fun z => some (tI z)) (by rw [hwp (by omega), (hM7.2 (w - 100) (by omega) (by omega)).2, hM6.2.2.1 (w - 100) (by omega) (by omega)]; done) | exact congrArg (fun z => some (tI z)) (by rw [hs8, hs7, hm2, hw70]; done) | exact congrArg (fun z => some (tI z)) (by omega)), tp_R_kp hR hkp7⟩
            · refine g_iload_n rfl rfl ?_
              refine g_sipush rfl ⟨by decide, by decide⟩ (by decide) ?_
              refine g_icmp_lt (tgt := 23) rfl (by decide) (fun h16 => ?_) (fun h16 => ?_)
              · refine g_aload_n rfl rfl ?_
                refine x_getF (r := 77) hG rfl rfl (by decide) (Or.inr ⟨_, rfl⟩) rfl ?_
                refine g_iload_n rfl rfl ?_
                refine x_iald (v := (w6.1 77 (w - 1000))) rfl rfl (by decide) (by omega) (by omega) rfl ?_
                refine x_ireturn rfl rfl ?_
                intro _
                refine x_ireturn rfl rfl ?_
                intro _
                refine x_ireturn rfl rfl ?_
                refine ⟨_, rfl, ?_⟩
                refine tp_ok_of mX12_rebuilt_ok rfl (Nat.le_refl _) ?_
                refine g_aload_n rfl rfl ?_
                refine g_iconst rfl ⟨by decide, by decide⟩ ?_
                refine g_puti rfl rfl (by decide) rfl rfl ?_
                refine g_aload_n rfl rfl ?_
                refine g_iload_n rfl rfl ?_
                refine g_iload_n rfl rfl ?_
                refine g_iload_n rfl rfl ?_
                refine g_iV (as := [tI (a : Int), tI (d : Int), tI (-1)]) mX12_layRebuilt_ok rfl rfl rfl rfl rfl rfl (by decide) rfl rfl rfl ?_
                refine g_iload_n rfl rfl ?_
                refine g_iconst rfl ⟨by decide, by decide⟩ ?_
                refine g_icmp_eq (tgt := 14) rfl (by decide) (fun _ => ?_) (fun hx => absurd hx (by omega))
                refine g_aload_n rfl rfl ?_
                refine g_iload_n rfl rfl ?_
                refine g_iload_n rfl rfl ?_
                refine g_iV (as := [tI (a : Int), tI (d : Int)]) mX12_layPackets_ok rfl rfl rfl rfl rfl rfl (by decide) rfl rfl rfl ?_
                refine g_aload_n rfl rfl ?_
                refine g_iload_n rfl rfl ?_
                refine g_iload_n rfl rfl ?_
                refine g_cV (as := [tI (a : Int), tI (d : Int)]) (hM _ (tp_kp_pi (by decide) hkp6)) rfl rfl mX12_lay_ok rfl rfl rfl (by decide) rfl rfl rfl ?_
                rintro _ w2 ⟨rfl, hTm, hMc, hGm, hdr, hdm⟩ _
                have hkp2 : tp_kp μ w2 := m_G_kp (tp_kp_pi (by decide) hkp6) hGm
                have hm6 := hTm.1
                have hall := hMc.2.2.1
                refine g_if_ne (tgt := 11) rfl (by decide) (fun _ => ?_) (fun hx => absurd hx (by omega))
                refine g_aload_n rfl rfl ?_
                refine g_aload_n rfl rfl ?_
                refine g_iconst rfl ⟨by decide, by decide⟩ ?_
                refine g_cV (as := [tI 1]) (s_of hG hMc (by omega) (by omega)) rfl rfl mX12_of_ok rfl rfl rfl (by decide) rfl rfl rfl ?_
                rintro _ w9 ⟨rfl, hw9⟩ _
                have hw9 := hw9.symm
                subst hw9
                refine g_aload_n rfl rfl ?_
                refine g_iconst rfl ⟨by decide, by decide⟩ ?_
                refine g_cV (as := [tI 2]) (s_of hG hMc (by omega) (by omega)) rfl rfl mX12_of_ok rfl rfl rfl (by decide) rfl rfl rfl ?_
                rintro _ w9 ⟨rfl, hw9⟩ _
                have hw9 := hw9.symm
                subst hw9
                refine g_cV (as := [tI (f 1), tI (f 2)]) (s_encodesM hG hw hMc hW hTm (by omega) (by omega)) rfl rfl mX12_encodes_ok rfl rfl rfl (by decide) rfl rfl rfl ?_
                rintro _ w4 ⟨rfl, hE4⟩ _
                have hkp4 : tp_kp μ w4 := fun k9 z9 => (hE4.2.2.2.1 k9 (by unfold tp_tl at z9; omega) (by unfold tp_tl at z9; omega)).trans (hkp2 k9 z9)
                rw [← hσ] at hE4
                have hMB := hE4.2.1
                have hsz4 : w4.1 201 47 = σ.1 0 9 := hE4.1.2.2.2.2.2.2.2.2.1
                have hQ4 : v_Q σ w4 := ⟨hsz4, fun i i0 i1 => ⟨(hMB i i0 i1).1, (hMB i i0 i1).2.2.2.1, (hMB i i0 i1).2.2.2.2.1⟩⟩
                have hn4 : w4.1 201 27 = n := by rw [hE4.2.2.2.2 27 (by omega)]; exact hm6
                have hA4 : ∀ j, 0 ≤ j → j < n → w4.1 212 j = A j := fun j j0 j1 => by rw [hE4.2.2.2.1 212 (by omega) (by omega)]; exact hTm.2.1 j j0 j1
                refine g_iconst rfl ⟨by decide, by decide⟩ ?_
                refine x_zreturn rfl rfl (Or.inr rfl) ?_
                intro _
                refine g_if_ne (tgt := 25) rfl (by decide) (fun _ => ?_) (fun hx => absurd hx (by omega))
                refine g_aload_n rfl rfl ?_
                refine g_iload_n rfl rfl ?_
                refine g_cV (as := [tI (-1)]) (s_byN hG hQ4 hp9 (by omega) HH) rfl rfl mX12_rebuildsBy_ok rfl rfl rfl (by decide) rfl rfl rfl ?_
                rintro _ w7 ⟨rfl, hM7, hs7, hG7⟩ _
                rw [show v_S (fun _ => 0) σ (σ.1 0 9) = v_S (v_1 (-1)) σ (σ.1 0 9) from v_S_c (fun i i0 i1 => (show v_1 (-1) i = 0 from if_neg (by omega)).symm)] at hM7 hs7
                rw [← hs] at hM7 hs7
                have hkp7 : tp_kp μ w7 := fun k9 z9 => (hG7.1 k9 (by unfold tp_tl at z9; omega) (by unfold tp_tl at z9; omega) (by unfold tp_tl at z9; omega) (by unfold tp_tl at z9; omega)).trans (hkp4 k9 z9)
                have hn7 : w7.1 201 27 = n := by rw [hG7.2 27 (by omega) (by omega)]; exact hn4
                have hA7 : ∀ j, 0 ≤ j → j < n → w7.1 212 j = A j := fun j j0 j1 => by rw [hG7.1 212 (by omega) (by omega) (by omega) (by omega)]; exact hA4 j j0 j1
                have hr7 := hM7.1
                have hQ7 : v_Q σ w7 := v_Q_G hG7 hQ4
                refine g_iconst rfl ⟨by decide, by decide⟩ ?_
                refine x_zreturn rfl rfl (Or.inr rfl) ?_
                intro _
                refine g_if_ne (tgt := 17) rfl (by decide) (fun _ => ?_) (fun hx => absurd hx (by omega))
                refine g_iload rfl rfl ?_
                refine g_sipush rfl ⟨by decide, by decide⟩ (by decide) ?_
                refine g_icmp_lt (tgt := 58) rfl (by decide) (fun hx => absurd hx (by omega)) (fun _ => ?_)
                refine g_iload rfl rfl ?_
                refine g_sipush rfl ⟨by decide, by decide⟩ (by decide) ?_
                refine x_isub (z := w - 1000) rfl (by omega) ⟨by omega, by omega⟩ ?_
                refine g_aload_n rfl rfl ?_
                refine x_geti (v := (w7.1 201 63)) rfl rfl (by decide) (Or.inl rfl) rfl ?_
                refine g_icmp_ge (tgt := 56) rfl (by decide) (fun h17 => ?_) (fun h17 => ?_)
                · refine g_iconst rfl ⟨by decide, by decide⟩ ?_
                  refine x_ireturn rfl rfl ?_
                  exact ⟨(by first | rfl | (exfalso; omega) | exact congrArg (fun z => some (tI z)) (by rw [hs7, hm2]; done) | exact congrArg (fun z => some (tI z)) (by rw [hr7, hm1]; done) | exact congrArg (fun z => some (tI z)) ((hA7 _ (by omega) (by omega)).trans (p_M_J hM6 hJ (w - 1000) (by omega) (by omega)).symm) | exact congrArg (fun z => some (tI z)) (by rw [hwp (by omega), (hM7.2 (w - 100) (by omega) (by omega)).2, hM6.2.2.1 (w - 100) (by omega) (by omega)]; done) | exact congrArg (fun z => some (tI z)) (by rw [hs8, hs7, hm2, hw70]; done) | exact congrArg (fun z => some (tI z)) (by omega)), tp_R_kp hR hkp7⟩
                · refine g_aload_n rfl rfl ?_
                  refine x_getF (r := 212) hG rfl rfl (by decide) (Or.inr ⟨_, rfl⟩) rfl ?_
                  refine g_aload_n rfl rfl ?_
                  refine g_iload rfl rfl ?_
                  refine g_sipush rfl ⟨by decide, by decide⟩ (by decide) ?_
                  refine x_isub (z := w - 1000) rfl (by omega) ⟨by omega, by omega⟩ ?_
                  refine g_cV (as := [tI (w - 1000)]) (s_rstep hG hJ (by omega) (by omega) hM7 (by omega)) rfl rfl mX12_rebuiltStep_ok rfl rfl rfl (by decide) rfl rfl rfl ?_
                  rintro _ w9 ⟨rfl, hw9⟩ _
                  have hw9 := hw9.symm
                  subst hw9
                  have hjb := hJ.2.2.2.1 (w - 1000) (by omega) (by omega)
                  refine x_iald (v := (w7.1 212 (J (w - 1000)))) rfl rfl (by decide) (by omega) (by omega) rfl ?_
                  refine g_goto (tgt := 57) rfl (by decide) ?_
                  refine x_ireturn rfl rfl ?_
                  exact ⟨(by first | rfl | (exfalso; omega) | exact congrArg (fun z => some (tI z)) (by rw [hs7, hm2]; done) | exact congrArg (fun z => some (tI z)) (by rw [hr7, hm1]; done) | exact congrArg (fun z => some (tI z)) ((hA7 _ (by omega) (by omega)).trans (p_M_J hM6 hJ (w - 1000) (by omega) (by omega)).symm) | exact congrArg (fun z => some (tI z)) (by rw [hwp (by omega), (hM7.2 (w - 100) (by omega) (by omega)).2, hM6.2.2.1 (w - 100) (by omega) (by omega)]; done) | exact congrArg (fun z => some (tI z)) (by rw [hs8, hs7, hm2, hw70]; done) | exact congrArg (fun z => some (tI z)) (by omega)), tp_R_kp hR hkp7⟩
              · refine g_iconst rfl ⟨by decide, by decide⟩ ?_
                refine g_goto (tgt := 29) rfl (by decide) ?_
                refine x_ireturn rfl rfl ?_
                intro _
                refine x_ireturn rfl rfl ?_
                intro _
                refine x_ireturn rfl rfl ?_
                refine ⟨_, rfl, ?_⟩
                refine tp_ok_of mX12_rebuilt_ok rfl (Nat.le_refl _) ?_
                refine g_aload_n rfl rfl ?_
                refine g_iconst rfl ⟨by decide, by decide⟩ ?_
                refine g_puti rfl rfl (by decide) rfl rfl ?_
                refine g_aload_n rfl rfl ?_
                refine g_iload_n rfl rfl ?_
                refine g_iload_n rfl rfl ?_
                refine g_iload_n rfl rfl ?_
                refine g_iV (as := [tI (a : Int), tI (d : Int), tI (-1)]) mX12_layRebuilt_ok rfl rfl rfl rfl rfl rfl (by decide) rfl rfl rfl ?_
                refine g_iload_n rfl rfl ?_
                refine g_iconst rfl ⟨by decide, by decide⟩ ?_
                refine g_icmp_eq (tgt := 14) rfl (by decide) (fun _ => ?_) (fun hx => absurd hx (by omega))
                refine g_aload_n rfl rfl ?_
                refine g_iload_n rfl rfl ?_
                refine g_iload_n rfl rfl ?_
                refine g_iV (as := [tI (a : Int), tI (d : Int)]) mX12_layPackets_ok rfl rfl rfl rfl rfl rfl (by decide) rfl rfl rfl ?_
                refine g_aload_n rfl rfl ?_
                refine g_iload_n rfl rfl ?_
                refine g_iload_n rfl rfl ?_
                refine g_cV (as := [tI (a : Int), tI (d : Int)]) (hM _ (tp_kp_pi (by decide) hkp6)) rfl rfl mX12_lay_ok rfl rfl rfl (by decide) rfl rfl rfl ?_
                rintro _ w2 ⟨rfl, hTm, hMc, hGm, hdr, hdm⟩ _
                have hkp2 : tp_kp μ w2 := m_G_kp (tp_kp_pi (by decide) hkp6) hGm
                have hm6 := hTm.1
                have hall := hMc.2.2.1
                refine g_if_ne (tgt := 11) rfl (by decide) (fun _ => ?_) (fun hx => absurd hx (by omega))
                refine g_aload_n rfl rfl ?_
                refine g_aload_n rfl rfl ?_
                refine g_iconst rfl ⟨by decide, by decide⟩ ?_
                refine g_cV (as := [tI 1]) (s_of hG hMc (by omega) (by omega)) rfl rfl mX12_of_ok rfl rfl rfl (by decide) rfl rfl rfl ?_
                rintro _ w9 ⟨rfl, hw9⟩ _
                have hw9 := hw9.symm
                subst hw9
                refine g_aload_n rfl rfl ?_
                refine g_iconst rfl ⟨by decide, by decide⟩ ?_
                refine g_cV (as := [tI 2]) (s_of hG hMc (by omega) (by omega)) rfl rfl mX12_of_ok rfl rfl rfl (by decide) rfl rfl rfl ?_
                rintro _ w9 ⟨rfl, hw9⟩ _
                have hw9 := hw9.symm
                subst hw9
                refine g_cV (as := [tI (f 1), tI (f 2)]) (s_encodesM hG hw hMc hW hTm (by omega) (by omega)) rfl rfl mX12_encodes_ok rfl rfl rfl (by decide) rfl rfl rfl ?_
                rintro _ w4 ⟨rfl, hE4⟩ _
                have hkp4 : tp_kp μ w4 := fun k9 z9 => (hE4.2.2.2.1 k9 (by unfold tp_tl at z9; omega) (by unfold tp_tl at z9; omega)).trans (hkp2 k9 z9)
                rw [← hσ] at hE4
                have hMB := hE4.2.1
                have hsz4 : w4.1 201 47 = σ.1 0 9 := hE4.1.2.2.2.2.2.2.2.2.1
                have hQ4 : v_Q σ w4 := ⟨hsz4, fun i i0 i1 => ⟨(hMB i i0 i1).1, (hMB i i0 i1).2.2.2.1, (hMB i i0 i1).2.2.2.2.1⟩⟩
                have hn4 : w4.1 201 27 = n := by rw [hE4.2.2.2.2 27 (by omega)]; exact hm6
                have hA4 : ∀ j, 0 ≤ j → j < n → w4.1 212 j = A j := fun j j0 j1 => by rw [hE4.2.2.2.1 212 (by omega) (by omega)]; exact hTm.2.1 j j0 j1
                refine g_iconst rfl ⟨by decide, by decide⟩ ?_
                refine x_zreturn rfl rfl (Or.inr rfl) ?_
                intro _
                refine g_if_ne (tgt := 25) rfl (by decide) (fun _ => ?_) (fun hx => absurd hx (by omega))
                refine g_aload_n rfl rfl ?_
                refine g_iload_n rfl rfl ?_
                refine g_cV (as := [tI (-1)]) (s_byN hG hQ4 hp9 (by omega) HH) rfl rfl mX12_rebuildsBy_ok rfl rfl rfl (by decide) rfl rfl rfl ?_
                rintro _ w7 ⟨rfl, hM7, hs7, hG7⟩ _
                rw [show v_S (fun _ => 0) σ (σ.1 0 9) = v_S (v_1 (-1)) σ (σ.1 0 9) from v_S_c (fun i i0 i1 => (show v_1 (-1) i = 0 from if_neg (by omega)).symm)] at hM7 hs7
                rw [← hs] at hM7 hs7
                have hkp7 : tp_kp μ w7 := fun k9 z9 => (hG7.1 k9 (by unfold tp_tl at z9; omega) (by unfold tp_tl at z9; omega) (by unfold tp_tl at z9; omega) (by unfold tp_tl at z9; omega)).trans (hkp4 k9 z9)
                have hn7 : w7.1 201 27 = n := by rw [hG7.2 27 (by omega) (by omega)]; exact hn4
                have hA7 : ∀ j, 0 ≤ j → j < n → w7.1 212 j = A j := fun j j0 j1 => by rw [hG7.1 212 (by omega) (by omega) (by omega) (by omega)]; exact hA4 j j0 j1
                have hr7 := hM7.1
                have hQ7 : v_Q σ w7 := v_Q_G hG7 hQ4
                refine g_iconst rfl ⟨by decide, by decide⟩ ?_
                refine x_zreturn rfl rfl (Or.inr rfl) ?_
                intro _
                refine g_if_ne (tgt := 17) rfl (by decide) (fun _ => ?_) (fun hx => absurd hx (by omega))
                refine g_iload rfl rfl ?_
                refine g_sipush rfl ⟨by decide, by decide⟩ (by decide) ?_
                refine g_icmp_lt (tgt := 58) rfl (by decide) (fun hx => absurd hx (by omega)) (fun _ => ?_)
                refine g_iload rfl rfl ?_
                refine g_sipush rfl ⟨by decide, by decide⟩ (by decide) ?_
                refine x_isub (z := w - 1000) rfl (by omega) ⟨by omega, by omega⟩ ?_
                refine g_aload_n rfl rfl ?_
                refine x_geti (v := (w7.1 201 63)) rfl rfl (by decide) (Or.inl rfl) rfl ?_
                refine g_icmp_ge (tgt := 56) rfl (by decide) (fun h18 => ?_) (fun h18 => ?_)
                · refine g_iconst rfl ⟨by decide, by decide⟩ ?_
                  refine x_ireturn rfl rfl ?_
                  exact ⟨(by first | rfl | (exfalso; omega) | exact congrArg (fun z => some (tI z)) (by rw [hs7, hm2]; done) | exact congrArg (fun z => some (tI z)) (by rw [hr7, hm1]; done) | exact congrArg (fun z => some (tI z)) ((hA7 _ (by omega) (by omega)).trans (p_M_J hM6 hJ (w - 1000) (by omega) (by omega)).symm) | exact congrArg (fun z => some (tI z)) (by rw [hwp (by omega), (hM7.2 (w - 100) (by omega) (by omega)).2, hM6.2.2.1 (w - 100) (by omega) (by omega)]; done) | exact congrArg (fun z => some (tI z)) (by rw [hs8, hs7, hm2, hw70]; done) | exact congrArg (fun z => some (tI z)) (by omega)), tp_R_kp hR hkp7⟩
                · refine g_aload_n rfl rfl ?_
                  refine x_getF (r := 212) hG rfl rfl (by decide) (Or.inr ⟨_, rfl⟩) rfl ?_
                  refine g_aload_n rfl rfl ?_
                  refine g_iload rfl rfl ?_
                  refine g_sipush rfl ⟨by decide, by decide⟩ (by decide) ?_
                  refine x_isub (z := w - 1000) rfl (by omega) ⟨by omega, by omega⟩ ?_
                  refine g_cV (as := [tI (w - 1000)]) (s_rstep hG hJ (by omega) (by omega) hM7 (by omega)) rfl rfl mX12_rebuiltStep_ok rfl rfl rfl (by decide) rfl rfl rfl ?_
                  rintro _ w9 ⟨rfl, hw9⟩ _
                  have hw9 := hw9.symm
                  subst hw9
                  have hjb := hJ.2.2.2.1 (w - 1000) (by omega) (by omega)
                  refine x_iald (v := (w7.1 212 (J (w - 1000)))) rfl rfl (by decide) (by omega) (by omega) rfl ?_
                  refine g_goto (tgt := 57) rfl (by decide) ?_
                  refine x_ireturn rfl rfl ?_
                  exact ⟨(by first | rfl | (exfalso; omega) | exact congrArg (fun z => some (tI z)) (by rw [hs7, hm2]; done) | exact congrArg (fun z => some (tI z)) (by rw [hr7, hm1]; done) | exact congrArg (fun z => some (tI z)) ((hA7 _ (by omega) (by omega)).trans (p_M_J hM6 hJ (w - 1000) (by omega) (by omega)).symm) | exact congrArg (fun z => some (tI z)) (by rw [hwp (by omega), (hM7.2 (w - 100) (by omega) (by omega)).2, hM6.2.2.1 (w - 100) (by omega) (by omega)]; done) | exact congrArg (fun z => some (tI z)) (by rw [hs8, hs7, hm2, hw70]; done) | exact congrArg (fun z => some (tI z)) (by omega)), tp_R_kp hR hkp7⟩
        · refine g_aload_n rfl rfl ?_
          refine x_geti (v := (w6.1 76 3)) rfl rfl (by decide) (Or.inl rfl) rfl ?_
          refine x_ireturn rfl rfl ?_
          intro _
          refine x_ireturn rfl rfl ?_
          refine ⟨_, rfl, ?_⟩
          refine tp_ok_of mX12_rebuilt_ok rfl (Nat.le_refl _) ?_
          refine g_aload_n rfl rfl ?_
          refine g_iconst rfl ⟨by decide, by decide⟩ ?_
          refine g_puti rfl rfl (by decide) rfl rfl ?_
          refine g_aload_n rfl rfl ?_
          refine g_iload_n rfl rfl ?_
          refine g_iload_n rfl rfl ?_
          refine g_iload_n rfl rfl ?_
          refine g_iV (as := [tI (a : Int), tI (d : Int), tI (-1)]) mX12_layRebuilt_ok rfl rfl rfl rfl rfl rfl (by decide) rfl rfl rfl ?_
          refine g_iload_n rfl rfl ?_
          refine g_iconst rfl ⟨by decide, by decide⟩ ?_
          refine g_icmp_eq (tgt := 14) rfl (by decide) (fun _ => ?_) (fun hx => absurd hx (by omega))
          refine g_aload_n rfl rfl ?_
          refine g_iload_n rfl rfl ?_
          refine g_iload_n rfl rfl ?_
          refine g_iV (as := [tI (a : Int), tI (d : Int)]) mX12_layPackets_ok rfl rfl rfl rfl rfl rfl (by decide) rfl rfl rfl ?_
          refine g_aload_n rfl rfl ?_
          refine g_iload_n rfl rfl ?_
          refine g_iload_n rfl rfl ?_
          refine g_cV (as := [tI (a : Int), tI (d : Int)]) (hM _ (tp_kp_pi (by decide) hkp6)) rfl rfl mX12_lay_ok rfl rfl rfl (by decide) rfl rfl rfl ?_
          rintro _ w2 ⟨rfl, hTm, hMc, hGm, hdr, hdm⟩ _
          have hkp2 : tp_kp μ w2 := m_G_kp (tp_kp_pi (by decide) hkp6) hGm
          have hm6 := hTm.1
          have hall := hMc.2.2.1
          refine g_if_ne (tgt := 11) rfl (by decide) (fun _ => ?_) (fun hx => absurd hx (by omega))
          refine g_aload_n rfl rfl ?_
          refine g_aload_n rfl rfl ?_
          refine g_iconst rfl ⟨by decide, by decide⟩ ?_
          refine g_cV (as := [tI 1]) (s_of hG hMc (by omega) (by omega)) rfl rfl mX12_of_ok rfl rfl rfl (by decide) rfl rfl rfl ?_
          rintro _ w9 ⟨rfl, hw9⟩ _
          have hw9 := hw9.symm
          subst hw9
          refine g_aload_n rfl rfl ?_
          refine g_iconst rfl ⟨by decide, by decide⟩ ?_
          refine g_cV (as := [tI 2]) (s_of hG hMc (by omega) (by omega)) rfl rfl mX12_of_ok rfl rfl rfl (by decide) rfl rfl rfl ?_
          rintro _ w9 ⟨rfl, hw9⟩ _
          have hw9 := hw9.symm
          subst hw9
          refine g_cV (as := [tI (f 1), tI (f 2)]) (s_encodesM hG hw hMc hW hTm (by omega) (by omega)) rfl rfl mX12_encodes_ok rfl rfl rfl (by decide) rfl rfl rfl ?_
          rintro _ w4 ⟨rfl, hE4⟩ _
          have hkp4 : tp_kp μ w4 := fun k9 z9 => (hE4.2.2.2.1 k9 (by unfold tp_tl at z9; omega) (by unfold tp_tl at z9; omega)).trans (hkp2 k9 z9)
          rw [← hσ] at hE4
          have hMB := hE4.2.1
          have hsz4 : w4.1 201 47 = σ.1 0 9 := hE4.1.2.2.2.2.2.2.2.2.1
          have hQ4 : v_Q σ w4 := ⟨hsz4, fun i i0 i1 => ⟨(hMB i i0 i1).1, (hMB i i0 i1).2.2.2.1, (hMB i i0 i1).2.2.2.2.1⟩⟩
          have hn4 : w4.1 201 27 = n := by rw [hE4.2.2.2.2 27 (by omega)]; exact hm6
          have hA4 : ∀ j, 0 ≤ j → j < n → w4.1 212 j = A j := fun j j0 j1 => by rw [hE4.2.2.2.1 212 (by omega) (by omega)]; exact hTm.2.1 j j0 j1
          refine g_iconst rfl ⟨by decide, by decide⟩ ?_
          refine x_zreturn rfl rfl (Or.inr rfl) ?_
          intro _
          refine g_if_ne (tgt := 25) rfl (by decide) (fun _ => ?_) (fun hx => absurd hx (by omega))
          refine g_aload_n rfl rfl ?_
          refine g_iload_n rfl rfl ?_
          refine g_cV (as := [tI (-1)]) (s_byN hG hQ4 hp9 (by omega) HH) rfl rfl mX12_rebuildsBy_ok rfl rfl rfl (by decide) rfl rfl rfl ?_
          rintro _ w7 ⟨rfl, hM7, hs7, hG7⟩ _
          rw [show v_S (fun _ => 0) σ (σ.1 0 9) = v_S (v_1 (-1)) σ (σ.1 0 9) from v_S_c (fun i i0 i1 => (show v_1 (-1) i = 0 from if_neg (by omega)).symm)] at hM7 hs7
          rw [← hs] at hM7 hs7
          have hkp7 : tp_kp μ w7 := fun k9 z9 => (hG7.1 k9 (by unfold tp_tl at z9; omega) (by unfold tp_tl at z9; omega) (by unfold tp_tl at z9; omega) (by unfold tp_tl at z9; omega)).trans (hkp4 k9 z9)
          have hn7 : w7.1 201 27 = n := by rw [hG7.2 27 (by omega) (by omega)]; exact hn4
          have hA7 : ∀ j, 0 ≤ j → j < n → w7.1 212 j = A j := fun j j0 j1 => by rw [hG7.1 212 (by omega) (by omega) (by omega) (by omega)]; exact hA4 j j0 j1
          have hr7 := hM7.1
          have hQ7 : v_Q σ w7 := v_Q_G hG7 hQ4
          refine g_iconst rfl ⟨by decide, by decide⟩ ?_
          refine x_zreturn rfl rfl (Or.inr rfl) ?_
          intro _
          refine g_if_ne (tgt := 17) rfl (by decide) (fun _ => ?_) (fun hx => absurd hx (by omega))
          refine g_iload rfl rfl ?_
          refine g_sipush rfl ⟨by decide, by decide⟩ (by decide) ?_
          refine g_icmp_lt (tgt := 58) rfl (by decide) (fun _ => ?_) (fun hx => absurd hx (by omega))
          refine g_iload rfl rfl ?_
          refine g_bipush rfl ⟨by decide, by decide⟩ (by decide) ?_
          refine g_icmp_lt (tgt := 92) rfl (by decide) (fun _ => ?_) (fun hx => absurd hx (by omega))
          refine g_iload rfl rfl ?_
          refine g_if_ne (tgt := 104) rfl (by decide) (fun _ => ?_) (fun hx => absurd hx (by omega))
          refine g_iload rfl rfl ?_
          refine g_iconst rfl ⟨by decide, by decide⟩ ?_
          refine g_icmp_ne (tgt := 117) rfl (by decide) (fun hx => absurd hx (by omega)) (fun _ => ?_)
          refine g_aload_n rfl rfl ?_
          refine x_geti (v := (w7.1 201 62)) rfl rfl (by decide) (Or.inl rfl) rfl ?_
          refine g_goto (tgt := 131) rfl (by decide) ?_
          refine x_ireturn rfl rfl ?_
          exact ⟨(by first | rfl | (exfalso; omega) | exact congrArg (fun z => some (tI z)) (by rw [hs7, hm2]; done) | exact congrArg (fun z => some (tI z)) (by rw [hr7, hm1]; done) | exact congrArg (fun z => some (tI z)) ((hA7 _ (by omega) (by omega)).trans (p_M_J hM6 hJ (w - 1000) (by omega) (by omega)).symm) | exact congrArg (fun z => some (tI z)) (by rw [hwp (by omega), (hM7.2 (w - 100) (by omega) (by omega)).2, hM6.2.2.1 (w - 100) (by omega) (by omega)]; done) | exact congrArg (fun z => some (tI z)) (by rw [hs8, hs7, hm2, hw70]; done) | exact congrArg (fun z => some (tI z)) (by omega)), tp_R_kp hR hkp7⟩
      · refine g_aload_n rfl rfl ?_
        refine x_geti (v := (w6.1 76 2)) rfl rfl (by decide) (Or.inl rfl) rfl ?_
        refine x_ireturn rfl rfl ?_
        intro _
        refine x_ireturn rfl rfl ?_
        refine ⟨_, rfl, ?_⟩
        refine tp_ok_of mX12_rebuilt_ok rfl (Nat.le_refl _) ?_
        refine g_aload_n rfl rfl ?_
        refine g_iconst rfl ⟨by decide, by decide⟩ ?_
        refine g_puti rfl rfl (by decide) rfl rfl ?_
        refine g_aload_n rfl rfl ?_
        refine g_iload_n rfl rfl ?_
        refine g_iload_n rfl rfl ?_
        refine g_iload_n rfl rfl ?_
        refine g_iV (as := [tI (a : Int), tI (d : Int), tI (-1)]) mX12_layRebuilt_ok rfl rfl rfl rfl rfl rfl (by decide) rfl rfl rfl ?_
        refine g_iload_n rfl rfl ?_
        refine g_iconst rfl ⟨by decide, by decide⟩ ?_
        refine g_icmp_eq (tgt := 14) rfl (by decide) (fun _ => ?_) (fun hx => absurd hx (by omega))
        refine g_aload_n rfl rfl ?_
        refine g_iload_n rfl rfl ?_
        refine g_iload_n rfl rfl ?_
        refine g_iV (as := [tI (a : Int), tI (d : Int)]) mX12_layPackets_ok rfl rfl rfl rfl rfl rfl (by decide) rfl rfl rfl ?_
        refine g_aload_n rfl rfl ?_
        refine g_iload_n rfl rfl ?_
        refine g_iload_n rfl rfl ?_
        refine g_cV (as := [tI (a : Int), tI (d : Int)]) (hM _ (tp_kp_pi (by decide) hkp6)) rfl rfl mX12_lay_ok rfl rfl rfl (by decide) rfl rfl rfl ?_
        rintro _ w2 ⟨rfl, hTm, hMc, hGm, hdr, hdm⟩ _
        have hkp2 : tp_kp μ w2 := m_G_kp (tp_kp_pi (by decide) hkp6) hGm
        have hm6 := hTm.1
        have hall := hMc.2.2.1
        refine g_if_ne (tgt := 11) rfl (by decide) (fun _ => ?_) (fun hx => absurd hx (by omega))
        refine g_aload_n rfl rfl ?_
        refine g_aload_n rfl rfl ?_
        refine g_iconst rfl ⟨by decide, by decide⟩ ?_
        refine g_cV (as := [tI 1]) (s_of hG hMc (by omega) (by omega)) rfl rfl mX12_of_ok rfl rfl rfl (by decide) rfl rfl rfl ?_
        rintro _ w9 ⟨rfl, hw9⟩ _
        have hw9 := hw9.symm
        subst hw9
        refine g_aload_n rfl rfl ?_
        refine g_iconst rfl ⟨by decide, by decide⟩ ?_
        refine g_cV (as := [tI 2]) (s_of hG hMc (by omega) (by omega)) rfl rfl mX12_of_ok rfl rfl rfl (by decide) rfl rfl rfl ?_
        rintro _ w9 ⟨rfl, hw9⟩ _
        have hw9 := hw9.symm
        subst hw9
        refine g_cV (as := [tI (f 1), tI (f 2)]) (s_encodesM hG hw hMc hW hTm (by omega) (by omega)) rfl rfl mX12_encodes_ok rfl rfl rfl (by decide) rfl rfl rfl ?_
        rintro _ w4 ⟨rfl, hE4⟩ _
        have hkp4 : tp_kp μ w4 := fun k9 z9 => (hE4.2.2.2.1 k9 (by unfold tp_tl at z9; omega) (by unfold tp_tl at z9; omega)).trans (hkp2 k9 z9)
        rw [← hσ] at hE4
        have hMB := hE4.2.1
        have hsz4 : w4.1 201 47 = σ.1 0 9 := hE4.1.2.2.2.2.2.2.2.2.1
        have hQ4 : v_Q σ w4 := ⟨hsz4, fun i i0 i1 => ⟨(hMB i i0 i1).1, (hMB i i0 i1).2.2.2.1, (hMB i i0 i1).2.2.2.2.1⟩⟩
        have hn4 : w4.1 201 27 = n := by rw [hE4.2.2.2.2 27 (by omega)]; exact hm6
        have hA4 : ∀ j, 0 ≤ j → j < n → w4.1 212 j = A j := fun j j0 j1 => by rw [hE4.2.2.2.1 212 (by omega) (by omega)]; exact hTm.2.1 j j0 j1
        refine g_iconst rfl ⟨by decide, by decide⟩ ?_
        refine x_zreturn rfl rfl (Or.inr rfl) ?_
        intro _
        refine g_if_ne (tgt := 25) rfl (by decide) (fun _ => ?_) (fun hx => absurd hx (by omega))
        refine g_aload_n rfl rfl ?_
        refine g_iload_n rfl rfl ?_
        refine g_cV (as := [tI (-1)]) (s_byN hG hQ4 hp9 (by omega) HH) rfl rfl mX12_rebuildsBy_ok rfl rfl rfl (by decide) rfl rfl rfl ?_
        rintro _ w7 ⟨rfl, hM7, hs7, hG7⟩ _
        rw [show v_S (fun _ => 0) σ (σ.1 0 9) = v_S (v_1 (-1)) σ (σ.1 0 9) from v_S_c (fun i i0 i1 => (show v_1 (-1) i = 0 from if_neg (by omega)).symm)] at hM7 hs7
        rw [← hs] at hM7 hs7
        have hkp7 : tp_kp μ w7 := fun k9 z9 => (hG7.1 k9 (by unfold tp_tl at z9; omega) (by unfold tp_tl at z9; omega) (by unfold tp_tl at z9; omega) (by unfold tp_tl at z9; omega)).trans (hkp4 k9 z9)
        have hn7 : w7.1 201 27 = n := by rw [hG7.2 27 (by omega) (by omega)]; exact hn4
        have hA7 : ∀ j, 0 ≤ j → j < n → w7.1 212 j = A j := fun j j0 j1 => by rw [hG7.1 212 (by omega) (by omega) (by omega) (by omega)]; exact hA4 j j0 j1
        have hr7 := hM7.1
        have hQ7 : v_Q σ w7 := v_Q_G hG7 hQ4
        refine g_iconst rfl ⟨by decide, by decide⟩ ?_
        refine x_zreturn rfl rfl (Or.inr rfl) ?_
        intro _
        refine g_if_ne (tgt := 17) rfl (by decide) (fun _ => ?_) (fun hx => absurd hx (by omega))
        refine g_iload rfl rfl ?_
        refine g_sipush rfl ⟨by decide, by decide⟩ (by decide) ?_
        refine g_icmp_lt (tgt := 58) rfl (by decide) (fun _ => ?_) (fun hx => absurd hx (by omega))
        refine g_iload rfl rfl ?_
        refine g_bipush rfl ⟨by decide, by decide⟩ (by decide) ?_
        refine g_icmp_lt (tgt := 92) rfl (by decide) (fun _ => ?_) (fun hx => absurd hx (by omega))
        refine g_iload rfl rfl ?_
        refine g_if_ne (tgt := 104) rfl (by decide) (fun hx => absurd hx (by omega)) (fun _ => ?_)
        refine g_aload_n rfl rfl ?_
        refine x_geti (v := (w7.1 201 63)) rfl rfl (by decide) (Or.inl rfl) rfl ?_
        refine g_goto (tgt := 131) rfl (by decide) ?_
        refine x_ireturn rfl rfl ?_
        exact ⟨(by first | rfl | (exfalso; omega) | exact congrArg (fun z => some (tI z)) (by rw [hs7, hm2]; done) | exact congrArg (fun z => some (tI z)) (by rw [hr7, hm1]; done) | exact congrArg (fun z => some (tI z)) ((hA7 _ (by omega) (by omega)).trans (p_M_J hM6 hJ (w - 1000) (by omega) (by omega)).symm) | exact congrArg (fun z => some (tI z)) (by rw [hwp (by omega), (hM7.2 (w - 100) (by omega) (by omega)).2, hM6.2.2.1 (w - 100) (by omega) (by omega)]; done) | exact congrArg (fun z => some (tI z)) (by rw [hs8, hs7, hm2, hw70]; done) | exact congrArg (fun z => some (tI z)) (by omega)), tp_R_kp hR hkp7⟩
    · refine g_aload_n rfl rfl ?_
      refine x_getF (r := 70) hG rfl rfl (by decide) (Or.inl ⟨_, rfl⟩) rfl ?_
      refine x_geti (v := (w6.1 70 6)) rfl rfl (by decide) (Or.inl rfl) rfl ?_
      refine g_aload_n rfl rfl ?_
      refine x_getF (r := 76) hG rfl rfl (by decide) (Or.inl ⟨_, rfl⟩) rfl ?_
      refine x_geti (v := (w6.1 76 2)) rfl rfl (by decide) (Or.inl rfl) rfl ?_
      refine x_isub (z := (w6.1 70 6) - (w6.1 76 2)) rfl (by omega) ⟨by omega, by omega⟩ ?_
      refine g_goto (tgt := 75) rfl (by decide) ?_
      refine x_ireturn rfl rfl ?_
      refine ⟨_, rfl, ?_⟩
      refine tp_ok_of mX12_rebuilt_ok rfl (Nat.le_refl _) ?_
      refine g_aload_n rfl rfl ?_
      refine g_iconst rfl ⟨by decide, by decide⟩ ?_
      refine g_puti rfl rfl (by decide) rfl rfl ?_
      refine g_aload_n rfl rfl ?_
      refine g_iload_n rfl rfl ?_
      refine g_iload_n rfl rfl ?_
      refine g_iload_n rfl rfl ?_
      refine g_iV (as := [tI (a : Int), tI (d : Int), tI (-1)]) mX12_layRebuilt_ok rfl rfl rfl rfl rfl rfl (by decide) rfl rfl rfl ?_
      refine g_iload_n rfl rfl ?_
      refine g_iconst rfl ⟨by decide, by decide⟩ ?_
      refine g_icmp_eq (tgt := 14) rfl (by decide) (fun _ => ?_) (fun hx => absurd hx (by omega))
      refine g_aload_n rfl rfl ?_
      refine g_iload_n rfl rfl ?_
      refine g_iload_n rfl rfl ?_
      refine g_iV (as := [tI (a : Int), tI (d : Int)]) mX12_layPackets_ok rfl rfl rfl rfl rfl rfl (by decide) rfl rfl rfl ?_
      refine g_aload_n rfl rfl ?_
      refine g_iload_n rfl rfl ?_
      refine g_iload_n rfl rfl ?_
      refine g_cV (as := [tI (a : Int), tI (d : Int)]) (hM _ (tp_kp_pi (by decide) hkp6)) rfl rfl mX12_lay_ok rfl rfl rfl (by decide) rfl rfl rfl ?_
      rintro _ w2 ⟨rfl, hTm, hMc, hGm, hdr, hdm⟩ _
      have hkp2 : tp_kp μ w2 := m_G_kp (tp_kp_pi (by decide) hkp6) hGm
      have hm6 := hTm.1
      have hall := hMc.2.2.1
      refine g_if_ne (tgt := 11) rfl (by decide) (fun _ => ?_) (fun hx => absurd hx (by omega))
      refine g_aload_n rfl rfl ?_
      refine g_aload_n rfl rfl ?_
      refine g_iconst rfl ⟨by decide, by decide⟩ ?_
      refine g_cV (as := [tI 1]) (s_of hG hMc (by omega) (by omega)) rfl rfl mX12_of_ok rfl rfl rfl (by decide) rfl rfl rfl ?_
      rintro _ w9 ⟨rfl, hw9⟩ _
      have hw9 := hw9.symm
      subst hw9
      refine g_aload_n rfl rfl ?_
      refine g_iconst rfl ⟨by decide, by decide⟩ ?_
      refine g_cV (as := [tI 2]) (s_of hG hMc (by omega) (by omega)) rfl rfl mX12_of_ok rfl rfl rfl (by decide) rfl rfl rfl ?_
      rintro _ w9 ⟨rfl, hw9⟩ _
      have hw9 := hw9.symm
      subst hw9
      refine g_cV (as := [tI (f 1), tI (f 2)]) (s_encodesM hG hw hMc hW hTm (by omega) (by omega)) rfl rfl mX12_encodes_ok rfl rfl rfl (by decide) rfl rfl rfl ?_
      rintro _ w4 ⟨rfl, hE4⟩ _
      have hkp4 : tp_kp μ w4 := fun k9 z9 => (hE4.2.2.2.1 k9 (by unfold tp_tl at z9; omega) (by unfold tp_tl at z9; omega)).trans (hkp2 k9 z9)
      rw [← hσ] at hE4
      have hMB := hE4.2.1
      have hsz4 : w4.1 201 47 = σ.1 0 9 := hE4.1.2.2.2.2.2.2.2.2.1
      have hQ4 : v_Q σ w4 := ⟨hsz4, fun i i0 i1 => ⟨(hMB i i0 i1).1, (hMB i i0 i1).2.2.2.1, (hMB i i0 i1).2.2.2.2.1⟩⟩
      have hn4 : w4.1 201 27 = n := by rw [hE4.2.2.2.2 27 (by omega)]; exact hm6
      have hA4 : ∀ j, 0 ≤ j → j < n → w4.1 212 j = A j := fun j j0 j1 => by rw [hE4.2.2.2.1 212 (by omega) (by omega)]; exact hTm.2.1 j j0 j1
      refine g_iconst rfl ⟨by decide, by decide⟩ ?_
      refine x_zreturn rfl rfl (Or.inr rfl) ?_
      intro _
      refine g_if_ne (tgt := 25) rfl (by decide) (fun _ => ?_) (fun hx => absurd hx (by omega))
      refine g_aload_n rfl rfl ?_
      refine g_iload_n rfl rfl ?_
      refine g_cV (as := [tI (-1)]) (s_byN hG hQ4 hp9 (by omega) HH) rfl rfl mX12_rebuildsBy_ok rfl rfl rfl (by decide) rfl rfl rfl ?_
      rintro _ w7 ⟨rfl, hM7, hs7, hG7⟩ _
      rw [show v_S (fun _ => 0) σ (σ.1 0 9) = v_S (v_1 (-1)) σ (σ.1 0 9) from v_S_c (fun i i0 i1 => (show v_1 (-1) i = 0 from if_neg (by omega)).symm)] at hM7 hs7
      rw [← hs] at hM7 hs7
      have hkp7 : tp_kp μ w7 := fun k9 z9 => (hG7.1 k9 (by unfold tp_tl at z9; omega) (by unfold tp_tl at z9; omega) (by unfold tp_tl at z9; omega) (by unfold tp_tl at z9; omega)).trans (hkp4 k9 z9)
      have hn7 : w7.1 201 27 = n := by rw [hG7.2 27 (by omega) (by omega)]; exact hn4
      have hA7 : ∀ j, 0 ≤ j → j < n → w7.1 212 j = A j := fun j j0 j1 => by rw [hG7.1 212 (by omega) (by omega) (by omega) (by omega)]; exact hA4 j j0 j1
      have hr7 := hM7.1
      have hQ7 : v_Q σ w7 := v_Q_G hG7 hQ4
      refine g_iconst rfl ⟨by decide, by decide⟩ ?_
      refine x_zreturn rfl rfl (Or.inr rfl) ?_
      intro _
      refine g_if_ne (tgt := 17) rfl (by decide) (fun _ => ?_) (fun hx => absurd hx (by omega))
      refine g_iload rfl rfl ?_
      refine g_sipush rfl ⟨by decide, by decide⟩ (by decide) ?_
      refine g_icmp_lt (tgt := 58) rfl (by decide) (fun _ => ?_) (fun hx => absurd hx (by omega))
      refine g_iload rfl rfl ?_
      refine g_bipush rfl ⟨by decide, by decide⟩ (by decide) ?_
      refine g_icmp_lt (tgt := 92) rfl (by decide) (fun _ => ?_) (fun hx => absurd hx (by omega))
      refine g_iload rfl rfl ?_
      refine g_if_ne (tgt := 104) rfl (by decide) (fun _ => ?_) (fun hx => absurd hx (by omega))
      refine g_iload rfl rfl ?_
      refine g_iconst rfl ⟨by decide, by decide⟩ ?_
      refine g_icmp_ne (tgt := 117) rfl (by decide) (fun _ => ?_) (fun hx => absurd hx (by omega))
      refine g_iload rfl rfl ?_
      refine g_iconst rfl ⟨by decide, by decide⟩ ?_
      refine g_icmp_ne (tgt := 130) rfl (by decide) (fun hx => absurd hx (by omega)) (fun _ => ?_)
      refine g_aload_n rfl rfl ?_
      refine g_iV (as := []) mX12_cost_ok rfl rfl rfl rfl rfl rfl (by decide) rfl rfl rfl ?_
      refine g_aload_n rfl rfl ?_
      refine x_geti (v := (w7.1 201 63)) rfl rfl (by decide) (Or.inl rfl) rfl ?_
      refine g_istore_n rfl rfl rfl ?_
      refine g_aload_n rfl rfl ?_
      refine g_iconst rfl ⟨by decide, by decide⟩ ?_
      refine g_cV (as := [tI (-1)]) (s_but (a := -1) hG hQ7 hp9 (by omega) HH) rfl rfl mX12_rebuildsBut_ok rfl rfl rfl (by decide) rfl rfl rfl ?_
      rintro _ w8 ⟨rfl, hM8, hs8, hG8⟩ _
      have hkp8 : tp_kp μ w8 := fun k9 z9 => (hG8.1 k9 (by unfold tp_tl at z9; omega) (by unfold tp_tl at z9; omega) (by unfold tp_tl at z9; omega) (by unfold tp_tl at z9; omega)).trans (hkp7 k9 z9)
      have hU8 := (v_U (l := v_1 (-1)) HH (fun i i0 i1 => if_neg (by omega)) (σ.1 0 9).toNat (by omega)).2.1
      rw [show (((σ.1 0 9).toNat : Nat) : Int) = σ.1 0 9 by omega] at hU8
      rw [hU8] at hs8
      refine g_aload_n rfl rfl ?_
      refine x_geti (v := (w8.1 201 63)) rfl rfl (by decide) (Or.inl rfl) rfl ?_
      refine g_iload_n rfl rfl ?_
      refine x_isub (z := (w8.1 201 63) - (w7.1 201 63)) rfl (by omega) ⟨by omega, by omega⟩ ?_
      refine x_ireturn rfl rfl ?_
      intro _
      refine g_goto (tgt := 131) rfl (by decide) ?_
      refine x_ireturn rfl rfl ?_
      exact ⟨(by first | (exfalso; omega) | exact congrArg (fun z => some (tI z)) (by rw [hs8, hs7, hm2, hw70])), tp_R_kp hR hkp8⟩
set_option maxHeartbeats 4000000 in
set_option maxRecDepth 100000 in
theorem p_rebuilt0 {G : tp_G} (hG : tp_Gf G = true) {a d w : Int} {μ : tp_M} (hR : tp_R μ) (hld : 0 < μ.1 5 2) (hwr : tp_r32 w) : tp_q G mX11_rebuilt mX12_rebuilt [tI a, tI d, tI 0, tI w] μ := by
  have hm2l := tp_R_many hR 2 (by decide) (by decide)
  have hm0 := tp_R_many hR 0 (by decide) (by decide)
  have hm1 := tp_R_many hR 1 (by decide) (by decide)
  by_cases hab : ((a < 0 ∨ μ.1 5 0 ≤ a) ∨ (d < 0 ∨ μ.1 5 1 ≤ d))
  · obtain ⟨hX, hM⟩ := tp_layo hG hR hab
    refine tp_ok_of mX11_rebuilt_ok rfl (Nat.le_refl _) ?_
    refine g_aload_n rfl rfl ?_
    refine x_getF (r := 1) hG rfl rfl (by decide) (Or.inl ⟨_, rfl⟩) rfl ?_
    refine g_iconst rfl ⟨by decide, by decide⟩ ?_
    refine g_iload_n rfl rfl ?_
    refine g_cV (as := [tI 2, tI 0]) (s_rowOf20 hG hld) rfl rfl mX9_rowOf_ok rfl rfl rfl (by decide) rfl rfl rfl ?_
    rintro _ w9 ⟨rfl, hw9⟩ _
    have hw9 := hw9.symm
    subst hw9
    refine g_astore rfl rfl rfl ?_
    refine g_aload rfl rfl ?_
    refine g_ifnonnull (tgt := 21) rfl (by decide) (fun _ _ => ?_) (fun hx => by cases hx)
    refine g_aload_n rfl rfl ?_
    refine g_iload_n rfl rfl ?_
    refine g_iload_n rfl rfl ?_
    refine g_cV (as := [tI a, tI d]) (hX) rfl rfl mX11_follow_ok rfl rfl rfl (by decide) rfl rfl rfl ?_
    rintro _ w9 ⟨rfl, hw9⟩ _
    have hw9 := hw9.symm
    subst hw9
    refine g_if_ne (tgt := 32) rfl (by decide) (fun hx => absurd hx (by omega)) (fun _ => ?_)
    refine g_iconst rfl ⟨by decide, by decide⟩ ?_
    refine x_ireturn rfl rfl ?_
    refine ⟨_, rfl, ?_⟩
    refine tp_ok_of mX12_rebuilt_ok rfl (Nat.le_refl _) ?_
    refine g_aload_n rfl rfl ?_
    refine g_iconst rfl ⟨by decide, by decide⟩ ?_
    refine g_puti rfl rfl (by decide) rfl rfl ?_
    refine g_aload_n rfl rfl ?_
    refine g_iload_n rfl rfl ?_
    refine g_iload_n rfl rfl ?_
    refine g_iload_n rfl rfl ?_
    refine g_iV (as := [tI a, tI d, tI 0]) mX12_layRebuilt_ok rfl rfl rfl rfl rfl rfl (by decide) rfl rfl rfl ?_
    refine g_iload_n rfl rfl ?_
    refine g_iconst rfl ⟨by decide, by decide⟩ ?_
    refine g_icmp_eq (tgt := 14) rfl (by decide) (fun hx => absurd hx (by omega)) (fun _ => ?_)
    refine g_aload_n rfl rfl ?_
    refine g_iconst rfl ⟨by decide, by decide⟩ ?_
    refine g_iload_n rfl rfl ?_
    refine g_iV (as := [tI 2, tI 0]) mX12_is_ok rfl rfl rfl rfl rfl rfl (by decide) rfl rfl rfl ?_
    refine g_iload_n rfl rfl ?_
    refine g_iconst rfl ⟨by decide, by decide⟩ ?_
    refine g_aload_n rfl rfl ?_
    refine x_getF (r := 206) hG rfl rfl (by decide) (Or.inr ⟨_, rfl⟩) rfl ?_
    refine g_iload_n rfl rfl ?_
    refine x_iald (v := (μ.1 206 2)) rfl rfl (by decide) (by decide) (by decide) rfl ?_
    refine g_iconst rfl ⟨by decide, by decide⟩ ?_
    refine x_isub (z := (μ.1 206 2) - 1) rfl (by omega) ⟨by omega, by omega⟩ ?_
    refine g_iS (as := [tI 0, tI 0, tI ((μ.1 206 2) - 1)]) mX12_in_ok rfl rfl rfl rfl rfl rfl rfl ?_
    refine g_iload_n rfl rfl ?_
    refine g_iload_n rfl rfl ?_
    refine g_icmp_lt (tgt := 14) rfl (by decide) (fun hx => absurd hx (by omega)) (fun _ => ?_)
    refine g_iload_n rfl rfl ?_
    refine g_iload_n rfl rfl ?_
    refine g_icmp_gt (tgt := 14) rfl (by decide) (fun hx => absurd hx (by omega)) (fun _ => ?_)
    refine g_iconst rfl ⟨by decide, by decide⟩ ?_
    refine g_goto (tgt := 15) rfl (by decide) ?_
    refine x_zreturn rfl rfl (Or.inr rfl) ?_
    intro _
    refine x_zreturn rfl rfl (Or.inr rfl) ?_
    intro _
    refine g_if_eq (tgt := 23) rfl (by decide) (fun hx => absurd hx (by omega)) (fun _ => ?_)
    refine g_aload_n rfl rfl ?_
    refine g_iload_n rfl rfl ?_
    refine g_iload_n rfl rfl ?_
    refine g_iV (as := [tI a, tI d]) mX12_layPackets_ok rfl rfl rfl rfl rfl rfl (by decide) rfl rfl rfl ?_
    refine g_aload_n rfl rfl ?_
    refine g_iload_n rfl rfl ?_
    refine g_iload_n rfl rfl ?_
    refine g_cV (as := [tI a, tI d]) (hM _ (tp_kp_pi (by decide) tp_kp_rf)) rfl rfl mX12_lay_ok rfl rfl rfl (by decide) rfl rfl rfl ?_
    rintro _ w2 ⟨rfl, hGm⟩ _
    have hkp2 : tp_kp μ w2 := m_G_kp (tp_kp_pi (by decide) tp_kp_rf) hGm
    refine g_if_ne (tgt := 11) rfl (by decide) (fun hx => absurd hx (by omega)) (fun _ => ?_)
    refine g_iconst rfl ⟨by decide, by decide⟩ ?_
    refine x_zreturn rfl rfl (Or.inl rfl) ?_
    intro _
    refine g_if_ne (tgt := 25) rfl (by decide) (fun hx => absurd hx (by omega)) (fun _ => ?_)
    refine g_iconst rfl ⟨by decide, by decide⟩ ?_
    refine x_zreturn rfl rfl (Or.inl rfl) ?_
    intro _
    refine g_if_ne (tgt := 17) rfl (by decide) (fun hx => absurd hx (by omega)) (fun _ => ?_)
    refine g_iconst rfl ⟨by decide, by decide⟩ ?_
    refine x_ireturn rfl rfl ?_
    exact ⟨rfl, tp_R_kp hR hkp2⟩
  · obtain ⟨a, rfl⟩ : ∃ a9 : Nat, a = (a9 : Int) := ⟨a.toNat, by omega⟩
    obtain ⟨d, rfl⟩ : ∃ d9 : Nat, d = (d9 : Int) := ⟨d.toNat, by omega⟩
    obtain ⟨n, A, B, Y, H, E, D, U, T, hW, hw, hCd0, hX, hM⟩ := tp_lay hG hR (k := a) (d := d) (by omega) (by omega) (by omega) (by omega)
    generalize tp_cf μ (a : Int) = f at hW hw hCd0 hX hM
    obtain ⟨c, hcE⟩ : ∃ c, c = 6 + 5 * a := ⟨_, rfl⟩
    rw [← hcE] at hCd0 hX
    have hc : tp_SH c = .inl 0 := by rcases (show a = 0 ∨ a = 1 by omega) with q | q <;> (subst q; subst hcE; rfl)
    have hcl : c < 37 := by omega
    have hcn : c < 234 := by omega
    have hw0 := hw.1
    have hn0 := hW.1
    have hrl := hw.2.2
    have hwl := hwr.1
    have hwu := hwr.2
    have hwp : 100 ≤ w → tp_w (w - 100) = w - 100 := fun z => tp_w_id ⟨by omega, by omega⟩
    refine tp_ok_of mX11_rebuilt_ok rfl (Nat.le_refl _) ?_
    refine g_aload_n rfl rfl ?_
    refine x_getF (r := 1) hG rfl rfl (by decide) (Or.inl ⟨_, rfl⟩) rfl ?_
    refine g_iconst rfl ⟨by decide, by decide⟩ ?_
    refine g_iload_n rfl rfl ?_
    refine g_cV (as := [tI 2, tI 0]) (s_rowOf20 hG hld) rfl rfl mX9_rowOf_ok rfl rfl rfl (by decide) rfl rfl rfl ?_
    rintro _ w9 ⟨rfl, hw9⟩ _
    have hw9 := hw9.symm
    subst hw9
    refine g_astore rfl rfl rfl ?_
    refine g_aload rfl rfl ?_
    refine g_ifnonnull (tgt := 21) rfl (by decide) (fun _ _ => ?_) (fun hx => by cases hx)
    refine g_aload_n rfl rfl ?_
    refine g_iload_n rfl rfl ?_
    refine g_iload_n rfl rfl ?_
    refine g_cV (as := [tI (a : Int), tI (d : Int)]) (hX) rfl rfl mX11_follow_ok rfl rfl rfl (by decide) rfl rfl rfl ?_
    rintro _ w1 ⟨rfl, hT, hco, hfr⟩ _
    have hCd : tp_Cd c f w1 := tp_Cd_fr hcl (fun k9 z9 => hfr k9 (by omega)) hCd0
    have hkp1 : tp_kp μ w1 := fun k9 z9 => hfr k9 (by unfold tp_tl at z9; omega)
    have hn6 := hT.1
    refine g_if_ne (tgt := 32) rfl (by decide) (fun _ => ?_) (fun hx => absurd hx (by omega))
    refine g_aload_n rfl rfl ?_
    refine g_iV (as := []) mX11_encode_ok rfl rfl rfl rfl rfl rfl (by decide) rfl rfl rfl ?_
    refine g_aload_n rfl rfl ?_
    refine x_getF (r := 50) hG rfl rfl (by decide) (Or.inl ⟨_, rfl⟩) rfl ?_
    refine x_getM (v := (some c)) hG rfl rfl (by decide) (Or.inl ⟨_, rfl⟩) rfl (by first | exact hco | exact hco3 | exact hco5) ?_
    refine g_astore_n rfl rfl rfl ?_
    refine g_aload_n rfl rfl ?_
    refine g_ifnull (tgt := 34) rfl (by decide) (fun hx => by cases hx) (fun _ _ => ?_)
    refine g_aload_n rfl rfl ?_
    refine x_getF (r := 62) hG rfl rfl (by decide) (Or.inl ⟨_, rfl⟩) rfl ?_
    refine g_aload_n rfl rfl ?_
    refine g_aload_n rfl rfl ?_
    refine x_getF (r := 50) hG rfl rfl (by decide) (Or.inl ⟨_, rfl⟩) rfl ?_
    refine g_aload_n rfl rfl ?_
    refine g_iconst rfl ⟨by decide, by decide⟩ ?_
    refine g_cV (as := [tI 0]) (s_ruleN (n := 1) hG hc hcl hCd (by decide) (by decide) (by decide)) rfl rfl mX0_rule_ok rfl hc rfl hcn rfl rfl rfl ?_
    rintro _ w9 ⟨rfl, hw9⟩ _
    have hw9 := hw9.symm
    subst hw9
    refine g_aload_n rfl rfl ?_
    refine g_iconst rfl ⟨by decide, by decide⟩ ?_
    refine g_cV (as := [tI 1]) (s_ruleN (n := 2) hG hc hcl hCd (by decide) (by decide) (by decide)) rfl rfl mX0_rule_ok rfl hc rfl hcn rfl rfl rfl ?_
    rintro _ w9 ⟨rfl, hw9⟩ _
    have hw9 := hw9.symm
    subst hw9
    refine g_cV (as := [tR (some c), tR (some 50), tI (f 1), tI (f 2)]) (s_encode hG hc hcl hw hCd hW hT (by omega) (by omega)) rfl rfl mX1_encode_ok rfl rfl rfl (by decide) rfl rfl rfl ?_
    rintro _ w3 ⟨rfl, hE3⟩ _
    have hkp3 : tp_kp μ w3 := fun k9 z9 => (hE3.2.2.2.2.1 k9 (by unfold tp_tl at z9; omega)).trans (hkp1 k9 z9)
    have hBJ := e_all_B (bt := f 1) (dp := f 2) hw hW (by omega) (by omega)
    obtain ⟨σ, hσ⟩ : ∃ σ9, σ9 = (e_all f (f 1) (f 2) A B Y n) := ⟨_, rfl⟩
    rw [← hσ] at hE3 hBJ
    have hbB := hBJ.1
    have hJ1 := hBJ.2.1
    have hJ2 := hBJ.2.2.1
    have hsz3 : w3.1 63 4 = σ.1 0 9 := hE3.1.2.2.2.2.2.2.2.2.1
    have hp9 : 0 ≤ σ.1 0 9 ∧ σ.1 0 9 ≤ 209 := by omega
    have HH : ∀ p, 0 ≤ p → p < σ.1 0 9 → s_H f A B Y (f 2) n σ p := by rw [hσ]; exact H_all hw hW (by omega) (by omega)
    have hCd3 : tp_Cd c f w3 := tp_Cd_fr hcl (fun k9 z9 => hE3.2.2.2.2.1 k9 (by omega)) hCd
    have hco3 : w3.2 50 5 = some c := by rw [hE3.2.2.2.2.2]; exact hco
    have hT3 : c_T 50 n A B Y E D U T w3 := c_T_fr (fun c9 z1 z2 => hE3.2.2.2.2.1 c9 (by omega)) hT
    refine x_return rfl rfl ?_
    intro _
    refine g_aload_n rfl rfl ?_
    refine g_aload rfl rfl ?_
    refine g_iV (as := [tR (some 28)]) mX11_rebuild_ok rfl rfl rfl rfl rfl rfl (by decide) rfl rfl rfl ?_
    refine g_aload_n rfl rfl ?_
    refine x_getF (r := 70) hG rfl rfl (by decide) (Or.inl ⟨_, rfl⟩) rfl ?_
    refine g_aload_n rfl rfl ?_
    refine x_getF (r := 50) hG rfl rfl (by decide) (Or.inl ⟨_, rfl⟩) rfl ?_
    refine x_getM (v := (some c)) hG rfl rfl (by decide) (Or.inl ⟨_, rfl⟩) rfl (by first | exact hco | exact hco3 | exact hco5) ?_
    refine g_aload_n rfl rfl ?_
    refine x_getF (r := 62) hG rfl rfl (by decide) (Or.inl ⟨_, rfl⟩) rfl ?_
    refine x_getF (r := 63) hG rfl rfl (by decide) (Or.inl ⟨_, rfl⟩) rfl ?_
    refine g_cV (as := [tR (some c), tR (some 63)]) (s_walk hG hc hcl hw hW hCd3 hsz3 hE3.2.1 hp9 HH) rfl rfl mX10_go_ok rfl rfl rfl (by decide) rfl rfl rfl ?_
    rintro _ w5 ⟨rfl, hQ5, hF5, hP5⟩ _
    have hkp5 : tp_kp μ w5 := fun k9 z9 => (hF5 k9 (by unfold tp_tl at z9; omega)).trans (hkp3 k9 z9)
    have hpk5 : w5.2 70 5 = some 63 := by rw [hP5]; rfl
    have hco5 : w5.2 50 5 = some c := by rw [hP5]; exact hco3
    have hsz5 : w5.1 63 4 = σ.1 0 9 := by rw [hF5 63 (by omega)]; exact hsz3
    have hB5 : c_B σ w5 := fun i z0 z1 => by rw [hF5 64 (by omega), hF5 65 (by omega), hF5 66 (by omega), hF5 67 (by omega)]; exact hE3.2.1 i z0 z1
    have hT5 : c_T 50 n A B Y E D U T w5 := c_T_fr (fun c9 z1 z2 => hF5 c9 (by omega)) hT3
    have hCd5 : tp_Cd c f w5 := tp_Cd_fr hcl (fun k9 z9 => hF5 k9 (by omega)) hCd3
    have hU9 : 0 ≤ w_U σ (σ.1 0 9) ∧ w_U σ (σ.1 0 9) ≤ 200 := by
      have q := w_U_b HH (σ.1 0 9).toNat (by omega)
      rw [show (((σ.1 0 9).toNat : Nat) : Int) = σ.1 0 9 by omega] at q
      refine ⟨q.1, ?_⟩
      rcases (show σ.1 0 9 = 0 ∨ 1 ≤ σ.1 0 9 by omega) with z | z
      · rw [z]; show (0 : Int) ≤ 200; omega
      · have q2 := q.2 (by omega); have q3 := (HH (σ.1 0 9 - 1) (by omega) (by omega)).2.1; omega
    have hL5 : tp_Lo w5.1 28 (tp_of μ 0) := by
      have hL := tp_R_loss hR 0 (by decide) hld
      unfold tp_Lo at hL ⊢
      rw [hkp5 28 (by unfold tp_tl; omega), hkp5 (28 + 1) (by unfold tp_tl; omega)]
      exact hL
    refine g_aload_n rfl rfl ?_
    refine x_getF (r := 76) hG rfl rfl (by decide) (Or.inl ⟨_, rfl⟩) rfl ?_
    refine g_aload_n rfl rfl ?_
    refine x_getF (r := 70) hG rfl rfl (by decide) (Or.inl ⟨_, rfl⟩) rfl ?_
    refine g_aload_n rfl rfl ?_
    refine g_iconst rfl ⟨by decide, by decide⟩ ?_
    refine g_cV (as := [tR (some 70), tR (some 28), tI (-1)]) (s_sift0 hG hsz5 hB5 hp9 (by omega) HH hQ5 hpk5 hL5) rfl rfl mX4_sift_ok rfl rfl rfl (by decide) rfl rfl rfl ?_
    rintro _ w6 ⟨rfl, hM6, hF6⟩ _
    obtain ⟨s, hs⟩ : ∃ s9, s9 = v_S (v_2 (tp_of μ 0)) σ (σ.1 0 9) := ⟨_, rfl⟩
    rw [← hs] at hM6
    have hI6 := v_I_all (l := (v_2 (tp_of μ 0))) HH hp9.1 (Int.le_refl _)
    rw [← hs] at hI6
    obtain ⟨J, hJ⟩ := v_J_ex (n := n) hI6 (v_K_n hn0.1 HH)
    have hnp6 : 0 ≤ s.2.1 ∧ s.2.1 ≤ 209 := by have := hI6.2.1; omega
    have hsz6 := hJ.2.2.2.2.1
    have hm1 := hM6.1
    have hm2 := hM6.2.1
    have hkp6 : tp_kp μ w6 := fun k9 z9 => (hF6.1 k9 (by unfold tp_tl at z9; omega) (by unfold tp_tl at z9; omega) (by unfold tp_tl at z9; omega)).trans (hkp5 k9 z9)
    have hw70 : w6.1 70 6 = w_U σ (σ.1 0 9) := by rw [hF6.1 70 (by omega) (by omega) (by omega)]; exact hQ5.1
    have h206 : w6.1 206 2 = μ.1 206 2 := by rw [hkp6 206 (by unfold tp_tl; omega)]
    refine x_return rfl rfl ?_
    intro _
    refine g_iload rfl rfl ?_
    refine g_iconst rfl ⟨by decide, by decide⟩ ?_
    refine g_icmp_ne (tgt := 66) rfl (by decide) (fun h1 => ?_) (fun h1 => ?_)
    · refine g_aload_n rfl rfl ?_
      refine x_getF (r := 76) hG rfl rfl (by decide) (Or.inl ⟨_, rfl⟩) rfl ?_
      refine g_iload rfl rfl ?_
      refine g_iV (as := [tI w]) mX4_tell_ok rfl rfl rfl rfl rfl rfl (by decide) rfl rfl rfl ?_
      refine g_iload_n rfl rfl ?_
      refine g_if_ne (tgt := 9) rfl (by decide) (fun h2 => ?_) (fun h2 => ?_)
      · refine g_iload_n rfl rfl ?_
        refine g_iconst rfl ⟨by decide, by decide⟩ ?_
        refine g_icmp_ne (tgt := 19) rfl (by decide) (fun h3 => ?_) (fun h3 => ?_)
        · refine g_iload_n rfl rfl ?_
          refine g_sipush rfl ⟨by decide, by decide⟩ (by decide) ?_
          refine g_icmp_lt (tgt := 36) rfl (by decide) (fun h4 => ?_) (fun h4 => ?_)
          · refine g_iload_n rfl rfl ?_
            refine g_bipush rfl ⟨by decide, by decide⟩ (by decide) ?_
            refine g_isub rfl ?_
            refine g_istore_n rfl rfl rfl ?_
            refine g_iload_n rfl rfl ?_
            refine g_bipush rfl ⟨by decide, by decide⟩ (by decide) ?_
            refine g_icmp_lt (tgt := 62) rfl (by decide) (fun h5 => ?_) (fun h5 => ?_)
            · refine g_iconst rfl ⟨by decide, by decide⟩ ?_
              refine g_goto (tgt := 72) rfl (by decide) ?_
              refine x_ireturn rfl rfl ?_
              intro _
              refine x_ireturn rfl rfl ?_
              refine ⟨_, rfl, ?_⟩
              refine tp_ok_of mX12_rebuilt_ok rfl (Nat.le_refl _) ?_
              refine g_aload_n rfl rfl ?_
              refine g_iconst rfl ⟨by decide, by decide⟩ ?_
              refine g_puti rfl rfl (by decide) rfl rfl ?_
              refine g_aload_n rfl rfl ?_
              refine g_iload_n rfl rfl ?_
              refine g_iload_n rfl rfl ?_
              refine g_iload_n rfl rfl ?_
              refine g_iV (as := [tI (a : Int), tI (d : Int), tI 0]) mX12_layRebuilt_ok rfl rfl rfl rfl rfl rfl (by decide) rfl rfl rfl ?_
              refine g_iload_n rfl rfl ?_
              refine g_iconst rfl ⟨by decide, by decide⟩ ?_
              refine g_icmp_eq (tgt := 14) rfl (by decide) (fun hx => absurd hx (by omega)) (fun _ => ?_)
              refine g_aload_n rfl rfl ?_
              refine g_iconst rfl ⟨by decide, by decide⟩ ?_
              refine g_iload_n rfl rfl ?_
              refine g_iV (as := [tI 2, tI 0]) mX12_is_ok rfl rfl rfl rfl rfl rfl (by decide) rfl rfl rfl ?_
              refine g_iload_n rfl rfl ?_
              refine g_iconst rfl ⟨by decide, by decide⟩ ?_
              refine g_aload_n rfl rfl ?_
              refine x_getF (r := 206) hG rfl rfl (by decide) (Or.inr ⟨_, rfl⟩) rfl ?_
              refine g_iload_n rfl rfl ?_
              refine x_iald (v := (w6.1 206 2)) rfl rfl (by decide) (by decide) (by decide) rfl ?_
              refine g_iconst rfl ⟨by decide, by decide⟩ ?_
              refine x_isub (z := (w6.1 206 2) - 1) rfl (by omega) ⟨by omega, by omega⟩ ?_
              refine g_iS (as := [tI 0, tI 0, tI ((w6.1 206 2) - 1)]) mX12_in_ok rfl rfl rfl rfl rfl rfl rfl ?_
              refine g_iload_n rfl rfl ?_
              refine g_iload_n rfl rfl ?_
              refine g_icmp_lt (tgt := 14) rfl (by decide) (fun hx => absurd hx (by omega)) (fun _ => ?_)
              refine g_iload_n rfl rfl ?_
              refine g_iload_n rfl rfl ?_
              refine g_icmp_gt (tgt := 14) rfl (by decide) (fun hx => absurd hx (by omega)) (fun _ => ?_)
              refine g_iconst rfl ⟨by decide, by decide⟩ ?_
              refine g_goto (tgt := 15) rfl (by decide) ?_
              refine x_zreturn rfl rfl (Or.inr rfl) ?_
              intro _
              refine x_zreturn rfl rfl (Or.inr rfl) ?_
              intro _
              refine g_if_eq (tgt := 23) rfl (by decide) (fun hx => absurd hx (by omega)) (fun _ => ?_)
              refine g_aload_n rfl rfl ?_
              refine g_iload_n rfl rfl ?_
              refine g_iload_n rfl rfl ?_
              refine g_iV (as := [tI (a : Int), tI (d : Int)]) mX12_layPackets_ok rfl rfl rfl rfl rfl rfl (by decide) rfl rfl rfl ?_
              refine g_aload_n rfl rfl ?_
              refine g_iload_n rfl rfl ?_
              refine g_iload_n rfl rfl ?_
              refine g_cV (as := [tI (a : Int), tI (d : Int)]) (hM _ (tp_kp_pi (by decide) hkp6)) rfl rfl mX12_lay_ok rfl rfl rfl (by decide) rfl rfl rfl ?_
              rintro _ w2 ⟨rfl, hTm, hMc, hGm, hdr, hdm⟩ _
              have hkp2 : tp_kp μ w2 := m_G_kp (tp_kp_pi (by decide) hkp6) hGm
              have hm6 := hTm.1
              have hall := hMc.2.2.1
              refine g_if_ne (tgt := 11) rfl (by decide) (fun _ => ?_) (fun hx => absurd hx (by omega))
              refine g_aload_n rfl rfl ?_
              refine g_aload_n rfl rfl ?_
              refine g_iconst rfl ⟨by decide, by decide⟩ ?_
              refine g_cV (as := [tI 1]) (s_of hG hMc (by omega) (by omega)) rfl rfl mX12_of_ok rfl rfl rfl (by decide) rfl rfl rfl ?_
              rintro _ w9 ⟨rfl, hw9⟩ _
              have hw9 := hw9.symm
              subst hw9
              refine g_aload_n rfl rfl ?_
              refine g_iconst rfl ⟨by decide, by decide⟩ ?_
              refine g_cV (as := [tI 2]) (s_of hG hMc (by omega) (by omega)) rfl rfl mX12_of_ok rfl rfl rfl (by decide) rfl rfl rfl ?_
              rintro _ w9 ⟨rfl, hw9⟩ _
              have hw9 := hw9.symm
              subst hw9
              refine g_cV (as := [tI (f 1), tI (f 2)]) (s_encodesM hG hw hMc hW hTm (by omega) (by omega)) rfl rfl mX12_encodes_ok rfl rfl rfl (by decide) rfl rfl rfl ?_
              rintro _ w4 ⟨rfl, hE4⟩ _
              have hkp4 : tp_kp μ w4 := fun k9 z9 => (hE4.2.2.2.1 k9 (by unfold tp_tl at z9; omega) (by unfold tp_tl at z9; omega)).trans (hkp2 k9 z9)
              rw [← hσ] at hE4
              have hMB := hE4.2.1
              have hsz4 : w4.1 201 47 = σ.1 0 9 := hE4.1.2.2.2.2.2.2.2.2.1
              have hQ4 : v_Q σ w4 := ⟨hsz4, fun i i0 i1 => ⟨(hMB i i0 i1).1, (hMB i i0 i1).2.2.2.1, (hMB i i0 i1).2.2.2.2.1⟩⟩
              have hn4 : w4.1 201 27 = n := by rw [hE4.2.2.2.2 27 (by omega)]; exact hm6
              have hA4 : ∀ j, 0 ≤ j → j < n → w4.1 212 j = A j := fun j j0 j1 => by rw [hE4.2.2.2.1 212 (by omega) (by omega)]; exact hTm.2.1 j j0 j1
              refine g_iconst rfl ⟨by decide, by decide⟩ ?_
              refine x_zreturn rfl rfl (Or.inr rfl) ?_
              intro _
              refine g_if_ne (tgt := 25) rfl (by decide) (fun _ => ?_) (fun hx => absurd hx (by omega))
              refine g_aload_n rfl rfl ?_
              refine g_iload_n rfl rfl ?_
              refine g_cV (as := [tI 0]) (s_by0 (g := tp_of μ 0) hG hQ4 hp9 (by omega) HH (fun i i0 i1 => by rw [hkp4 209 (by unfold tp_tl; omega)]; show μ.1 209 (0 + i) = μ.1 209 (101 * 0 + i); exact congrArg (μ.1 209) (by omega))) rfl rfl mX12_rebuildsBy_ok rfl rfl rfl (by decide) rfl rfl rfl ?_
              rintro _ w7 ⟨rfl, hM7, hs7, hG7⟩ _
              rw [← hs] at hM7 hs7
              have hkp7 : tp_kp μ w7 := fun k9 z9 => (hG7.1 k9 (by unfold tp_tl at z9; omega) (by unfold tp_tl at z9; omega) (by unfold tp_tl at z9; omega) (by unfold tp_tl at z9; omega)).trans (hkp4 k9 z9)
              have hn7 : w7.1 201 27 = n := by rw [hG7.2 27 (by omega) (by omega)]; exact hn4
              have hA7 : ∀ j, 0 ≤ j → j < n → w7.1 212 j = A j := fun j j0 j1 => by rw [hG7.1 212 (by omega) (by omega) (by omega) (by omega)]; exact hA4 j j0 j1
              have hr7 := hM7.1
              have hQ7 : v_Q σ w7 := v_Q_G hG7 hQ4
              refine g_iconst rfl ⟨by decide, by decide⟩ ?_
              refine x_zreturn rfl rfl (Or.inr rfl) ?_
              intro _
              refine g_if_ne (tgt := 17) rfl (by decide) (fun _ => ?_) (fun hx => absurd hx (by omega))
              refine g_iload rfl rfl ?_
              refine g_sipush rfl ⟨by decide, by decide⟩ (by decide) ?_
              refine g_icmp_lt (tgt := 58) rfl (by decide) (fun _ => ?_) (fun hx => absurd hx (by omega))
              refine g_iload rfl rfl ?_
              refine g_bipush rfl ⟨by decide, by decide⟩ (by decide) ?_
              refine g_icmp_lt (tgt := 92) rfl (by decide) (fun _ => ?_) (fun hx => absurd hx (by omega))
              refine g_iload rfl rfl ?_
              refine g_if_ne (tgt := 104) rfl (by decide) (fun h6 => ?_) (fun h6 => ?_)
              · refine g_iload rfl rfl ?_
                refine g_iconst rfl ⟨by decide, by decide⟩ ?_
                refine g_icmp_ne (tgt := 117) rfl (by decide) (fun h7 => ?_) (fun h7 => ?_)
                · refine g_iload rfl rfl ?_
                  refine g_iconst rfl ⟨by decide, by decide⟩ ?_
                  refine g_icmp_ne (tgt := 130) rfl (by decide) (fun h8 => ?_) (fun h8 => ?_)
                  · refine g_iconst rfl ⟨by decide, by decide⟩ ?_
                    refine x_ireturn rfl rfl ?_
                    exact ⟨(by first | rfl | (exfalso; omega) | exact congrArg (fun z => some (tI z)) (by rw [hs7, hm2]; done) | exact congrArg (fun z => some (tI z)) (by rw [hr7, hm1]; done) | exact congrArg (fun z => some (tI z)) ((hA7 _ (by omega) (by omega)).trans (p_M_J hM6 hJ (w - 1000) (by omega) (by omega)).symm) | exact congrArg (fun z => some (tI z)) (by rw [hwp (by omega), (hM7.2 (w - 100) (by omega) (by omega)).2, hM6.2.2.1 (w - 100) (by omega) (by omega)]; done) | exact congrArg (fun z => some (tI z)) (by rw [hs8, hs7, hm2, hw70]; done) | exact congrArg (fun z => some (tI z)) (by omega)), tp_R_kp hR hkp7⟩
                  · refine g_aload_n rfl rfl ?_
                    refine g_iV (as := []) mX12_cost_ok rfl rfl rfl rfl rfl rfl (by decide) rfl rfl rfl ?_
                    refine g_aload_n rfl rfl ?_
                    refine x_geti (v := (w7.1 201 63)) rfl rfl (by decide) (Or.inl rfl) rfl ?_
                    refine g_istore_n rfl rfl rfl ?_
                    refine g_aload_n rfl rfl ?_
                    refine g_iconst rfl ⟨by decide, by decide⟩ ?_
                    refine g_cV (as := [tI (-1)]) (s_but (a := -1) hG hQ7 hp9 (by omega) HH) rfl rfl mX12_rebuildsBut_ok rfl rfl rfl (by decide) rfl rfl rfl ?_
                    rintro _ w8 ⟨rfl, hM8, hs8, hG8⟩ _
                    have hkp8 : tp_kp μ w8 := fun k9 z9 => (hG8.1 k9 (by unfold tp_tl at z9; omega) (by unfold tp_tl at z9; omega) (by unfold tp_tl at z9; omega) (by unfold tp_tl at z9; omega)).trans (hkp7 k9 z9)
                    have hU8 := (v_U (l := v_1 (-1)) HH (fun i i0 i1 => if_neg (by omega)) (σ.1 0 9).toNat (by omega)).2.1
                    rw [show (((σ.1 0 9).toNat : Nat) : Int) = σ.1 0 9 by omega] at hU8
                    rw [hU8] at hs8
                    refine g_aload_n rfl rfl ?_
                    refine x_geti (v := (w8.1 201 63)) rfl rfl (by decide) (Or.inl rfl) rfl ?_
                    refine g_iload_n rfl rfl ?_
                    refine x_isub (z := (w8.1 201 63) - (w7.1 201 63)) rfl (by omega) ⟨by omega, by omega⟩ ?_
                    refine x_ireturn rfl rfl ?_
                    intro _
                    refine g_goto (tgt := 131) rfl (by decide) ?_
                    refine x_ireturn rfl rfl ?_
                    exact ⟨(by first | (exfalso; omega) | exact congrArg (fun z => some (tI z)) (by rw [hs8, hs7, hm2, hw70])), tp_R_kp hR hkp8⟩
                · refine g_aload_n rfl rfl ?_
                  refine x_geti (v := (w7.1 201 62)) rfl rfl (by decide) (Or.inl rfl) rfl ?_
                  refine g_goto (tgt := 131) rfl (by decide) ?_
                  refine x_ireturn rfl rfl ?_
                  exact ⟨(by first | rfl | (exfalso; omega) | exact congrArg (fun z => some (tI z)) (by rw [hs7, hm2]; done) | exact congrArg (fun z => some (tI z)) (by rw [hr7, hm1]; done) | exact congrArg (fun z => some (tI z)) ((hA7 _ (by omega) (by omega)).trans (p_M_J hM6 hJ (w - 1000) (by omega) (by omega)).symm) | exact congrArg (fun z => some (tI z)) (by rw [hwp (by omega), (hM7.2 (w - 100) (by omega) (by omega)).2, hM6.2.2.1 (w - 100) (by omega) (by omega)]; done) | exact congrArg (fun z => some (tI z)) (by rw [hs8, hs7, hm2, hw70]; done) | exact congrArg (fun z => some (tI z)) (by omega)), tp_R_kp hR hkp7⟩
              · refine g_aload_n rfl rfl ?_
                refine x_geti (v := (w7.1 201 63)) rfl rfl (by decide) (Or.inl rfl) rfl ?_
                refine g_goto (tgt := 131) rfl (by decide) ?_
                refine x_ireturn rfl rfl ?_
                exact ⟨(by first | rfl | (exfalso; omega) | exact congrArg (fun z => some (tI z)) (by rw [hs7, hm2]; done) | exact congrArg (fun z => some (tI z)) (by rw [hr7, hm1]; done) | exact congrArg (fun z => some (tI z)) ((hA7 _ (by omega) (by omega)).trans (p_M_J hM6 hJ (w - 1000) (by omega) (by omega)).symm) | exact congrArg (fun z => some (tI z)) (by rw [hwp (by omega), (hM7.2 (w - 100) (by omega) (by omega)).2, hM6.2.2.1 (w - 100) (by omega) (by omega)]; done) | exact congrArg (fun z => some (tI z)) (by rw [hs8, hs7, hm2, hw70]; done) | exact congrArg (fun z => some (tI z)) (by omega)), tp_R_kp hR hkp7⟩
            · refine g_iload_n rfl rfl ?_
              refine g_aload_n rfl rfl ?_
              refine x_geti (v := (w6.1 76 3)) rfl rfl (by decide) (Or.inl rfl) rfl ?_
              refine g_icmp_ge (tgt := 62) rfl (by decide) (fun h9 => ?_) (fun h9 => ?_)
              · refine g_iconst rfl ⟨by decide, by decide⟩ ?_
                refine g_goto (tgt := 72) rfl (by decide) ?_
                refine x_ireturn rfl rfl ?_
                intro _
                refine x_ireturn rfl rfl ?_
                refine ⟨_, rfl, ?_⟩
                refine tp_ok_of mX12_rebuilt_ok rfl (Nat.le_refl _) ?_
                refine g_aload_n rfl rfl ?_
                refine g_iconst rfl ⟨by decide, by decide⟩ ?_
                refine g_puti rfl rfl (by decide) rfl rfl ?_
                refine g_aload_n rfl rfl ?_
                refine g_iload_n rfl rfl ?_
                refine g_iload_n rfl rfl ?_
                refine g_iload_n rfl rfl ?_
                refine g_iV (as := [tI (a : Int), tI (d : Int), tI 0]) mX12_layRebuilt_ok rfl rfl rfl rfl rfl rfl (by decide) rfl rfl rfl ?_
                refine g_iload_n rfl rfl ?_
                refine g_iconst rfl ⟨by decide, by decide⟩ ?_
                refine g_icmp_eq (tgt := 14) rfl (by decide) (fun hx => absurd hx (by omega)) (fun _ => ?_)
                refine g_aload_n rfl rfl ?_
                refine g_iconst rfl ⟨by decide, by decide⟩ ?_
                refine g_iload_n rfl rfl ?_
                refine g_iV (as := [tI 2, tI 0]) mX12_is_ok rfl rfl rfl rfl rfl rfl (by decide) rfl rfl rfl ?_
                refine g_iload_n rfl rfl ?_
                refine g_iconst rfl ⟨by decide, by decide⟩ ?_
                refine g_aload_n rfl rfl ?_
                refine x_getF (r := 206) hG rfl rfl (by decide) (Or.inr ⟨_, rfl⟩) rfl ?_
                refine g_iload_n rfl rfl ?_
                refine x_iald (v := (w6.1 206 2)) rfl rfl (by decide) (by decide) (by decide) rfl ?_
                refine g_iconst rfl ⟨by decide, by decide⟩ ?_
                refine x_isub (z := (w6.1 206 2) - 1) rfl (by omega) ⟨by omega, by omega⟩ ?_
                refine g_iS (as := [tI 0, tI 0, tI ((w6.1 206 2) - 1)]) mX12_in_ok rfl rfl rfl rfl rfl rfl rfl ?_
                refine g_iload_n rfl rfl ?_
                refine g_iload_n rfl rfl ?_
                refine g_icmp_lt (tgt := 14) rfl (by decide) (fun hx => absurd hx (by omega)) (fun _ => ?_)
                refine g_iload_n rfl rfl ?_
                refine g_iload_n rfl rfl ?_
                refine g_icmp_gt (tgt := 14) rfl (by decide) (fun hx => absurd hx (by omega)) (fun _ => ?_)
                refine g_iconst rfl ⟨by decide, by decide⟩ ?_
                refine g_goto (tgt := 15) rfl (by decide) ?_
                refine x_zreturn rfl rfl (Or.inr rfl) ?_
                intro _
                refine x_zreturn rfl rfl (Or.inr rfl) ?_
                intro _
                refine g_if_eq (tgt := 23) rfl (by decide) (fun hx => absurd hx (by omega)) (fun _ => ?_)
                refine g_aload_n rfl rfl ?_
                refine g_iload_n rfl rfl ?_
                refine g_iload_n rfl rfl ?_
                refine g_iV (as := [tI (a : Int), tI (d : Int)]) mX12_layPackets_ok rfl rfl rfl rfl rfl rfl (by decide) rfl rfl rfl ?_
                refine g_aload_n rfl rfl ?_
                refine g_iload_n rfl rfl ?_
                refine g_iload_n rfl rfl ?_
                refine g_cV (as := [tI (a : Int), tI (d : Int)]) (hM _ (tp_kp_pi (by decide) hkp6)) rfl rfl mX12_lay_ok rfl rfl rfl (by decide) rfl rfl rfl ?_
                rintro _ w2 ⟨rfl, hTm, hMc, hGm, hdr, hdm⟩ _
                have hkp2 : tp_kp μ w2 := m_G_kp (tp_kp_pi (by decide) hkp6) hGm
                have hm6 := hTm.1
                have hall := hMc.2.2.1
                refine g_if_ne (tgt := 11) rfl (by decide) (fun _ => ?_) (fun hx => absurd hx (by omega))
                refine g_aload_n rfl rfl ?_
                refine g_aload_n rfl rfl ?_
                refine g_iconst rfl ⟨by decide, by decide⟩ ?_
                refine g_cV (as := [tI 1]) (s_of hG hMc (by omega) (by omega)) rfl rfl mX12_of_ok rfl rfl rfl (by decide) rfl rfl rfl ?_
                rintro _ w9 ⟨rfl, hw9⟩ _
                have hw9 := hw9.symm
                subst hw9
                refine g_aload_n rfl rfl ?_
                refine g_iconst rfl ⟨by decide, by decide⟩ ?_
                refine g_cV (as := [tI 2]) (s_of hG hMc (by omega) (by omega)) rfl rfl mX12_of_ok rfl rfl rfl (by decide) rfl rfl rfl ?_
                rintro _ w9 ⟨rfl, hw9⟩ _
                have hw9 := hw9.symm
                subst hw9
                refine g_cV (as := [tI (f 1), tI (f 2)]) (s_encodesM hG hw hMc hW hTm (by omega) (by omega)) rfl rfl mX12_encodes_ok rfl rfl rfl (by decide) rfl rfl rfl ?_
                rintro _ w4 ⟨rfl, hE4⟩ _
                have hkp4 : tp_kp μ w4 := fun k9 z9 => (hE4.2.2.2.1 k9 (by unfold tp_tl at z9; omega) (by unfold tp_tl at z9; omega)).trans (hkp2 k9 z9)
                rw [← hσ] at hE4
                have hMB := hE4.2.1
                have hsz4 : w4.1 201 47 = σ.1 0 9 := hE4.1.2.2.2.2.2.2.2.2.1
                have hQ4 : v_Q σ w4 := ⟨hsz4, fun i i0 i1 => ⟨(hMB i i0 i1).1, (hMB i i0 i1).2.2.2.1, (hMB i i0 i1).2.2.2.2.1⟩⟩
                have hn4 : w4.1 201 27 = n := by rw [hE4.2.2.2.2 27 (by omega)]; exact hm6
                have hA4 : ∀ j, 0 ≤ j → j < n → w4.1 212 j = A j := fun j j0 j1 => by rw [hE4.2.2.2.1 212 (by omega) (by omega)]; exact hTm.2.1 j j0 j1
                refine g_iconst rfl ⟨by decide, by decide⟩ ?_
                refine x_zreturn rfl rfl (Or.inr rfl) ?_
                intro _
                refine g_if_ne (tgt := 25) rfl (by decide) (fun _ => ?_) (fun hx => absurd hx (by omega))
                refine g_aload_n rfl rfl ?_
                refine g_iload_n rfl rfl ?_
                refine g_cV (as := [tI 0]) (s_by0 (g := tp_of μ 0) hG hQ4 hp9 (by omega) HH (fun i i0 i1 => by rw [hkp4 209 (by unfold tp_tl; omega)]; show μ.1 209 (0 + i) = μ.1 209 (101 * 0 + i); exact congrArg (μ.1 209) (by omega))) rfl rfl mX12_rebuildsBy_ok rfl rfl rfl (by decide) rfl rfl rfl ?_
                rintro _ w7 ⟨rfl, hM7, hs7, hG7⟩ _
                rw [← hs] at hM7 hs7
                have hkp7 : tp_kp μ w7 := fun k9 z9 => (hG7.1 k9 (by unfold tp_tl at z9; omega) (by unfold tp_tl at z9; omega) (by unfold tp_tl at z9; omega) (by unfold tp_tl at z9; omega)).trans (hkp4 k9 z9)
                have hn7 : w7.1 201 27 = n := by rw [hG7.2 27 (by omega) (by omega)]; exact hn4
                have hA7 : ∀ j, 0 ≤ j → j < n → w7.1 212 j = A j := fun j j0 j1 => by rw [hG7.1 212 (by omega) (by omega) (by omega) (by omega)]; exact hA4 j j0 j1
                have hr7 := hM7.1
                have hQ7 : v_Q σ w7 := v_Q_G hG7 hQ4
                refine g_iconst rfl ⟨by decide, by decide⟩ ?_
                refine x_zreturn rfl rfl (Or.inr rfl) ?_
                intro _
                refine g_if_ne (tgt := 17) rfl (by decide) (fun _ => ?_) (fun hx => absurd hx (by omega))
                refine g_iload rfl rfl ?_
                refine g_sipush rfl ⟨by decide, by decide⟩ (by decide) ?_
                refine g_icmp_lt (tgt := 58) rfl (by decide) (fun _ => ?_) (fun hx => absurd hx (by omega))
                refine g_iload rfl rfl ?_
                refine g_bipush rfl ⟨by decide, by decide⟩ (by decide) ?_
                refine g_icmp_lt (tgt := 92) rfl (by decide) (fun hx => absurd hx (by omega)) (fun _ => ?_)
                refine g_iload rfl rfl ?_
                refine g_bipush rfl ⟨by decide, by decide⟩ (by decide) ?_
                refine x_isub (z := w - 100) rfl (by omega) ⟨by omega, by omega⟩ ?_
                refine g_aload_n rfl rfl ?_
                refine x_geti (v := (w7.1 201 62)) rfl rfl (by decide) (Or.inl rfl) rfl ?_
                refine g_icmp_ge (tgt := 90) rfl (by decide) (fun h10 => ?_) (fun h10 => ?_)
                · refine g_iconst rfl ⟨by decide, by decide⟩ ?_
                  refine x_ireturn rfl rfl ?_
                  exact ⟨(by first | rfl | (exfalso; omega) | exact congrArg (fun z => some (tI z)) (by rw [hs7, hm2]; done) | exact congrArg (fun z => some (tI z)) (by rw [hr7, hm1]; done) | exact congrArg (fun z => some (tI z)) ((hA7 _ (by omega) (by omega)).trans (p_M_J hM6 hJ (w - 1000) (by omega) (by omega)).symm) | exact congrArg (fun z => some (tI z)) (by rw [hwp (by omega), (hM7.2 (w - 100) (by omega) (by omega)).2, hM6.2.2.1 (w - 100) (by omega) (by omega)]; done) | exact congrArg (fun z => some (tI z)) (by rw [hs8, hs7, hm2, hw70]; done) | exact congrArg (fun z => some (tI z)) (by omega)), tp_R_kp hR hkp7⟩
                · refine g_aload_n rfl rfl ?_
                  refine x_getF (r := 225) hG rfl rfl (by decide) (Or.inr ⟨_, rfl⟩) rfl ?_
                  refine g_iload rfl rfl ?_
                  refine g_bipush rfl ⟨by decide, by decide⟩ (by decide) ?_
                  refine x_isub (z := w - 100) rfl (by omega) ⟨by omega, by omega⟩ ?_
                  refine x_iald (v := (w7.1 225 (w - 100))) rfl rfl (by decide) (by omega) (by omega) rfl ?_
                  refine g_goto (tgt := 91) rfl (by decide) ?_
                  refine x_ireturn rfl rfl ?_
                  exact ⟨(by first | rfl | (exfalso; omega) | exact congrArg (fun z => some (tI z)) (by rw [hs7, hm2]; done) | exact congrArg (fun z => some (tI z)) (by rw [hr7, hm1]; done) | exact congrArg (fun z => some (tI z)) ((hA7 _ (by omega) (by omega)).trans (p_M_J hM6 hJ (w - 1000) (by omega) (by omega)).symm) | exact congrArg (fun z => some (tI z)) (by rw [hwp (by omega), (hM7.2 (w - 100) (by omega) (by omega)).2, hM6.2.2.1 (w - 100) (by omega) (by omega)]; done) | exact congrArg (fun z => some (tI z)) (by rw [hs8, hs7, hm2, hw70]; done) | exact congrArg (fun z => some (tI z)) (by omega)), tp_R_kp hR hkp7⟩
              · refine g_iload_n rfl rfl ?_
                refine g_sipush rfl ⟨by decide, by decide⟩ (by decide) ?_
                refine g_icmp_lt (tgt := 66) rfl (by decide) (fun h11 => ?_) (fun h11 => ?_)
                · refine g_aload_n rfl rfl ?_
                  refine x_getF (r := 78) hG rfl rfl (by decide) (Or.inr ⟨_, rfl⟩) rfl ?_
                  refine g_iload_n rfl rfl ?_
                  refine x_iald (v := (w6.1 78 (tp_w (w - 100)))) rfl rfl (by decide) (by omega) (by omega) rfl ?_
                  refine x_ireturn rfl rfl ?_
                  intro _
                  refine x_ireturn rfl rfl ?_
                  refine ⟨_, rfl, ?_⟩
                  refine tp_ok_of mX12_rebuilt_ok rfl (Nat.le_refl _) ?_
                  refine g_aload_n rfl rfl ?_
                  refine g_iconst rfl ⟨by decide, by decide⟩ ?_
                  refine g_puti rfl rfl (by decide) rfl rfl ?_
                  refine g_aload_n rfl rfl ?_
                  refine g_iload_n rfl rfl ?_
                  refine g_iload_n rfl rfl ?_
                  refine g_iload_n rfl rfl ?_
                  refine g_iV (as := [tI (a : Int), tI (d : Int), tI 0]) mX12_layRebuilt_ok rfl rfl rfl rfl rfl rfl (by decide) rfl rfl rfl ?_
                  refine g_iload_n rfl rfl ?_
                  refine g_iconst rfl ⟨by decide, by decide⟩ ?_
                  refine g_icmp_eq (tgt := 14) rfl (by decide) (fun hx => absurd hx (by omega)) (fun _ => ?_)
                  refine g_aload_n rfl rfl ?_
                  refine g_iconst rfl ⟨by decide, by decide⟩ ?_
                  refine g_iload_n rfl rfl ?_
                  refine g_iV (as := [tI 2, tI 0]) mX12_is_ok rfl rfl rfl rfl rfl rfl (by decide) rfl rfl rfl ?_
                  refine g_iload_n rfl rfl ?_
                  refine g_iconst rfl ⟨by decide, by decide⟩ ?_
                  refine g_aload_n rfl rfl ?_
                  refine x_getF (r := 206) hG rfl rfl (by decide) (Or.inr ⟨_, rfl⟩) rfl ?_
                  refine g_iload_n rfl rfl ?_
                  refine x_iald (v := (w6.1 206 2)) rfl rfl (by decide) (by decide) (by decide) rfl ?_
                  refine g_iconst rfl ⟨by decide, by decide⟩ ?_
                  refine x_isub (z := (w6.1 206 2) - 1) rfl (by omega) ⟨by omega, by omega⟩ ?_
                  refine g_iS (as := [tI 0, tI 0, tI ((w6.1 206 2) - 1)]) mX12_in_ok rfl rfl rfl rfl rfl rfl rfl ?_
                  refine g_iload_n rfl rfl ?_
                  refine g_iload_n rfl rfl ?_
                  refine g_icmp_lt (tgt := 14) rfl (by decide) (fun hx => absurd hx (by omega)) (fun _ => ?_)
                  refine g_iload_n rfl rfl ?_
                  refine g_iload_n rfl rfl ?_
                  refine g_icmp_gt (tgt := 14) rfl (by decide) (fun hx => absurd hx (by omega)) (fun _ => ?_)
                  refine g_iconst rfl ⟨by decide, by decide⟩ ?_
                  refine g_goto (tgt := 15) rfl (by decide) ?_
                  refine x_zreturn rfl rfl (Or.inr rfl) ?_
                  intro _
                  refine x_zreturn rfl rfl (Or.inr rfl) ?_
                  intro _
                  refine g_if_eq (tgt := 23) rfl (by decide) (fun hx => absurd hx (by omega)) (fun _ => ?_)
                  refine g_aload_n rfl rfl ?_
                  refine g_iload_n rfl rfl ?_
                  refine g_iload_n rfl rfl ?_
                  refine g_iV (as := [tI (a : Int), tI (d : Int)]) mX12_layPackets_ok rfl rfl rfl rfl rfl rfl (by decide) rfl rfl rfl ?_
                  refine g_aload_n rfl rfl ?_
                  refine g_iload_n rfl rfl ?_
                  refine g_iload_n rfl rfl ?_
                  refine g_cV (as := [tI (a : Int), tI (d : Int)]) (hM _ (tp_kp_pi (by decide) hkp6)) rfl rfl mX12_lay_ok rfl rfl rfl (by decide) rfl rfl rfl ?_
                  rintro _ w2 ⟨rfl, hTm, hMc, hGm, hdr, hdm⟩ _
                  have hkp2 : tp_kp μ w2 := m_G_kp (tp_kp_pi (by decide) hkp6) hGm
                  have hm6 := hTm.1
                  have hall := hMc.2.2.1
                  refine g_if_ne (tgt := 11) rfl (by decide) (fun _ => ?_) (fun hx => absurd hx (by omega))
                  refine g_aload_n rfl rfl ?_
                  refine g_aload_n rfl rfl ?_
                  refine g_iconst rfl ⟨by decide, by decide⟩ ?_
                  refine g_cV (as := [tI 1]) (s_of hG hMc (by omega) (by omega)) rfl rfl mX12_of_ok rfl rfl rfl (by decide) rfl rfl rfl ?_
                  rintro _ w9 ⟨rfl, hw9⟩ _
                  have hw9 := hw9.symm
                  subst hw9
                  refine g_aload_n rfl rfl ?_
                  refine g_iconst rfl ⟨by decide, by decide⟩ ?_
                  refine g_cV (as := [tI 2]) (s_of hG hMc (by omega) (by omega)) rfl rfl mX12_of_ok rfl rfl rfl (by decide) rfl rfl rfl ?_
                  rintro _ w9 ⟨rfl, hw9⟩ _
                  have hw9 := hw9.symm
                  subst hw9
                  refine g_cV (as := [tI (f 1), tI (f 2)]) (s_encodesM hG hw hMc hW hTm (by omega) (by omega)) rfl rfl mX12_encodes_ok rfl rfl rfl (by decide) rfl rfl rfl ?_
                  rintro _ w4 ⟨rfl, hE4⟩ _
                  have hkp4 : tp_kp μ w4 := fun k9 z9 => (hE4.2.2.2.1 k9 (by unfold tp_tl at z9; omega) (by unfold tp_tl at z9; omega)).trans (hkp2 k9 z9)
                  rw [← hσ] at hE4
                  have hMB := hE4.2.1
                  have hsz4 : w4.1 201 47 = σ.1 0 9 := hE4.1.2.2.2.2.2.2.2.2.1
                  have hQ4 : v_Q σ w4 := ⟨hsz4, fun i i0 i1 => ⟨(hMB i i0 i1).1, (hMB i i0 i1).2.2.2.1, (hMB i i0 i1).2.2.2.2.1⟩⟩
                  have hn4 : w4.1 201 27 = n := by rw [hE4.2.2.2.2 27 (by omega)]; exact hm6
                  have hA4 : ∀ j, 0 ≤ j → j < n → w4.1 212 j = A j := fun j j0 j1 => by rw [hE4.2.2.2.1 212 (by omega) (by omega)]; exact hTm.2.1 j j0 j1
                  refine g_iconst rfl ⟨by decide, by decide⟩ ?_
                  refine x_zreturn rfl rfl (Or.inr rfl) ?_
                  intro _
                  refine g_if_ne (tgt := 25) rfl (by decide) (fun _ => ?_) (fun hx => absurd hx (by omega))
                  refine g_aload_n rfl rfl ?_
                  refine g_iload_n rfl rfl ?_
                  refine g_cV (as := [tI 0]) (s_by0 (g := tp_of μ 0) hG hQ4 hp9 (by omega) HH (fun i i0 i1 => by rw [hkp4 209 (by unfold tp_tl; omega)]; show μ.1 209 (0 + i) = μ.1 209 (101 * 0 + i); exact congrArg (μ.1 209) (by omega))) rfl rfl mX12_rebuildsBy_ok rfl rfl rfl (by decide) rfl rfl rfl ?_
                  rintro _ w7 ⟨rfl, hM7, hs7, hG7⟩ _
                  rw [← hs] at hM7 hs7
                  have hkp7 : tp_kp μ w7 := fun k9 z9 => (hG7.1 k9 (by unfold tp_tl at z9; omega) (by unfold tp_tl at z9; omega) (by unfold tp_tl at z9; omega) (by unfold tp_tl at z9; omega)).trans (hkp4 k9 z9)
                  have hn7 : w7.1 201 27 = n := by rw [hG7.2 27 (by omega) (by omega)]; exact hn4
                  have hA7 : ∀ j, 0 ≤ j → j < n → w7.1 212 j = A j := fun j j0 j1 => by rw [hG7.1 212 (by omega) (by omega) (by omega) (by omega)]; exact hA4 j j0 j1
                  have hr7 := hM7.1
                  have hQ7 : v_Q σ w7 := v_Q_G hG7 hQ4
                  refine g_iconst rfl ⟨by decide, by decide⟩ ?_
                  refine x_zreturn rfl rfl (Or.inr rfl) ?_
                  intro _
                  refine g_if_ne (tgt := 17) rfl (by decide) (fun _ => ?_) (fun hx => absurd hx (by omega))
                  refine g_iload rfl rfl ?_
                  refine g_sipush rfl ⟨by decide, by decide⟩ (by decide) ?_
                  refine g_icmp_lt (tgt := 58) rfl (by decide) (fun _ => ?_) (fun hx => absurd hx (by omega))
                  refine g_iload rfl rfl ?_
                  refine g_bipush rfl ⟨by decide, by decide⟩ (by decide) ?_
                  refine g_icmp_lt (tgt := 92) rfl (by decide) (fun hx => absurd hx (by omega)) (fun _ => ?_)
                  refine g_iload rfl rfl ?_
                  refine g_bipush rfl ⟨by decide, by decide⟩ (by decide) ?_
                  refine x_isub (z := w - 100) rfl (by omega) ⟨by omega, by omega⟩ ?_
                  refine g_aload_n rfl rfl ?_
                  refine x_geti (v := (w7.1 201 62)) rfl rfl (by decide) (Or.inl rfl) rfl ?_
                  refine g_icmp_ge (tgt := 90) rfl (by decide) (fun h12 => ?_) (fun h12 => ?_)
                  · refine g_iconst rfl ⟨by decide, by decide⟩ ?_
                    refine x_ireturn rfl rfl ?_
                    exact ⟨(by first | rfl | (exfalso; omega) | exact congrArg (fun z => some (tI z)) (by rw [hs7, hm2]; done) | exact congrArg (fun z => some (tI z)) (by rw [hr7, hm1]; done) | exact congrArg (fun z => some (tI z)) ((hA7 _ (by omega) (by omega)).trans (p_M_J hM6 hJ (w - 1000) (by omega) (by omega)).symm) | exact congrArg (fun z => some (tI z)) (by rw [hwp (by omega), (hM7.2 (w - 100) (by omega) (by omega)).2, hM6.2.2.1 (w - 100) (by omega) (by omega)]; done) | exact congrArg (fun z => some (tI z)) (by rw [hs8, hs7, hm2, hw70]; done) | exact congrArg (fun z => some (tI z)) (by omega)), tp_R_kp hR hkp7⟩
                  · refine g_aload_n rfl rfl ?_
                    refine x_getF (r := 225) hG rfl rfl (by decide) (Or.inr ⟨_, rfl⟩) rfl ?_
                    refine g_iload rfl rfl ?_
                    refine g_bipush rfl ⟨by decide, by decide⟩ (by decide) ?_
                    refine x_isub (z := w - 100) rfl (by omega) ⟨by omega, by omega⟩ ?_
                    refine x_iald (v := (w7.1 225 (w - 100))) rfl rfl (by decide) (by omega) (by omega) rfl ?_
                    refine g_goto (tgt := 91) rfl (by decide) ?_
                    refine x_ireturn rfl rfl ?_
                    exact ⟨(by first | rfl | (exfalso; omega) | exact congrArg (fun z => some (tI z)) (by rw [hs7, hm2]; done) | exact congrArg (fun z => some (tI z)) (by rw [hr7, hm1]; done) | exact congrArg (fun z => some (tI z)) ((hA7 _ (by omega) (by omega)).trans (p_M_J hM6 hJ (w - 1000) (by omega) (by omega)).symm) | exact congrArg (fun z => some (tI z)) (by rw [hwp (by omega), (hM7.2 (w - 100) (by omega) (by omega)).2, hM6.2.2.1 (w - 100) (by omega) (by omega)]; done) | exact congrArg (fun z => some (tI z)) (by rw [hs8, hs7, hm2, hw70]; done) | exact congrArg (fun z => some (tI z)) (by omega)), tp_R_kp hR hkp7⟩
                · refine g_iconst rfl ⟨by decide, by decide⟩ ?_
                  refine g_goto (tgt := 72) rfl (by decide) ?_
                  refine x_ireturn rfl rfl ?_
                  intro _
                  refine x_ireturn rfl rfl ?_
                  refine ⟨_, rfl, ?_⟩
                  refine tp_ok_of mX12_rebuilt_ok rfl (Nat.le_refl _) ?_
                  refine g_aload_n rfl rfl ?_
                  refine g_iconst rfl ⟨by decide, by decide⟩ ?_
                  refine g_puti rfl rfl (by decide) rfl rfl ?_
                  refine g_aload_n rfl rfl ?_
                  refine g_iload_n rfl rfl ?_
                  refine g_iload_n rfl rfl ?_
                  refine g_iload_n rfl rfl ?_
                  refine g_iV (as := [tI (a : Int), tI (d : Int), tI 0]) mX12_layRebuilt_ok rfl rfl rfl rfl rfl rfl (by decide) rfl rfl rfl ?_
                  refine g_iload_n rfl rfl ?_
                  refine g_iconst rfl ⟨by decide, by decide⟩ ?_
                  refine g_icmp_eq (tgt := 14) rfl (by decide) (fun hx => absurd hx (by omega)) (fun _ => ?_)
                  refine g_aload_n rfl rfl ?_
                  refine g_iconst rfl ⟨by decide, by decide⟩ ?_
                  refine g_iload_n rfl rfl ?_
                  refine g_iV (as := [tI 2, tI 0]) mX12_is_ok rfl rfl rfl rfl rfl rfl (by decide) rfl rfl rfl ?_
                  refine g_iload_n rfl rfl ?_
                  refine g_iconst rfl ⟨by decide, by decide⟩ ?_
                  refine g_aload_n rfl rfl ?_
                  refine x_getF (r := 206) hG rfl rfl (by decide) (Or.inr ⟨_, rfl⟩) rfl ?_
                  refine g_iload_n rfl rfl ?_
                  refine x_iald (v := (w6.1 206 2)) rfl rfl (by decide) (by decide) (by decide) rfl ?_
                  refine g_iconst rfl ⟨by decide, by decide⟩ ?_
                  refine x_isub (z := (w6.1 206 2) - 1) rfl (by omega) ⟨by omega, by omega⟩ ?_
                  refine g_iS (as := [tI 0, tI 0, tI ((w6.1 206 2) - 1)]) mX12_in_ok rfl rfl rfl rfl rfl rfl rfl ?_
                  refine g_iload_n rfl rfl ?_
                  refine g_iload_n rfl rfl ?_
                  refine g_icmp_lt (tgt := 14) rfl (by decide) (fun hx => absurd hx (by omega)) (fun _ => ?_)
                  refine g_iload_n rfl rfl ?_
                  refine g_iload_n rfl rfl ?_
                  refine g_icmp_gt (tgt := 14) rfl (by decide) (fun hx => absurd hx (by omega)) (fun _ => ?_)
                  refine g_iconst rfl ⟨by decide, by decide⟩ ?_
                  refine g_goto (tgt := 15) rfl (by decide) ?_
                  refine x_zreturn rfl rfl (Or.inr rfl) ?_
                  intro _
                  refine x_zreturn rfl rfl (Or.inr rfl) ?_
                  intro _
                  refine g_if_eq (tgt := 23) rfl (by decide) (fun hx => absurd hx (by omega)) (fun _ => ?_)
                  refine g_aload_n rfl rfl ?_
                  refine g_iload_n rfl rfl ?_
                  refine g_iload_n rfl rfl ?_
                  refine g_iV (as := [tI (a : Int), tI (d : Int)]) mX12_layPackets_ok rfl rfl rfl rfl rfl rfl (by decide) rfl rfl rfl ?_
                  refine g_aload_n rfl rfl ?_
                  refine g_iload_n rfl rfl ?_
                  refine g_iload_n rfl rfl ?_
                  refine g_cV (as := [tI (a : Int), tI (d : Int)]) (hM _ (tp_kp_pi (by decide) hkp6)) rfl rfl mX12_lay_ok rfl rfl rfl (by decide) rfl rfl rfl ?_
                  rintro _ w2 ⟨rfl, hTm, hMc, hGm, hdr, hdm⟩ _
                  have hkp2 : tp_kp μ w2 := m_G_kp (tp_kp_pi (by decide) hkp6) hGm
                  have hm6 := hTm.1
                  have hall := hMc.2.2.1
                  refine g_if_ne (tgt := 11) rfl (by decide) (fun _ => ?_) (fun hx => absurd hx (by omega))
                  refine g_aload_n rfl rfl ?_
                  refine g_aload_n rfl rfl ?_
                  refine g_iconst rfl ⟨by decide, by decide⟩ ?_
                  refine g_cV (as := [tI 1]) (s_of hG hMc (by omega) (by omega)) rfl rfl mX12_of_ok rfl rfl rfl (by decide) rfl rfl rfl ?_
                  rintro _ w9 ⟨rfl, hw9⟩ _
                  have hw9 := hw9.symm
                  subst hw9
                  refine g_aload_n rfl rfl ?_
                  refine g_iconst rfl ⟨by decide, by decide⟩ ?_
                  refine g_cV (as := [tI 2]) (s_of hG hMc (by omega) (by omega)) rfl rfl mX12_of_ok rfl rfl rfl (by decide) rfl rfl rfl ?_
                  rintro _ w9 ⟨rfl, hw9⟩ _
                  have hw9 := hw9.symm
                  subst hw9
                  refine g_cV (as := [tI (f 1), tI (f 2)]) (s_encodesM hG hw hMc hW hTm (by omega) (by omega)) rfl rfl mX12_encodes_ok rfl rfl rfl (by decide) rfl rfl rfl ?_
                  rintro _ w4 ⟨rfl, hE4⟩ _
                  have hkp4 : tp_kp μ w4 := fun k9 z9 => (hE4.2.2.2.1 k9 (by unfold tp_tl at z9; omega) (by unfold tp_tl at z9; omega)).trans (hkp2 k9 z9)
                  rw [← hσ] at hE4
                  have hMB := hE4.2.1
                  have hsz4 : w4.1 201 47 = σ.1 0 9 := hE4.1.2.2.2.2.2.2.2.2.1
                  have hQ4 : v_Q σ w4 := ⟨hsz4, fun i i0 i1 => ⟨(hMB i i0 i1).1, (hMB i i0 i1).2.2.2.1, (hMB i i0 i1).2.2.2.2.1⟩⟩
                  have hn4 : w4.1 201 27 = n := by rw [hE4.2.2.2.2 27 (by omega)]; exact hm6
                  have hA4 : ∀ j, 0 ≤ j → j < n → w4.1 212 j = A j := fun j j0 j1 => by rw [hE4.2.2.2.1 212 (by omega) (by omega)]; exact hTm.2.1 j j0 j1
                  refine g_iconst rfl ⟨by decide, by decide⟩ ?_
                  refine x_zreturn rfl rfl (Or.inr rfl) ?_
                  intro _
                  refine g_if_ne (tgt := 25) rfl (by decide) (fun _ => ?_) (fun hx => absurd hx (by omega))
                  refine g_aload_n rfl rfl ?_
                  refine g_iload_n rfl rfl ?_
                  refine g_cV (as := [tI 0]) (s_by0 (g := tp_of μ 0) hG hQ4 hp9 (by omega) HH (fun i i0 i1 => by rw [hkp4 209 (by unfold tp_tl; omega)]; show μ.1 209 (0 + i) = μ.1 209 (101 * 0 + i); exact congrArg (μ.1 209) (by omega))) rfl rfl mX12_rebuildsBy_ok rfl rfl rfl (by decide) rfl rfl rfl ?_
                  rintro _ w7 ⟨rfl, hM7, hs7, hG7⟩ _
                  rw [← hs] at hM7 hs7
                  have hkp7 : tp_kp μ w7 := fun k9 z9 => (hG7.1 k9 (by unfold tp_tl at z9; omega) (by unfold tp_tl at z9; omega) (by unfold tp_tl at z9; omega) (by unfold tp_tl at z9; omega)).trans (hkp4 k9 z9)
                  have hn7 : w7.1 201 27 = n := by rw [hG7.2 27 (by omega) (by omega)]; exact hn4
                  have hA7 : ∀ j, 0 ≤ j → j < n → w7.1 212 j = A j := fun j j0 j1 => by rw [hG7.1 212 (by omega) (by omega) (by omega) (by omega)]; exact hA4 j j0 j1
                  have hr7 := hM7.1
                  have hQ7 : v_Q σ w7 := v_Q_G hG7 hQ4
                  refine g_iconst rfl ⟨by decide, by decide⟩ ?_
                  refine x_zreturn rfl rfl (Or.inr rfl) ?_
                  intro _
                  refine g_if_ne (tgt := 17) rfl (by decide) (fun _ => ?_) (fun hx => absurd hx (by omega))
                  refine g_iload rfl rfl ?_
                  refine g_sipush rfl ⟨by decide, by decide⟩ (by decide) ?_
                  refine g_icmp_lt (tgt := 58) rfl (by decide) (fun _ => ?_) (fun hx => absurd hx (by omega))
                  refine g_iload rfl rfl ?_
                  refine g_bipush rfl ⟨by decide, by decide⟩ (by decide) ?_
                  refine g_icmp_lt (tgt := 92) rfl (by decide) (fun hx => absurd hx (by omega)) (fun _ => ?_)
                  refine g_iload rfl rfl ?_
                  refine g_bipush rfl ⟨by decide, by decide⟩ (by decide) ?_
                  refine x_isub (z := w - 100) rfl (by omega) ⟨by omega, by omega⟩ ?_
                  refine g_aload_n rfl rfl ?_
                  refine x_geti (v := (w7.1 201 62)) rfl rfl (by decide) (Or.inl rfl) rfl ?_
                  refine g_icmp_ge (tgt := 90) rfl (by decide) (fun h13 => ?_) (fun h13 => ?_)
                  · refine g_iconst rfl ⟨by decide, by decide⟩ ?_
                    refine x_ireturn rfl rfl ?_
                    exact ⟨(by first | rfl | (exfalso; omega) | exact congrArg (fun z => some (tI z)) (by rw [hs7, hm2]; done) | exact congrArg (fun z => some (tI z)) (by rw [hr7, hm1]; done) | exact congrArg (fun z => some (tI z)) ((hA7 _ (by omega) (by omega)).trans (p_M_J hM6 hJ (w - 1000) (by omega) (by omega)).symm) | exact congrArg (fun z => some (tI z)) (by rw [hwp (by omega), (hM7.2 (w - 100) (by omega) (by omega)).2, hM6.2.2.1 (w - 100) (by omega) (by omega)]; done) | exact congrArg (fun z => some (tI z)) (by rw [hs8, hs7, hm2, hw70]; done) | exact congrArg (fun z => some (tI z)) (by omega)), tp_R_kp hR hkp7⟩
                  · refine g_aload_n rfl rfl ?_
                    refine x_getF (r := 225) hG rfl rfl (by decide) (Or.inr ⟨_, rfl⟩) rfl ?_
                    refine g_iload rfl rfl ?_
                    refine g_bipush rfl ⟨by decide, by decide⟩ (by decide) ?_
                    refine x_isub (z := w - 100) rfl (by omega) ⟨by omega, by omega⟩ ?_
                    refine x_iald (v := (w7.1 225 (w - 100))) rfl rfl (by decide) (by omega) (by omega) rfl ?_
                    refine g_goto (tgt := 91) rfl (by decide) ?_
                    refine x_ireturn rfl rfl ?_
                    exact ⟨(by first | rfl | (exfalso; omega) | exact congrArg (fun z => some (tI z)) (by rw [hs7, hm2]; done) | exact congrArg (fun z => some (tI z)) (by rw [hr7, hm1]; done) | exact congrArg (fun z => some (tI z)) ((hA7 _ (by omega) (by omega)).trans (p_M_J hM6 hJ (w - 1000) (by omega) (by omega)).symm) | exact congrArg (fun z => some (tI z)) (by rw [hwp (by omega), (hM7.2 (w - 100) (by omega) (by omega)).2, hM6.2.2.1 (w - 100) (by omega) (by omega)]; done) | exact congrArg (fun z => some (tI z)) (by rw [hs8, hs7, hm2, hw70]; done) | exact congrArg (fun z => some (tI z)) (by omega)), tp_R_kp hR hkp7⟩
          · refine g_aload_n rfl rfl ?_
            refine g_iload_n rfl rfl ?_
            refine g_sipush rfl ⟨by decide, by decide⟩ (by decide) ?_
            refine x_isub (z := w - 1000) rfl (by omega) ⟨by omega, by omega⟩ ?_
            refine g_iV (as := [tI (w - 1000)]) mX4_address_ok rfl rfl rfl rfl rfl rfl (by decide) rfl rfl rfl ?_
            refine g_iload_n rfl rfl ?_
            refine g_if_lt (tgt := 19) rfl (by decide) (fun hx => absurd hx (by omega)) (fun _ => ?_)
            refine g_iload_n rfl rfl ?_
            refine g_aload_n rfl rfl ?_
            refine x_geti (v := (w6.1 76 2)) rfl rfl (by decide) (Or.inl rfl) rfl ?_
            refine g_icmp_ge (tgt := 19) rfl (by decide) (fun h14 => ?_) (fun h14 => ?_)
            · refine g_iconst rfl ⟨by decide, by decide⟩ ?_
              refine g_goto (tgt := 29) rfl (by decide) ?_
              refine x_ireturn rfl rfl ?_
              intro _
              refine x_ireturn rfl rfl ?_
              intro _
              refine x_ireturn rfl rfl ?_
              refine ⟨_, rfl, ?_⟩
              refine tp_ok_of mX12_rebuilt_ok rfl (Nat.le_refl _) ?_
              refine g_aload_n rfl rfl ?_
              refine g_iconst rfl ⟨by decide, by decide⟩ ?_
              refine g_puti rfl rfl (by decide) rfl rfl ?_
              refine g_aload_n rfl rfl ?_
              refine g_iload_n rfl rfl ?_
              refine g_iload_n rfl rfl ?_
              refine g_iload_n rfl rfl ?_
              refine g_iV (as := [tI (a : Int), tI (d : Int), tI 0]) mX12_layRebuilt_ok rfl rfl rfl rfl rfl rfl (by decide) rfl rfl rfl ?_
              refine g_iload_n rfl rfl ?_
              refine g_iconst rfl ⟨by decide, by decide⟩ ?_
              refine g_icmp_eq (tgt := 14) rfl (by decide) (fun hx => absurd hx (by omega)) (fun _ => ?_)
              refine g_aload_n rfl rfl ?_
              refine g_iconst rfl ⟨by decide, by decide⟩ ?_
              refine g_iload_n rfl rfl ?_
              refine g_iV (as := [tI 2, tI 0]) mX12_is_ok rfl rfl rfl rfl rfl rfl (by decide) rfl rfl rfl ?_
              refine g_iload_n rfl rfl ?_
              refine g_iconst rfl ⟨by decide, by decide⟩ ?_
              refine g_aload_n rfl rfl ?_
              refine x_getF (r := 206) hG rfl rfl (by decide) (Or.inr ⟨_, rfl⟩) rfl ?_
              refine g_iload_n rfl rfl ?_
              refine x_iald (v := (w6.1 206 2)) rfl rfl (by decide) (by decide) (by decide) rfl ?_
              refine g_iconst rfl ⟨by decide, by decide⟩ ?_
              refine x_isub (z := (w6.1 206 2) - 1) rfl (by omega) ⟨by omega, by omega⟩ ?_
              refine g_iS (as := [tI 0, tI 0, tI ((w6.1 206 2) - 1)]) mX12_in_ok rfl rfl rfl rfl rfl rfl rfl ?_
              refine g_iload_n rfl rfl ?_
              refine g_iload_n rfl rfl ?_
              refine g_icmp_lt (tgt := 14) rfl (by decide) (fun hx => absurd hx (by omega)) (fun _ => ?_)
              refine g_iload_n rfl rfl ?_
              refine g_iload_n rfl rfl ?_
              refine g_icmp_gt (tgt := 14) rfl (by decide) (fun hx => absurd hx (by omega)) (fun _ => ?_)
              refine g_iconst rfl ⟨by decide, by decide⟩ ?_
              refine g_goto (tgt := 15) rfl (by decide) ?_
              refine x_zreturn rfl rfl (Or.inr rfl) ?_
              intro _
              refine x_zreturn rfl rfl (Or.inr rfl) ?_
              intro _
              refine g_if_eq (tgt := 23) rfl (by decide) (fun hx => absurd hx (by omega)) (fun _ => ?_)
              refine g_aload_n rfl rfl ?_
              refine g_iload_n rfl rfl ?_
              refine g_iload_n rfl rfl ?_
              refine g_iV (as := [tI (a : Int), tI (d : Int)]) mX12_layPackets_ok rfl rfl rfl rfl rfl rfl (by decide) rfl rfl rfl ?_
              refine g_aload_n rfl rfl ?_
              refine g_iload_n rfl rfl ?_
              refine g_iload_n rfl rfl ?_
              refine g_cV (as := [tI (a : Int), tI (d : Int)]) (hM _ (tp_kp_pi (by decide) hkp6)) rfl rfl mX12_lay_ok rfl rfl rfl (by decide) rfl rfl rfl ?_
              rintro _ w2 ⟨rfl, hTm, hMc, hGm, hdr, hdm⟩ _
              have hkp2 : tp_kp μ w2 := m_G_kp (tp_kp_pi (by decide) hkp6) hGm
              have hm6 := hTm.1
              have hall := hMc.2.2.1
              refine g_if_ne (tgt := 11) rfl (by decide) (fun _ => ?_) (fun hx => absurd hx (by omega))
              refine g_aload_n rfl rfl ?_
              refine g_aload_n rfl rfl ?_
              refine g_iconst rfl ⟨by decide, by decide⟩ ?_
              refine g_cV (as := [tI 1]) (s_of hG hMc (by omega) (by omega)) rfl rfl mX12_of_ok rfl rfl rfl (by decide) rfl rfl rfl ?_
              rintro _ w9 ⟨rfl, hw9⟩ _
              have hw9 := hw9.symm
              subst hw9
              refine g_aload_n rfl rfl ?_
              refine g_iconst rfl ⟨by decide, by decide⟩ ?_
              refine g_cV (as := [tI 2]) (s_of hG hMc (by omega) (by omega)) rfl rfl mX12_of_ok rfl rfl rfl (by decide) rfl rfl rfl ?_
              rintro _ w9 ⟨rfl, hw9⟩ _
              have hw9 := hw9.symm
              subst hw9
              refine g_cV (as := [tI (f 1), tI (f 2)]) (s_encodesM hG hw hMc hW hTm (by omega) (by omega)) rfl rfl mX12_encodes_ok rfl rfl rfl (by decide) rfl rfl rfl ?_
              rintro _ w4 ⟨rfl, hE4⟩ _
              have hkp4 : tp_kp μ w4 := fun k9 z9 => (hE4.2.2.2.1 k9 (by unfold tp_tl at z9; omega) (by unfold tp_tl at z9; omega)).trans (hkp2 k9 z9)
              rw [← hσ] at hE4
              have hMB := hE4.2.1
              have hsz4 : w4.1 201 47 = σ.1 0 9 := hE4.1.2.2.2.2.2.2.2.2.1
              have hQ4 : v_Q σ w4 := ⟨hsz4, fun i i0 i1 => ⟨(hMB i i0 i1).1, (hMB i i0 i1).2.2.2.1, (hMB i i0 i1).2.2.2.2.1⟩⟩
              have hn4 : w4.1 201 27 = n := by rw [hE4.2.2.2.2 27 (by omega)]; exact hm6
              have hA4 : ∀ j, 0 ≤ j → j < n → w4.1 212 j = A j := fun j j0 j1 => by rw [hE4.2.2.2.1 212 (by omega) (by omega)]; exact hTm.2.1 j j0 j1
              refine g_iconst rfl ⟨by decide, by decide⟩ ?_
              refine x_zreturn rfl rfl (Or.inr rfl) ?_
              intro _
              refine g_if_ne (tgt := 25) rfl (by decide) (fun _ => ?_) (fun hx => absurd hx (by omega))
              refine g_aload_n rfl rfl ?_
              refine g_iload_n rfl rfl ?_
              refine g_cV (as := [tI 0]) (s_by0 (g := tp_of μ 0) hG hQ4 hp9 (by omega) HH (fun i i0 i1 => by rw [hkp4 209 (by unfold tp_tl; omega)]; show μ.1 209 (0 + i) = μ.1 209 (101 * 0 + i); exact congrArg (μ.1 209) (by omega))) rfl rfl mX12_rebuildsBy_ok rfl rfl rfl (by decide) rfl rfl rfl ?_
              rintro _ w7 ⟨rfl, hM7, hs7, hG7⟩ _
              rw [← hs] at hM7 hs7
              have hkp7 : tp_kp μ w7 := fun k9 z9 => (hG7.1 k9 (by unfold tp_tl at z9; omega) (by unfold tp_tl at z9; omega) (by unfold tp_tl at z9; omega) (by unfold tp_tl at z9; omega)).trans (hkp4 k9 z9)
              have hn7 : w7.1 201 27 = n := by rw [hG7.2 27 (by omega) (by omega)]; exact hn4
              have hA7 : ∀ j, 0 ≤ j → j < n → w7.1 212 j = A j := fun j j0 j1 => by rw [hG7.1 212 (by omega) (by omega) (by omega) (by omega)]; exact hA4 j j0 j1
              have hr7 := hM7.1
              have hQ7 : v_Q σ w7 := v_Q_G hG7 hQ4
              refine g_iconst rfl ⟨by decide, by decide⟩ ?_
              refine x_zreturn rfl rfl (Or.inr rfl) ?_
              intro _
              refine g_if_ne (tgt := 17) rfl (by decide) (fun _ => ?_) (fun hx => absurd hx (by omega))
              refine g_iload rfl rfl ?_
              refine g_sipush rfl ⟨by decide, by decide⟩ (by decide) ?_
              refine g_icmp_lt (tgt := 58) rfl (by decide) (fun hx => absurd hx (by omega)) (fun _ => ?_)
              refine g_iload rfl rfl ?_
              refine g_sipush rfl ⟨by decide, by decide⟩ (by decide) ?_
              refine x_isub (z := w - 1000) rfl (by omega) ⟨by omega, by omega⟩ ?_
              refine g_aload_n rfl rfl ?_
              refine x_geti (v := (w7.1 201 63)) rfl rfl (by decide) (Or.inl rfl) rfl ?_
              refine g_icmp_ge (tgt := 56) rfl (by decide) (fun h15 => ?_) (fun h15 => ?_)
              · refine g_iconst rfl ⟨by decide, by decide⟩ ?_
                refine x_ireturn rfl rfl ?_
                exact ⟨(by first | rfl | (exfalso; omega) | exact congrArg (fun z => some (tI z)) (by rw [hs7, hm2]; done) | exact congrArg (fun z => some (tI z)) (by rw [hr7, hm1]; done) | exact congrArg (fun z => some (tI z)) ((hA7 _ (by omega) (by omega)).trans (p_M_J hM6 hJ (w - 1000) (by omega) (by omega)).symm) | exact congrArg (fun z => some (tI z)) (by rw [hwp (by omega), (hM7.2 (w - 100) (by omega) (by omega)).2, hM6.2.2.1 (w - 100) (by omega) (by omega)]; done) | exact congrArg (fun z => some (tI z)) (by rw [hs8, hs7, hm2, hw70]; done) | exact congrArg (fun z => some (tI z)) (by omega)), tp_R_kp hR hkp7⟩
              · refine g_aload_n rfl rfl ?_
                refine x_getF (r := 212) hG rfl rfl (by decide) (Or.inr ⟨_, rfl⟩) rfl ?_
                refine g_aload_n rfl rfl ?_
                refine g_iload rfl rfl ?_
                refine g_sipush rfl ⟨by decide, by decide⟩ (by decide) ?_
                refine x_isub (z := w - 1000) rfl (by omega) ⟨by omega, by omega⟩ ?_
                refine g_cV (as := [tI (w - 1000)]) (s_rstep hG hJ (by omega) (by omega) hM7 (by omega)) rfl rfl mX12_rebuiltStep_ok rfl rfl rfl (by decide) rfl rfl rfl ?_
                rintro _ w9 ⟨rfl, hw9⟩ _
                have hw9 := hw9.symm
                subst hw9
                have hjb := hJ.2.2.2.1 (w - 1000) (by omega) (by omega)
                refine x_iald (v := (w7.1 212 (J (w - 1000)))) rfl rfl (by decide) (by omega) (by omega) rfl ?_
                refine g_goto (tgt := 57) rfl (by decide) ?_
                refine x_ireturn rfl rfl ?_
                exact ⟨(by first | rfl | (exfalso; omega) | exact congrArg (fun z => some (tI z)) (by rw [hs7, hm2]; done) | exact congrArg (fun z => some (tI z)) (by rw [hr7, hm1]; done) | exact congrArg (fun z => some (tI z)) ((hA7 _ (by omega) (by omega)).trans (p_M_J hM6 hJ (w - 1000) (by omega) (by omega)).symm) | exact congrArg (fun z => some (tI z)) (by rw [hwp (by omega), (hM7.2 (w - 100) (by omega) (by omega)).2, hM6.2.2.1 (w - 100) (by omega) (by omega)]; done) | exact congrArg (fun z => some (tI z)) (by rw [hs8, hs7, hm2, hw70]; done) | exact congrArg (fun z => some (tI z)) (by omega)), tp_R_kp hR hkp7⟩
            · refine g_iload_n rfl rfl ?_
              refine g_sipush rfl ⟨by decide, by decide⟩ (by decide) ?_
              refine g_icmp_lt (tgt := 23) rfl (by decide) (fun h16 => ?_) (fun h16 => ?_)
              · refine g_aload_n rfl rfl ?_
                refine x_getF (r := 77) hG rfl rfl (by decide) (Or.inr ⟨_, rfl⟩) rfl ?_
                refine g_iload_n rfl rfl ?_
                refine x_iald (v := (w6.1 77 (w - 1000))) rfl rfl (by decide) (by omega) (by omega) rfl ?_
                refine x_ireturn rfl rfl ?_
                intro _
                refine x_ireturn rfl rfl ?_
                intro _
                refine x_ireturn rfl rfl ?_
                refine ⟨_, rfl, ?_⟩
                refine tp_ok_of mX12_rebuilt_ok rfl (Nat.le_refl _) ?_
                refine g_aload_n rfl rfl ?_
                refine g_iconst rfl ⟨by decide, by decide⟩ ?_
                refine g_puti rfl rfl (by decide) rfl rfl ?_
                refine g_aload_n rfl rfl ?_
                refine g_iload_n rfl rfl ?_
                refine g_iload_n rfl rfl ?_
                refine g_iload_n rfl rfl ?_
                refine g_iV (as := [tI (a : Int), tI (d : Int), tI 0]) mX12_layRebuilt_ok rfl rfl rfl rfl rfl rfl (by decide) rfl rfl rfl ?_
                refine g_iload_n rfl rfl ?_
                refine g_iconst rfl ⟨by decide, by decide⟩ ?_
                refine g_icmp_eq (tgt := 14) rfl (by decide) (fun hx => absurd hx (by omega)) (fun _ => ?_)
                refine g_aload_n rfl rfl ?_
                refine g_iconst rfl ⟨by decide, by decide⟩ ?_
                refine g_iload_n rfl rfl ?_
                refine g_iV (as := [tI 2, tI 0]) mX12_is_ok rfl rfl rfl rfl rfl rfl (by decide) rfl rfl rfl ?_
                refine g_iload_n rfl rfl ?_
                refine g_iconst rfl ⟨by decide, by decide⟩ ?_
                refine g_aload_n rfl rfl ?_
                refine x_getF (r := 206) hG rfl rfl (by decide) (Or.inr ⟨_, rfl⟩) rfl ?_
                refine g_iload_n rfl rfl ?_
                refine x_iald (v := (w6.1 206 2)) rfl rfl (by decide) (by decide) (by decide) rfl ?_
                refine g_iconst rfl ⟨by decide, by decide⟩ ?_
                refine x_isub (z := (w6.1 206 2) - 1) rfl (by omega) ⟨by omega, by omega⟩ ?_
                refine g_iS (as := [tI 0, tI 0, tI ((w6.1 206 2) - 1)]) mX12_in_ok rfl rfl rfl rfl rfl rfl rfl ?_
                refine g_iload_n rfl rfl ?_
                refine g_iload_n rfl rfl ?_
                refine g_icmp_lt (tgt := 14) rfl (by decide) (fun hx => absurd hx (by omega)) (fun _ => ?_)
                refine g_iload_n rfl rfl ?_
                refine g_iload_n rfl rfl ?_
                refine g_icmp_gt (tgt := 14) rfl (by decide) (fun hx => absurd hx (by omega)) (fun _ => ?_)
                refine g_iconst rfl ⟨by decide, by decide⟩ ?_
                refine g_goto (tgt := 15) rfl (by decide) ?_
                refine x_zreturn rfl rfl (Or.inr rfl) ?_
                intro _
                refine x_zreturn rfl rfl (Or.inr rfl) ?_
                intro _
                refine g_if_eq (tgt := 23) rfl (by decide) (fun hx => absurd hx (by omega)) (fun _ => ?_)
                refine g_aload_n rfl rfl ?_
                refine g_iload_n rfl rfl ?_
                refine g_iload_n rfl rfl ?_
                refine g_iV (as := [tI (a : Int), tI (d : Int)]) mX12_layPackets_ok rfl rfl rfl rfl rfl rfl (by decide) rfl rfl rfl ?_
                refine g_aload_n rfl rfl ?_
                refine g_iload_n rfl rfl ?_
                refine g_iload_n rfl rfl ?_
                refine g_cV (as := [tI (a : Int), tI (d : Int)]) (hM _ (tp_kp_pi (by decide) hkp6)) rfl rfl mX12_lay_ok rfl rfl rfl (by decide) rfl rfl rfl ?_
                rintro _ w2 ⟨rfl, hTm, hMc, hGm, hdr, hdm⟩ _
                have hkp2 : tp_kp μ w2 := m_G_kp (tp_kp_pi (by decide) hkp6) hGm
                have hm6 := hTm.1
                have hall := hMc.2.2.1
                refine g_if_ne (tgt := 11) rfl (by decide) (fun _ => ?_) (fun hx => absurd hx (by omega))
                refine g_aload_n rfl rfl ?_
                refine g_aload_n rfl rfl ?_
                refine g_iconst rfl ⟨by decide, by decide⟩ ?_
                refine g_cV (as := [tI 1]) (s_of hG hMc (by omega) (by omega)) rfl rfl mX12_of_ok rfl rfl rfl (by decide) rfl rfl rfl ?_
                rintro _ w9 ⟨rfl, hw9⟩ _
                have hw9 := hw9.symm
                subst hw9
                refine g_aload_n rfl rfl ?_
                refine g_iconst rfl ⟨by decide, by decide⟩ ?_
                refine g_cV (as := [tI 2]) (s_of hG hMc (by omega) (by omega)) rfl rfl mX12_of_ok rfl rfl rfl (by decide) rfl rfl rfl ?_
                rintro _ w9 ⟨rfl, hw9⟩ _
                have hw9 := hw9.symm
                subst hw9
                refine g_cV (as := [tI (f 1), tI (f 2)]) (s_encodesM hG hw hMc hW hTm (by omega) (by omega)) rfl rfl mX12_encodes_ok rfl rfl rfl (by decide) rfl rfl rfl ?_
                rintro _ w4 ⟨rfl, hE4⟩ _
                have hkp4 : tp_kp μ w4 := fun k9 z9 => (hE4.2.2.2.1 k9 (by unfold tp_tl at z9; omega) (by unfold tp_tl at z9; omega)).trans (hkp2 k9 z9)
                rw [← hσ] at hE4
                have hMB := hE4.2.1
                have hsz4 : w4.1 201 47 = σ.1 0 9 := hE4.1.2.2.2.2.2.2.2.2.1
                have hQ4 : v_Q σ w4 := ⟨hsz4, fun i i0 i1 => ⟨(hMB i i0 i1).1, (hMB i i0 i1).2.2.2.1, (hMB i i0 i1).2.2.2.2.1⟩⟩
                have hn4 : w4.1 201 27 = n := by rw [hE4.2.2.2.2 27 (by omega)]; exact hm6
                have hA4 : ∀ j, 0 ≤ j → j < n → w4.1 212 j = A j := fun j j0 j1 => by rw [hE4.2.2.2.1 212 (by omega) (by omega)]; exact hTm.2.1 j j0 j1
                refine g_iconst rfl ⟨by decide, by decide⟩ ?_
                refine x_zreturn rfl rfl (Or.inr rfl) ?_
                intro _
                refine g_if_ne (tgt := 25) rfl (by decide) (fun _ => ?_) (fun hx => absurd hx (by omega))
                refine g_aload_n rfl rfl ?_
                refine g_iload_n rfl rfl ?_
                refine g_cV (as := [tI 0]) (s_by0 (g := tp_of μ 0) hG hQ4 hp9 (by omega) HH (fun i i0 i1 => by rw [hkp4 209 (by unfold tp_tl; omega)]; show μ.1 209 (0 + i) = μ.1 209 (101 * 0 + i); exact congrArg (μ.1 209) (by omega))) rfl rfl mX12_rebuildsBy_ok rfl rfl rfl (by decide) rfl rfl rfl ?_
                rintro _ w7 ⟨rfl, hM7, hs7, hG7⟩ _
                rw [← hs] at hM7 hs7
                have hkp7 : tp_kp μ w7 := fun k9 z9 => (hG7.1 k9 (by unfold tp_tl at z9; omega) (by unfold tp_tl at z9; omega) (by unfold tp_tl at z9; omega) (by unfold tp_tl at z9; omega)).trans (hkp4 k9 z9)
                have hn7 : w7.1 201 27 = n := by rw [hG7.2 27 (by omega) (by omega)]; exact hn4
                have hA7 : ∀ j, 0 ≤ j → j < n → w7.1 212 j = A j := fun j j0 j1 => by rw [hG7.1 212 (by omega) (by omega) (by omega) (by omega)]; exact hA4 j j0 j1
                have hr7 := hM7.1
                have hQ7 : v_Q σ w7 := v_Q_G hG7 hQ4
                refine g_iconst rfl ⟨by decide, by decide⟩ ?_
                refine x_zreturn rfl rfl (Or.inr rfl) ?_
                intro _
                refine g_if_ne (tgt := 17) rfl (by decide) (fun _ => ?_) (fun hx => absurd hx (by omega))
                refine g_iload rfl rfl ?_
                refine g_sipush rfl ⟨by decide, by decide⟩ (by decide) ?_
                refine g_icmp_lt (tgt := 58) rfl (by decide) (fun hx => absurd hx (by omega)) (fun _ => ?_)
                refine g_iload rfl rfl ?_
                refine g_sipush rfl ⟨by decide, by decide⟩ (by decide) ?_
                refine x_isub (z := w - 1000) rfl (by omega) ⟨by omega, by omega⟩ ?_
                refine g_aload_n rfl rfl ?_
                refine x_geti (v := (w7.1 201 63)) rfl rfl (by decide) (Or.inl rfl) rfl ?_
                refine g_icmp_ge (tgt := 56) rfl (by decide) (fun h17 => ?_) (fun h17 => ?_)
                · refine g_iconst rfl ⟨by decide, by decide⟩ ?_
                  refine x_ireturn rfl rfl ?_
                  exact ⟨(by first | rfl | (exfalso; omega) | exact congrArg (fun z => some (tI z)) (by rw [hs7, hm2]; done) | exact congrArg (fun z => some (tI z)) (by rw [hr7, hm1]; done) | exact congrArg (fun z => some (tI z)) ((hA7 _ (by omega) (by omega)).trans (p_M_J hM6 hJ (w - 1000) (by omega) (by omega)).symm) | exact congrArg (fun z => some (tI z)) (by rw [hwp (by omega), (hM7.2 (w - 100) (by omega) (by omega)).2, hM6.2.2.1 (w - 100) (by omega) (by omega)]; done) | exact congrArg (fun z => some (tI z)) (by rw [hs8, hs7, hm2, hw70]; done) | exact congrArg (fun z => some (tI z)) (by omega)), tp_R_kp hR hkp7⟩
                · refine g_aload_n rfl rfl ?_
                  refine x_getF (r := 212) hG rfl rfl (by decide) (Or.inr ⟨_, rfl⟩) rfl ?_
                  refine g_aload_n rfl rfl ?_
                  refine g_iload rfl rfl ?_
                  refine g_sipush rfl ⟨by decide, by decide⟩ (by decide) ?_
                  refine x_isub (z := w - 1000) rfl (by omega) ⟨by omega, by omega⟩ ?_
                  refine g_cV (as := [tI (w - 1000)]) (s_rstep hG hJ (by omega) (by omega) hM7 (by omega)) rfl rfl mX12_rebuiltStep_ok rfl rfl rfl (by decide) rfl rfl rfl ?_
                  rintro _ w9 ⟨rfl, hw9⟩ _
                  have hw9 := hw9.symm
                  subst hw9
                  have hjb := hJ.2.2.2.1 (w - 1000) (by omega) (by omega)
                  refine x_iald (v := (w7.1 212 (J (w - 1000)))) rfl rfl (by decide) (by omega) (by omega) rfl ?_
                  refine g_goto (tgt := 57) rfl (by decide) ?_
                  refine x_ireturn rfl rfl ?_
                  exact ⟨(by first | rfl | (exfalso; omega) | exact congrArg (fun z => some (tI z)) (by rw [hs7, hm2]; done) | exact congrArg (fun z => some (tI z)) (by rw [hr7, hm1]; done) | exact congrArg (fun z => some (tI z)) ((hA7 _ (by omega) (by omega)).trans (p_M_J hM6 hJ (w - 1000) (by omega) (by omega)).symm) | exact congrArg (fun z => some (tI z)) (by rw [hwp (by omega), (hM7.2 (w - 100) (by omega) (by omega)).2, hM6.2.2.1 (w - 100) (by omega) (by omega)]; done) | exact congrArg (fun z => some (tI z)) (by rw [hs8, hs7, hm2, hw70]; done) | exact congrArg (fun z => some (tI z)) (by omega)), tp_R_kp hR hkp7⟩
              · refine g_iconst rfl ⟨by decide, by decide⟩ ?_
                refine g_goto (tgt := 29) rfl (by decide) ?_
                refine x_ireturn rfl rfl ?_
                intro _
                refine x_ireturn rfl rfl ?_
                intro _
                refine x_ireturn rfl rfl ?_
                refine ⟨_, rfl, ?_⟩
                refine tp_ok_of mX12_rebuilt_ok rfl (Nat.le_refl _) ?_
                refine g_aload_n rfl rfl ?_
                refine g_iconst rfl ⟨by decide, by decide⟩ ?_
                refine g_puti rfl rfl (by decide) rfl rfl ?_
                refine g_aload_n rfl rfl ?_
                refine g_iload_n rfl rfl ?_
                refine g_iload_n rfl rfl ?_
                refine g_iload_n rfl rfl ?_
                refine g_iV (as := [tI (a : Int), tI (d : Int), tI 0]) mX12_layRebuilt_ok rfl rfl rfl rfl rfl rfl (by decide) rfl rfl rfl ?_
                refine g_iload_n rfl rfl ?_
                refine g_iconst rfl ⟨by decide, by decide⟩ ?_
                refine g_icmp_eq (tgt := 14) rfl (by decide) (fun hx => absurd hx (by omega)) (fun _ => ?_)
                refine g_aload_n rfl rfl ?_
                refine g_iconst rfl ⟨by decide, by decide⟩ ?_
                refine g_iload_n rfl rfl ?_
                refine g_iV (as := [tI 2, tI 0]) mX12_is_ok rfl rfl rfl rfl rfl rfl (by decide) rfl rfl rfl ?_
                refine g_iload_n rfl rfl ?_
                refine g_iconst rfl ⟨by decide, by decide⟩ ?_
                refine g_aload_n rfl rfl ?_
                refine x_getF (r := 206) hG rfl rfl (by decide) (Or.inr ⟨_, rfl⟩) rfl ?_
                refine g_iload_n rfl rfl ?_
                refine x_iald (v := (w6.1 206 2)) rfl rfl (by decide) (by decide) (by decide) rfl ?_
                refine g_iconst rfl ⟨by decide, by decide⟩ ?_
                refine x_isub (z := (w6.1 206 2) - 1) rfl (by omega) ⟨by omega, by omega⟩ ?_
                refine g_iS (as := [tI 0, tI 0, tI ((w6.1 206 2) - 1)]) mX12_in_ok rfl rfl rfl rfl rfl rfl rfl ?_
                refine g_iload_n rfl rfl ?_
                refine g_iload_n rfl rfl ?_
                refine g_icmp_lt (tgt := 14) rfl (by decide) (fun hx => absurd hx (by omega)) (fun _ => ?_)
                refine g_iload_n rfl rfl ?_
                refine g_iload_n rfl rfl ?_
                refine g_icmp_gt (tgt := 14) rfl (by decide) (fun hx => absurd hx (by omega)) (fun _ => ?_)
                refine g_iconst rfl ⟨by decide, by decide⟩ ?_
                refine g_goto (tgt := 15) rfl (by decide) ?_
                refine x_zreturn rfl rfl (Or.inr rfl) ?_
                intro _
                refine x_zreturn rfl rfl (Or.inr rfl) ?_
                intro _
                refine g_if_eq (tgt := 23) rfl (by decide) (fun hx => absurd hx (by omega)) (fun _ => ?_)
                refine g_aload_n rfl rfl ?_
                refine g_iload_n rfl rfl ?_
                refine g_iload_n rfl rfl ?_
                refine g_iV (as := [tI (a : Int), tI (d : Int)]) mX12_layPackets_ok rfl rfl rfl rfl rfl rfl (by decide) rfl rfl rfl ?_
                refine g_aload_n rfl rfl ?_
                refine g_iload_n rfl rfl ?_
                refine g_iload_n rfl rfl ?_
                refine g_cV (as := [tI (a : Int), tI (d : Int)]) (hM _ (tp_kp_pi (by decide) hkp6)) rfl rfl mX12_lay_ok rfl rfl rfl (by decide) rfl rfl rfl ?_
                rintro _ w2 ⟨rfl, hTm, hMc, hGm, hdr, hdm⟩ _
                have hkp2 : tp_kp μ w2 := m_G_kp (tp_kp_pi (by decide) hkp6) hGm
                have hm6 := hTm.1
                have hall := hMc.2.2.1
                refine g_if_ne (tgt := 11) rfl (by decide) (fun _ => ?_) (fun hx => absurd hx (by omega))
                refine g_aload_n rfl rfl ?_
                refine g_aload_n rfl rfl ?_
                refine g_iconst rfl ⟨by decide, by decide⟩ ?_
                refine g_cV (as := [tI 1]) (s_of hG hMc (by omega) (by omega)) rfl rfl mX12_of_ok rfl rfl rfl (by decide) rfl rfl rfl ?_
                rintro _ w9 ⟨rfl, hw9⟩ _
                have hw9 := hw9.symm
                subst hw9
                refine g_aload_n rfl rfl ?_
                refine g_iconst rfl ⟨by decide, by decide⟩ ?_
                refine g_cV (as := [tI 2]) (s_of hG hMc (by omega) (by omega)) rfl rfl mX12_of_ok rfl rfl rfl (by decide) rfl rfl rfl ?_
                rintro _ w9 ⟨rfl, hw9⟩ _
                have hw9 := hw9.symm
                subst hw9
                refine g_cV (as := [tI (f 1), tI (f 2)]) (s_encodesM hG hw hMc hW hTm (by omega) (by omega)) rfl rfl mX12_encodes_ok rfl rfl rfl (by decide) rfl rfl rfl ?_
                rintro _ w4 ⟨rfl, hE4⟩ _
                have hkp4 : tp_kp μ w4 := fun k9 z9 => (hE4.2.2.2.1 k9 (by unfold tp_tl at z9; omega) (by unfold tp_tl at z9; omega)).trans (hkp2 k9 z9)
                rw [← hσ] at hE4
                have hMB := hE4.2.1
                have hsz4 : w4.1 201 47 = σ.1 0 9 := hE4.1.2.2.2.2.2.2.2.2.1
                have hQ4 : v_Q σ w4 := ⟨hsz4, fun i i0 i1 => ⟨(hMB i i0 i1).1, (hMB i i0 i1).2.2.2.1, (hMB i i0 i1).2.2.2.2.1⟩⟩
                have hn4 : w4.1 201 27 = n := by rw [hE4.2.2.2.2 27 (by omega)]; exact hm6
                have hA4 : ∀ j, 0 ≤ j → j < n → w4.1 212 j = A j := fun j j0 j1 => by rw [hE4.2.2.2.1 212 (by omega) (by omega)]; exact hTm.2.1 j j0 j1
                refine g_iconst rfl ⟨by decide, by decide⟩ ?_
                refine x_zreturn rfl rfl (Or.inr rfl) ?_
                intro _
                refine g_if_ne (tgt := 25) rfl (by decide) (fun _ => ?_) (fun hx => absurd hx (by omega))
                refine g_aload_n rfl rfl ?_
                refine g_iload_n rfl rfl ?_
                refine g_cV (as := [tI 0]) (s_by0 (g := tp_of μ 0) hG hQ4 hp9 (by omega) HH (fun i i0 i1 => by rw [hkp4 209 (by unfold tp_tl; omega)]; show μ.1 209 (0 + i) = μ.1 209 (101 * 0 + i); exact congrArg (μ.1 209) (by omega))) rfl rfl mX12_rebuildsBy_ok rfl rfl rfl (by decide) rfl rfl rfl ?_
                rintro _ w7 ⟨rfl, hM7, hs7, hG7⟩ _
                rw [← hs] at hM7 hs7
                have hkp7 : tp_kp μ w7 := fun k9 z9 => (hG7.1 k9 (by unfold tp_tl at z9; omega) (by unfold tp_tl at z9; omega) (by unfold tp_tl at z9; omega) (by unfold tp_tl at z9; omega)).trans (hkp4 k9 z9)
                have hn7 : w7.1 201 27 = n := by rw [hG7.2 27 (by omega) (by omega)]; exact hn4
                have hA7 : ∀ j, 0 ≤ j → j < n → w7.1 212 j = A j := fun j j0 j1 => by rw [hG7.1 212 (by omega) (by omega) (by omega) (by omega)]; exact hA4 j j0 j1
                have hr7 := hM7.1
                have hQ7 : v_Q σ w7 := v_Q_G hG7 hQ4
                refine g_iconst rfl ⟨by decide, by decide⟩ ?_
                refine x_zreturn rfl rfl (Or.inr rfl) ?_
                intro _
                refine g_if_ne (tgt := 17) rfl (by decide) (fun _ => ?_) (fun hx => absurd hx (by omega))
                refine g_iload rfl rfl ?_
                refine g_sipush rfl ⟨by decide, by decide⟩ (by decide) ?_
                refine g_icmp_lt (tgt := 58) rfl (by decide) (fun hx => absurd hx (by omega)) (fun _ => ?_)
                refine g_iload rfl rfl ?_
                refine g_sipush rfl ⟨by decide, by decide⟩ (by decide) ?_
                refine x_isub (z := w - 1000) rfl (by omega) ⟨by omega, by omega⟩ ?_
                refine g_aload_n rfl rfl ?_
                refine x_geti (v := (w7.1 201 63)) rfl rfl (by decide) (Or.inl rfl) rfl ?_
                refine g_icmp_ge (tgt := 56) rfl (by decide) (fun h18 => ?_) (fun h18 => ?_)
                · refine g_iconst rfl ⟨by decide, by decide⟩ ?_
                  refine x_ireturn rfl rfl ?_
                  exact ⟨(by first | rfl | (exfalso; omega) | exact congrArg (fun z => some (tI z)) (by rw [hs7, hm2]; done) | exact congrArg (fun z => some (tI z)) (by rw [hr7, hm1]; done) | exact congrArg (fun z => some (tI z)) ((hA7 _ (by omega) (by omega)).trans (p_M_J hM6 hJ (w - 1000) (by omega) (by omega)).symm) | exact congrArg (fun z => some (tI z)) (by rw [hwp (by omega), (hM7.2 (w - 100) (by omega) (by omega)).2, hM6.2.2.1 (w - 100) (by omega) (by omega)]; done) | exact congrArg (fun z => some (tI z)) (by rw [hs8, hs7, hm2, hw70]; done) | exact congrArg (fun z => some (tI z)) (by omega)), tp_R_kp hR hkp7⟩
                · refine g_aload_n rfl rfl ?_
                  refine x_getF (r := 212) hG rfl rfl (by decide) (Or.inr ⟨_, rfl⟩) rfl ?_
                  refine g_aload_n rfl rfl ?_
                  refine g_iload rfl rfl ?_
                  refine g_sipush rfl ⟨by decide, by decide⟩ (by decide) ?_
                  refine x_isub (z := w - 1000) rfl (by omega) ⟨by omega, by omega⟩ ?_
                  refine g_cV (as := [tI (w - 1000)]) (s_rstep hG hJ (by omega) (by omega) hM7 (by omega)) rfl rfl mX12_rebuiltStep_ok rfl rfl rfl (by decide) rfl rfl rfl ?_
                  rintro _ w9 ⟨rfl, hw9⟩ _
                  have hw9 := hw9.symm
                  subst hw9
                  have hjb := hJ.2.2.2.1 (w - 1000) (by omega) (by omega)
                  refine x_iald (v := (w7.1 212 (J (w - 1000)))) rfl rfl (by decide) (by omega) (by omega) rfl ?_
                  refine g_goto (tgt := 57) rfl (by decide) ?_
                  refine x_ireturn rfl rfl ?_
                  exact ⟨(by first | rfl | (exfalso; omega) | exact congrArg (fun z => some (tI z)) (by rw [hs7, hm2]; done) | exact congrArg (fun z => some (tI z)) (by rw [hr7, hm1]; done) | exact congrArg (fun z => some (tI z)) ((hA7 _ (by omega) (by omega)).trans (p_M_J hM6 hJ (w - 1000) (by omega) (by omega)).symm) | exact congrArg (fun z => some (tI z)) (by rw [hwp (by omega), (hM7.2 (w - 100) (by omega) (by omega)).2, hM6.2.2.1 (w - 100) (by omega) (by omega)]; done) | exact congrArg (fun z => some (tI z)) (by rw [hs8, hs7, hm2, hw70]; done) | exact congrArg (fun z => some (tI z)) (by omega)), tp_R_kp hR hkp7⟩
        · refine g_aload_n rfl rfl ?_
          refine x_geti (v := (w6.1 76 3)) rfl rfl (by decide) (Or.inl rfl) rfl ?_
          refine x_ireturn rfl rfl ?_
          intro _
          refine x_ireturn rfl rfl ?_
          refine ⟨_, rfl, ?_⟩
          refine tp_ok_of mX12_rebuilt_ok rfl (Nat.le_refl _) ?_
          refine g_aload_n rfl rfl ?_
          refine g_iconst rfl ⟨by decide, by decide⟩ ?_
          refine g_puti rfl rfl (by decide) rfl rfl ?_
          refine g_aload_n rfl rfl ?_
          refine g_iload_n rfl rfl ?_
          refine g_iload_n rfl rfl ?_
          refine g_iload_n rfl rfl ?_
          refine g_iV (as := [tI (a : Int), tI (d : Int), tI 0]) mX12_layRebuilt_ok rfl rfl rfl rfl rfl rfl (by decide) rfl rfl rfl ?_
          refine g_iload_n rfl rfl ?_
          refine g_iconst rfl ⟨by decide, by decide⟩ ?_
          refine g_icmp_eq (tgt := 14) rfl (by decide) (fun hx => absurd hx (by omega)) (fun _ => ?_)
          refine g_aload_n rfl rfl ?_
          refine g_iconst rfl ⟨by decide, by decide⟩ ?_
          refine g_iload_n rfl rfl ?_
          refine g_iV (as := [tI 2, tI 0]) mX12_is_ok rfl rfl rfl rfl rfl rfl (by decide) rfl rfl rfl ?_
          refine g_iload_n rfl rfl ?_
          refine g_iconst rfl ⟨by decide, by decide⟩ ?_
          refine g_aload_n rfl rfl ?_
          refine x_getF (r := 206) hG rfl rfl (by decide) (Or.inr ⟨_, rfl⟩) rfl ?_
          refine g_iload_n rfl rfl ?_
          refine x_iald (v := (w6.1 206 2)) rfl rfl (by decide) (by decide) (by decide) rfl ?_
          refine g_iconst rfl ⟨by decide, by decide⟩ ?_
          refine x_isub (z := (w6.1 206 2) - 1) rfl (by omega) ⟨by omega, by omega⟩ ?_
          refine g_iS (as := [tI 0, tI 0, tI ((w6.1 206 2) - 1)]) mX12_in_ok rfl rfl rfl rfl rfl rfl rfl ?_
          refine g_iload_n rfl rfl ?_
          refine g_iload_n rfl rfl ?_
          refine g_icmp_lt (tgt := 14) rfl (by decide) (fun hx => absurd hx (by omega)) (fun _ => ?_)
          refine g_iload_n rfl rfl ?_
          refine g_iload_n rfl rfl ?_
          refine g_icmp_gt (tgt := 14) rfl (by decide) (fun hx => absurd hx (by omega)) (fun _ => ?_)
          refine g_iconst rfl ⟨by decide, by decide⟩ ?_
          refine g_goto (tgt := 15) rfl (by decide) ?_
          refine x_zreturn rfl rfl (Or.inr rfl) ?_
          intro _
          refine x_zreturn rfl rfl (Or.inr rfl) ?_
          intro _
          refine g_if_eq (tgt := 23) rfl (by decide) (fun hx => absurd hx (by omega)) (fun _ => ?_)
          refine g_aload_n rfl rfl ?_
          refine g_iload_n rfl rfl ?_
          refine g_iload_n rfl rfl ?_
          refine g_iV (as := [tI (a : Int), tI (d : Int)]) mX12_layPackets_ok rfl rfl rfl rfl rfl rfl (by decide) rfl rfl rfl ?_
          refine g_aload_n rfl rfl ?_
          refine g_iload_n rfl rfl ?_
          refine g_iload_n rfl rfl ?_
          refine g_cV (as := [tI (a : Int), tI (d : Int)]) (hM _ (tp_kp_pi (by decide) hkp6)) rfl rfl mX12_lay_ok rfl rfl rfl (by decide) rfl rfl rfl ?_
          rintro _ w2 ⟨rfl, hTm, hMc, hGm, hdr, hdm⟩ _
          have hkp2 : tp_kp μ w2 := m_G_kp (tp_kp_pi (by decide) hkp6) hGm
          have hm6 := hTm.1
          have hall := hMc.2.2.1
          refine g_if_ne (tgt := 11) rfl (by decide) (fun _ => ?_) (fun hx => absurd hx (by omega))
          refine g_aload_n rfl rfl ?_
          refine g_aload_n rfl rfl ?_
          refine g_iconst rfl ⟨by decide, by decide⟩ ?_
          refine g_cV (as := [tI 1]) (s_of hG hMc (by omega) (by omega)) rfl rfl mX12_of_ok rfl rfl rfl (by decide) rfl rfl rfl ?_
          rintro _ w9 ⟨rfl, hw9⟩ _
          have hw9 := hw9.symm
          subst hw9
          refine g_aload_n rfl rfl ?_
          refine g_iconst rfl ⟨by decide, by decide⟩ ?_
          refine g_cV (as := [tI 2]) (s_of hG hMc (by omega) (by omega)) rfl rfl mX12_of_ok rfl rfl rfl (by decide) rfl rfl rfl ?_
          rintro _ w9 ⟨rfl, hw9⟩ _
          have hw9 := hw9.symm
          subst hw9
          refine g_cV (as := [tI (f 1), tI (f 2)]) (s_encodesM hG hw hMc hW hTm (by omega) (by omega)) rfl rfl mX12_encodes_ok rfl rfl rfl (by decide) rfl rfl rfl ?_
          rintro _ w4 ⟨rfl, hE4⟩ _
          have hkp4 : tp_kp μ w4 := fun k9 z9 => (hE4.2.2.2.1 k9 (by unfold tp_tl at z9; omega) (by unfold tp_tl at z9; omega)).trans (hkp2 k9 z9)
          rw [← hσ] at hE4
          have hMB := hE4.2.1
          have hsz4 : w4.1 201 47 = σ.1 0 9 := hE4.1.2.2.2.2.2.2.2.2.1
          have hQ4 : v_Q σ w4 := ⟨hsz4, fun i i0 i1 => ⟨(hMB i i0 i1).1, (hMB i i0 i1).2.2.2.1, (hMB i i0 i1).2.2.2.2.1⟩⟩
          have hn4 : w4.1 201 27 = n := by rw [hE4.2.2.2.2 27 (by omega)]; exact hm6
          have hA4 : ∀ j, 0 ≤ j → j < n → w4.1 212 j = A j := fun j j0 j1 => by rw [hE4.2.2.2.1 212 (by omega) (by omega)]; exact hTm.2.1 j j0 j1
          refine g_iconst rfl ⟨by decide, by decide⟩ ?_
          refine x_zreturn rfl rfl (Or.inr rfl) ?_
          intro _
          refine g_if_ne (tgt := 25) rfl (by decide) (fun _ => ?_) (fun hx => absurd hx (by omega))
          refine g_aload_n rfl rfl ?_
          refine g_iload_n rfl rfl ?_
          refine g_cV (as := [tI 0]) (s_by0 (g := tp_of μ 0) hG hQ4 hp9 (by omega) HH (fun i i0 i1 => by rw [hkp4 209 (by unfold tp_tl; omega)]; show μ.1 209 (0 + i) = μ.1 209 (101 * 0 + i); exact congrArg (μ.1 209) (by omega))) rfl rfl mX12_rebuildsBy_ok rfl rfl rfl (by decide) rfl rfl rfl ?_
          rintro _ w7 ⟨rfl, hM7, hs7, hG7⟩ _
          rw [← hs] at hM7 hs7
          have hkp7 : tp_kp μ w7 := fun k9 z9 => (hG7.1 k9 (by unfold tp_tl at z9; omega) (by unfold tp_tl at z9; omega) (by unfold tp_tl at z9; omega) (by unfold tp_tl at z9; omega)).trans (hkp4 k9 z9)
          have hn7 : w7.1 201 27 = n := by rw [hG7.2 27 (by omega) (by omega)]; exact hn4
          have hA7 : ∀ j, 0 ≤ j → j < n → w7.1 212 j = A j := fun j j0 j1 => by rw [hG7.1 212 (by omega) (by omega) (by omega) (by omega)]; exact hA4 j j0 j1
          have hr7 := hM7.1
          have hQ7 : v_Q σ w7 := v_Q_G hG7 hQ4
          refine g_iconst rfl ⟨by decide, by decide⟩ ?_
          refine x_zreturn rfl rfl (Or.inr rfl) ?_
          intro _
          refine g_if_ne (tgt := 17) rfl (by decide) (fun _ => ?_) (fun hx => absurd hx (by omega))
          refine g_iload rfl rfl ?_
          refine g_sipush rfl ⟨by decide, by decide⟩ (by decide) ?_
          refine g_icmp_lt (tgt := 58) rfl (by decide) (fun _ => ?_) (fun hx => absurd hx (by omega))
          refine g_iload rfl rfl ?_
          refine g_bipush rfl ⟨by decide, by decide⟩ (by decide) ?_
          refine g_icmp_lt (tgt := 92) rfl (by decide) (fun _ => ?_) (fun hx => absurd hx (by omega))
          refine g_iload rfl rfl ?_
          refine g_if_ne (tgt := 104) rfl (by decide) (fun _ => ?_) (fun hx => absurd hx (by omega))
          refine g_iload rfl rfl ?_
          refine g_iconst rfl ⟨by decide, by decide⟩ ?_
          refine g_icmp_ne (tgt := 117) rfl (by decide) (fun hx => absurd hx (by omega)) (fun _ => ?_)
          refine g_aload_n rfl rfl ?_
          refine x_geti (v := (w7.1 201 62)) rfl rfl (by decide) (Or.inl rfl) rfl ?_
          refine g_goto (tgt := 131) rfl (by decide) ?_
          refine x_ireturn rfl rfl ?_
          exact ⟨(by first | rfl | (exfalso; omega) | exact congrArg (fun z => some (tI z)) (by rw [hs7, hm2]; done) | exact congrArg (fun z => some (tI z)) (by rw [hr7, hm1]; done) | exact congrArg (fun z => some (tI z)) ((hA7 _ (by omega) (by omega)).trans (p_M_J hM6 hJ (w - 1000) (by omega) (by omega)).symm) | exact congrArg (fun z => some (tI z)) (by rw [hwp (by omega), (hM7.2 (w - 100) (by omega) (by omega)).2, hM6.2.2.1 (w - 100) (by omega) (by omega)]; done) | exact congrArg (fun z => some (tI z)) (by rw [hs8, hs7, hm2, hw70]; done) | exact congrArg (fun z => some (tI z)) (by omega)), tp_R_kp hR hkp7⟩
      · refine g_aload_n rfl rfl ?_
        refine x_geti (v := (w6.1 76 2)) rfl rfl (by decide) (Or.inl rfl) rfl ?_
        refine x_ireturn rfl rfl ?_
        intro _
        refine x_ireturn rfl rfl ?_
        refine ⟨_, rfl, ?_⟩
        refine tp_ok_of mX12_rebuilt_ok rfl (Nat.le_refl _) ?_
        refine g_aload_n rfl rfl ?_
        refine g_iconst rfl ⟨by decide, by decide⟩ ?_
        refine g_puti rfl rfl (by decide) rfl rfl ?_
        refine g_aload_n rfl rfl ?_
        refine g_iload_n rfl rfl ?_
        refine g_iload_n rfl rfl ?_
        refine g_iload_n rfl rfl ?_
        refine g_iV (as := [tI (a : Int), tI (d : Int), tI 0]) mX12_layRebuilt_ok rfl rfl rfl rfl rfl rfl (by decide) rfl rfl rfl ?_
        refine g_iload_n rfl rfl ?_
        refine g_iconst rfl ⟨by decide, by decide⟩ ?_
        refine g_icmp_eq (tgt := 14) rfl (by decide) (fun hx => absurd hx (by omega)) (fun _ => ?_)
        refine g_aload_n rfl rfl ?_
        refine g_iconst rfl ⟨by decide, by decide⟩ ?_
        refine g_iload_n rfl rfl ?_
        refine g_iV (as := [tI 2, tI 0]) mX12_is_ok rfl rfl rfl rfl rfl rfl (by decide) rfl rfl rfl ?_
        refine g_iload_n rfl rfl ?_
        refine g_iconst rfl ⟨by decide, by decide⟩ ?_
        refine g_aload_n rfl rfl ?_
        refine x_getF (r := 206) hG rfl rfl (by decide) (Or.inr ⟨_, rfl⟩) rfl ?_
        refine g_iload_n rfl rfl ?_
        refine x_iald (v := (w6.1 206 2)) rfl rfl (by decide) (by decide) (by decide) rfl ?_
        refine g_iconst rfl ⟨by decide, by decide⟩ ?_
        refine x_isub (z := (w6.1 206 2) - 1) rfl (by omega) ⟨by omega, by omega⟩ ?_
        refine g_iS (as := [tI 0, tI 0, tI ((w6.1 206 2) - 1)]) mX12_in_ok rfl rfl rfl rfl rfl rfl rfl ?_
        refine g_iload_n rfl rfl ?_
        refine g_iload_n rfl rfl ?_
        refine g_icmp_lt (tgt := 14) rfl (by decide) (fun hx => absurd hx (by omega)) (fun _ => ?_)
        refine g_iload_n rfl rfl ?_
        refine g_iload_n rfl rfl ?_
        refine g_icmp_gt (tgt := 14) rfl (by decide) (fun hx => absurd hx (by omega)) (fun _ => ?_)
        refine g_iconst rfl ⟨by decide, by decide⟩ ?_
        refine g_goto (tgt := 15) rfl (by decide) ?_
        refine x_zreturn rfl rfl (Or.inr rfl) ?_
        intro _
        refine x_zreturn rfl rfl (Or.inr rfl) ?_
        intro _
        refine g_if_eq (tgt := 23) rfl (by decide) (fun hx => absurd hx (by omega)) (fun _ => ?_)
        refine g_aload_n rfl rfl ?_
        refine g_iload_n rfl rfl ?_
        refine g_iload_n rfl rfl ?_
        refine g_iV (as := [tI (a : Int), tI (d : Int)]) mX12_layPackets_ok rfl rfl rfl rfl rfl rfl (by decide) rfl rfl rfl ?_
        refine g_aload_n rfl rfl ?_
        refine g_iload_n rfl rfl ?_
        refine g_iload_n rfl rfl ?_
        refine g_cV (as := [tI (a : Int), tI (d : Int)]) (hM _ (tp_kp_pi (by decide) hkp6)) rfl rfl mX12_lay_ok rfl rfl rfl (by decide) rfl rfl rfl ?_
        rintro _ w2 ⟨rfl, hTm, hMc, hGm, hdr, hdm⟩ _
        have hkp2 : tp_kp μ w2 := m_G_kp (tp_kp_pi (by decide) hkp6) hGm
        have hm6 := hTm.1
        have hall := hMc.2.2.1
        refine g_if_ne (tgt := 11) rfl (by decide) (fun _ => ?_) (fun hx => absurd hx (by omega))
        refine g_aload_n rfl rfl ?_
        refine g_aload_n rfl rfl ?_
        refine g_iconst rfl ⟨by decide, by decide⟩ ?_
        refine g_cV (as := [tI 1]) (s_of hG hMc (by omega) (by omega)) rfl rfl mX12_of_ok rfl rfl rfl (by decide) rfl rfl rfl ?_
        rintro _ w9 ⟨rfl, hw9⟩ _
        have hw9 := hw9.symm
        subst hw9
        refine g_aload_n rfl rfl ?_
        refine g_iconst rfl ⟨by decide, by decide⟩ ?_
        refine g_cV (as := [tI 2]) (s_of hG hMc (by omega) (by omega)) rfl rfl mX12_of_ok rfl rfl rfl (by decide) rfl rfl rfl ?_
        rintro _ w9 ⟨rfl, hw9⟩ _
        have hw9 := hw9.symm
        subst hw9
        refine g_cV (as := [tI (f 1), tI (f 2)]) (s_encodesM hG hw hMc hW hTm (by omega) (by omega)) rfl rfl mX12_encodes_ok rfl rfl rfl (by decide) rfl rfl rfl ?_
        rintro _ w4 ⟨rfl, hE4⟩ _
        have hkp4 : tp_kp μ w4 := fun k9 z9 => (hE4.2.2.2.1 k9 (by unfold tp_tl at z9; omega) (by unfold tp_tl at z9; omega)).trans (hkp2 k9 z9)
        rw [← hσ] at hE4
        have hMB := hE4.2.1
        have hsz4 : w4.1 201 47 = σ.1 0 9 := hE4.1.2.2.2.2.2.2.2.2.1
        have hQ4 : v_Q σ w4 := ⟨hsz4, fun i i0 i1 => ⟨(hMB i i0 i1).1, (hMB i i0 i1).2.2.2.1, (hMB i i0 i1).2.2.2.2.1⟩⟩
        have hn4 : w4.1 201 27 = n := by rw [hE4.2.2.2.2 27 (by omega)]; exact hm6
        have hA4 : ∀ j, 0 ≤ j → j < n → w4.1 212 j = A j := fun j j0 j1 => by rw [hE4.2.2.2.1 212 (by omega) (by omega)]; exact hTm.2.1 j j0 j1
        refine g_iconst rfl ⟨by decide, by decide⟩ ?_
        refine x_zreturn rfl rfl (Or.inr rfl) ?_
        intro _
        refine g_if_ne (tgt := 25) rfl (by decide) (fun _ => ?_) (fun hx => absurd hx (by omega))
        refine g_aload_n rfl rfl ?_
        refine g_iload_n rfl rfl ?_
        refine g_cV (as := [tI 0]) (s_by0 (g := tp_of μ 0) hG hQ4 hp9 (by omega) HH (fun i i0 i1 => by rw [hkp4 209 (by unfold tp_tl; omega)]; show μ.1 209 (0 + i) = μ.1 209 (101 * 0 + i); exact congrArg (μ.1 209) (by omega))) rfl rfl mX12_rebuildsBy_ok rfl rfl rfl (by decide) rfl rfl rfl ?_
        rintro _ w7 ⟨rfl, hM7, hs7, hG7⟩ _
        rw [← hs] at hM7 hs7
        have hkp7 : tp_kp μ w7 := fun k9 z9 => (hG7.1 k9 (by unfold tp_tl at z9; omega) (by unfold tp_tl at z9; omega) (by unfold tp_tl at z9; omega) (by unfold tp_tl at z9; omega)).trans (hkp4 k9 z9)
        have hn7 : w7.1 201 27 = n := by rw [hG7.2 27 (by omega) (by omega)]; exact hn4
        have hA7 : ∀ j, 0 ≤ j → j < n → w7.1 212 j = A j := fun j j0 j1 => by rw [hG7.1 212 (by omega) (by omega) (by omega) (by omega)]; exact hA4 j j0 j1
        have hr7 := hM7.1
        have hQ7 : v_Q σ w7 := v_Q_G hG7 hQ4
        refine g_iconst rfl ⟨by decide, by decide⟩ ?_
        refine x_zreturn rfl rfl (Or.inr rfl) ?_
        intro _
        refine g_if_ne (tgt := 17) rfl (by decide) (fun _ => ?_) (fun hx => absurd hx (by omega))
        refine g_iload rfl rfl ?_
        refine g_sipush rfl ⟨by decide, by decide⟩ (by decide) ?_
        refine g_icmp_lt (tgt := 58) rfl (by decide) (fun _ => ?_) (fun hx => absurd hx (by omega))
        refine g_iload rfl rfl ?_
        refine g_bipush rfl ⟨by decide, by decide⟩ (by decide) ?_
        refine g_icmp_lt (tgt := 92) rfl (by decide) (fun _ => ?_) (fun hx => absurd hx (by omega))
        refine g_iload rfl rfl ?_
        refine g_if_ne (tgt := 104) rfl (by decide) (fun hx => absurd hx (by omega)) (fun _ => ?_)
        refine g_aload_n rfl rfl ?_
        refine x_geti (v := (w7.1 201 63)) rfl rfl (by decide) (Or.inl rfl) rfl ?_
        refine g_goto (tgt := 131) rfl (by decide) ?_
        refine x_ireturn rfl rfl ?_
        exact ⟨(by first | rfl | (exfalso; omega) | exact congrArg (fun z => some (tI z)) (by rw [hs7, hm2]; done) | exact congrArg (fun z => some (tI z)) (by rw [hr7, hm1]; done) | exact congrArg (fun z => some (tI z)) ((hA7 _ (by omega) (by omega)).trans (p_M_J hM6 hJ (w - 1000) (by omega) (by omega)).symm) | exact congrArg (fun z => some (tI z)) (by rw [hwp (by omega), (hM7.2 (w - 100) (by omega) (by omega)).2, hM6.2.2.1 (w - 100) (by omega) (by omega)]; done) | exact congrArg (fun z => some (tI z)) (by rw [hs8, hs7, hm2, hw70]; done) | exact congrArg (fun z => some (tI z)) (by omega)), tp_R_kp hR hkp7⟩
    · refine g_aload_n rfl rfl ?_
      refine x_getF (r := 70) hG rfl rfl (by decide) (Or.inl ⟨_, rfl⟩) rfl ?_
      refine x_geti (v := (w6.1 70 6)) rfl rfl (by decide) (Or.inl rfl) rfl ?_
      refine g_aload_n rfl rfl ?_
      refine x_getF (r := 76) hG rfl rfl (by decide) (Or.inl ⟨_, rfl⟩) rfl ?_
      refine x_geti (v := (w6.1 76 2)) rfl rfl (by decide) (Or.inl rfl) rfl ?_
      refine x_isub (z := (w6.1 70 6) - (w6.1 76 2)) rfl (by omega) ⟨by omega, by omega⟩ ?_
      refine g_goto (tgt := 75) rfl (by decide) ?_
      refine x_ireturn rfl rfl ?_
      refine ⟨_, rfl, ?_⟩
      refine tp_ok_of mX12_rebuilt_ok rfl (Nat.le_refl _) ?_
      refine g_aload_n rfl rfl ?_
      refine g_iconst rfl ⟨by decide, by decide⟩ ?_
      refine g_puti rfl rfl (by decide) rfl rfl ?_
      refine g_aload_n rfl rfl ?_
      refine g_iload_n rfl rfl ?_
      refine g_iload_n rfl rfl ?_
      refine g_iload_n rfl rfl ?_
      refine g_iV (as := [tI (a : Int), tI (d : Int), tI 0]) mX12_layRebuilt_ok rfl rfl rfl rfl rfl rfl (by decide) rfl rfl rfl ?_
      refine g_iload_n rfl rfl ?_
      refine g_iconst rfl ⟨by decide, by decide⟩ ?_
      refine g_icmp_eq (tgt := 14) rfl (by decide) (fun hx => absurd hx (by omega)) (fun _ => ?_)
      refine g_aload_n rfl rfl ?_
      refine g_iconst rfl ⟨by decide, by decide⟩ ?_
      refine g_iload_n rfl rfl ?_
      refine g_iV (as := [tI 2, tI 0]) mX12_is_ok rfl rfl rfl rfl rfl rfl (by decide) rfl rfl rfl ?_
      refine g_iload_n rfl rfl ?_
      refine g_iconst rfl ⟨by decide, by decide⟩ ?_
      refine g_aload_n rfl rfl ?_
      refine x_getF (r := 206) hG rfl rfl (by decide) (Or.inr ⟨_, rfl⟩) rfl ?_
      refine g_iload_n rfl rfl ?_
      refine x_iald (v := (w6.1 206 2)) rfl rfl (by decide) (by decide) (by decide) rfl ?_
      refine g_iconst rfl ⟨by decide, by decide⟩ ?_
      refine x_isub (z := (w6.1 206 2) - 1) rfl (by omega) ⟨by omega, by omega⟩ ?_
      refine g_iS (as := [tI 0, tI 0, tI ((w6.1 206 2) - 1)]) mX12_in_ok rfl rfl rfl rfl rfl rfl rfl ?_
      refine g_iload_n rfl rfl ?_
      refine g_iload_n rfl rfl ?_
      refine g_icmp_lt (tgt := 14) rfl (by decide) (fun hx => absurd hx (by omega)) (fun _ => ?_)
      refine g_iload_n rfl rfl ?_
      refine g_iload_n rfl rfl ?_
      refine g_icmp_gt (tgt := 14) rfl (by decide) (fun hx => absurd hx (by omega)) (fun _ => ?_)
      refine g_iconst rfl ⟨by decide, by decide⟩ ?_
      refine g_goto (tgt := 15) rfl (by decide) ?_
      refine x_zreturn rfl rfl (Or.inr rfl) ?_
      intro _
      refine x_zreturn rfl rfl (Or.inr rfl) ?_
      intro _
      refine g_if_eq (tgt := 23) rfl (by decide) (fun hx => absurd hx (by omega)) (fun _ => ?_)
      refine g_aload_n rfl rfl ?_
      refine g_iload_n rfl rfl ?_
      refine g_iload_n rfl rfl ?_
      refine g_iV (as := [tI (a : Int), tI (d : Int)]) mX12_layPackets_ok rfl rfl rfl rfl rfl rfl (by decide) rfl rfl rfl ?_
      refine g_aload_n rfl rfl ?_
      refine g_iload_n rfl rfl ?_
      refine g_iload_n rfl rfl ?_
      refine g_cV (as := [tI (a : Int), tI (d : Int)]) (hM _ (tp_kp_pi (by decide) hkp6)) rfl rfl mX12_lay_ok rfl rfl rfl (by decide) rfl rfl rfl ?_
      rintro _ w2 ⟨rfl, hTm, hMc, hGm, hdr, hdm⟩ _
      have hkp2 : tp_kp μ w2 := m_G_kp (tp_kp_pi (by decide) hkp6) hGm
      have hm6 := hTm.1
      have hall := hMc.2.2.1
      refine g_if_ne (tgt := 11) rfl (by decide) (fun _ => ?_) (fun hx => absurd hx (by omega))
      refine g_aload_n rfl rfl ?_
      refine g_aload_n rfl rfl ?_
      refine g_iconst rfl ⟨by decide, by decide⟩ ?_
      refine g_cV (as := [tI 1]) (s_of hG hMc (by omega) (by omega)) rfl rfl mX12_of_ok rfl rfl rfl (by decide) rfl rfl rfl ?_
      rintro _ w9 ⟨rfl, hw9⟩ _
      have hw9 := hw9.symm
      subst hw9
      refine g_aload_n rfl rfl ?_
      refine g_iconst rfl ⟨by decide, by decide⟩ ?_
      refine g_cV (as := [tI 2]) (s_of hG hMc (by omega) (by omega)) rfl rfl mX12_of_ok rfl rfl rfl (by decide) rfl rfl rfl ?_
      rintro _ w9 ⟨rfl, hw9⟩ _
      have hw9 := hw9.symm
      subst hw9
      refine g_cV (as := [tI (f 1), tI (f 2)]) (s_encodesM hG hw hMc hW hTm (by omega) (by omega)) rfl rfl mX12_encodes_ok rfl rfl rfl (by decide) rfl rfl rfl ?_
      rintro _ w4 ⟨rfl, hE4⟩ _
      have hkp4 : tp_kp μ w4 := fun k9 z9 => (hE4.2.2.2.1 k9 (by unfold tp_tl at z9; omega) (by unfold tp_tl at z9; omega)).trans (hkp2 k9 z9)
      rw [← hσ] at hE4
      have hMB := hE4.2.1
      have hsz4 : w4.1 201 47 = σ.1 0 9 := hE4.1.2.2.2.2.2.2.2.2.1
      have hQ4 : v_Q σ w4 := ⟨hsz4, fun i i0 i1 => ⟨(hMB i i0 i1).1, (hMB i i0 i1).2.2.2.1, (hMB i i0 i1).2.2.2.2.1⟩⟩
      have hn4 : w4.1 201 27 = n := by rw [hE4.2.2.2.2 27 (by omega)]; exact hm6
      have hA4 : ∀ j, 0 ≤ j → j < n → w4.1 212 j = A j := fun j j0 j1 => by rw [hE4.2.2.2.1 212 (by omega) (by omega)]; exact hTm.2.1 j j0 j1
      refine g_iconst rfl ⟨by decide, by decide⟩ ?_
      refine x_zreturn rfl rfl (Or.inr rfl) ?_
      intro _
      refine g_if_ne (tgt := 25) rfl (by decide) (fun _ => ?_) (fun hx => absurd hx (by omega))
      refine g_aload_n rfl rfl ?_
      refine g_iload_n rfl rfl ?_
      refine g_cV (as := [tI 0]) (s_by0 (g := tp_of μ 0) hG hQ4 hp9 (by omega) HH (fun i i0 i1 => by rw [hkp4 209 (by unfold tp_tl; omega)]; show μ.1 209 (0 + i) = μ.1 209 (101 * 0 + i); exact congrArg (μ.1 209) (by omega))) rfl rfl mX12_rebuildsBy_ok rfl rfl rfl (by decide) rfl rfl rfl ?_
      rintro _ w7 ⟨rfl, hM7, hs7, hG7⟩ _
      rw [← hs] at hM7 hs7
      have hkp7 : tp_kp μ w7 := fun k9 z9 => (hG7.1 k9 (by unfold tp_tl at z9; omega) (by unfold tp_tl at z9; omega) (by unfold tp_tl at z9; omega) (by unfold tp_tl at z9; omega)).trans (hkp4 k9 z9)
      have hn7 : w7.1 201 27 = n := by rw [hG7.2 27 (by omega) (by omega)]; exact hn4
      have hA7 : ∀ j, 0 ≤ j → j < n → w7.1 212 j = A j := fun j j0 j1 => by rw [hG7.1 212 (by omega) (by omega) (by omega) (by omega)]; exact hA4 j j0 j1
      have hr7 := hM7.1
      have hQ7 : v_Q σ w7 := v_Q_G hG7 hQ4
      refine g_iconst rfl ⟨by decide, by decide⟩ ?_
      refine x_zreturn rfl rfl (Or.inr rfl) ?_
      intro _
      refine g_if_ne (tgt := 17) rfl (by decide) (fun _ => ?_) (fun hx => absurd hx (by omega))
      refine g_iload rfl rfl ?_
      refine g_sipush rfl ⟨by decide, by decide⟩ (by decide) ?_
      refine g_icmp_lt (tgt := 58) rfl (by decide) (fun _ => ?_) (fun hx => absurd hx (by omega))
      refine g_iload rfl rfl ?_
      refine g_bipush rfl ⟨by decide, by decide⟩ (by decide) ?_
      refine g_icmp_lt (tgt := 92) rfl (by decide) (fun _ => ?_) (fun hx => absurd hx (by omega))
      refine g_iload rfl rfl ?_
      refine g_if_ne (tgt := 104) rfl (by decide) (fun _ => ?_) (fun hx => absurd hx (by omega))
      refine g_iload rfl rfl ?_
      refine g_iconst rfl ⟨by decide, by decide⟩ ?_
      refine g_icmp_ne (tgt := 117) rfl (by decide) (fun _ => ?_) (fun hx => absurd hx (by omega))
      refine g_iload rfl rfl ?_
      refine g_iconst rfl ⟨by decide, by decide⟩ ?_
      refine g_icmp_ne (tgt := 130) rfl (by decide) (fun hx => absurd hx (by omega)) (fun _ => ?_)
      refine g_aload_n rfl rfl ?_
      refine g_iV (as := []) mX12_cost_ok rfl rfl rfl rfl rfl rfl (by decide) rfl rfl rfl ?_
      refine g_aload_n rfl rfl ?_
      refine x_geti (v := (w7.1 201 63)) rfl rfl (by decide) (Or.inl rfl) rfl ?_
      refine g_istore_n rfl rfl rfl ?_
      refine g_aload_n rfl rfl ?_
      refine g_iconst rfl ⟨by decide, by decide⟩ ?_
      refine g_cV (as := [tI (-1)]) (s_but (a := -1) hG hQ7 hp9 (by omega) HH) rfl rfl mX12_rebuildsBut_ok rfl rfl rfl (by decide) rfl rfl rfl ?_
      rintro _ w8 ⟨rfl, hM8, hs8, hG8⟩ _
      have hkp8 : tp_kp μ w8 := fun k9 z9 => (hG8.1 k9 (by unfold tp_tl at z9; omega) (by unfold tp_tl at z9; omega) (by unfold tp_tl at z9; omega) (by unfold tp_tl at z9; omega)).trans (hkp7 k9 z9)
      have hU8 := (v_U (l := v_1 (-1)) HH (fun i i0 i1 => if_neg (by omega)) (σ.1 0 9).toNat (by omega)).2.1
      rw [show (((σ.1 0 9).toNat : Nat) : Int) = σ.1 0 9 by omega] at hU8
      rw [hU8] at hs8
      refine g_aload_n rfl rfl ?_
      refine x_geti (v := (w8.1 201 63)) rfl rfl (by decide) (Or.inl rfl) rfl ?_
      refine g_iload_n rfl rfl ?_
      refine x_isub (z := (w8.1 201 63) - (w7.1 201 63)) rfl (by omega) ⟨by omega, by omega⟩ ?_
      refine x_ireturn rfl rfl ?_
      intro _
      refine g_goto (tgt := 131) rfl (by decide) ?_
      refine x_ireturn rfl rfl ?_
      exact ⟨(by first | (exfalso; omega) | exact congrArg (fun z => some (tI z)) (by rw [hs8, hs7, hm2, hw70])), tp_R_kp hR hkp8⟩
set_option maxHeartbeats 4000000 in
set_option maxRecDepth 100000 in
theorem p_rebuilt1 {G : tp_G} (hG : tp_Gf G = true) {a d w : Int} {μ : tp_M} (hR : tp_R μ) (hld : 1 < μ.1 5 2) (hwr : tp_r32 w) : tp_q G mX11_rebuilt mX12_rebuilt [tI a, tI d, tI 1, tI w] μ := by
  have hm2l := tp_R_many hR 2 (by decide) (by decide)
  have hm0 := tp_R_many hR 0 (by decide) (by decide)
  have hm1 := tp_R_many hR 1 (by decide) (by decide)
  by_cases hab : ((a < 0 ∨ μ.1 5 0 ≤ a) ∨ (d < 0 ∨ μ.1 5 1 ≤ d))
  · obtain ⟨hX, hM⟩ := tp_layo hG hR hab
    refine tp_ok_of mX11_rebuilt_ok rfl (Nat.le_refl _) ?_
    refine g_aload_n rfl rfl ?_
    refine x_getF (r := 1) hG rfl rfl (by decide) (Or.inl ⟨_, rfl⟩) rfl ?_
    refine g_iconst rfl ⟨by decide, by decide⟩ ?_
    refine g_iload_n rfl rfl ?_
    refine g_cV (as := [tI 2, tI 1]) (s_rowOf21 hG hld) rfl rfl mX9_rowOf_ok rfl rfl rfl (by decide) rfl rfl rfl ?_
    rintro _ w9 ⟨rfl, hw9⟩ _
    have hw9 := hw9.symm
    subst hw9
    refine g_astore rfl rfl rfl ?_
    refine g_aload rfl rfl ?_
    refine g_ifnonnull (tgt := 21) rfl (by decide) (fun _ _ => ?_) (fun hx => by cases hx)
    refine g_aload_n rfl rfl ?_
    refine g_iload_n rfl rfl ?_
    refine g_iload_n rfl rfl ?_
    refine g_cV (as := [tI a, tI d]) (hX) rfl rfl mX11_follow_ok rfl rfl rfl (by decide) rfl rfl rfl ?_
    rintro _ w9 ⟨rfl, hw9⟩ _
    have hw9 := hw9.symm
    subst hw9
    refine g_if_ne (tgt := 32) rfl (by decide) (fun hx => absurd hx (by omega)) (fun _ => ?_)
    refine g_iconst rfl ⟨by decide, by decide⟩ ?_
    refine x_ireturn rfl rfl ?_
    refine ⟨_, rfl, ?_⟩
    refine tp_ok_of mX12_rebuilt_ok rfl (Nat.le_refl _) ?_
    refine g_aload_n rfl rfl ?_
    refine g_iconst rfl ⟨by decide, by decide⟩ ?_
    refine g_puti rfl rfl (by decide) rfl rfl ?_
    refine g_aload_n rfl rfl ?_
    refine g_iload_n rfl rfl ?_
    refine g_iload_n rfl rfl ?_
    refine g_iload_n rfl rfl ?_
    refine g_iV (as := [tI a, tI d, tI 1]) mX12_layRebuilt_ok rfl rfl rfl rfl rfl rfl (by decide) rfl rfl rfl ?_
    refine g_iload_n rfl rfl ?_
    refine g_iconst rfl ⟨by decide, by decide⟩ ?_
    refine g_icmp_eq (tgt := 14) rfl (by decide) (fun hx => absurd hx (by omega)) (fun _ => ?_)
    refine g_aload_n rfl rfl ?_
    refine g_iconst rfl ⟨by decide, by decide⟩ ?_
    refine g_iload_n rfl rfl ?_
    refine g_iV (as := [tI 2, tI 1]) mX12_is_ok rfl rfl rfl rfl rfl rfl (by decide) rfl rfl rfl ?_
    refine g_iload_n rfl rfl ?_
    refine g_iconst rfl ⟨by decide, by decide⟩ ?_
    refine g_aload_n rfl rfl ?_
    refine x_getF (r := 206) hG rfl rfl (by decide) (Or.inr ⟨_, rfl⟩) rfl ?_
    refine g_iload_n rfl rfl ?_
    refine x_iald (v := (μ.1 206 2)) rfl rfl (by decide) (by decide) (by decide) rfl ?_
    refine g_iconst rfl ⟨by decide, by decide⟩ ?_
    refine x_isub (z := (μ.1 206 2) - 1) rfl (by omega) ⟨by omega, by omega⟩ ?_
    refine g_iS (as := [tI 1, tI 0, tI ((μ.1 206 2) - 1)]) mX12_in_ok rfl rfl rfl rfl rfl rfl rfl ?_
    refine g_iload_n rfl rfl ?_
    refine g_iload_n rfl rfl ?_
    refine g_icmp_lt (tgt := 14) rfl (by decide) (fun hx => absurd hx (by omega)) (fun _ => ?_)
    refine g_iload_n rfl rfl ?_
    refine g_iload_n rfl rfl ?_
    refine g_icmp_gt (tgt := 14) rfl (by decide) (fun hx => absurd hx (by omega)) (fun _ => ?_)
    refine g_iconst rfl ⟨by decide, by decide⟩ ?_
    refine g_goto (tgt := 15) rfl (by decide) ?_
    refine x_zreturn rfl rfl (Or.inr rfl) ?_
    intro _
    refine x_zreturn rfl rfl (Or.inr rfl) ?_
    intro _
    refine g_if_eq (tgt := 23) rfl (by decide) (fun hx => absurd hx (by omega)) (fun _ => ?_)
    refine g_aload_n rfl rfl ?_
    refine g_iload_n rfl rfl ?_
    refine g_iload_n rfl rfl ?_
    refine g_iV (as := [tI a, tI d]) mX12_layPackets_ok rfl rfl rfl rfl rfl rfl (by decide) rfl rfl rfl ?_
    refine g_aload_n rfl rfl ?_
    refine g_iload_n rfl rfl ?_
    refine g_iload_n rfl rfl ?_
    refine g_cV (as := [tI a, tI d]) (hM _ (tp_kp_pi (by decide) tp_kp_rf)) rfl rfl mX12_lay_ok rfl rfl rfl (by decide) rfl rfl rfl ?_
    rintro _ w2 ⟨rfl, hGm⟩ _
    have hkp2 : tp_kp μ w2 := m_G_kp (tp_kp_pi (by decide) tp_kp_rf) hGm
    refine g_if_ne (tgt := 11) rfl (by decide) (fun hx => absurd hx (by omega)) (fun _ => ?_)
    refine g_iconst rfl ⟨by decide, by decide⟩ ?_
    refine x_zreturn rfl rfl (Or.inl rfl) ?_
    intro _
    refine g_if_ne (tgt := 25) rfl (by decide) (fun hx => absurd hx (by omega)) (fun _ => ?_)
    refine g_iconst rfl ⟨by decide, by decide⟩ ?_
    refine x_zreturn rfl rfl (Or.inl rfl) ?_
    intro _
    refine g_if_ne (tgt := 17) rfl (by decide) (fun hx => absurd hx (by omega)) (fun _ => ?_)
    refine g_iconst rfl ⟨by decide, by decide⟩ ?_
    refine x_ireturn rfl rfl ?_
    exact ⟨rfl, tp_R_kp hR hkp2⟩
  · obtain ⟨a, rfl⟩ : ∃ a9 : Nat, a = (a9 : Int) := ⟨a.toNat, by omega⟩
    obtain ⟨d, rfl⟩ : ∃ d9 : Nat, d = (d9 : Int) := ⟨d.toNat, by omega⟩
    obtain ⟨n, A, B, Y, H, E, D, U, T, hW, hw, hCd0, hX, hM⟩ := tp_lay hG hR (k := a) (d := d) (by omega) (by omega) (by omega) (by omega)
    generalize tp_cf μ (a : Int) = f at hW hw hCd0 hX hM
    obtain ⟨c, hcE⟩ : ∃ c, c = 6 + 5 * a := ⟨_, rfl⟩
    rw [← hcE] at hCd0 hX
    have hc : tp_SH c = .inl 0 := by rcases (show a = 0 ∨ a = 1 by omega) with q | q <;> (subst q; subst hcE; rfl)
    have hcl : c < 37 := by omega
    have hcn : c < 234 := by omega
    have hw0 := hw.1
    have hn0 := hW.1
    have hrl := hw.2.2
    have hwl := hwr.1
    have hwu := hwr.2
    have hwp : 100 ≤ w → tp_w (w - 100) = w - 100 := fun z => tp_w_id ⟨by omega, by omega⟩
    refine tp_ok_of mX11_rebuilt_ok rfl (Nat.le_refl _) ?_
    refine g_aload_n rfl rfl ?_
    refine x_getF (r := 1) hG rfl rfl (by decide) (Or.inl ⟨_, rfl⟩) rfl ?_
    refine g_iconst rfl ⟨by decide, by decide⟩ ?_
    refine g_iload_n rfl rfl ?_
    refine g_cV (as := [tI 2, tI 1]) (s_rowOf21 hG hld) rfl rfl mX9_rowOf_ok rfl rfl rfl (by decide) rfl rfl rfl ?_
    rintro _ w9 ⟨rfl, hw9⟩ _
    have hw9 := hw9.symm
    subst hw9
    refine g_astore rfl rfl rfl ?_
    refine g_aload rfl rfl ?_
    refine g_ifnonnull (tgt := 21) rfl (by decide) (fun _ _ => ?_) (fun hx => by cases hx)
    refine g_aload_n rfl rfl ?_
    refine g_iload_n rfl rfl ?_
    refine g_iload_n rfl rfl ?_
    refine g_cV (as := [tI (a : Int), tI (d : Int)]) (hX) rfl rfl mX11_follow_ok rfl rfl rfl (by decide) rfl rfl rfl ?_
    rintro _ w1 ⟨rfl, hT, hco, hfr⟩ _
    have hCd : tp_Cd c f w1 := tp_Cd_fr hcl (fun k9 z9 => hfr k9 (by omega)) hCd0
    have hkp1 : tp_kp μ w1 := fun k9 z9 => hfr k9 (by unfold tp_tl at z9; omega)
    have hn6 := hT.1
    refine g_if_ne (tgt := 32) rfl (by decide) (fun _ => ?_) (fun hx => absurd hx (by omega))
    refine g_aload_n rfl rfl ?_
    refine g_iV (as := []) mX11_encode_ok rfl rfl rfl rfl rfl rfl (by decide) rfl rfl rfl ?_
    refine g_aload_n rfl rfl ?_
    refine x_getF (r := 50) hG rfl rfl (by decide) (Or.inl ⟨_, rfl⟩) rfl ?_
    refine x_getM (v := (some c)) hG rfl rfl (by decide) (Or.inl ⟨_, rfl⟩) rfl (by first | exact hco | exact hco3 | exact hco5) ?_
    refine g_astore_n rfl rfl rfl ?_
    refine g_aload_n rfl rfl ?_
    refine g_ifnull (tgt := 34) rfl (by decide) (fun hx => by cases hx) (fun _ _ => ?_)
    refine g_aload_n rfl rfl ?_
    refine x_getF (r := 62) hG rfl rfl (by decide) (Or.inl ⟨_, rfl⟩) rfl ?_
    refine g_aload_n rfl rfl ?_
    refine g_aload_n rfl rfl ?_
    refine x_getF (r := 50) hG rfl rfl (by decide) (Or.inl ⟨_, rfl⟩) rfl ?_
    refine g_aload_n rfl rfl ?_
    refine g_iconst rfl ⟨by decide, by decide⟩ ?_
    refine g_cV (as := [tI 0]) (s_ruleN (n := 1) hG hc hcl hCd (by decide) (by decide) (by decide)) rfl rfl mX0_rule_ok rfl hc rfl hcn rfl rfl rfl ?_
    rintro _ w9 ⟨rfl, hw9⟩ _
    have hw9 := hw9.symm
    subst hw9
    refine g_aload_n rfl rfl ?_
    refine g_iconst rfl ⟨by decide, by decide⟩ ?_
    refine g_cV (as := [tI 1]) (s_ruleN (n := 2) hG hc hcl hCd (by decide) (by decide) (by decide)) rfl rfl mX0_rule_ok rfl hc rfl hcn rfl rfl rfl ?_
    rintro _ w9 ⟨rfl, hw9⟩ _
    have hw9 := hw9.symm
    subst hw9
    refine g_cV (as := [tR (some c), tR (some 50), tI (f 1), tI (f 2)]) (s_encode hG hc hcl hw hCd hW hT (by omega) (by omega)) rfl rfl mX1_encode_ok rfl rfl rfl (by decide) rfl rfl rfl ?_
    rintro _ w3 ⟨rfl, hE3⟩ _
    have hkp3 : tp_kp μ w3 := fun k9 z9 => (hE3.2.2.2.2.1 k9 (by unfold tp_tl at z9; omega)).trans (hkp1 k9 z9)
    have hBJ := e_all_B (bt := f 1) (dp := f 2) hw hW (by omega) (by omega)
    obtain ⟨σ, hσ⟩ : ∃ σ9, σ9 = (e_all f (f 1) (f 2) A B Y n) := ⟨_, rfl⟩
    rw [← hσ] at hE3 hBJ
    have hbB := hBJ.1
    have hJ1 := hBJ.2.1
    have hJ2 := hBJ.2.2.1
    have hsz3 : w3.1 63 4 = σ.1 0 9 := hE3.1.2.2.2.2.2.2.2.2.1
    have hp9 : 0 ≤ σ.1 0 9 ∧ σ.1 0 9 ≤ 209 := by omega
    have HH : ∀ p, 0 ≤ p → p < σ.1 0 9 → s_H f A B Y (f 2) n σ p := by rw [hσ]; exact H_all hw hW (by omega) (by omega)
    have hCd3 : tp_Cd c f w3 := tp_Cd_fr hcl (fun k9 z9 => hE3.2.2.2.2.1 k9 (by omega)) hCd
    have hco3 : w3.2 50 5 = some c := by rw [hE3.2.2.2.2.2]; exact hco
    have hT3 : c_T 50 n A B Y E D U T w3 := c_T_fr (fun c9 z1 z2 => hE3.2.2.2.2.1 c9 (by omega)) hT
    refine x_return rfl rfl ?_
    intro _
    refine g_aload_n rfl rfl ?_
    refine g_aload rfl rfl ?_
    refine g_iV (as := [tR (some 31)]) mX11_rebuild_ok rfl rfl rfl rfl rfl rfl (by decide) rfl rfl rfl ?_
    refine g_aload_n rfl rfl ?_
    refine x_getF (r := 70) hG rfl rfl (by decide) (Or.inl ⟨_, rfl⟩) rfl ?_
    refine g_aload_n rfl rfl ?_
    refine x_getF (r := 50) hG rfl rfl (by decide) (Or.inl ⟨_, rfl⟩) rfl ?_
    refine x_getM (v := (some c)) hG rfl rfl (by decide) (Or.inl ⟨_, rfl⟩) rfl (by first | exact hco | exact hco3 | exact hco5) ?_
    refine g_aload_n rfl rfl ?_
    refine x_getF (r := 62) hG rfl rfl (by decide) (Or.inl ⟨_, rfl⟩) rfl ?_
    refine x_getF (r := 63) hG rfl rfl (by decide) (Or.inl ⟨_, rfl⟩) rfl ?_
    refine g_cV (as := [tR (some c), tR (some 63)]) (s_walk hG hc hcl hw hW hCd3 hsz3 hE3.2.1 hp9 HH) rfl rfl mX10_go_ok rfl rfl rfl (by decide) rfl rfl rfl ?_
    rintro _ w5 ⟨rfl, hQ5, hF5, hP5⟩ _
    have hkp5 : tp_kp μ w5 := fun k9 z9 => (hF5 k9 (by unfold tp_tl at z9; omega)).trans (hkp3 k9 z9)
    have hpk5 : w5.2 70 5 = some 63 := by rw [hP5]; rfl
    have hco5 : w5.2 50 5 = some c := by rw [hP5]; exact hco3
    have hsz5 : w5.1 63 4 = σ.1 0 9 := by rw [hF5 63 (by omega)]; exact hsz3
    have hB5 : c_B σ w5 := fun i z0 z1 => by rw [hF5 64 (by omega), hF5 65 (by omega), hF5 66 (by omega), hF5 67 (by omega)]; exact hE3.2.1 i z0 z1
    have hT5 : c_T 50 n A B Y E D U T w5 := c_T_fr (fun c9 z1 z2 => hF5 c9 (by omega)) hT3
    have hCd5 : tp_Cd c f w5 := tp_Cd_fr hcl (fun k9 z9 => hF5 k9 (by omega)) hCd3
    have hU9 : 0 ≤ w_U σ (σ.1 0 9) ∧ w_U σ (σ.1 0 9) ≤ 200 := by
      have q := w_U_b HH (σ.1 0 9).toNat (by omega)
      rw [show (((σ.1 0 9).toNat : Nat) : Int) = σ.1 0 9 by omega] at q
      refine ⟨q.1, ?_⟩
      rcases (show σ.1 0 9 = 0 ∨ 1 ≤ σ.1 0 9 by omega) with z | z
      · rw [z]; show (0 : Int) ≤ 200; omega
      · have q2 := q.2 (by omega); have q3 := (HH (σ.1 0 9 - 1) (by omega) (by omega)).2.1; omega
    have hL5 : tp_Lo w5.1 31 (tp_of μ 1) := by
      have hL := tp_R_loss hR 1 (by decide) hld
      unfold tp_Lo at hL ⊢
      rw [hkp5 31 (by unfold tp_tl; omega), hkp5 (31 + 1) (by unfold tp_tl; omega)]
      exact hL
    refine g_aload_n rfl rfl ?_
    refine x_getF (r := 76) hG rfl rfl (by decide) (Or.inl ⟨_, rfl⟩) rfl ?_
    refine g_aload_n rfl rfl ?_
    refine x_getF (r := 70) hG rfl rfl (by decide) (Or.inl ⟨_, rfl⟩) rfl ?_
    refine g_aload_n rfl rfl ?_
    refine g_iconst rfl ⟨by decide, by decide⟩ ?_
    refine g_cV (as := [tR (some 70), tR (some 31), tI (-1)]) (s_sift1 hG hsz5 hB5 hp9 (by omega) HH hQ5 hpk5 hL5) rfl rfl mX4_sift_ok rfl rfl rfl (by decide) rfl rfl rfl ?_
    rintro _ w6 ⟨rfl, hM6, hF6⟩ _
    obtain ⟨s, hs⟩ : ∃ s9, s9 = v_S (v_2 (tp_of μ 1)) σ (σ.1 0 9) := ⟨_, rfl⟩
    rw [← hs] at hM6
    have hI6 := v_I_all (l := (v_2 (tp_of μ 1))) HH hp9.1 (Int.le_refl _)
    rw [← hs] at hI6
    obtain ⟨J, hJ⟩ := v_J_ex (n := n) hI6 (v_K_n hn0.1 HH)
    have hnp6 : 0 ≤ s.2.1 ∧ s.2.1 ≤ 209 := by have := hI6.2.1; omega
    have hsz6 := hJ.2.2.2.2.1
    have hm1 := hM6.1
    have hm2 := hM6.2.1
    have hkp6 : tp_kp μ w6 := fun k9 z9 => (hF6.1 k9 (by unfold tp_tl at z9; omega) (by unfold tp_tl at z9; omega) (by unfold tp_tl at z9; omega)).trans (hkp5 k9 z9)
    have hw70 : w6.1 70 6 = w_U σ (σ.1 0 9) := by rw [hF6.1 70 (by omega) (by omega) (by omega)]; exact hQ5.1
    have h206 : w6.1 206 2 = μ.1 206 2 := by rw [hkp6 206 (by unfold tp_tl; omega)]
    refine x_return rfl rfl ?_
    intro _
    refine g_iload rfl rfl ?_
    refine g_iconst rfl ⟨by decide, by decide⟩ ?_
    refine g_icmp_ne (tgt := 66) rfl (by decide) (fun h1 => ?_) (fun h1 => ?_)
    · refine g_aload_n rfl rfl ?_
      refine x_getF (r := 76) hG rfl rfl (by decide) (Or.inl ⟨_, rfl⟩) rfl ?_
      refine g_iload rfl rfl ?_
      refine g_iV (as := [tI w]) mX4_tell_ok rfl rfl rfl rfl rfl rfl (by decide) rfl rfl rfl ?_
      refine g_iload_n rfl rfl ?_
      refine g_if_ne (tgt := 9) rfl (by decide) (fun h2 => ?_) (fun h2 => ?_)
      · refine g_iload_n rfl rfl ?_
        refine g_iconst rfl ⟨by decide, by decide⟩ ?_
        refine g_icmp_ne (tgt := 19) rfl (by decide) (fun h3 => ?_) (fun h3 => ?_)
        · refine g_iload_n rfl rfl ?_
          refine g_sipush rfl ⟨by decide, by decide⟩ (by decide) ?_
          refine g_icmp_lt (tgt := 36) rfl (by decide) (fun h4 => ?_) (fun h4 => ?_)
          · refine g_iload_n rfl rfl ?_
            refine g_bipush rfl ⟨by decide, by decide⟩ (by decide) ?_
            refine g_isub rfl ?_
            refine g_istore_n rfl rfl rfl ?_
            refine g_iload_n rfl rfl ?_
            refine g_bipush rfl ⟨by decide, by decide⟩ (by decide) ?_
            refine g_icmp_lt (tgt := 62) rfl (by decide) (fun h5 => ?_) (fun h5 => ?_)
            · refine g_iconst rfl ⟨by decide, by decide⟩ ?_
              refine g_goto (tgt := 72) rfl (by decide) ?_
              refine x_ireturn rfl rfl ?_
              intro _
              refine x_ireturn rfl rfl ?_
              refine ⟨_, rfl, ?_⟩
              refine tp_ok_of mX12_rebuilt_ok rfl (Nat.le_refl _) ?_
              refine g_aload_n rfl rfl ?_
              refine g_iconst rfl ⟨by decide, by decide⟩ ?_
              refine g_puti rfl rfl (by decide) rfl rfl ?_
              refine g_aload_n rfl rfl ?_
              refine g_iload_n rfl rfl ?_
              refine g_iload_n rfl rfl ?_
              refine g_iload_n rfl rfl ?_
              refine g_iV (as := [tI (a : Int), tI (d : Int), tI 1]) mX12_layRebuilt_ok rfl rfl rfl rfl rfl rfl (by decide) rfl rfl rfl ?_
              refine g_iload_n rfl rfl ?_
              refine g_iconst rfl ⟨by decide, by decide⟩ ?_
              refine g_icmp_eq (tgt := 14) rfl (by decide) (fun hx => absurd hx (by omega)) (fun _ => ?_)
              refine g_aload_n rfl rfl ?_
              refine g_iconst rfl ⟨by decide, by decide⟩ ?_
              refine g_iload_n rfl rfl ?_
              refine g_iV (as := [tI 2, tI 1]) mX12_is_ok rfl rfl rfl rfl rfl rfl (by decide) rfl rfl rfl ?_
              refine g_iload_n rfl rfl ?_
              refine g_iconst rfl ⟨by decide, by decide⟩ ?_
              refine g_aload_n rfl rfl ?_
              refine x_getF (r := 206) hG rfl rfl (by decide) (Or.inr ⟨_, rfl⟩) rfl ?_
              refine g_iload_n rfl rfl ?_
              refine x_iald (v := (w6.1 206 2)) rfl rfl (by decide) (by decide) (by decide) rfl ?_
              refine g_iconst rfl ⟨by decide, by decide⟩ ?_
              refine x_isub (z := (w6.1 206 2) - 1) rfl (by omega) ⟨by omega, by omega⟩ ?_
              refine g_iS (as := [tI 1, tI 0, tI ((w6.1 206 2) - 1)]) mX12_in_ok rfl rfl rfl rfl rfl rfl rfl ?_
              refine g_iload_n rfl rfl ?_
              refine g_iload_n rfl rfl ?_
              refine g_icmp_lt (tgt := 14) rfl (by decide) (fun hx => absurd hx (by omega)) (fun _ => ?_)
              refine g_iload_n rfl rfl ?_
              refine g_iload_n rfl rfl ?_
              refine g_icmp_gt (tgt := 14) rfl (by decide) (fun hx => absurd hx (by omega)) (fun _ => ?_)
              refine g_iconst rfl ⟨by decide, by decide⟩ ?_
              refine g_goto (tgt := 15) rfl (by decide) ?_
              refine x_zreturn rfl rfl (Or.inr rfl) ?_
              intro _
              refine x_zreturn rfl rfl (Or.inr rfl) ?_
              intro _
              refine g_if_eq (tgt := 23) rfl (by decide) (fun hx => absurd hx (by omega)) (fun _ => ?_)
              refine g_aload_n rfl rfl ?_
              refine g_iload_n rfl rfl ?_
              refine g_iload_n rfl rfl ?_
              refine g_iV (as := [tI (a : Int), tI (d : Int)]) mX12_layPackets_ok rfl rfl rfl rfl rfl rfl (by decide) rfl rfl rfl ?_
              refine g_aload_n rfl rfl ?_
              refine g_iload_n rfl rfl ?_
              refine g_iload_n rfl rfl ?_
              refine g_cV (as := [tI (a : Int), tI (d : Int)]) (hM _ (tp_kp_pi (by decide) hkp6)) rfl rfl mX12_lay_ok rfl rfl rfl (by decide) rfl rfl rfl ?_
              rintro _ w2 ⟨rfl, hTm, hMc, hGm, hdr, hdm⟩ _
              have hkp2 : tp_kp μ w2 := m_G_kp (tp_kp_pi (by decide) hkp6) hGm
              have hm6 := hTm.1
              have hall := hMc.2.2.1
              refine g_if_ne (tgt := 11) rfl (by decide) (fun _ => ?_) (fun hx => absurd hx (by omega))
              refine g_aload_n rfl rfl ?_
              refine g_aload_n rfl rfl ?_
              refine g_iconst rfl ⟨by decide, by decide⟩ ?_
              refine g_cV (as := [tI 1]) (s_of hG hMc (by omega) (by omega)) rfl rfl mX12_of_ok rfl rfl rfl (by decide) rfl rfl rfl ?_
              rintro _ w9 ⟨rfl, hw9⟩ _
              have hw9 := hw9.symm
              subst hw9
              refine g_aload_n rfl rfl ?_
              refine g_iconst rfl ⟨by decide, by decide⟩ ?_
              refine g_cV (as := [tI 2]) (s_of hG hMc (by omega) (by omega)) rfl rfl mX12_of_ok rfl rfl rfl (by decide) rfl rfl rfl ?_
              rintro _ w9 ⟨rfl, hw9⟩ _
              have hw9 := hw9.symm
              subst hw9
              refine g_cV (as := [tI (f 1), tI (f 2)]) (s_encodesM hG hw hMc hW hTm (by omega) (by omega)) rfl rfl mX12_encodes_ok rfl rfl rfl (by decide) rfl rfl rfl ?_
              rintro _ w4 ⟨rfl, hE4⟩ _
              have hkp4 : tp_kp μ w4 := fun k9 z9 => (hE4.2.2.2.1 k9 (by unfold tp_tl at z9; omega) (by unfold tp_tl at z9; omega)).trans (hkp2 k9 z9)
              rw [← hσ] at hE4
              have hMB := hE4.2.1
              have hsz4 : w4.1 201 47 = σ.1 0 9 := hE4.1.2.2.2.2.2.2.2.2.1
              have hQ4 : v_Q σ w4 := ⟨hsz4, fun i i0 i1 => ⟨(hMB i i0 i1).1, (hMB i i0 i1).2.2.2.1, (hMB i i0 i1).2.2.2.2.1⟩⟩
              have hn4 : w4.1 201 27 = n := by rw [hE4.2.2.2.2 27 (by omega)]; exact hm6
              have hA4 : ∀ j, 0 ≤ j → j < n → w4.1 212 j = A j := fun j j0 j1 => by rw [hE4.2.2.2.1 212 (by omega) (by omega)]; exact hTm.2.1 j j0 j1
              refine g_iconst rfl ⟨by decide, by decide⟩ ?_
              refine x_zreturn rfl rfl (Or.inr rfl) ?_
              intro _
              refine g_if_ne (tgt := 25) rfl (by decide) (fun _ => ?_) (fun hx => absurd hx (by omega))
              refine g_aload_n rfl rfl ?_
              refine g_iload_n rfl rfl ?_
              refine g_cV (as := [tI 1]) (s_by1 (g := tp_of μ 1) hG hQ4 hp9 (by omega) HH (fun i i0 i1 => by rw [hkp4 209 (by unfold tp_tl; omega)]; show μ.1 209 (101 + i) = μ.1 209 (101 * 1 + i); exact congrArg (μ.1 209) (by omega))) rfl rfl mX12_rebuildsBy_ok rfl rfl rfl (by decide) rfl rfl rfl ?_
              rintro _ w7 ⟨rfl, hM7, hs7, hG7⟩ _
              rw [← hs] at hM7 hs7
              have hkp7 : tp_kp μ w7 := fun k9 z9 => (hG7.1 k9 (by unfold tp_tl at z9; omega) (by unfold tp_tl at z9; omega) (by unfold tp_tl at z9; omega) (by unfold tp_tl at z9; omega)).trans (hkp4 k9 z9)
              have hn7 : w7.1 201 27 = n := by rw [hG7.2 27 (by omega) (by omega)]; exact hn4
              have hA7 : ∀ j, 0 ≤ j → j < n → w7.1 212 j = A j := fun j j0 j1 => by rw [hG7.1 212 (by omega) (by omega) (by omega) (by omega)]; exact hA4 j j0 j1
              have hr7 := hM7.1
              have hQ7 : v_Q σ w7 := v_Q_G hG7 hQ4
              refine g_iconst rfl ⟨by decide, by decide⟩ ?_
              refine x_zreturn rfl rfl (Or.inr rfl) ?_
              intro _
              refine g_if_ne (tgt := 17) rfl (by decide) (fun _ => ?_) (fun hx => absurd hx (by omega))
              refine g_iload rfl rfl ?_
              refine g_sipush rfl ⟨by decide, by decide⟩ (by decide) ?_
              refine g_icmp_lt (tgt := 58) rfl (by decide) (fun _ => ?_) (fun hx => absurd hx (by omega))
              refine g_iload rfl rfl ?_
              refine g_bipush rfl ⟨by decide, by decide⟩ (by decide) ?_
              refine g_icmp_lt (tgt := 92) rfl (by decide) (fun _ => ?_) (fun hx => absurd hx (by omega))
              refine g_iload rfl rfl ?_
              refine g_if_ne (tgt := 104) rfl (by decide) (fun h6 => ?_) (fun h6 => ?_)
              · refine g_iload rfl rfl ?_
                refine g_iconst rfl ⟨by decide, by decide⟩ ?_
                refine g_icmp_ne (tgt := 117) rfl (by decide) (fun h7 => ?_) (fun h7 => ?_)
                · refine g_iload rfl rfl ?_
                  refine g_iconst rfl ⟨by decide, by decide⟩ ?_
                  refine g_icmp_ne (tgt := 130) rfl (by decide) (fun h8 => ?_) (fun h8 => ?_)
                  · refine g_iconst rfl ⟨by decide, by decide⟩ ?_
                    refine x_ireturn rfl rfl ?_
                    exact ⟨(by first | rfl | (exfalso; omega) | exact congrArg (fun z => some (tI z)) (by rw [hs7, hm2]; done) | exact congrArg (fun z => some (tI z)) (by rw [hr7, hm1]; done) | exact congrArg (fun z => some (tI z)) ((hA7 _ (by omega) (by omega)).trans (p_M_J hM6 hJ (w - 1000) (by omega) (by omega)).symm) | exact congrArg (fun z => some (tI z)) (by rw [hwp (by omega), (hM7.2 (w - 100) (by omega) (by omega)).2, hM6.2.2.1 (w - 100) (by omega) (by omega)]; done) | exact congrArg (fun z => some (tI z)) (by rw [hs8, hs7, hm2, hw70]; done) | exact congrArg (fun z => some (tI z)) (by omega)), tp_R_kp hR hkp7⟩
                  · refine g_aload_n rfl rfl ?_
                    refine g_iV (as := []) mX12_cost_ok rfl rfl rfl rfl rfl rfl (by decide) rfl rfl rfl ?_
                    refine g_aload_n rfl rfl ?_
                    refine x_geti (v := (w7.1 201 63)) rfl rfl (by decide) (Or.inl rfl) rfl ?_
                    refine g_istore_n rfl rfl rfl ?_
                    refine g_aload_n rfl rfl ?_
                    refine g_iconst rfl ⟨by decide, by decide⟩ ?_
                    refine g_cV (as := [tI (-1)]) (s_but (a := -1) hG hQ7 hp9 (by omega) HH) rfl rfl mX12_rebuildsBut_ok rfl rfl rfl (by decide) rfl rfl rfl ?_
                    rintro _ w8 ⟨rfl, hM8, hs8, hG8⟩ _
                    have hkp8 : tp_kp μ w8 := fun k9 z9 => (hG8.1 k9 (by unfold tp_tl at z9; omega) (by unfold tp_tl at z9; omega) (by unfold tp_tl at z9; omega) (by unfold tp_tl at z9; omega)).trans (hkp7 k9 z9)
                    have hU8 := (v_U (l := v_1 (-1)) HH (fun i i0 i1 => if_neg (by omega)) (σ.1 0 9).toNat (by omega)).2.1
                    rw [show (((σ.1 0 9).toNat : Nat) : Int) = σ.1 0 9 by omega] at hU8
                    rw [hU8] at hs8
                    refine g_aload_n rfl rfl ?_
                    refine x_geti (v := (w8.1 201 63)) rfl rfl (by decide) (Or.inl rfl) rfl ?_
                    refine g_iload_n rfl rfl ?_
                    refine x_isub (z := (w8.1 201 63) - (w7.1 201 63)) rfl (by omega) ⟨by omega, by omega⟩ ?_
                    refine x_ireturn rfl rfl ?_
                    intro _
                    refine g_goto (tgt := 131) rfl (by decide) ?_
                    refine x_ireturn rfl rfl ?_
                    exact ⟨(by first | (exfalso; omega) | exact congrArg (fun z => some (tI z)) (by rw [hs8, hs7, hm2, hw70])), tp_R_kp hR hkp8⟩
                · refine g_aload_n rfl rfl ?_
                  refine x_geti (v := (w7.1 201 62)) rfl rfl (by decide) (Or.inl rfl) rfl ?_
                  refine g_goto (tgt := 131) rfl (by decide) ?_
                  refine x_ireturn rfl rfl ?_
                  exact ⟨(by first | rfl | (exfalso; omega) | exact congrArg (fun z => some (tI z)) (by rw [hs7, hm2]; done) | exact congrArg (fun z => some (tI z)) (by rw [hr7, hm1]; done) | exact congrArg (fun z => some (tI z)) ((hA7 _ (by omega) (by omega)).trans (p_M_J hM6 hJ (w - 1000) (by omega) (by omega)).symm) | exact congrArg (fun z => some (tI z)) (by rw [hwp (by omega), (hM7.2 (w - 100) (by omega) (by omega)).2, hM6.2.2.1 (w - 100) (by omega) (by omega)]; done) | exact congrArg (fun z => some (tI z)) (by rw [hs8, hs7, hm2, hw70]; done) | exact congrArg (fun z => some (tI z)) (by omega)), tp_R_kp hR hkp7⟩
              · refine g_aload_n rfl rfl ?_
                refine x_geti (v := (w7.1 201 63)) rfl rfl (by decide) (Or.inl rfl) rfl ?_
                refine g_goto (tgt := 131) rfl (by decide) ?_
                refine x_ireturn rfl rfl ?_
                exact ⟨(by first | rfl | (exfalso; omega) | exact congrArg (fun z => some (tI z)) (by rw [hs7, hm2]; done) | exact congrArg (fun z => some (tI z)) (by rw [hr7, hm1]; done) | exact congrArg (fun z => some (tI z)) ((hA7 _ (by omega) (by omega)).trans (p_M_J hM6 hJ (w - 1000) (by omega) (by omega)).symm) | exact congrArg (fun z => some (tI z)) (by rw [hwp (by omega), (hM7.2 (w - 100) (by omega) (by omega)).2, hM6.2.2.1 (w - 100) (by omega) (by omega)]; done) | exact congrArg (fun z => some (tI z)) (by rw [hs8, hs7, hm2, hw70]; done) | exact congrArg (fun z => some (tI z)) (by omega)), tp_R_kp hR hkp7⟩
            · refine g_iload_n rfl rfl ?_
              refine g_aload_n rfl rfl ?_
              refine x_geti (v := (w6.1 76 3)) rfl rfl (by decide) (Or.inl rfl) rfl ?_
              refine g_icmp_ge (tgt := 62) rfl (by decide) (fun h9 => ?_) (fun h9 => ?_)
              · refine g_iconst rfl ⟨by decide, by decide⟩ ?_
                refine g_goto (tgt := 72) rfl (by decide) ?_
                refine x_ireturn rfl rfl ?_
                intro _
                refine x_ireturn rfl rfl ?_
                refine ⟨_, rfl, ?_⟩
                refine tp_ok_of mX12_rebuilt_ok rfl (Nat.le_refl _) ?_
                refine g_aload_n rfl rfl ?_
                refine g_iconst rfl ⟨by decide, by decide⟩ ?_
                refine g_puti rfl rfl (by decide) rfl rfl ?_
                refine g_aload_n rfl rfl ?_
                refine g_iload_n rfl rfl ?_
                refine g_iload_n rfl rfl ?_
                refine g_iload_n rfl rfl ?_
                refine g_iV (as := [tI (a : Int), tI (d : Int), tI 1]) mX12_layRebuilt_ok rfl rfl rfl rfl rfl rfl (by decide) rfl rfl rfl ?_
                refine g_iload_n rfl rfl ?_
                refine g_iconst rfl ⟨by decide, by decide⟩ ?_
                refine g_icmp_eq (tgt := 14) rfl (by decide) (fun hx => absurd hx (by omega)) (fun _ => ?_)
                refine g_aload_n rfl rfl ?_
                refine g_iconst rfl ⟨by decide, by decide⟩ ?_
                refine g_iload_n rfl rfl ?_
                refine g_iV (as := [tI 2, tI 1]) mX12_is_ok rfl rfl rfl rfl rfl rfl (by decide) rfl rfl rfl ?_
                refine g_iload_n rfl rfl ?_
                refine g_iconst rfl ⟨by decide, by decide⟩ ?_
                refine g_aload_n rfl rfl ?_
                refine x_getF (r := 206) hG rfl rfl (by decide) (Or.inr ⟨_, rfl⟩) rfl ?_
                refine g_iload_n rfl rfl ?_
                refine x_iald (v := (w6.1 206 2)) rfl rfl (by decide) (by decide) (by decide) rfl ?_
                refine g_iconst rfl ⟨by decide, by decide⟩ ?_
                refine x_isub (z := (w6.1 206 2) - 1) rfl (by omega) ⟨by omega, by omega⟩ ?_
                refine g_iS (as := [tI 1, tI 0, tI ((w6.1 206 2) - 1)]) mX12_in_ok rfl rfl rfl rfl rfl rfl rfl ?_
                refine g_iload_n rfl rfl ?_
                refine g_iload_n rfl rfl ?_
                refine g_icmp_lt (tgt := 14) rfl (by decide) (fun hx => absurd hx (by omega)) (fun _ => ?_)
                refine g_iload_n rfl rfl ?_
                refine g_iload_n rfl rfl ?_
                refine g_icmp_gt (tgt := 14) rfl (by decide) (fun hx => absurd hx (by omega)) (fun _ => ?_)
                refine g_iconst rfl ⟨by decide, by decide⟩ ?_
                refine g_goto (tgt := 15) rfl (by decide) ?_
                refine x_zreturn rfl rfl (Or.inr rfl) ?_
                intro _
                refine x_zreturn rfl rfl (Or.inr rfl) ?_
                intro _
                refine g_if_eq (tgt := 23) rfl (by decide) (fun hx => absurd hx (by omega)) (fun _ => ?_)
                refine g_aload_n rfl rfl ?_
                refine g_iload_n rfl rfl ?_
                refine g_iload_n rfl rfl ?_
                refine g_iV (as := [tI (a : Int), tI (d : Int)]) mX12_layPackets_ok rfl rfl rfl rfl rfl rfl (by decide) rfl rfl rfl ?_
                refine g_aload_n rfl rfl ?_
                refine g_iload_n rfl rfl ?_
                refine g_iload_n rfl rfl ?_
                refine g_cV (as := [tI (a : Int), tI (d : Int)]) (hM _ (tp_kp_pi (by decide) hkp6)) rfl rfl mX12_lay_ok rfl rfl rfl (by decide) rfl rfl rfl ?_
                rintro _ w2 ⟨rfl, hTm, hMc, hGm, hdr, hdm⟩ _
                have hkp2 : tp_kp μ w2 := m_G_kp (tp_kp_pi (by decide) hkp6) hGm
                have hm6 := hTm.1
                have hall := hMc.2.2.1
                refine g_if_ne (tgt := 11) rfl (by decide) (fun _ => ?_) (fun hx => absurd hx (by omega))
                refine g_aload_n rfl rfl ?_
                refine g_aload_n rfl rfl ?_
                refine g_iconst rfl ⟨by decide, by decide⟩ ?_
                refine g_cV (as := [tI 1]) (s_of hG hMc (by omega) (by omega)) rfl rfl mX12_of_ok rfl rfl rfl (by decide) rfl rfl rfl ?_
                rintro _ w9 ⟨rfl, hw9⟩ _
                have hw9 := hw9.symm
                subst hw9
                refine g_aload_n rfl rfl ?_
                refine g_iconst rfl ⟨by decide, by decide⟩ ?_
                refine g_cV (as := [tI 2]) (s_of hG hMc (by omega) (by omega)) rfl rfl mX12_of_ok rfl rfl rfl (by decide) rfl rfl rfl ?_
                rintro _ w9 ⟨rfl, hw9⟩ _
                have hw9 := hw9.symm
                subst hw9
                refine g_cV (as := [tI (f 1), tI (f 2)]) (s_encodesM hG hw hMc hW hTm (by omega) (by omega)) rfl rfl mX12_encodes_ok rfl rfl rfl (by decide) rfl rfl rfl ?_
                rintro _ w4 ⟨rfl, hE4⟩ _
                have hkp4 : tp_kp μ w4 := fun k9 z9 => (hE4.2.2.2.1 k9 (by unfold tp_tl at z9; omega) (by unfold tp_tl at z9; omega)).trans (hkp2 k9 z9)
                rw [← hσ] at hE4
                have hMB := hE4.2.1
                have hsz4 : w4.1 201 47 = σ.1 0 9 := hE4.1.2.2.2.2.2.2.2.2.1
                have hQ4 : v_Q σ w4 := ⟨hsz4, fun i i0 i1 => ⟨(hMB i i0 i1).1, (hMB i i0 i1).2.2.2.1, (hMB i i0 i1).2.2.2.2.1⟩⟩
                have hn4 : w4.1 201 27 = n := by rw [hE4.2.2.2.2 27 (by omega)]; exact hm6
                have hA4 : ∀ j, 0 ≤ j → j < n → w4.1 212 j = A j := fun j j0 j1 => by rw [hE4.2.2.2.1 212 (by omega) (by omega)]; exact hTm.2.1 j j0 j1
                refine g_iconst rfl ⟨by decide, by decide⟩ ?_
                refine x_zreturn rfl rfl (Or.inr rfl) ?_
                intro _
                refine g_if_ne (tgt := 25) rfl (by decide) (fun _ => ?_) (fun hx => absurd hx (by omega))
                refine g_aload_n rfl rfl ?_
                refine g_iload_n rfl rfl ?_
                refine g_cV (as := [tI 1]) (s_by1 (g := tp_of μ 1) hG hQ4 hp9 (by omega) HH (fun i i0 i1 => by rw [hkp4 209 (by unfold tp_tl; omega)]; show μ.1 209 (101 + i) = μ.1 209 (101 * 1 + i); exact congrArg (μ.1 209) (by omega))) rfl rfl mX12_rebuildsBy_ok rfl rfl rfl (by decide) rfl rfl rfl ?_
                rintro _ w7 ⟨rfl, hM7, hs7, hG7⟩ _
                rw [← hs] at hM7 hs7
                have hkp7 : tp_kp μ w7 := fun k9 z9 => (hG7.1 k9 (by unfold tp_tl at z9; omega) (by unfold tp_tl at z9; omega) (by unfold tp_tl at z9; omega) (by unfold tp_tl at z9; omega)).trans (hkp4 k9 z9)
                have hn7 : w7.1 201 27 = n := by rw [hG7.2 27 (by omega) (by omega)]; exact hn4
                have hA7 : ∀ j, 0 ≤ j → j < n → w7.1 212 j = A j := fun j j0 j1 => by rw [hG7.1 212 (by omega) (by omega) (by omega) (by omega)]; exact hA4 j j0 j1
                have hr7 := hM7.1
                have hQ7 : v_Q σ w7 := v_Q_G hG7 hQ4
                refine g_iconst rfl ⟨by decide, by decide⟩ ?_
                refine x_zreturn rfl rfl (Or.inr rfl) ?_
                intro _
                refine g_if_ne (tgt := 17) rfl (by decide) (fun _ => ?_) (fun hx => absurd hx (by omega))
                refine g_iload rfl rfl ?_
                refine g_sipush rfl ⟨by decide, by decide⟩ (by decide) ?_
                refine g_icmp_lt (tgt := 58) rfl (by decide) (fun _ => ?_) (fun hx => absurd hx (by omega))
                refine g_iload rfl rfl ?_
                refine g_bipush rfl ⟨by decide, by decide⟩ (by decide) ?_
                refine g_icmp_lt (tgt := 92) rfl (by decide) (fun hx => absurd hx (by omega)) (fun _ => ?_)
                refine g_iload rfl rfl ?_
                refine g_bipush rfl ⟨by decide, by decide⟩ (by decide) ?_
                refine x_isub (z := w - 100) rfl (by omega) ⟨by omega, by omega⟩ ?_
                refine g_aload_n rfl rfl ?_
                refine x_geti (v := (w7.1 201 62)) rfl rfl (by decide) (Or.inl rfl) rfl ?_
                refine g_icmp_ge (tgt := 90) rfl (by decide) (fun h10 => ?_) (fun h10 => ?_)
                · refine g_iconst rfl ⟨by decide, by decide⟩ ?_
                  refine x_ireturn rfl rfl ?_
                  exact ⟨(by first | rfl | (exfalso; omega) | exact congrArg (fun z => some (tI z)) (by rw [hs7, hm2]; done) | exact congrArg (fun z => some (tI z)) (by rw [hr7, hm1]; done) | exact congrArg (fun z => some (tI z)) ((hA7 _ (by omega) (by omega)).trans (p_M_J hM6 hJ (w - 1000) (by omega) (by omega)).symm) | exact congrArg (fun z => some (tI z)) (by rw [hwp (by omega), (hM7.2 (w - 100) (by omega) (by omega)).2, hM6.2.2.1 (w - 100) (by omega) (by omega)]; done) | exact congrArg (fun z => some (tI z)) (by rw [hs8, hs7, hm2, hw70]; done) | exact congrArg (fun z => some (tI z)) (by omega)), tp_R_kp hR hkp7⟩
                · refine g_aload_n rfl rfl ?_
                  refine x_getF (r := 225) hG rfl rfl (by decide) (Or.inr ⟨_, rfl⟩) rfl ?_
                  refine g_iload rfl rfl ?_
                  refine g_bipush rfl ⟨by decide, by decide⟩ (by decide) ?_
                  refine x_isub (z := w - 100) rfl (by omega) ⟨by omega, by omega⟩ ?_
                  refine x_iald (v := (w7.1 225 (w - 100))) rfl rfl (by decide) (by omega) (by omega) rfl ?_
                  refine g_goto (tgt := 91) rfl (by decide) ?_
                  refine x_ireturn rfl rfl ?_
                  exact ⟨(by first | rfl | (exfalso; omega) | exact congrArg (fun z => some (tI z)) (by rw [hs7, hm2]; done) | exact congrArg (fun z => some (tI z)) (by rw [hr7, hm1]; done) | exact congrArg (fun z => some (tI z)) ((hA7 _ (by omega) (by omega)).trans (p_M_J hM6 hJ (w - 1000) (by omega) (by omega)).symm) | exact congrArg (fun z => some (tI z)) (by rw [hwp (by omega), (hM7.2 (w - 100) (by omega) (by omega)).2, hM6.2.2.1 (w - 100) (by omega) (by omega)]; done) | exact congrArg (fun z => some (tI z)) (by rw [hs8, hs7, hm2, hw70]; done) | exact congrArg (fun z => some (tI z)) (by omega)), tp_R_kp hR hkp7⟩
              · refine g_iload_n rfl rfl ?_
                refine g_sipush rfl ⟨by decide, by decide⟩ (by decide) ?_
                refine g_icmp_lt (tgt := 66) rfl (by decide) (fun h11 => ?_) (fun h11 => ?_)
                · refine g_aload_n rfl rfl ?_
                  refine x_getF (r := 78) hG rfl rfl (by decide) (Or.inr ⟨_, rfl⟩) rfl ?_
                  refine g_iload_n rfl rfl ?_
                  refine x_iald (v := (w6.1 78 (tp_w (w - 100)))) rfl rfl (by decide) (by omega) (by omega) rfl ?_
                  refine x_ireturn rfl rfl ?_
                  intro _
                  refine x_ireturn rfl rfl ?_
                  refine ⟨_, rfl, ?_⟩
                  refine tp_ok_of mX12_rebuilt_ok rfl (Nat.le_refl _) ?_
                  refine g_aload_n rfl rfl ?_
                  refine g_iconst rfl ⟨by decide, by decide⟩ ?_
                  refine g_puti rfl rfl (by decide) rfl rfl ?_
                  refine g_aload_n rfl rfl ?_
                  refine g_iload_n rfl rfl ?_
                  refine g_iload_n rfl rfl ?_
                  refine g_iload_n rfl rfl ?_
                  refine g_iV (as := [tI (a : Int), tI (d : Int), tI 1]) mX12_layRebuilt_ok rfl rfl rfl rfl rfl rfl (by decide) rfl rfl rfl ?_
                  refine g_iload_n rfl rfl ?_
                  refine g_iconst rfl ⟨by decide, by decide⟩ ?_
                  refine g_icmp_eq (tgt := 14) rfl (by decide) (fun hx => absurd hx (by omega)) (fun _ => ?_)
                  refine g_aload_n rfl rfl ?_
                  refine g_iconst rfl ⟨by decide, by decide⟩ ?_
                  refine g_iload_n rfl rfl ?_
                  refine g_iV (as := [tI 2, tI 1]) mX12_is_ok rfl rfl rfl rfl rfl rfl (by decide) rfl rfl rfl ?_
                  refine g_iload_n rfl rfl ?_
                  refine g_iconst rfl ⟨by decide, by decide⟩ ?_
                  refine g_aload_n rfl rfl ?_
                  refine x_getF (r := 206) hG rfl rfl (by decide) (Or.inr ⟨_, rfl⟩) rfl ?_
                  refine g_iload_n rfl rfl ?_
                  refine x_iald (v := (w6.1 206 2)) rfl rfl (by decide) (by decide) (by decide) rfl ?_
                  refine g_iconst rfl ⟨by decide, by decide⟩ ?_
                  refine x_isub (z := (w6.1 206 2) - 1) rfl (by omega) ⟨by omega, by omega⟩ ?_
                  refine g_iS (as := [tI 1, tI 0, tI ((w6.1 206 2) - 1)]) mX12_in_ok rfl rfl rfl rfl rfl rfl rfl ?_
                  refine g_iload_n rfl rfl ?_
                  refine g_iload_n rfl rfl ?_
                  refine g_icmp_lt (tgt := 14) rfl (by decide) (fun hx => absurd hx (by omega)) (fun _ => ?_)
                  refine g_iload_n rfl rfl ?_
                  refine g_iload_n rfl rfl ?_
                  refine g_icmp_gt (tgt := 14) rfl (by decide) (fun hx => absurd hx (by omega)) (fun _ => ?_)
                  refine g_iconst rfl ⟨by decide, by decide⟩ ?_
                  refine g_goto (tgt := 15) rfl (by decide) ?_
                  refine x_zreturn rfl rfl (Or.inr rfl) ?_
                  intro _
                  refine x_zreturn rfl rfl (Or.inr rfl) ?_
                  intro _
                  refine g_if_eq (tgt := 23) rfl (by decide) (fun hx => absurd hx (by omega)) (fun _ => ?_)
                  refine g_aload_n rfl rfl ?_
                  refine g_iload_n rfl rfl ?_
                  refine g_iload_n rfl rfl ?_
                  refine g_iV (as := [tI (a : Int), tI (d : Int)]) mX12_layPackets_ok rfl rfl rfl rfl rfl rfl (by decide) rfl rfl rfl ?_
                  refine g_aload_n rfl rfl ?_
                  refine g_iload_n rfl rfl ?_
                  refine g_iload_n rfl rfl ?_
                  refine g_cV (as := [tI (a : Int), tI (d : Int)]) (hM _ (tp_kp_pi (by decide) hkp6)) rfl rfl mX12_lay_ok rfl rfl rfl (by decide) rfl rfl rfl ?_
                  rintro _ w2 ⟨rfl, hTm, hMc, hGm, hdr, hdm⟩ _
                  have hkp2 : tp_kp μ w2 := m_G_kp (tp_kp_pi (by decide) hkp6) hGm
                  have hm6 := hTm.1
                  have hall := hMc.2.2.1
                  refine g_if_ne (tgt := 11) rfl (by decide) (fun _ => ?_) (fun hx => absurd hx (by omega))
                  refine g_aload_n rfl rfl ?_
                  refine g_aload_n rfl rfl ?_
                  refine g_iconst rfl ⟨by decide, by decide⟩ ?_
                  refine g_cV (as := [tI 1]) (s_of hG hMc (by omega) (by omega)) rfl rfl mX12_of_ok rfl rfl rfl (by decide) rfl rfl rfl ?_
                  rintro _ w9 ⟨rfl, hw9⟩ _
                  have hw9 := hw9.symm
                  subst hw9
                  refine g_aload_n rfl rfl ?_
                  refine g_iconst rfl ⟨by decide, by decide⟩ ?_
                  refine g_cV (as := [tI 2]) (s_of hG hMc (by omega) (by omega)) rfl rfl mX12_of_ok rfl rfl rfl (by decide) rfl rfl rfl ?_
                  rintro _ w9 ⟨rfl, hw9⟩ _
                  have hw9 := hw9.symm
                  subst hw9
                  refine g_cV (as := [tI (f 1), tI (f 2)]) (s_encodesM hG hw hMc hW hTm (by omega) (by omega)) rfl rfl mX12_encodes_ok rfl rfl rfl (by decide) rfl rfl rfl ?_
                  rintro _ w4 ⟨rfl, hE4⟩ _
                  have hkp4 : tp_kp μ w4 := fun k9 z9 => (hE4.2.2.2.1 k9 (by unfold tp_tl at z9; omega) (by unfold tp_tl at z9; omega)).trans (hkp2 k9 z9)
                  rw [← hσ] at hE4
                  have hMB := hE4.2.1
                  have hsz4 : w4.1 201 47 = σ.1 0 9 := hE4.1.2.2.2.2.2.2.2.2.1
                  have hQ4 : v_Q σ w4 := ⟨hsz4, fun i i0 i1 => ⟨(hMB i i0 i1).1, (hMB i i0 i1).2.2.2.1, (hMB i i0 i1).2.2.2.2.1⟩⟩
                  have hn4 : w4.1 201 27 = n := by rw [hE4.2.2.2.2 27 (by omega)]; exact hm6
                  have hA4 : ∀ j, 0 ≤ j → j < n → w4.1 212 j = A j := fun j j0 j1 => by rw [hE4.2.2.2.1 212 (by omega) (by omega)]; exact hTm.2.1 j j0 j1
                  refine g_iconst rfl ⟨by decide, by decide⟩ ?_
                  refine x_zreturn rfl rfl (Or.inr rfl) ?_
                  intro _
                  refine g_if_ne (tgt := 25) rfl (by decide) (fun _ => ?_) (fun hx => absurd hx (by omega))
                  refine g_aload_n rfl rfl ?_
                  refine g_iload_n rfl rfl ?_
                  refine g_cV (as := [tI 1]) (s_by1 (g := tp_of μ 1) hG hQ4 hp9 (by omega) HH (fun i i0 i1 => by rw [hkp4 209 (by unfold tp_tl; omega)]; show μ.1 209 (101 + i) = μ.1 209 (101 * 1 + i); exact congrArg (μ.1 209) (by omega))) rfl rfl mX12_rebuildsBy_ok rfl rfl rfl (by decide) rfl rfl rfl ?_
                  rintro _ w7 ⟨rfl, hM7, hs7, hG7⟩ _
                  rw [← hs] at hM7 hs7
                  have hkp7 : tp_kp μ w7 := fun k9 z9 => (hG7.1 k9 (by unfold tp_tl at z9; omega) (by unfold tp_tl at z9; omega) (by unfold tp_tl at z9; omega) (by unfold tp_tl at z9; omega)).trans (hkp4 k9 z9)
                  have hn7 : w7.1 201 27 = n := by rw [hG7.2 27 (by omega) (by omega)]; exact hn4
                  have hA7 : ∀ j, 0 ≤ j → j < n → w7.1 212 j = A j := fun j j0 j1 => by rw [hG7.1 212 (by omega) (by omega) (by omega) (by omega)]; exact hA4 j j0 j1
                  have hr7 := hM7.1
                  have hQ7 : v_Q σ w7 := v_Q_G hG7 hQ4
                  refine g_iconst rfl ⟨by decide, by decide⟩ ?_
                  refine x_zreturn rfl rfl (Or.inr rfl) ?_
                  intro _
                  refine g_if_ne (tgt := 17) rfl (by decide) (fun _ => ?_) (fun hx => absurd hx (by omega))
                  refine g_iload rfl rfl ?_
                  refine g_sipush rfl ⟨by decide, by decide⟩ (by decide) ?_
                  refine g_icmp_lt (tgt := 58) rfl (by decide) (fun _ => ?_) (fun hx => absurd hx (by omega))
                  refine g_iload rfl rfl ?_
                  refine g_bipush rfl ⟨by decide, by decide⟩ (by decide) ?_
                  refine g_icmp_lt (tgt := 92) rfl (by decide) (fun hx => absurd hx (by omega)) (fun _ => ?_)
                  refine g_iload rfl rfl ?_
                  refine g_bipush rfl ⟨by decide, by decide⟩ (by decide) ?_
                  refine x_isub (z := w - 100) rfl (by omega) ⟨by omega, by omega⟩ ?_
                  refine g_aload_n rfl rfl ?_
                  refine x_geti (v := (w7.1 201 62)) rfl rfl (by decide) (Or.inl rfl) rfl ?_
                  refine g_icmp_ge (tgt := 90) rfl (by decide) (fun h12 => ?_) (fun h12 => ?_)
                  · refine g_iconst rfl ⟨by decide, by decide⟩ ?_
                    refine x_ireturn rfl rfl ?_
                    exact ⟨(by first | rfl | (exfalso; omega) | exact congrArg (fun z => some (tI z)) (by rw [hs7, hm2]; done) | exact congrArg (fun z => some (tI z)) (by rw [hr7, hm1]; done) | exact congrArg (fun z => some (tI z)) ((hA7 _ (by omega) (by omega)).trans (p_M_J hM6 hJ (w - 1000) (by omega) (by omega)).symm) | exact congrArg (fun z => some (tI z)) (by rw [hwp (by omega), (hM7.2 (w - 100) (by omega) (by omega)).2, hM6.2.2.1 (w - 100) (by omega) (by omega)]; done) | exact congrArg (fun z => some (tI z)) (by rw [hs8, hs7, hm2, hw70]; done) | exact congrArg (fun z => some (tI z)) (by omega)), tp_R_kp hR hkp7⟩
                  · refine g_aload_n rfl rfl ?_
                    refine x_getF (r := 225) hG rfl rfl (by decide) (Or.inr ⟨_, rfl⟩) rfl ?_
                    refine g_iload rfl rfl ?_
                    refine g_bipush rfl ⟨by decide, by decide⟩ (by decide) ?_
                    refine x_isub (z := w - 100) rfl (by omega) ⟨by omega, by omega⟩ ?_
                    refine x_iald (v := (w7.1 225 (w - 100))) rfl rfl (by decide) (by omega) (by omega) rfl ?_
                    refine g_goto (tgt := 91) rfl (by decide) ?_
                    refine x_ireturn rfl rfl ?_
                    exact ⟨(by first | rfl | (exfalso; omega) | exact congrArg (fun z => some (tI z)) (by rw [hs7, hm2]; done) | exact congrArg (fun z => some (tI z)) (by rw [hr7, hm1]; done) | exact congrArg (fun z => some (tI z)) ((hA7 _ (by omega) (by omega)).trans (p_M_J hM6 hJ (w - 1000) (by omega) (by omega)).symm) | exact congrArg (fun z => some (tI z)) (by rw [hwp (by omega), (hM7.2 (w - 100) (by omega) (by omega)).2, hM6.2.2.1 (w - 100) (by omega) (by omega)]; done) | exact congrArg (fun z => some (tI z)) (by rw [hs8, hs7, hm2, hw70]; done) | exact congrArg (fun z => some (tI z)) (by omega)), tp_R_kp hR hkp7⟩
                · refine g_iconst rfl ⟨by decide, by decide⟩ ?_
                  refine g_goto (tgt := 72) rfl (by decide) ?_
                  refine x_ireturn rfl rfl ?_
                  intro _
                  refine x_ireturn rfl rfl ?_
                  refine ⟨_, rfl, ?_⟩
                  refine tp_ok_of mX12_rebuilt_ok rfl (Nat.le_refl _) ?_
                  refine g_aload_n rfl rfl ?_
                  refine g_iconst rfl ⟨by decide, by decide⟩ ?_
                  refine g_puti rfl rfl (by decide) rfl rfl ?_
                  refine g_aload_n rfl rfl ?_
                  refine g_iload_n rfl rfl ?_
                  refine g_iload_n rfl rfl ?_
                  refine g_iload_n rfl rfl ?_
                  refine g_iV (as := [tI (a : Int), tI (d : Int), tI 1]) mX12_layRebuilt_ok rfl rfl rfl rfl rfl rfl (by decide) rfl rfl rfl ?_
                  refine g_iload_n rfl rfl ?_
                  refine g_iconst rfl ⟨by decide, by decide⟩ ?_
                  refine g_icmp_eq (tgt := 14) rfl (by decide) (fun hx => absurd hx (by omega)) (fun _ => ?_)
                  refine g_aload_n rfl rfl ?_
                  refine g_iconst rfl ⟨by decide, by decide⟩ ?_
                  refine g_iload_n rfl rfl ?_
                  refine g_iV (as := [tI 2, tI 1]) mX12_is_ok rfl rfl rfl rfl rfl rfl (by decide) rfl rfl rfl ?_
                  refine g_iload_n rfl rfl ?_
                  refine g_iconst rfl ⟨by decide, by decide⟩ ?_
                  refine g_aload_n rfl rfl ?_
                  refine x_getF (r := 206) hG rfl rfl (by decide) (Or.inr ⟨_, rfl⟩) rfl ?_
                  refine g_iload_n rfl rfl ?_
                  refine x_iald (v := (w6.1 206 2)) rfl rfl (by decide) (by decide) (by decide) rfl ?_
                  refine g_iconst rfl ⟨by decide, by decide⟩ ?_
                  refine x_isub (z := (w6.1 206 2) - 1) rfl (by omega) ⟨by omega, by omega⟩ ?_
                  refine g_iS (as := [tI 1, tI 0, tI ((w6.1 206 2) - 1)]) mX12_in_ok rfl rfl rfl rfl rfl rfl rfl ?_
                  refine g_iload_n rfl rfl ?_
                  refine g_iload_n rfl rfl ?_
                  refine g_icmp_lt (tgt := 14) rfl (by decide) (fun hx => absurd hx (by omega)) (fun _ => ?_)
                  refine g_iload_n rfl rfl ?_
                  refine g_iload_n rfl rfl ?_
                  refine g_icmp_gt (tgt := 14) rfl (by decide) (fun hx => absurd hx (by omega)) (fun _ => ?_)
                  refine g_iconst rfl ⟨by decide, by decide⟩ ?_
                  refine g_goto (tgt := 15) rfl (by decide) ?_
                  refine x_zreturn rfl rfl (Or.inr rfl) ?_
                  intro _
                  refine x_zreturn rfl rfl (Or.inr rfl) ?_
                  intro _
                  refine g_if_eq (tgt := 23) rfl (by decide) (fun hx => absurd hx (by omega)) (fun _ => ?_)
                  refine g_aload_n rfl rfl ?_
                  refine g_iload_n rfl rfl ?_
                  refine g_iload_n rfl rfl ?_
                  refine g_iV (as := [tI (a : Int), tI (d : Int)]) mX12_layPackets_ok rfl rfl rfl rfl rfl rfl (by decide) rfl rfl rfl ?_
                  refine g_aload_n rfl rfl ?_
                  refine g_iload_n rfl rfl ?_
                  refine g_iload_n rfl rfl ?_
                  refine g_cV (as := [tI (a : Int), tI (d : Int)]) (hM _ (tp_kp_pi (by decide) hkp6)) rfl rfl mX12_lay_ok rfl rfl rfl (by decide) rfl rfl rfl ?_
                  rintro _ w2 ⟨rfl, hTm, hMc, hGm, hdr, hdm⟩ _
                  have hkp2 : tp_kp μ w2 := m_G_kp (tp_kp_pi (by decide) hkp6) hGm
                  have hm6 := hTm.1
                  have hall := hMc.2.2.1
                  refine g_if_ne (tgt := 11) rfl (by decide) (fun _ => ?_) (fun hx => absurd hx (by omega))
                  refine g_aload_n rfl rfl ?_
                  refine g_aload_n rfl rfl ?_
                  refine g_iconst rfl ⟨by decide, by decide⟩ ?_
                  refine g_cV (as := [tI 1]) (s_of hG hMc (by omega) (by omega)) rfl rfl mX12_of_ok rfl rfl rfl (by decide) rfl rfl rfl ?_
                  rintro _ w9 ⟨rfl, hw9⟩ _
                  have hw9 := hw9.symm
                  subst hw9
                  refine g_aload_n rfl rfl ?_
                  refine g_iconst rfl ⟨by decide, by decide⟩ ?_
                  refine g_cV (as := [tI 2]) (s_of hG hMc (by omega) (by omega)) rfl rfl mX12_of_ok rfl rfl rfl (by decide) rfl rfl rfl ?_
                  rintro _ w9 ⟨rfl, hw9⟩ _
                  have hw9 := hw9.symm
                  subst hw9
                  refine g_cV (as := [tI (f 1), tI (f 2)]) (s_encodesM hG hw hMc hW hTm (by omega) (by omega)) rfl rfl mX12_encodes_ok rfl rfl rfl (by decide) rfl rfl rfl ?_
                  rintro _ w4 ⟨rfl, hE4⟩ _
                  have hkp4 : tp_kp μ w4 := fun k9 z9 => (hE4.2.2.2.1 k9 (by unfold tp_tl at z9; omega) (by unfold tp_tl at z9; omega)).trans (hkp2 k9 z9)
                  rw [← hσ] at hE4
                  have hMB := hE4.2.1
                  have hsz4 : w4.1 201 47 = σ.1 0 9 := hE4.1.2.2.2.2.2.2.2.2.1
                  have hQ4 : v_Q σ w4 := ⟨hsz4, fun i i0 i1 => ⟨(hMB i i0 i1).1, (hMB i i0 i1).2.2.2.1, (hMB i i0 i1).2.2.2.2.1⟩⟩
                  have hn4 : w4.1 201 27 = n := by rw [hE4.2.2.2.2 27 (by omega)]; exact hm6
                  have hA4 : ∀ j, 0 ≤ j → j < n → w4.1 212 j = A j := fun j j0 j1 => by rw [hE4.2.2.2.1 212 (by omega) (by omega)]; exact hTm.2.1 j j0 j1
                  refine g_iconst rfl ⟨by decide, by decide⟩ ?_
                  refine x_zreturn rfl rfl (Or.inr rfl) ?_
                  intro _
                  refine g_if_ne (tgt := 25) rfl (by decide) (fun _ => ?_) (fun hx => absurd hx (by omega))
                  refine g_aload_n rfl rfl ?_
                  refine g_iload_n rfl rfl ?_
                  refine g_cV (as := [tI 1]) (s_by1 (g := tp_of μ 1) hG hQ4 hp9 (by omega) HH (fun i i0 i1 => by rw [hkp4 209 (by unfold tp_tl; omega)]; show μ.1 209 (101 + i) = μ.1 209 (101 * 1 + i); exact congrArg (μ.1 209) (by omega))) rfl rfl mX12_rebuildsBy_ok rfl rfl rfl (by decide) rfl rfl rfl ?_
                  rintro _ w7 ⟨rfl, hM7, hs7, hG7⟩ _
                  rw [← hs] at hM7 hs7
                  have hkp7 : tp_kp μ w7 := fun k9 z9 => (hG7.1 k9 (by unfold tp_tl at z9; omega) (by unfold tp_tl at z9; omega) (by unfold tp_tl at z9; omega) (by unfold tp_tl at z9; omega)).trans (hkp4 k9 z9)
                  have hn7 : w7.1 201 27 = n := by rw [hG7.2 27 (by omega) (by omega)]; exact hn4
                  have hA7 : ∀ j, 0 ≤ j → j < n → w7.1 212 j = A j := fun j j0 j1 => by rw [hG7.1 212 (by omega) (by omega) (by omega) (by omega)]; exact hA4 j j0 j1
                  have hr7 := hM7.1
                  have hQ7 : v_Q σ w7 := v_Q_G hG7 hQ4
                  refine g_iconst rfl ⟨by decide, by decide⟩ ?_
                  refine x_zreturn rfl rfl (Or.inr rfl) ?_
                  intro _
                  refine g_if_ne (tgt := 17) rfl (by decide) (fun _ => ?_) (fun hx => absurd hx (by omega))
                  refine g_iload rfl rfl ?_
                  refine g_sipush rfl ⟨by decide, by decide⟩ (by decide) ?_
                  refine g_icmp_lt (tgt := 58) rfl (by decide) (fun _ => ?_) (fun hx => absurd hx (by omega))
                  refine g_iload rfl rfl ?_
                  refine g_bipush rfl ⟨by decide, by decide⟩ (by decide) ?_
                  refine g_icmp_lt (tgt := 92) rfl (by decide) (fun hx => absurd hx (by omega)) (fun _ => ?_)
                  refine g_iload rfl rfl ?_
                  refine g_bipush rfl ⟨by decide, by decide⟩ (by decide) ?_
                  refine x_isub (z := w - 100) rfl (by omega) ⟨by omega, by omega⟩ ?_
                  refine g_aload_n rfl rfl ?_
                  refine x_geti (v := (w7.1 201 62)) rfl rfl (by decide) (Or.inl rfl) rfl ?_
                  refine g_icmp_ge (tgt := 90) rfl (by decide) (fun h13 => ?_) (fun h13 => ?_)
                  · refine g_iconst rfl ⟨by decide, by decide⟩ ?_
                    refine x_ireturn rfl rfl ?_
                    exact ⟨(by first | rfl | (exfalso; omega) | exact congrArg (fun z => some (tI z)) (by rw [hs7, hm2]; done) | exact congrArg (fun z => some (tI z)) (by rw [hr7, hm1]; done) | exact congrArg (fun z => some (tI z)) ((hA7 _ (by omega) (by omega)).trans (p_M_J hM6 hJ (w - 1000) (by omega) (by omega)).symm) | exact congrArg (fun z => some (tI z)) (by rw [hwp (by omega), (hM7.2 (w - 100) (by omega) (by omega)).2, hM6.2.2.1 (w - 100) (by omega) (by omega)]; done) | exact congrArg (fun z => some (tI z)) (by rw [hs8, hs7, hm2, hw70]; done) | exact congrArg (fun z => some (tI z)) (by omega)), tp_R_kp hR hkp7⟩
                  · refine g_aload_n rfl rfl ?_
                    refine x_getF (r := 225) hG rfl rfl (by decide) (Or.inr ⟨_, rfl⟩) rfl ?_
                    refine g_iload rfl rfl ?_
                    refine g_bipush rfl ⟨by decide, by decide⟩ (by decide) ?_
                    refine x_isub (z := w - 100) rfl (by omega) ⟨by omega, by omega⟩ ?_
                    refine x_iald (v := (w7.1 225 (w - 100))) rfl rfl (by decide) (by omega) (by omega) rfl ?_
                    refine g_goto (tgt := 91) rfl (by decide) ?_
                    refine x_ireturn rfl rfl ?_
                    exact ⟨(by first | rfl | (exfalso; omega) | exact congrArg (fun z => some (tI z)) (by rw [hs7, hm2]; done) | exact congrArg (fun z => some (tI z)) (by rw [hr7, hm1]; done) | exact congrArg (fun z => some (tI z)) ((hA7 _ (by omega) (by omega)).trans (p_M_J hM6 hJ (w - 1000) (by omega) (by omega)).symm) | exact congrArg (fun z => some (tI z)) (by rw [hwp (by omega), (hM7.2 (w - 100) (by omega) (by omega)).2, hM6.2.2.1 (w - 100) (by omega) (by omega)]; done) | exact congrArg (fun z => some (tI z)) (by rw [hs8, hs7, hm2, hw70]; done) | exact congrArg (fun z => some (tI z)) (by omega)), tp_R_kp hR hkp7⟩
          · refine g_aload_n rfl rfl ?_
            refine g_iload_n rfl rfl ?_
            refine g_sipush rfl ⟨by decide, by decide⟩ (by decide) ?_
            refine x_isub (z := w - 1000) rfl (by omega) ⟨by omega, by omega⟩ ?_
            refine g_iV (as := [tI (w - 1000)]) mX4_address_ok rfl rfl rfl rfl rfl rfl (by decide) rfl rfl rfl ?_
            refine g_iload_n rfl rfl ?_
            refine g_if_lt (tgt := 19) rfl (by decide) (fun hx => absurd hx (by omega)) (fun _ => ?_)
            refine g_iload_n rfl rfl ?_
            refine g_aload_n rfl rfl ?_
            refine x_geti (v := (w6.1 76 2)) rfl rfl (by decide) (Or.inl rfl) rfl ?_
            refine g_icmp_ge (tgt := 19) rfl (by decide) (fun h14 => ?_) (fun h14 => ?_)
            · refine g_iconst rfl ⟨by decide, by decide⟩ ?_
              refine g_goto (tgt := 29) rfl (by decide) ?_
              refine x_ireturn rfl rfl ?_
              intro _
              refine x_ireturn rfl rfl ?_
              intro _
              refine x_ireturn rfl rfl ?_
              refine ⟨_, rfl, ?_⟩
              refine tp_ok_of mX12_rebuilt_ok rfl (Nat.le_refl _) ?_
              refine g_aload_n rfl rfl ?_
              refine g_iconst rfl ⟨by decide, by decide⟩ ?_
              refine g_puti rfl rfl (by decide) rfl rfl ?_
              refine g_aload_n rfl rfl ?_
              refine g_iload_n rfl rfl ?_
              refine g_iload_n rfl rfl ?_
              refine g_iload_n rfl rfl ?_
              refine g_iV (as := [tI (a : Int), tI (d : Int), tI 1]) mX12_layRebuilt_ok rfl rfl rfl rfl rfl rfl (by decide) rfl rfl rfl ?_
              refine g_iload_n rfl rfl ?_
              refine g_iconst rfl ⟨by decide, by decide⟩ ?_
              refine g_icmp_eq (tgt := 14) rfl (by decide) (fun hx => absurd hx (by omega)) (fun _ => ?_)
              refine g_aload_n rfl rfl ?_
              refine g_iconst rfl ⟨by decide, by decide⟩ ?_
              refine g_iload_n rfl rfl ?_
              refine g_iV (as := [tI 2, tI 1]) mX12_is_ok rfl rfl rfl rfl rfl rfl (by decide) rfl rfl rfl ?_
              refine g_iload_n rfl rfl ?_
              refine g_iconst rfl ⟨by decide, by decide⟩ ?_
              refine g_aload_n rfl rfl ?_
              refine x_getF (r := 206) hG rfl rfl (by decide) (Or.inr ⟨_, rfl⟩) rfl ?_
              refine g_iload_n rfl rfl ?_
              refine x_iald (v := (w6.1 206 2)) rfl rfl (by decide) (by decide) (by decide) rfl ?_
              refine g_iconst rfl ⟨by decide, by decide⟩ ?_
              refine x_isub (z := (w6.1 206 2) - 1) rfl (by omega) ⟨by omega, by omega⟩ ?_
              refine g_iS (as := [tI 1, tI 0, tI ((w6.1 206 2) - 1)]) mX12_in_ok rfl rfl rfl rfl rfl rfl rfl ?_
              refine g_iload_n rfl rfl ?_
              refine g_iload_n rfl rfl ?_
              refine g_icmp_lt (tgt := 14) rfl (by decide) (fun hx => absurd hx (by omega)) (fun _ => ?_)
              refine g_iload_n rfl rfl ?_
              refine g_iload_n rfl rfl ?_
              refine g_icmp_gt (tgt := 14) rfl (by decide) (fun hx => absurd hx (by omega)) (fun _ => ?_)
              refine g_iconst rfl ⟨by decide, by decide⟩ ?_
              refine g_goto (tgt := 15) rfl (by decide) ?_
              refine x_zreturn rfl rfl (Or.inr rfl) ?_
              intro _
              refine x_zreturn rfl rfl (Or.inr rfl) ?_
              intro _
              refine g_if_eq (tgt := 23) rfl (by decide) (fun hx => absurd hx (by omega)) (fun _ => ?_)
              refine g_aload_n rfl rfl ?_
              refine g_iload_n rfl rfl ?_
              refine g_iload_n rfl rfl ?_
              refine g_iV (as := [tI (a : Int), tI (d : Int)]) mX12_layPackets_ok rfl rfl rfl rfl rfl rfl (by decide) rfl rfl rfl ?_
              refine g_aload_n rfl rfl ?_
              refine g_iload_n rfl rfl ?_
              refine g_iload_n rfl rfl ?_
              refine g_cV (as := [tI (a : Int), tI (d : Int)]) (hM _ (tp_kp_pi (by decide) hkp6)) rfl rfl mX12_lay_ok rfl rfl rfl (by decide) rfl rfl rfl ?_
              rintro _ w2 ⟨rfl, hTm, hMc, hGm, hdr, hdm⟩ _
              have hkp2 : tp_kp μ w2 := m_G_kp (tp_kp_pi (by decide) hkp6) hGm
              have hm6 := hTm.1
              have hall := hMc.2.2.1
              refine g_if_ne (tgt := 11) rfl (by decide) (fun _ => ?_) (fun hx => absurd hx (by omega))
              refine g_aload_n rfl rfl ?_
              refine g_aload_n rfl rfl ?_
              refine g_iconst rfl ⟨by decide, by decide⟩ ?_
              refine g_cV (as := [tI 1]) (s_of hG hMc (by omega) (by omega)) rfl rfl mX12_of_ok rfl rfl rfl (by decide) rfl rfl rfl ?_
              rintro _ w9 ⟨rfl, hw9⟩ _
              have hw9 := hw9.symm
              subst hw9
              refine g_aload_n rfl rfl ?_
              refine g_iconst rfl ⟨by decide, by decide⟩ ?_
              refine g_cV (as := [tI 2]) (s_of hG hMc (by omega) (by omega)) rfl rfl mX12_of_ok rfl rfl rfl (by decide) rfl rfl rfl ?_
              rintro _ w9 ⟨rfl, hw9⟩ _
              have hw9 := hw9.symm
              subst hw9
              refine g_cV (as := [tI (f 1), tI (f 2)]) (s_encodesM hG hw hMc hW hTm (by omega) (by omega)) rfl rfl mX12_encodes_ok rfl rfl rfl (by decide) rfl rfl rfl ?_
              rintro _ w4 ⟨rfl, hE4⟩ _
              have hkp4 : tp_kp μ w4 := fun k9 z9 => (hE4.2.2.2.1 k9 (by unfold tp_tl at z9; omega) (by unfold tp_tl at z9; omega)).trans (hkp2 k9 z9)
              rw [← hσ] at hE4
              have hMB := hE4.2.1
              have hsz4 : w4.1 201 47 = σ.1 0 9 := hE4.1.2.2.2.2.2.2.2.2.1
              have hQ4 : v_Q σ w4 := ⟨hsz4, fun i i0 i1 => ⟨(hMB i i0 i1).1, (hMB i i0 i1).2.2.2.1, (hMB i i0 i1).2.2.2.2.1⟩⟩
              have hn4 : w4.1 201 27 = n := by rw [hE4.2.2.2.2 27 (by omega)]; exact hm6
              have hA4 : ∀ j, 0 ≤ j → j < n → w4.1 212 j = A j := fun j j0 j1 => by rw [hE4.2.2.2.1 212 (by omega) (by omega)]; exact hTm.2.1 j j0 j1
              refine g_iconst rfl ⟨by decide, by decide⟩ ?_
              refine x_zreturn rfl rfl (Or.inr rfl) ?_
              intro _
              refine g_if_ne (tgt := 25) rfl (by decide) (fun _ => ?_) (fun hx => absurd hx (by omega))
              refine g_aload_n rfl rfl ?_
              refine g_iload_n rfl rfl ?_
              refine g_cV (as := [tI 1]) (s_by1 (g := tp_of μ 1) hG hQ4 hp9 (by omega) HH (fun i i0 i1 => by rw [hkp4 209 (by unfold tp_tl; omega)]; show μ.1 209 (101 + i) = μ.1 209 (101 * 1 + i); exact congrArg (μ.1 209) (by omega))) rfl rfl mX12_rebuildsBy_ok rfl rfl rfl (by decide) rfl rfl rfl ?_
              rintro _ w7 ⟨rfl, hM7, hs7, hG7⟩ _
              rw [← hs] at hM7 hs7
              have hkp7 : tp_kp μ w7 := fun k9 z9 => (hG7.1 k9 (by unfold tp_tl at z9; omega) (by unfold tp_tl at z9; omega) (by unfold tp_tl at z9; omega) (by unfold tp_tl at z9; omega)).trans (hkp4 k9 z9)
              have hn7 : w7.1 201 27 = n := by rw [hG7.2 27 (by omega) (by omega)]; exact hn4
              have hA7 : ∀ j, 0 ≤ j → j < n → w7.1 212 j = A j := fun j j0 j1 => by rw [hG7.1 212 (by omega) (by omega) (by omega) (by omega)]; exact hA4 j j0 j1
              have hr7 := hM7.1
              have hQ7 : v_Q σ w7 := v_Q_G hG7 hQ4
              refine g_iconst rfl ⟨by decide, by decide⟩ ?_
              refine x_zreturn rfl rfl (Or.inr rfl) ?_
              intro _
              refine g_if_ne (tgt := 17) rfl (by decide) (fun _ => ?_) (fun hx => absurd hx (by omega))
              refine g_iload rfl rfl ?_
              refine g_sipush rfl ⟨by decide, by decide⟩ (by decide) ?_
              refine g_icmp_lt (tgt := 58) rfl (by decide) (fun hx => absurd hx (by omega)) (fun _ => ?_)
              refine g_iload rfl rfl ?_
              refine g_sipush rfl ⟨by decide, by decide⟩ (by decide) ?_
              refine x_isub (z := w - 1000) rfl (by omega) ⟨by omega, by omega⟩ ?_
              refine g_aload_n rfl rfl ?_
              refine x_geti (v := (w7.1 201 63)) rfl rfl (by decide) (Or.inl rfl) rfl ?_
              refine g_icmp_ge (tgt := 56) rfl (by decide) (fun h15 => ?_) (fun h15 => ?_)
              · refine g_iconst rfl ⟨by decide, by decide⟩ ?_
                refine x_ireturn rfl rfl ?_
                exact ⟨(by first | rfl | (exfalso; omega) | exact congrArg (fun z => some (tI z)) (by rw [hs7, hm2]; done) | exact congrArg (fun z => some (tI z)) (by rw [hr7, hm1]; done) | exact congrArg (fun z => some (tI z)) ((hA7 _ (by omega) (by omega)).trans (p_M_J hM6 hJ (w - 1000) (by omega) (by omega)).symm) | exact congrArg (fun z => some (tI z)) (by rw [hwp (by omega), (hM7.2 (w - 100) (by omega) (by omega)).2, hM6.2.2.1 (w - 100) (by omega) (by omega)]; done) | exact congrArg (fun z => some (tI z)) (by rw [hs8, hs7, hm2, hw70]; done) | exact congrArg (fun z => some (tI z)) (by omega)), tp_R_kp hR hkp7⟩
              · refine g_aload_n rfl rfl ?_
                refine x_getF (r := 212) hG rfl rfl (by decide) (Or.inr ⟨_, rfl⟩) rfl ?_
                refine g_aload_n rfl rfl ?_
                refine g_iload rfl rfl ?_
                refine g_sipush rfl ⟨by decide, by decide⟩ (by decide) ?_
                refine x_isub (z := w - 1000) rfl (by omega) ⟨by omega, by omega⟩ ?_
                refine g_cV (as := [tI (w - 1000)]) (s_rstep hG hJ (by omega) (by omega) hM7 (by omega)) rfl rfl mX12_rebuiltStep_ok rfl rfl rfl (by decide) rfl rfl rfl ?_
                rintro _ w9 ⟨rfl, hw9⟩ _
                have hw9 := hw9.symm
                subst hw9
                have hjb := hJ.2.2.2.1 (w - 1000) (by omega) (by omega)
                refine x_iald (v := (w7.1 212 (J (w - 1000)))) rfl rfl (by decide) (by omega) (by omega) rfl ?_
                refine g_goto (tgt := 57) rfl (by decide) ?_
                refine x_ireturn rfl rfl ?_
                exact ⟨(by first | rfl | (exfalso; omega) | exact congrArg (fun z => some (tI z)) (by rw [hs7, hm2]; done) | exact congrArg (fun z => some (tI z)) (by rw [hr7, hm1]; done) | exact congrArg (fun z => some (tI z)) ((hA7 _ (by omega) (by omega)).trans (p_M_J hM6 hJ (w - 1000) (by omega) (by omega)).symm) | exact congrArg (fun z => some (tI z)) (by rw [hwp (by omega), (hM7.2 (w - 100) (by omega) (by omega)).2, hM6.2.2.1 (w - 100) (by omega) (by omega)]; done) | exact congrArg (fun z => some (tI z)) (by rw [hs8, hs7, hm2, hw70]; done) | exact congrArg (fun z => some (tI z)) (by omega)), tp_R_kp hR hkp7⟩
            · refine g_iload_n rfl rfl ?_
              refine g_sipush rfl ⟨by decide, by decide⟩ (by decide) ?_
              refine g_icmp_lt (tgt := 23) rfl (by decide) (fun h16 => ?_) (fun h16 => ?_)
              · refine g_aload_n rfl rfl ?_
                refine x_getF (r := 77) hG rfl rfl (by decide) (Or.inr ⟨_, rfl⟩) rfl ?_
                refine g_iload_n rfl rfl ?_
                refine x_iald (v := (w6.1 77 (w - 1000))) rfl rfl (by decide) (by omega) (by omega) rfl ?_
                refine x_ireturn rfl rfl ?_
                intro _
                refine x_ireturn rfl rfl ?_
                intro _
                refine x_ireturn rfl rfl ?_
                refine ⟨_, rfl, ?_⟩
                refine tp_ok_of mX12_rebuilt_ok rfl (Nat.le_refl _) ?_
                refine g_aload_n rfl rfl ?_
                refine g_iconst rfl ⟨by decide, by decide⟩ ?_
                refine g_puti rfl rfl (by decide) rfl rfl ?_
                refine g_aload_n rfl rfl ?_
                refine g_iload_n rfl rfl ?_
                refine g_iload_n rfl rfl ?_
                refine g_iload_n rfl rfl ?_
                refine g_iV (as := [tI (a : Int), tI (d : Int), tI 1]) mX12_layRebuilt_ok rfl rfl rfl rfl rfl rfl (by decide) rfl rfl rfl ?_
                refine g_iload_n rfl rfl ?_
                refine g_iconst rfl ⟨by decide, by decide⟩ ?_
                refine g_icmp_eq (tgt := 14) rfl (by decide) (fun hx => absurd hx (by omega)) (fun _ => ?_)
                refine g_aload_n rfl rfl ?_
                refine g_iconst rfl ⟨by decide, by decide⟩ ?_
                refine g_iload_n rfl rfl ?_
                refine g_iV (as := [tI 2, tI 1]) mX12_is_ok rfl rfl rfl rfl rfl rfl (by decide) rfl rfl rfl ?_
                refine g_iload_n rfl rfl ?_
                refine g_iconst rfl ⟨by decide, by decide⟩ ?_
                refine g_aload_n rfl rfl ?_
                refine x_getF (r := 206) hG rfl rfl (by decide) (Or.inr ⟨_, rfl⟩) rfl ?_
                refine g_iload_n rfl rfl ?_
                refine x_iald (v := (w6.1 206 2)) rfl rfl (by decide) (by decide) (by decide) rfl ?_
                refine g_iconst rfl ⟨by decide, by decide⟩ ?_
                refine x_isub (z := (w6.1 206 2) - 1) rfl (by omega) ⟨by omega, by omega⟩ ?_
                refine g_iS (as := [tI 1, tI 0, tI ((w6.1 206 2) - 1)]) mX12_in_ok rfl rfl rfl rfl rfl rfl rfl ?_
                refine g_iload_n rfl rfl ?_
                refine g_iload_n rfl rfl ?_
                refine g_icmp_lt (tgt := 14) rfl (by decide) (fun hx => absurd hx (by omega)) (fun _ => ?_)
                refine g_iload_n rfl rfl ?_
                refine g_iload_n rfl rfl ?_
                refine g_icmp_gt (tgt := 14) rfl (by decide) (fun hx => absurd hx (by omega)) (fun _ => ?_)
                refine g_iconst rfl ⟨by decide, by decide⟩ ?_
                refine g_goto (tgt := 15) rfl (by decide) ?_
                refine x_zreturn rfl rfl (Or.inr rfl) ?_
                intro _
                refine x_zreturn rfl rfl (Or.inr rfl) ?_
                intro _
                refine g_if_eq (tgt := 23) rfl (by decide) (fun hx => absurd hx (by omega)) (fun _ => ?_)
                refine g_aload_n rfl rfl ?_
                refine g_iload_n rfl rfl ?_
                refine g_iload_n rfl rfl ?_
                refine g_iV (as := [tI (a : Int), tI (d : Int)]) mX12_layPackets_ok rfl rfl rfl rfl rfl rfl (by decide) rfl rfl rfl ?_
                refine g_aload_n rfl rfl ?_
                refine g_iload_n rfl rfl ?_
                refine g_iload_n rfl rfl ?_
                refine g_cV (as := [tI (a : Int), tI (d : Int)]) (hM _ (tp_kp_pi (by decide) hkp6)) rfl rfl mX12_lay_ok rfl rfl rfl (by decide) rfl rfl rfl ?_
                rintro _ w2 ⟨rfl, hTm, hMc, hGm, hdr, hdm⟩ _
                have hkp2 : tp_kp μ w2 := m_G_kp (tp_kp_pi (by decide) hkp6) hGm
                have hm6 := hTm.1
                have hall := hMc.2.2.1
                refine g_if_ne (tgt := 11) rfl (by decide) (fun _ => ?_) (fun hx => absurd hx (by omega))
                refine g_aload_n rfl rfl ?_
                refine g_aload_n rfl rfl ?_
                refine g_iconst rfl ⟨by decide, by decide⟩ ?_
                refine g_cV (as := [tI 1]) (s_of hG hMc (by omega) (by omega)) rfl rfl mX12_of_ok rfl rfl rfl (by decide) rfl rfl rfl ?_
                rintro _ w9 ⟨rfl, hw9⟩ _
                have hw9 := hw9.symm
                subst hw9
                refine g_aload_n rfl rfl ?_
                refine g_iconst rfl ⟨by decide, by decide⟩ ?_
                refine g_cV (as := [tI 2]) (s_of hG hMc (by omega) (by omega)) rfl rfl mX12_of_ok rfl rfl rfl (by decide) rfl rfl rfl ?_
                rintro _ w9 ⟨rfl, hw9⟩ _
                have hw9 := hw9.symm
                subst hw9
                refine g_cV (as := [tI (f 1), tI (f 2)]) (s_encodesM hG hw hMc hW hTm (by omega) (by omega)) rfl rfl mX12_encodes_ok rfl rfl rfl (by decide) rfl rfl rfl ?_
                rintro _ w4 ⟨rfl, hE4⟩ _
                have hkp4 : tp_kp μ w4 := fun k9 z9 => (hE4.2.2.2.1 k9 (by unfold tp_tl at z9; omega) (by unfold tp_tl at z9; omega)).trans (hkp2 k9 z9)
                rw [← hσ] at hE4
                have hMB := hE4.2.1
                have hsz4 : w4.1 201 47 = σ.1 0 9 := hE4.1.2.2.2.2.2.2.2.2.1
                have hQ4 : v_Q σ w4 := ⟨hsz4, fun i i0 i1 => ⟨(hMB i i0 i1).1, (hMB i i0 i1).2.2.2.1, (hMB i i0 i1).2.2.2.2.1⟩⟩
                have hn4 : w4.1 201 27 = n := by rw [hE4.2.2.2.2 27 (by omega)]; exact hm6
                have hA4 : ∀ j, 0 ≤ j → j < n → w4.1 212 j = A j := fun j j0 j1 => by rw [hE4.2.2.2.1 212 (by omega) (by omega)]; exact hTm.2.1 j j0 j1
                refine g_iconst rfl ⟨by decide, by decide⟩ ?_
                refine x_zreturn rfl rfl (Or.inr rfl) ?_
                intro _
                refine g_if_ne (tgt := 25) rfl (by decide) (fun _ => ?_) (fun hx => absurd hx (by omega))
                refine g_aload_n rfl rfl ?_
                refine g_iload_n rfl rfl ?_
                refine g_cV (as := [tI 1]) (s_by1 (g := tp_of μ 1) hG hQ4 hp9 (by omega) HH (fun i i0 i1 => by rw [hkp4 209 (by unfold tp_tl; omega)]; show μ.1 209 (101 + i) = μ.1 209 (101 * 1 + i); exact congrArg (μ.1 209) (by omega))) rfl rfl mX12_rebuildsBy_ok rfl rfl rfl (by decide) rfl rfl rfl ?_
                rintro _ w7 ⟨rfl, hM7, hs7, hG7⟩ _
                rw [← hs] at hM7 hs7
                have hkp7 : tp_kp μ w7 := fun k9 z9 => (hG7.1 k9 (by unfold tp_tl at z9; omega) (by unfold tp_tl at z9; omega) (by unfold tp_tl at z9; omega) (by unfold tp_tl at z9; omega)).trans (hkp4 k9 z9)
                have hn7 : w7.1 201 27 = n := by rw [hG7.2 27 (by omega) (by omega)]; exact hn4
                have hA7 : ∀ j, 0 ≤ j → j < n → w7.1 212 j = A j := fun j j0 j1 => by rw [hG7.1 212 (by omega) (by omega) (by omega) (by omega)]; exact hA4 j j0 j1
                have hr7 := hM7.1
                have hQ7 : v_Q σ w7 := v_Q_G hG7 hQ4
                refine g_iconst rfl ⟨by decide, by decide⟩ ?_
                refine x_zreturn rfl rfl (Or.inr rfl) ?_
                intro _
                refine g_if_ne (tgt := 17) rfl (by decide) (fun _ => ?_) (fun hx => absurd hx (by omega))
                refine g_iload rfl rfl ?_
                refine g_sipush rfl ⟨by decide, by decide⟩ (by decide) ?_
                refine g_icmp_lt (tgt := 58) rfl (by decide) (fun hx => absurd hx (by omega)) (fun _ => ?_)
                refine g_iload rfl rfl ?_
                refine g_sipush rfl ⟨by decide, by decide⟩ (by decide) ?_
                refine x_isub (z := w - 1000) rfl (by omega) ⟨by omega, by omega⟩ ?_
                refine g_aload_n rfl rfl ?_
                refine x_geti (v := (w7.1 201 63)) rfl rfl (by decide) (Or.inl rfl) rfl ?_
                refine g_icmp_ge (tgt := 56) rfl (by decide) (fun h17 => ?_) (fun h17 => ?_)
                · refine g_iconst rfl ⟨by decide, by decide⟩ ?_
                  refine x_ireturn rfl rfl ?_
                  exact ⟨(by first | rfl | (exfalso; omega) | exact congrArg (fun z => some (tI z)) (by rw [hs7, hm2]; done) | exact congrArg (fun z => some (tI z)) (by rw [hr7, hm1]; done) | exact congrArg (fun z => some (tI z)) ((hA7 _ (by omega) (by omega)).trans (p_M_J hM6 hJ (w - 1000) (by omega) (by omega)).symm) | exact congrArg (fun z => some (tI z)) (by rw [hwp (by omega), (hM7.2 (w - 100) (by omega) (by omega)).2, hM6.2.2.1 (w - 100) (by omega) (by omega)]; done) | exact congrArg (fun z => some (tI z)) (by rw [hs8, hs7, hm2, hw70]; done) | exact congrArg (fun z => some (tI z)) (by omega)), tp_R_kp hR hkp7⟩
                · refine g_aload_n rfl rfl ?_
                  refine x_getF (r := 212) hG rfl rfl (by decide) (Or.inr ⟨_, rfl⟩) rfl ?_
                  refine g_aload_n rfl rfl ?_
                  refine g_iload rfl rfl ?_
                  refine g_sipush rfl ⟨by decide, by decide⟩ (by decide) ?_
                  refine x_isub (z := w - 1000) rfl (by omega) ⟨by omega, by omega⟩ ?_
                  refine g_cV (as := [tI (w - 1000)]) (s_rstep hG hJ (by omega) (by omega) hM7 (by omega)) rfl rfl mX12_rebuiltStep_ok rfl rfl rfl (by decide) rfl rfl rfl ?_
                  rintro _ w9 ⟨rfl, hw9⟩ _
                  have hw9 := hw9.symm
                  subst hw9
                  have hjb := hJ.2.2.2.1 (w - 1000) (by omega) (by omega)
                  refine x_iald (v := (w7.1 212 (J (w - 1000)))) rfl rfl (by decide) (by omega) (by omega) rfl ?_
                  refine g_goto (tgt := 57) rfl (by decide) ?_
                  refine x_ireturn rfl rfl ?_
                  exact ⟨(by first | rfl | (exfalso; omega) | exact congrArg (fun z => some (tI z)) (by rw [hs7, hm2]; done) | exact congrArg (fun z => some (tI z)) (by rw [hr7, hm1]; done) | exact congrArg (fun z => some (tI z)) ((hA7 _ (by omega) (by omega)).trans (p_M_J hM6 hJ (w - 1000) (by omega) (by omega)).symm) | exact congrArg (fun z => some (tI z)) (by rw [hwp (by omega), (hM7.2 (w - 100) (by omega) (by omega)).2, hM6.2.2.1 (w - 100) (by omega) (by omega)]; done) | exact congrArg (fun z => some (tI z)) (by rw [hs8, hs7, hm2, hw70]; done) | exact congrArg (fun z => some (tI z)) (by omega)), tp_R_kp hR hkp7⟩
              · refine g_iconst rfl ⟨by decide, by decide⟩ ?_
                refine g_goto (tgt := 29) rfl (by decide) ?_
                refine x_ireturn rfl rfl ?_
                intro _
                refine x_ireturn rfl rfl ?_
                intro _
                refine x_ireturn rfl rfl ?_
                refine ⟨_, rfl, ?_⟩
                refine tp_ok_of mX12_rebuilt_ok rfl (Nat.le_refl _) ?_
                refine g_aload_n rfl rfl ?_
                refine g_iconst rfl ⟨by decide, by decide⟩ ?_
                refine g_puti rfl rfl (by decide) rfl rfl ?_
                refine g_aload_n rfl rfl ?_
                refine g_iload_n rfl rfl ?_
                refine g_iload_n rfl rfl ?_
                refine g_iload_n rfl rfl ?_
                refine g_iV (as := [tI (a : Int), tI (d : Int), tI 1]) mX12_layRebuilt_ok rfl rfl rfl rfl rfl rfl (by decide) rfl rfl rfl ?_
                refine g_iload_n rfl rfl ?_
                refine g_iconst rfl ⟨by decide, by decide⟩ ?_
                refine g_icmp_eq (tgt := 14) rfl (by decide) (fun hx => absurd hx (by omega)) (fun _ => ?_)
                refine g_aload_n rfl rfl ?_
                refine g_iconst rfl ⟨by decide, by decide⟩ ?_
                refine g_iload_n rfl rfl ?_
                refine g_iV (as := [tI 2, tI 1]) mX12_is_ok rfl rfl rfl rfl rfl rfl (by decide) rfl rfl rfl ?_
                refine g_iload_n rfl rfl ?_
                refine g_iconst rfl ⟨by decide, by decide⟩ ?_
                refine g_aload_n rfl rfl ?_
                refine x_getF (r := 206) hG rfl rfl (by decide) (Or.inr ⟨_, rfl⟩) rfl ?_
                refine g_iload_n rfl rfl ?_
                refine x_iald (v := (w6.1 206 2)) rfl rfl (by decide) (by decide) (by decide) rfl ?_
                refine g_iconst rfl ⟨by decide, by decide⟩ ?_
                refine x_isub (z := (w6.1 206 2) - 1) rfl (by omega) ⟨by omega, by omega⟩ ?_
                refine g_iS (as := [tI 1, tI 0, tI ((w6.1 206 2) - 1)]) mX12_in_ok rfl rfl rfl rfl rfl rfl rfl ?_
                refine g_iload_n rfl rfl ?_
                refine g_iload_n rfl rfl ?_
                refine g_icmp_lt (tgt := 14) rfl (by decide) (fun hx => absurd hx (by omega)) (fun _ => ?_)
                refine g_iload_n rfl rfl ?_
                refine g_iload_n rfl rfl ?_
                refine g_icmp_gt (tgt := 14) rfl (by decide) (fun hx => absurd hx (by omega)) (fun _ => ?_)
                refine g_iconst rfl ⟨by decide, by decide⟩ ?_
                refine g_goto (tgt := 15) rfl (by decide) ?_
                refine x_zreturn rfl rfl (Or.inr rfl) ?_
                intro _
                refine x_zreturn rfl rfl (Or.inr rfl) ?_
                intro _
                refine g_if_eq (tgt := 23) rfl (by decide) (fun hx => absurd hx (by omega)) (fun _ => ?_)
                refine g_aload_n rfl rfl ?_
                refine g_iload_n rfl rfl ?_
                refine g_iload_n rfl rfl ?_
                refine g_iV (as := [tI (a : Int), tI (d : Int)]) mX12_layPackets_ok rfl rfl rfl rfl rfl rfl (by decide) rfl rfl rfl ?_
                refine g_aload_n rfl rfl ?_
                refine g_iload_n rfl rfl ?_
                refine g_iload_n rfl rfl ?_
                refine g_cV (as := [tI (a : Int), tI (d : Int)]) (hM _ (tp_kp_pi (by decide) hkp6)) rfl rfl mX12_lay_ok rfl rfl rfl (by decide) rfl rfl rfl ?_
                rintro _ w2 ⟨rfl, hTm, hMc, hGm, hdr, hdm⟩ _
                have hkp2 : tp_kp μ w2 := m_G_kp (tp_kp_pi (by decide) hkp6) hGm
                have hm6 := hTm.1
                have hall := hMc.2.2.1
                refine g_if_ne (tgt := 11) rfl (by decide) (fun _ => ?_) (fun hx => absurd hx (by omega))
                refine g_aload_n rfl rfl ?_
                refine g_aload_n rfl rfl ?_
                refine g_iconst rfl ⟨by decide, by decide⟩ ?_
                refine g_cV (as := [tI 1]) (s_of hG hMc (by omega) (by omega)) rfl rfl mX12_of_ok rfl rfl rfl (by decide) rfl rfl rfl ?_
                rintro _ w9 ⟨rfl, hw9⟩ _
                have hw9 := hw9.symm
                subst hw9
                refine g_aload_n rfl rfl ?_
                refine g_iconst rfl ⟨by decide, by decide⟩ ?_
                refine g_cV (as := [tI 2]) (s_of hG hMc (by omega) (by omega)) rfl rfl mX12_of_ok rfl rfl rfl (by decide) rfl rfl rfl ?_
                rintro _ w9 ⟨rfl, hw9⟩ _
                have hw9 := hw9.symm
                subst hw9
                refine g_cV (as := [tI (f 1), tI (f 2)]) (s_encodesM hG hw hMc hW hTm (by omega) (by omega)) rfl rfl mX12_encodes_ok rfl rfl rfl (by decide) rfl rfl rfl ?_
                rintro _ w4 ⟨rfl, hE4⟩ _
                have hkp4 : tp_kp μ w4 := fun k9 z9 => (hE4.2.2.2.1 k9 (by unfold tp_tl at z9; omega) (by unfold tp_tl at z9; omega)).trans (hkp2 k9 z9)
                rw [← hσ] at hE4
                have hMB := hE4.2.1
                have hsz4 : w4.1 201 47 = σ.1 0 9 := hE4.1.2.2.2.2.2.2.2.2.1
                have hQ4 : v_Q σ w4 := ⟨hsz4, fun i i0 i1 => ⟨(hMB i i0 i1).1, (hMB i i0 i1).2.2.2.1, (hMB i i0 i1).2.2.2.2.1⟩⟩
                have hn4 : w4.1 201 27 = n := by rw [hE4.2.2.2.2 27 (by omega)]; exact hm6
                have hA4 : ∀ j, 0 ≤ j → j < n → w4.1 212 j = A j := fun j j0 j1 => by rw [hE4.2.2.2.1 212 (by omega) (by omega)]; exact hTm.2.1 j j0 j1
                refine g_iconst rfl ⟨by decide, by decide⟩ ?_
                refine x_zreturn rfl rfl (Or.inr rfl) ?_
                intro _
                refine g_if_ne (tgt := 25) rfl (by decide) (fun _ => ?_) (fun hx => absurd hx (by omega))
                refine g_aload_n rfl rfl ?_
                refine g_iload_n rfl rfl ?_
                refine g_cV (as := [tI 1]) (s_by1 (g := tp_of μ 1) hG hQ4 hp9 (by omega) HH (fun i i0 i1 => by rw [hkp4 209 (by unfold tp_tl; omega)]; show μ.1 209 (101 + i) = μ.1 209 (101 * 1 + i); exact congrArg (μ.1 209) (by omega))) rfl rfl mX12_rebuildsBy_ok rfl rfl rfl (by decide) rfl rfl rfl ?_
                rintro _ w7 ⟨rfl, hM7, hs7, hG7⟩ _
                rw [← hs] at hM7 hs7
                have hkp7 : tp_kp μ w7 := fun k9 z9 => (hG7.1 k9 (by unfold tp_tl at z9; omega) (by unfold tp_tl at z9; omega) (by unfold tp_tl at z9; omega) (by unfold tp_tl at z9; omega)).trans (hkp4 k9 z9)
                have hn7 : w7.1 201 27 = n := by rw [hG7.2 27 (by omega) (by omega)]; exact hn4
                have hA7 : ∀ j, 0 ≤ j → j < n → w7.1 212 j = A j := fun j j0 j1 => by rw [hG7.1 212 (by omega) (by omega) (by omega) (by omega)]; exact hA4 j j0 j1
                have hr7 := hM7.1
                have hQ7 : v_Q σ w7 := v_Q_G hG7 hQ4
                refine g_iconst rfl ⟨by decide, by decide⟩ ?_
                refine x_zreturn rfl rfl (Or.inr rfl) ?_
                intro _
                refine g_if_ne (tgt := 17) rfl (by decide) (fun _ => ?_) (fun hx => absurd hx (by omega))
                refine g_iload rfl rfl ?_
                refine g_sipush rfl ⟨by decide, by decide⟩ (by decide) ?_
                refine g_icmp_lt (tgt := 58) rfl (by decide) (fun hx => absurd hx (by omega)) (fun _ => ?_)
                refine g_iload rfl rfl ?_
                refine g_sipush rfl ⟨by decide, by decide⟩ (by decide) ?_
                refine x_isub (z := w - 1000) rfl (by omega) ⟨by omega, by omega⟩ ?_
                refine g_aload_n rfl rfl ?_
                refine x_geti (v := (w7.1 201 63)) rfl rfl (by decide) (Or.inl rfl) rfl ?_
                refine g_icmp_ge (tgt := 56) rfl (by decide) (fun h18 => ?_) (fun h18 => ?_)
                · refine g_iconst rfl ⟨by decide, by decide⟩ ?_
                  refine x_ireturn rfl rfl ?_
                  exact ⟨(by first | rfl | (exfalso; omega) | exact congrArg (fun z => some (tI z)) (by rw [hs7, hm2]; done) | exact congrArg (fun z => some (tI z)) (by rw [hr7, hm1]; done) | exact congrArg (fun z => some (tI z)) ((hA7 _ (by omega) (by omega)).trans (p_M_J hM6 hJ (w - 1000) (by omega) (by omega)).symm) | exact congrArg (fun z => some (tI z)) (by rw [hwp (by omega), (hM7.2 (w - 100) (by omega) (by omega)).2, hM6.2.2.1 (w - 100) (by omega) (by omega)]; done) | exact congrArg (fun z => some (tI z)) (by rw [hs8, hs7, hm2, hw70]; done) | exact congrArg (fun z => some (tI z)) (by omega)), tp_R_kp hR hkp7⟩
                · refine g_aload_n rfl rfl ?_
                  refine x_getF (r := 212) hG rfl rfl (by decide) (Or.inr ⟨_, rfl⟩) rfl ?_
                  refine g_aload_n rfl rfl ?_
                  refine g_iload rfl rfl ?_
                  refine g_sipush rfl ⟨by decide, by decide⟩ (by decide) ?_
                  refine x_isub (z := w - 1000) rfl (by omega) ⟨by omega, by omega⟩ ?_
                  refine g_cV (as := [tI (w - 1000)]) (s_rstep hG hJ (by omega) (by omega) hM7 (by omega)) rfl rfl mX12_rebuiltStep_ok rfl rfl rfl (by decide) rfl rfl rfl ?_
                  rintro _ w9 ⟨rfl, hw9⟩ _
                  have hw9 := hw9.symm
                  subst hw9
                  have hjb := hJ.2.2.2.1 (w - 1000) (by omega) (by omega)
                  refine x_iald (v := (w7.1 212 (J (w - 1000)))) rfl rfl (by decide) (by omega) (by omega) rfl ?_
                  refine g_goto (tgt := 57) rfl (by decide) ?_
                  refine x_ireturn rfl rfl ?_
                  exact ⟨(by first | rfl | (exfalso; omega) | exact congrArg (fun z => some (tI z)) (by rw [hs7, hm2]; done) | exact congrArg (fun z => some (tI z)) (by rw [hr7, hm1]; done) | exact congrArg (fun z => some (tI z)) ((hA7 _ (by omega) (by omega)).trans (p_M_J hM6 hJ (w - 1000) (by omega) (by omega)).symm) | exact congrArg (fun z => some (tI z)) (by rw [hwp (by omega), (hM7.2 (w - 100) (by omega) (by omega)).2, hM6.2.2.1 (w - 100) (by omega) (by omega)]; done) | exact congrArg (fun z => some (tI z)) (by rw [hs8, hs7, hm2, hw70]; done) | exact congrArg (fun z => some (tI z)) (by omega)), tp_R_kp hR hkp7⟩
        · refine g_aload_n rfl rfl ?_
          refine x_geti (v := (w6.1 76 3)) rfl rfl (by decide) (Or.inl rfl) rfl ?_
          refine x_ireturn rfl rfl ?_
          intro _
          refine x_ireturn rfl rfl ?_
          refine ⟨_, rfl, ?_⟩
          refine tp_ok_of mX12_rebuilt_ok rfl (Nat.le_refl _) ?_
          refine g_aload_n rfl rfl ?_
          refine g_iconst rfl ⟨by decide, by decide⟩ ?_
          refine g_puti rfl rfl (by decide) rfl rfl ?_
          refine g_aload_n rfl rfl ?_
          refine g_iload_n rfl rfl ?_
          refine g_iload_n rfl rfl ?_
          refine g_iload_n rfl rfl ?_
          refine g_iV (as := [tI (a : Int), tI (d : Int), tI 1]) mX12_layRebuilt_ok rfl rfl rfl rfl rfl rfl (by decide) rfl rfl rfl ?_
          refine g_iload_n rfl rfl ?_
          refine g_iconst rfl ⟨by decide, by decide⟩ ?_
          refine g_icmp_eq (tgt := 14) rfl (by decide) (fun hx => absurd hx (by omega)) (fun _ => ?_)
          refine g_aload_n rfl rfl ?_
          refine g_iconst rfl ⟨by decide, by decide⟩ ?_
          refine g_iload_n rfl rfl ?_
          refine g_iV (as := [tI 2, tI 1]) mX12_is_ok rfl rfl rfl rfl rfl rfl (by decide) rfl rfl rfl ?_
          refine g_iload_n rfl rfl ?_
          refine g_iconst rfl ⟨by decide, by decide⟩ ?_
          refine g_aload_n rfl rfl ?_
          refine x_getF (r := 206) hG rfl rfl (by decide) (Or.inr ⟨_, rfl⟩) rfl ?_
          refine g_iload_n rfl rfl ?_
          refine x_iald (v := (w6.1 206 2)) rfl rfl (by decide) (by decide) (by decide) rfl ?_
          refine g_iconst rfl ⟨by decide, by decide⟩ ?_
          refine x_isub (z := (w6.1 206 2) - 1) rfl (by omega) ⟨by omega, by omega⟩ ?_
          refine g_iS (as := [tI 1, tI 0, tI ((w6.1 206 2) - 1)]) mX12_in_ok rfl rfl rfl rfl rfl rfl rfl ?_
          refine g_iload_n rfl rfl ?_
          refine g_iload_n rfl rfl ?_
          refine g_icmp_lt (tgt := 14) rfl (by decide) (fun hx => absurd hx (by omega)) (fun _ => ?_)
          refine g_iload_n rfl rfl ?_
          refine g_iload_n rfl rfl ?_
          refine g_icmp_gt (tgt := 14) rfl (by decide) (fun hx => absurd hx (by omega)) (fun _ => ?_)
          refine g_iconst rfl ⟨by decide, by decide⟩ ?_
          refine g_goto (tgt := 15) rfl (by decide) ?_
          refine x_zreturn rfl rfl (Or.inr rfl) ?_
          intro _
          refine x_zreturn rfl rfl (Or.inr rfl) ?_
          intro _
          refine g_if_eq (tgt := 23) rfl (by decide) (fun hx => absurd hx (by omega)) (fun _ => ?_)
          refine g_aload_n rfl rfl ?_
          refine g_iload_n rfl rfl ?_
          refine g_iload_n rfl rfl ?_
          refine g_iV (as := [tI (a : Int), tI (d : Int)]) mX12_layPackets_ok rfl rfl rfl rfl rfl rfl (by decide) rfl rfl rfl ?_
          refine g_aload_n rfl rfl ?_
          refine g_iload_n rfl rfl ?_
          refine g_iload_n rfl rfl ?_
          refine g_cV (as := [tI (a : Int), tI (d : Int)]) (hM _ (tp_kp_pi (by decide) hkp6)) rfl rfl mX12_lay_ok rfl rfl rfl (by decide) rfl rfl rfl ?_
          rintro _ w2 ⟨rfl, hTm, hMc, hGm, hdr, hdm⟩ _
          have hkp2 : tp_kp μ w2 := m_G_kp (tp_kp_pi (by decide) hkp6) hGm
          have hm6 := hTm.1
          have hall := hMc.2.2.1
          refine g_if_ne (tgt := 11) rfl (by decide) (fun _ => ?_) (fun hx => absurd hx (by omega))
          refine g_aload_n rfl rfl ?_
          refine g_aload_n rfl rfl ?_
          refine g_iconst rfl ⟨by decide, by decide⟩ ?_
          refine g_cV (as := [tI 1]) (s_of hG hMc (by omega) (by omega)) rfl rfl mX12_of_ok rfl rfl rfl (by decide) rfl rfl rfl ?_
          rintro _ w9 ⟨rfl, hw9⟩ _
          have hw9 := hw9.symm
          subst hw9
          refine g_aload_n rfl rfl ?_
          refine g_iconst rfl ⟨by decide, by decide⟩ ?_
          refine g_cV (as := [tI 2]) (s_of hG hMc (by omega) (by omega)) rfl rfl mX12_of_ok rfl rfl rfl (by decide) rfl rfl rfl ?_
          rintro _ w9 ⟨rfl, hw9⟩ _
          have hw9 := hw9.symm
          subst hw9
          refine g_cV (as := [tI (f 1), tI (f 2)]) (s_encodesM hG hw hMc hW hTm (by omega) (by omega)) rfl rfl mX12_encodes_ok rfl rfl rfl (by decide) rfl rfl rfl ?_
          rintro _ w4 ⟨rfl, hE4⟩ _
          have hkp4 : tp_kp μ w4 := fun k9 z9 => (hE4.2.2.2.1 k9 (by unfold tp_tl at z9; omega) (by unfold tp_tl at z9; omega)).trans (hkp2 k9 z9)
          rw [← hσ] at hE4
          have hMB := hE4.2.1
          have hsz4 : w4.1 201 47 = σ.1 0 9 := hE4.1.2.2.2.2.2.2.2.2.1
          have hQ4 : v_Q σ w4 := ⟨hsz4, fun i i0 i1 => ⟨(hMB i i0 i1).1, (hMB i i0 i1).2.2.2.1, (hMB i i0 i1).2.2.2.2.1⟩⟩
          have hn4 : w4.1 201 27 = n := by rw [hE4.2.2.2.2 27 (by omega)]; exact hm6
          have hA4 : ∀ j, 0 ≤ j → j < n → w4.1 212 j = A j := fun j j0 j1 => by rw [hE4.2.2.2.1 212 (by omega) (by omega)]; exact hTm.2.1 j j0 j1
          refine g_iconst rfl ⟨by decide, by decide⟩ ?_
          refine x_zreturn rfl rfl (Or.inr rfl) ?_
          intro _
          refine g_if_ne (tgt := 25) rfl (by decide) (fun _ => ?_) (fun hx => absurd hx (by omega))
          refine g_aload_n rfl rfl ?_
          refine g_iload_n rfl rfl ?_
          refine g_cV (as := [tI 1]) (s_by1 (g := tp_of μ 1) hG hQ4 hp9 (by omega) HH (fun i i0 i1 => by rw [hkp4 209 (by unfold tp_tl; omega)]; show μ.1 209 (101 + i) = μ.1 209 (101 * 1 + i); exact congrArg (μ.1 209) (by omega))) rfl rfl mX12_rebuildsBy_ok rfl rfl rfl (by decide) rfl rfl rfl ?_
          rintro _ w7 ⟨rfl, hM7, hs7, hG7⟩ _
          rw [← hs] at hM7 hs7
          have hkp7 : tp_kp μ w7 := fun k9 z9 => (hG7.1 k9 (by unfold tp_tl at z9; omega) (by unfold tp_tl at z9; omega) (by unfold tp_tl at z9; omega) (by unfold tp_tl at z9; omega)).trans (hkp4 k9 z9)
          have hn7 : w7.1 201 27 = n := by rw [hG7.2 27 (by omega) (by omega)]; exact hn4
          have hA7 : ∀ j, 0 ≤ j → j < n → w7.1 212 j = A j := fun j j0 j1 => by rw [hG7.1 212 (by omega) (by omega) (by omega) (by omega)]; exact hA4 j j0 j1
          have hr7 := hM7.1
          have hQ7 : v_Q σ w7 := v_Q_G hG7 hQ4
          refine g_iconst rfl ⟨by decide, by decide⟩ ?_
          refine x_zreturn rfl rfl (Or.inr rfl) ?_
          intro _
          refine g_if_ne (tgt := 17) rfl (by decide) (fun _ => ?_) (fun hx => absurd hx (by omega))
          refine g_iload rfl rfl ?_
          refine g_sipush rfl ⟨by decide, by decide⟩ (by decide) ?_
          refine g_icmp_lt (tgt := 58) rfl (by decide) (fun _ => ?_) (fun hx => absurd hx (by omega))
          refine g_iload rfl rfl ?_
          refine g_bipush rfl ⟨by decide, by decide⟩ (by decide) ?_
          refine g_icmp_lt (tgt := 92) rfl (by decide) (fun _ => ?_) (fun hx => absurd hx (by omega))
          refine g_iload rfl rfl ?_
          refine g_if_ne (tgt := 104) rfl (by decide) (fun _ => ?_) (fun hx => absurd hx (by omega))
          refine g_iload rfl rfl ?_
          refine g_iconst rfl ⟨by decide, by decide⟩ ?_
          refine g_icmp_ne (tgt := 117) rfl (by decide) (fun hx => absurd hx (by omega)) (fun _ => ?_)
          refine g_aload_n rfl rfl ?_
          refine x_geti (v := (w7.1 201 62)) rfl rfl (by decide) (Or.inl rfl) rfl ?_
          refine g_goto (tgt := 131) rfl (by decide) ?_
          refine x_ireturn rfl rfl ?_
          exact ⟨(by first | rfl | (exfalso; omega) | exact congrArg (fun z => some (tI z)) (by rw [hs7, hm2]; done) | exact congrArg (fun z => some (tI z)) (by rw [hr7, hm1]; done) | exact congrArg (fun z => some (tI z)) ((hA7 _ (by omega) (by omega)).trans (p_M_J hM6 hJ (w - 1000) (by omega) (by omega)).symm) | exact congrArg (fun z => some (tI z)) (by rw [hwp (by omega), (hM7.2 (w - 100) (by omega) (by omega)).2, hM6.2.2.1 (w - 100) (by omega) (by omega)]; done) | exact congrArg (fun z => some (tI z)) (by rw [hs8, hs7, hm2, hw70]; done) | exact congrArg (fun z => some (tI z)) (by omega)), tp_R_kp hR hkp7⟩
      · refine g_aload_n rfl rfl ?_
        refine x_geti (v := (w6.1 76 2)) rfl rfl (by decide) (Or.inl rfl) rfl ?_
        refine x_ireturn rfl rfl ?_
        intro _
        refine x_ireturn rfl rfl ?_
        refine ⟨_, rfl, ?_⟩
        refine tp_ok_of mX12_rebuilt_ok rfl (Nat.le_refl _) ?_
        refine g_aload_n rfl rfl ?_
        refine g_iconst rfl ⟨by decide, by decide⟩ ?_
        refine g_puti rfl rfl (by decide) rfl rfl ?_
        refine g_aload_n rfl rfl ?_
        refine g_iload_n rfl rfl ?_
        refine g_iload_n rfl rfl ?_
        refine g_iload_n rfl rfl ?_
        refine g_iV (as := [tI (a : Int), tI (d : Int), tI 1]) mX12_layRebuilt_ok rfl rfl rfl rfl rfl rfl (by decide) rfl rfl rfl ?_
        refine g_iload_n rfl rfl ?_
        refine g_iconst rfl ⟨by decide, by decide⟩ ?_
        refine g_icmp_eq (tgt := 14) rfl (by decide) (fun hx => absurd hx (by omega)) (fun _ => ?_)
        refine g_aload_n rfl rfl ?_
        refine g_iconst rfl ⟨by decide, by decide⟩ ?_
        refine g_iload_n rfl rfl ?_
        refine g_iV (as := [tI 2, tI 1]) mX12_is_ok rfl rfl rfl rfl rfl rfl (by decide) rfl rfl rfl ?_
        refine g_iload_n rfl rfl ?_
        refine g_iconst rfl ⟨by decide, by decide⟩ ?_
        refine g_aload_n rfl rfl ?_
        refine x_getF (r := 206) hG rfl rfl (by decide) (Or.inr ⟨_, rfl⟩) rfl ?_
        refine g_iload_n rfl rfl ?_
        refine x_iald (v := (w6.1 206 2)) rfl rfl (by decide) (by decide) (by decide) rfl ?_
        refine g_iconst rfl ⟨by decide, by decide⟩ ?_
        refine x_isub (z := (w6.1 206 2) - 1) rfl (by omega) ⟨by omega, by omega⟩ ?_
        refine g_iS (as := [tI 1, tI 0, tI ((w6.1 206 2) - 1)]) mX12_in_ok rfl rfl rfl rfl rfl rfl rfl ?_
        refine g_iload_n rfl rfl ?_
        refine g_iload_n rfl rfl ?_
        refine g_icmp_lt (tgt := 14) rfl (by decide) (fun hx => absurd hx (by omega)) (fun _ => ?_)
        refine g_iload_n rfl rfl ?_
        refine g_iload_n rfl rfl ?_
        refine g_icmp_gt (tgt := 14) rfl (by decide) (fun hx => absurd hx (by omega)) (fun _ => ?_)
        refine g_iconst rfl ⟨by decide, by decide⟩ ?_
        refine g_goto (tgt := 15) rfl (by decide) ?_
        refine x_zreturn rfl rfl (Or.inr rfl) ?_
        intro _
        refine x_zreturn rfl rfl (Or.inr rfl) ?_
        intro _
        refine g_if_eq (tgt := 23) rfl (by decide) (fun hx => absurd hx (by omega)) (fun _ => ?_)
        refine g_aload_n rfl rfl ?_
        refine g_iload_n rfl rfl ?_
        refine g_iload_n rfl rfl ?_
        refine g_iV (as := [tI (a : Int), tI (d : Int)]) mX12_layPackets_ok rfl rfl rfl rfl rfl rfl (by decide) rfl rfl rfl ?_
        refine g_aload_n rfl rfl ?_
        refine g_iload_n rfl rfl ?_
        refine g_iload_n rfl rfl ?_
        refine g_cV (as := [tI (a : Int), tI (d : Int)]) (hM _ (tp_kp_pi (by decide) hkp6)) rfl rfl mX12_lay_ok rfl rfl rfl (by decide) rfl rfl rfl ?_
        rintro _ w2 ⟨rfl, hTm, hMc, hGm, hdr, hdm⟩ _
        have hkp2 : tp_kp μ w2 := m_G_kp (tp_kp_pi (by decide) hkp6) hGm
        have hm6 := hTm.1
        have hall := hMc.2.2.1
        refine g_if_ne (tgt := 11) rfl (by decide) (fun _ => ?_) (fun hx => absurd hx (by omega))
        refine g_aload_n rfl rfl ?_
        refine g_aload_n rfl rfl ?_
        refine g_iconst rfl ⟨by decide, by decide⟩ ?_
        refine g_cV (as := [tI 1]) (s_of hG hMc (by omega) (by omega)) rfl rfl mX12_of_ok rfl rfl rfl (by decide) rfl rfl rfl ?_
        rintro _ w9 ⟨rfl, hw9⟩ _
        have hw9 := hw9.symm
        subst hw9
        refine g_aload_n rfl rfl ?_
        refine g_iconst rfl ⟨by decide, by decide⟩ ?_
        refine g_cV (as := [tI 2]) (s_of hG hMc (by omega) (by omega)) rfl rfl mX12_of_ok rfl rfl rfl (by decide) rfl rfl rfl ?_
        rintro _ w9 ⟨rfl, hw9⟩ _
        have hw9 := hw9.symm
        subst hw9
        refine g_cV (as := [tI (f 1), tI (f 2)]) (s_encodesM hG hw hMc hW hTm (by omega) (by omega)) rfl rfl mX12_encodes_ok rfl rfl rfl (by decide) rfl rfl rfl ?_
        rintro _ w4 ⟨rfl, hE4⟩ _
        have hkp4 : tp_kp μ w4 := fun k9 z9 => (hE4.2.2.2.1 k9 (by unfold tp_tl at z9; omega) (by unfold tp_tl at z9; omega)).trans (hkp2 k9 z9)
        rw [← hσ] at hE4
        have hMB := hE4.2.1
        have hsz4 : w4.1 201 47 = σ.1 0 9 := hE4.1.2.2.2.2.2.2.2.2.1
        have hQ4 : v_Q σ w4 := ⟨hsz4, fun i i0 i1 => ⟨(hMB i i0 i1).1, (hMB i i0 i1).2.2.2.1, (hMB i i0 i1).2.2.2.2.1⟩⟩
        have hn4 : w4.1 201 27 = n := by rw [hE4.2.2.2.2 27 (by omega)]; exact hm6
        have hA4 : ∀ j, 0 ≤ j → j < n → w4.1 212 j = A j := fun j j0 j1 => by rw [hE4.2.2.2.1 212 (by omega) (by omega)]; exact hTm.2.1 j j0 j1
        refine g_iconst rfl ⟨by decide, by decide⟩ ?_
        refine x_zreturn rfl rfl (Or.inr rfl) ?_
        intro _
        refine g_if_ne (tgt := 25) rfl (by decide) (fun _ => ?_) (fun hx => absurd hx (by omega))
        refine g_aload_n rfl rfl ?_
        refine g_iload_n rfl rfl ?_
        refine g_cV (as := [tI 1]) (s_by1 (g := tp_of μ 1) hG hQ4 hp9 (by omega) HH (fun i i0 i1 => by rw [hkp4 209 (by unfold tp_tl; omega)]; show μ.1 209 (101 + i) = μ.1 209 (101 * 1 + i); exact congrArg (μ.1 209) (by omega))) rfl rfl mX12_rebuildsBy_ok rfl rfl rfl (by decide) rfl rfl rfl ?_
        rintro _ w7 ⟨rfl, hM7, hs7, hG7⟩ _
        rw [← hs] at hM7 hs7
        have hkp7 : tp_kp μ w7 := fun k9 z9 => (hG7.1 k9 (by unfold tp_tl at z9; omega) (by unfold tp_tl at z9; omega) (by unfold tp_tl at z9; omega) (by unfold tp_tl at z9; omega)).trans (hkp4 k9 z9)
        have hn7 : w7.1 201 27 = n := by rw [hG7.2 27 (by omega) (by omega)]; exact hn4
        have hA7 : ∀ j, 0 ≤ j → j < n → w7.1 212 j = A j := fun j j0 j1 => by rw [hG7.1 212 (by omega) (by omega) (by omega) (by omega)]; exact hA4 j j0 j1
        have hr7 := hM7.1
        have hQ7 : v_Q σ w7 := v_Q_G hG7 hQ4
        refine g_iconst rfl ⟨by decide, by decide⟩ ?_
        refine x_zreturn rfl rfl (Or.inr rfl) ?_
        intro _
        refine g_if_ne (tgt := 17) rfl (by decide) (fun _ => ?_) (fun hx => absurd hx (by omega))
        refine g_iload rfl rfl ?_
        refine g_sipush rfl ⟨by decide, by decide⟩ (by decide) ?_
        refine g_icmp_lt (tgt := 58) rfl (by decide) (fun _ => ?_) (fun hx => absurd hx (by omega))
        refine g_iload rfl rfl ?_
        refine g_bipush rfl ⟨by decide, by decide⟩ (by decide) ?_
        refine g_icmp_lt (tgt := 92) rfl (by decide) (fun _ => ?_) (fun hx => absurd hx (by omega))
        refine g_iload rfl rfl ?_
        refine g_if_ne (tgt := 104) rfl (by decide) (fun hx => absurd hx (by omega)) (fun _ => ?_)
        refine g_aload_n rfl rfl ?_
        refine x_geti (v := (w7.1 201 63)) rfl rfl (by decide) (Or.inl rfl) rfl ?_
        refine g_goto (tgt := 131) rfl (by decide) ?_
        refine x_ireturn rfl rfl ?_
        exact ⟨(by first | rfl | (exfalso; omega) | exact congrArg (fun z => some (tI z)) (by rw [hs7, hm2]; done) | exact congrArg (fun z => some (tI z)) (by rw [hr7, hm1]; done) | exact congrArg (fun z => some (tI z)) ((hA7 _ (by omega) (by omega)).trans (p_M_J hM6 hJ (w - 1000) (by omega) (by omega)).symm) | exact congrArg (fun z => some (tI z)) (by rw [hwp (by omega), (hM7.2 (w - 100) (by omega) (by omega)).2, hM6.2.2.1 (w - 100) (by omega) (by omega)]; done) | exact congrArg (fun z => some (tI z)) (by rw [hs8, hs7, hm2, hw70]; done) | exact congrArg (fun z => some (tI z)) (by omega)), tp_R_kp hR hkp7⟩
    · refine g_aload_n rfl rfl ?_
      refine x_getF (r := 70) hG rfl rfl (by decide) (Or.inl ⟨_, rfl⟩) rfl ?_
      refine x_geti (v := (w6.1 70 6)) rfl rfl (by decide) (Or.inl rfl) rfl ?_
      refine g_aload_n rfl rfl ?_
      refine x_getF (r := 76) hG rfl rfl (by decide) (Or.inl ⟨_, rfl⟩) rfl ?_
      refine x_geti (v := (w6.1 76 2)) rfl rfl (by decide) (Or.inl rfl) rfl ?_
      refine x_isub (z := (w6.1 70 6) - (w6.1 76 2)) rfl (by omega) ⟨by omega, by omega⟩ ?_
      refine g_goto (tgt := 75) rfl (by decide) ?_
      refine x_ireturn rfl rfl ?_
      refine ⟨_, rfl, ?_⟩
      refine tp_ok_of mX12_rebuilt_ok rfl (Nat.le_refl _) ?_
      refine g_aload_n rfl rfl ?_
      refine g_iconst rfl ⟨by decide, by decide⟩ ?_
      refine g_puti rfl rfl (by decide) rfl rfl ?_
      refine g_aload_n rfl rfl ?_
      refine g_iload_n rfl rfl ?_
      refine g_iload_n rfl rfl ?_
      refine g_iload_n rfl rfl ?_
      refine g_iV (as := [tI (a : Int), tI (d : Int), tI 1]) mX12_layRebuilt_ok rfl rfl rfl rfl rfl rfl (by decide) rfl rfl rfl ?_
      refine g_iload_n rfl rfl ?_
      refine g_iconst rfl ⟨by decide, by decide⟩ ?_
      refine g_icmp_eq (tgt := 14) rfl (by decide) (fun hx => absurd hx (by omega)) (fun _ => ?_)
      refine g_aload_n rfl rfl ?_
      refine g_iconst rfl ⟨by decide, by decide⟩ ?_
      refine g_iload_n rfl rfl ?_
      refine g_iV (as := [tI 2, tI 1]) mX12_is_ok rfl rfl rfl rfl rfl rfl (by decide) rfl rfl rfl ?_
      refine g_iload_n rfl rfl ?_
      refine g_iconst rfl ⟨by decide, by decide⟩ ?_
      refine g_aload_n rfl rfl ?_
      refine x_getF (r := 206) hG rfl rfl (by decide) (Or.inr ⟨_, rfl⟩) rfl ?_
      refine g_iload_n rfl rfl ?_
      refine x_iald (v := (w6.1 206 2)) rfl rfl (by decide) (by decide) (by decide) rfl ?_
      refine g_iconst rfl ⟨by decide, by decide⟩ ?_
      refine x_isub (z := (w6.1 206 2) - 1) rfl (by omega) ⟨by omega, by omega⟩ ?_
      refine g_iS (as := [tI 1, tI 0, tI ((w6.1 206 2) - 1)]) mX12_in_ok rfl rfl rfl rfl rfl rfl rfl ?_
      refine g_iload_n rfl rfl ?_
      refine g_iload_n rfl rfl ?_
      refine g_icmp_lt (tgt := 14) rfl (by decide) (fun hx => absurd hx (by omega)) (fun _ => ?_)
      refine g_iload_n rfl rfl ?_
      refine g_iload_n rfl rfl ?_
      refine g_icmp_gt (tgt := 14) rfl (by decide) (fun hx => absurd hx (by omega)) (fun _ => ?_)
      refine g_iconst rfl ⟨by decide, by decide⟩ ?_
      refine g_goto (tgt := 15) rfl (by decide) ?_
      refine x_zreturn rfl rfl (Or.inr rfl) ?_
      intro _
      refine x_zreturn rfl rfl (Or.inr rfl) ?_
      intro _
      refine g_if_eq (tgt := 23) rfl (by decide) (fun hx => absurd hx (by omega)) (fun _ => ?_)
      refine g_aload_n rfl rfl ?_
      refine g_iload_n rfl rfl ?_
      refine g_iload_n rfl rfl ?_
      refine g_iV (as := [tI (a : Int), tI (d : Int)]) mX12_layPackets_ok rfl rfl rfl rfl rfl rfl (by decide) rfl rfl rfl ?_
      refine g_aload_n rfl rfl ?_
      refine g_iload_n rfl rfl ?_
      refine g_iload_n rfl rfl ?_
      refine g_cV (as := [tI (a : Int), tI (d : Int)]) (hM _ (tp_kp_pi (by decide) hkp6)) rfl rfl mX12_lay_ok rfl rfl rfl (by decide) rfl rfl rfl ?_
      rintro _ w2 ⟨rfl, hTm, hMc, hGm, hdr, hdm⟩ _
      have hkp2 : tp_kp μ w2 := m_G_kp (tp_kp_pi (by decide) hkp6) hGm
      have hm6 := hTm.1
      have hall := hMc.2.2.1
      refine g_if_ne (tgt := 11) rfl (by decide) (fun _ => ?_) (fun hx => absurd hx (by omega))
      refine g_aload_n rfl rfl ?_
      refine g_aload_n rfl rfl ?_
      refine g_iconst rfl ⟨by decide, by decide⟩ ?_
      refine g_cV (as := [tI 1]) (s_of hG hMc (by omega) (by omega)) rfl rfl mX12_of_ok rfl rfl rfl (by decide) rfl rfl rfl ?_
      rintro _ w9 ⟨rfl, hw9⟩ _
      have hw9 := hw9.symm
      subst hw9
      refine g_aload_n rfl rfl ?_
      refine g_iconst rfl ⟨by decide, by decide⟩ ?_
      refine g_cV (as := [tI 2]) (s_of hG hMc (by omega) (by omega)) rfl rfl mX12_of_ok rfl rfl rfl (by decide) rfl rfl rfl ?_
      rintro _ w9 ⟨rfl, hw9⟩ _
      have hw9 := hw9.symm
      subst hw9
      refine g_cV (as := [tI (f 1), tI (f 2)]) (s_encodesM hG hw hMc hW hTm (by omega) (by omega)) rfl rfl mX12_encodes_ok rfl rfl rfl (by decide) rfl rfl rfl ?_
      rintro _ w4 ⟨rfl, hE4⟩ _
      have hkp4 : tp_kp μ w4 := fun k9 z9 => (hE4.2.2.2.1 k9 (by unfold tp_tl at z9; omega) (by unfold tp_tl at z9; omega)).trans (hkp2 k9 z9)
      rw [← hσ] at hE4
      have hMB := hE4.2.1
      have hsz4 : w4.1 201 47 = σ.1 0 9 := hE4.1.2.2.2.2.2.2.2.2.1
      have hQ4 : v_Q σ w4 := ⟨hsz4, fun i i0 i1 => ⟨(hMB i i0 i1).1, (hMB i i0 i1).2.2.2.1, (hMB i i0 i1).2.2.2.2.1⟩⟩
      have hn4 : w4.1 201 27 = n := by rw [hE4.2.2.2.2 27 (by omega)]; exact hm6
      have hA4 : ∀ j, 0 ≤ j → j < n → w4.1 212 j = A j := fun j j0 j1 => by rw [hE4.2.2.2.1 212 (by omega) (by omega)]; exact hTm.2.1 j j0 j1
      refine g_iconst rfl ⟨by decide, by decide⟩ ?_
      refine x_zreturn rfl rfl (Or.inr rfl) ?_
      intro _
      refine g_if_ne (tgt := 25) rfl (by decide) (fun _ => ?_) (fun hx => absurd hx (by omega))
      refine g_aload_n rfl rfl ?_
      refine g_iload_n rfl rfl ?_
      refine g_cV (as := [tI 1]) (s_by1 (g := tp_of μ 1) hG hQ4 hp9 (by omega) HH (fun i i0 i1 => by rw [hkp4 209 (by unfold tp_tl; omega)]; show μ.1 209 (101 + i) = μ.1 209 (101 * 1 + i); exact congrArg (μ.1 209) (by omega))) rfl rfl mX12_rebuildsBy_ok rfl rfl rfl (by decide) rfl rfl rfl ?_
      rintro _ w7 ⟨rfl, hM7, hs7, hG7⟩ _
      rw [← hs] at hM7 hs7
      have hkp7 : tp_kp μ w7 := fun k9 z9 => (hG7.1 k9 (by unfold tp_tl at z9; omega) (by unfold tp_tl at z9; omega) (by unfold tp_tl at z9; omega) (by unfold tp_tl at z9; omega)).trans (hkp4 k9 z9)
      have hn7 : w7.1 201 27 = n := by rw [hG7.2 27 (by omega) (by omega)]; exact hn4
      have hA7 : ∀ j, 0 ≤ j → j < n → w7.1 212 j = A j := fun j j0 j1 => by rw [hG7.1 212 (by omega) (by omega) (by omega) (by omega)]; exact hA4 j j0 j1
      have hr7 := hM7.1
      have hQ7 : v_Q σ w7 := v_Q_G hG7 hQ4
      refine g_iconst rfl ⟨by decide, by decide⟩ ?_
      refine x_zreturn rfl rfl (Or.inr rfl) ?_
      intro _
      refine g_if_ne (tgt := 17) rfl (by decide) (fun _ => ?_) (fun hx => absurd hx (by omega))
      refine g_iload rfl rfl ?_
      refine g_sipush rfl ⟨by decide, by decide⟩ (by decide) ?_
      refine g_icmp_lt (tgt := 58) rfl (by decide) (fun _ => ?_) (fun hx => absurd hx (by omega))
      refine g_iload rfl rfl ?_
      refine g_bipush rfl ⟨by decide, by decide⟩ (by decide) ?_
      refine g_icmp_lt (tgt := 92) rfl (by decide) (fun _ => ?_) (fun hx => absurd hx (by omega))
      refine g_iload rfl rfl ?_
      refine g_if_ne (tgt := 104) rfl (by decide) (fun _ => ?_) (fun hx => absurd hx (by omega))
      refine g_iload rfl rfl ?_
      refine g_iconst rfl ⟨by decide, by decide⟩ ?_
      refine g_icmp_ne (tgt := 117) rfl (by decide) (fun _ => ?_) (fun hx => absurd hx (by omega))
      refine g_iload rfl rfl ?_
      refine g_iconst rfl ⟨by decide, by decide⟩ ?_
      refine g_icmp_ne (tgt := 130) rfl (by decide) (fun hx => absurd hx (by omega)) (fun _ => ?_)
      refine g_aload_n rfl rfl ?_
      refine g_iV (as := []) mX12_cost_ok rfl rfl rfl rfl rfl rfl (by decide) rfl rfl rfl ?_
      refine g_aload_n rfl rfl ?_
      refine x_geti (v := (w7.1 201 63)) rfl rfl (by decide) (Or.inl rfl) rfl ?_
      refine g_istore_n rfl rfl rfl ?_
      refine g_aload_n rfl rfl ?_
      refine g_iconst rfl ⟨by decide, by decide⟩ ?_
      refine g_cV (as := [tI (-1)]) (s_but (a := -1) hG hQ7 hp9 (by omega) HH) rfl rfl mX12_rebuildsBut_ok rfl rfl rfl (by decide) rfl rfl rfl ?_
      rintro _ w8 ⟨rfl, hM8, hs8, hG8⟩ _
      have hkp8 : tp_kp μ w8 := fun k9 z9 => (hG8.1 k9 (by unfold tp_tl at z9; omega) (by unfold tp_tl at z9; omega) (by unfold tp_tl at z9; omega) (by unfold tp_tl at z9; omega)).trans (hkp7 k9 z9)
      have hU8 := (v_U (l := v_1 (-1)) HH (fun i i0 i1 => if_neg (by omega)) (σ.1 0 9).toNat (by omega)).2.1
      rw [show (((σ.1 0 9).toNat : Nat) : Int) = σ.1 0 9 by omega] at hU8
      rw [hU8] at hs8
      refine g_aload_n rfl rfl ?_
      refine x_geti (v := (w8.1 201 63)) rfl rfl (by decide) (Or.inl rfl) rfl ?_
      refine g_iload_n rfl rfl ?_
      refine x_isub (z := (w8.1 201 63) - (w7.1 201 63)) rfl (by omega) ⟨by omega, by omega⟩ ?_
      refine x_ireturn rfl rfl ?_
      intro _
      refine g_goto (tgt := 131) rfl (by decide) ?_
      refine x_ireturn rfl rfl ?_
      exact ⟨(by first | (exfalso; omega) | exact congrArg (fun z => some (tI z)) (by rw [hs8, hs7, hm2, hw70])), tp_R_kp hR hkp8⟩
set_option maxHeartbeats 4000000 in
set_option maxRecDepth 100000 in
theorem p_rebuilt {G : tp_G} (hG : tp_Gf G = true) {a d l w : Int} (hwr : tp_r32 w) : tp_pair G mX11_rebuilt mX12_rebuilt [tI a, tI d, tI l, tI w] := by
  intro μ hR
  have hm2l := tp_R_many hR 2 (by decide) (by decide)
  rcases (show l = -1 ∨ (l = 0 ∧ 0 < μ.1 5 2) ∨ (l = 1 ∧ 1 < μ.1 5 2) ∨ l ≤ -2 ∨ (0 ≤ l ∧ μ.1 5 2 ≤ l) by omega) with rfl | ⟨rfl, hld⟩ | ⟨rfl, hld⟩ | hld | hld
  · exact p_rebuiltN hG hR hwr
  · exact p_rebuilt0 hG hR hld hwr
  · exact p_rebuilt1 hG hR hld hwr
  · refine tp_ok_of mX11_rebuilt_ok rfl (Nat.le_refl _) ?_
    refine g_aload_n rfl rfl ?_
    refine x_getF (r := 1) hG rfl rfl (by decide) (Or.inl ⟨_, rfl⟩) rfl ?_
    refine g_iconst rfl ⟨by decide, by decide⟩ ?_
    refine g_iload_n rfl rfl ?_
    refine g_cV (as := [tI 2, tI l]) (s_rowOf2o hG (by omega)) rfl rfl mX9_rowOf_ok rfl rfl rfl (by decide) rfl rfl rfl ?_
    rintro _ w9 ⟨rfl, hw9⟩ _
    have hw9 := hw9.symm
    subst hw9
    refine g_astore rfl rfl rfl ?_
    refine g_aload rfl rfl ?_
    refine g_ifnonnull (tgt := 21) rfl (by decide) (fun _ hx => by cases hx) (fun _ => ?_)
    refine g_iload_n rfl rfl ?_
    refine g_iconst rfl ⟨by decide, by decide⟩ ?_
    refine g_icmp_ne (tgt := 30) rfl (by decide) (fun _ => ?_) (fun hx => absurd hx (by omega))
    refine g_iconst rfl ⟨by decide, by decide⟩ ?_
    refine x_ireturn rfl rfl ?_
    refine ⟨_, rfl, ?_⟩
    refine tp_ok_of mX12_rebuilt_ok rfl (Nat.le_refl _) ?_
    refine g_aload_n rfl rfl ?_
    refine g_iconst rfl ⟨by decide, by decide⟩ ?_
    refine g_puti rfl rfl (by decide) rfl rfl ?_
    refine g_aload_n rfl rfl ?_
    refine g_iload_n rfl rfl ?_
    refine g_iload_n rfl rfl ?_
    refine g_iload_n rfl rfl ?_
    refine g_iV (as := [tI a, tI d, tI l]) mX12_layRebuilt_ok rfl rfl rfl rfl rfl rfl (by decide) rfl rfl rfl ?_
    refine g_iload_n rfl rfl ?_
    refine g_iconst rfl ⟨by decide, by decide⟩ ?_
    refine g_icmp_eq (tgt := 14) rfl (by decide) (fun hx => absurd hx (by omega)) (fun _ => ?_)
    refine g_aload_n rfl rfl ?_
    refine g_iconst rfl ⟨by decide, by decide⟩ ?_
    refine g_iload_n rfl rfl ?_
    refine g_iV (as := [tI 2, tI l]) mX12_is_ok rfl rfl rfl rfl rfl rfl (by decide) rfl rfl rfl ?_
    refine g_iload_n rfl rfl ?_
    refine g_iconst rfl ⟨by decide, by decide⟩ ?_
    refine g_aload_n rfl rfl ?_
    refine x_getF (r := 206) hG rfl rfl (by decide) (Or.inr ⟨_, rfl⟩) rfl ?_
    refine g_iload_n rfl rfl ?_
    refine x_iald (v := (μ.1 206 2)) rfl rfl (by decide) (by decide) (by decide) rfl ?_
    refine g_iconst rfl ⟨by decide, by decide⟩ ?_
    refine x_isub (z := (μ.1 206 2) - 1) rfl (by omega) ⟨by omega, by omega⟩ ?_
    refine g_iS (as := [tI l, tI 0, tI ((μ.1 206 2) - 1)]) mX12_in_ok rfl rfl rfl rfl rfl rfl rfl ?_
    refine g_iload_n rfl rfl ?_
    refine g_iload_n rfl rfl ?_
    refine g_icmp_lt (tgt := 14) rfl (by decide) (fun _ => ?_) (fun hx => absurd hx (by omega))
    refine g_iconst rfl ⟨by decide, by decide⟩ ?_
    refine x_zreturn rfl rfl (Or.inl rfl) ?_
    intro _
    refine x_zreturn rfl rfl (Or.inl rfl) ?_
    intro _
    refine g_if_eq (tgt := 23) rfl (by decide) (fun _ => ?_) (fun hx => absurd hx (by omega))
    refine g_iconst rfl ⟨by decide, by decide⟩ ?_
    refine x_zreturn rfl rfl (Or.inl rfl) ?_
    intro _
    refine g_if_ne (tgt := 17) rfl (by decide) (fun hx => absurd hx (by omega)) (fun _ => ?_)
    refine g_iconst rfl ⟨by decide, by decide⟩ ?_
    refine x_ireturn rfl rfl ?_
    exact ⟨rfl, tp_R_kp hR (tp_kp_pi (by decide) tp_kp_rf)⟩
  · refine tp_ok_of mX11_rebuilt_ok rfl (Nat.le_refl _) ?_
    refine g_aload_n rfl rfl ?_
    refine x_getF (r := 1) hG rfl rfl (by decide) (Or.inl ⟨_, rfl⟩) rfl ?_
    refine g_iconst rfl ⟨by decide, by decide⟩ ?_
    refine g_iload_n rfl rfl ?_
    refine g_cV (as := [tI 2, tI l]) (s_rowOf2o hG (by omega)) rfl rfl mX9_rowOf_ok rfl rfl rfl (by decide) rfl rfl rfl ?_
    rintro _ w9 ⟨rfl, hw9⟩ _
    have hw9 := hw9.symm
    subst hw9
    refine g_astore rfl rfl rfl ?_
    refine g_aload rfl rfl ?_
    refine g_ifnonnull (tgt := 21) rfl (by decide) (fun _ hx => by cases hx) (fun _ => ?_)
    refine g_iload_n rfl rfl ?_
    refine g_iconst rfl ⟨by decide, by decide⟩ ?_
    refine g_icmp_ne (tgt := 30) rfl (by decide) (fun _ => ?_) (fun hx => absurd hx (by omega))
    refine g_iconst rfl ⟨by decide, by decide⟩ ?_
    refine x_ireturn rfl rfl ?_
    refine ⟨_, rfl, ?_⟩
    refine tp_ok_of mX12_rebuilt_ok rfl (Nat.le_refl _) ?_
    refine g_aload_n rfl rfl ?_
    refine g_iconst rfl ⟨by decide, by decide⟩ ?_
    refine g_puti rfl rfl (by decide) rfl rfl ?_
    refine g_aload_n rfl rfl ?_
    refine g_iload_n rfl rfl ?_
    refine g_iload_n rfl rfl ?_
    refine g_iload_n rfl rfl ?_
    refine g_iV (as := [tI a, tI d, tI l]) mX12_layRebuilt_ok rfl rfl rfl rfl rfl rfl (by decide) rfl rfl rfl ?_
    refine g_iload_n rfl rfl ?_
    refine g_iconst rfl ⟨by decide, by decide⟩ ?_
    refine g_icmp_eq (tgt := 14) rfl (by decide) (fun hx => absurd hx (by omega)) (fun _ => ?_)
    refine g_aload_n rfl rfl ?_
    refine g_iconst rfl ⟨by decide, by decide⟩ ?_
    refine g_iload_n rfl rfl ?_
    refine g_iV (as := [tI 2, tI l]) mX12_is_ok rfl rfl rfl rfl rfl rfl (by decide) rfl rfl rfl ?_
    refine g_iload_n rfl rfl ?_
    refine g_iconst rfl ⟨by decide, by decide⟩ ?_
    refine g_aload_n rfl rfl ?_
    refine x_getF (r := 206) hG rfl rfl (by decide) (Or.inr ⟨_, rfl⟩) rfl ?_
    refine g_iload_n rfl rfl ?_
    refine x_iald (v := (μ.1 206 2)) rfl rfl (by decide) (by decide) (by decide) rfl ?_
    refine g_iconst rfl ⟨by decide, by decide⟩ ?_
    refine x_isub (z := (μ.1 206 2) - 1) rfl (by omega) ⟨by omega, by omega⟩ ?_
    refine g_iS (as := [tI l, tI 0, tI ((μ.1 206 2) - 1)]) mX12_in_ok rfl rfl rfl rfl rfl rfl rfl ?_
    refine g_iload_n rfl rfl ?_
    refine g_iload_n rfl rfl ?_
    refine g_icmp_lt (tgt := 14) rfl (by decide) (fun hx => absurd hx (by omega)) (fun _ => ?_)
    refine g_iload_n rfl rfl ?_
    refine g_iload_n rfl rfl ?_
    refine g_icmp_gt (tgt := 14) rfl (by decide) (fun _ => ?_) (fun hx => absurd hx (by omega))
    refine g_iconst rfl ⟨by decide, by decide⟩ ?_
    refine x_zreturn rfl rfl (Or.inl rfl) ?_
    intro _
    refine x_zreturn rfl rfl (Or.inl rfl) ?_
    intro _
    refine g_if_eq (tgt := 23) rfl (by decide) (fun _ => ?_) (fun hx => absurd hx (by omega))
    refine g_iconst rfl ⟨by decide, by decide⟩ ?_
    refine x_zreturn rfl rfl (Or.inl rfl) ?_
    intro _
    refine g_if_ne (tgt := 17) rfl (by decide) (fun hx => absurd hx (by omega)) (fun _ => ?_)
    refine g_iconst rfl ⟨by decide, by decide⟩ ?_
    refine x_ireturn rfl rfl ?_
    exact ⟨rfl, tp_R_kp hR (tp_kp_pi (by decide) tp_kp_rf)⟩
