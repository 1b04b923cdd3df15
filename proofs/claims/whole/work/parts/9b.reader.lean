/-! the class's reader -/
def c_f (f p : Int) (μ : tp_M) : Prop := μ.1 41 8 = f ∧ (f = 0 → μ.1 41 9 = -1) ∧ (f ≠ 0 → μ.1 41 9 = p)
def rs (T : Int → Int) (len f p it : Int) (μ : tp_M) : Prop := k_C T len μ ∧ c_f f p μ ∧ μ.1 41 6 = it
def tk9 (T : Int → Int) (len i : Int) (μ : tp_M) : Prop := μ.1 41 2 = t_e T len i ∧ μ.1 41 3 = t_k T len i ∧ μ.1 41 4 = t_s T len i ∧ (t_k T len i = 2 → μ.1 41 5 = t_v T len i)
def rF (μ0 μ : tp_M) : Prop := (∀ c, c ≠ 41 → μ.1 c = μ0.1 c) ∧ (∀ j, (j < 2 ∨ j = 7 ∨ 9 < j) → μ.1 41 j = μ0.1 41 j) ∧ μ.2 = μ0.2
theorem rF_rf {μ : tp_M} : rF μ μ := ⟨fun _ _ => rfl, fun _ _ => rfl, rfl⟩
theorem rF_tr {μ μ1 μ2 : tp_M} (h : rF μ μ1) (h2 : rF μ1 μ2) : rF μ μ2 := ⟨fun c z => (h2.1 c z).trans (h.1 c z), fun j z => (h2.2.1 j z).trans (h.2.1 j z), h2.2.2.trans h.2.2⟩
theorem rF_k {μ μ1 : tp_M} (h : k_F μ μ1) : rF μ μ1 := ⟨h.1, fun j z => h.2.1 j (by omega), h.2.2⟩
theorem rF_pi {μ μ1 : tp_M} {j v : Int} (hj : j = 6 ∨ j = 8 ∨ j = 9) (h : rF μ μ1) : rF μ (tp_pi μ1 41 j v) := ⟨fun c z => by rw [tp_pi_ne z]; exact h.1 c z, fun i z => by rw [tp_pi_ix (by omega)]; exact h.2.1 i z, h.2.2⟩
theorem k_C_r {T : Int → Int} {len : Int} {μ μ' : tp_M} (h : rF μ μ') (hC : k_C T len μ) : k_C T len μ' := by
  unfold k_C
  rw [h.2.1 1 (by omega), h.1 2 (by omega), h.2.2]
  exact hC
theorem s_adv9 {G : tp_G} {μ : tp_M} (hG : tp_Gf G = true) {T : Int → Int} {len f p it i : Int} (hT : ∀ j, 0 ≤ T j ∧ T j ≤ 255) (h : rs T len f p it μ) (h0 : 0 ≤ i) (h1 : i ≤ len) (hnx : μ.1 41 2 = i) : tp_k G mX5_advance [tR (some 41)] μ (fun r μ' => r = none ∧ tk9 T len i μ' ∧ rs T len f p it μ' ∧ rF μ μ') :=
  tp_kc (fun r μ' z => ⟨z.1, ⟨z.2.1, z.2.2.1, z.2.2.2.1, z.2.2.2.2.1⟩, ⟨k_C_F z.2.2.2.2.2 h.1, by unfold c_f; rw [z.2.2.2.2.2.2.1 8 (by omega), z.2.2.2.2.2.2.1 9 (by omega)]; exact h.2.1, by rw [z.2.2.2.2.2.2.1 6 (by omega)]; exact h.2.2⟩, rF_k z.2.2.2.2.2⟩) (s_adv hG hT h.1 h0 h1 hnx)
set_option maxHeartbeats 4000000 in
set_option maxRecDepth 100000 in
theorem s_cI0a {G : tp_G} {μ : tp_M} (hG : tp_Gf G = true) {T : Int → Int} {len f p it m ft i w : Int} {D : Int → Int} (hr : rs T len f p it μ) (ht : tk9 T len i μ) (hit : 0 ≤ it ∧ it ≤ 600) (hw : 0 ≤ w ∧ w ≤ 6) : tp_k G mX5_countItem [tR (some 41), tI 0, tI w] μ (fun r μ' => r = none ∧ ∃ f1 p1, t_cnt 0 w (t_s T len i) (f, p, it, m, ft, D) = (f1, p1, it + 1, m, ft, D) ∧ (f1 = 0 → f = 0 ∧ it < t_mx 0) ∧ rs T len f1 p1 (it + 1) μ' ∧ tk9 T len i μ' ∧ rF μ μ') := by
  refine tp_ok_of mX5_countItem_ok rfl (Nat.le_refl _) ?_
  have hw9 : ¬ (7 ≤ w ∧ w < 16) := by omega
  have hf8 := hr.2.1.1
  refine g_iload_n rfl rfl ?_
  refine g_bipush rfl ⟨by decide, by decide⟩ (by decide) ?_
  refine g_icmp_lt (tgt := 13) rfl (by decide) (fun _ => ?_) (fun hx => absurd hx (by omega))
  refine g_aload_n rfl rfl ?_
  refine g_dupr rfl ?_
  refine x_geti (v := it) rfl rfl (by decide) (Or.inl rfl) hr.2.2 ?_
  refine g_iconst rfl ⟨by decide, by decide⟩ ?_
  refine x_iadd (z := it + 1) rfl (by omega) ⟨by omega, by omega⟩ ?_
  refine g_puti rfl rfl (by decide) rfl rfl ?_
  refine g_aload_n rfl rfl ?_
  refine x_geti (v := it + 1) rfl rfl (by decide) (Or.inl rfl) rfl ?_
  refine g_gets rfl ?_
  refine g_iload_n rfl rfl ?_
  refine x_sald (i0 := 7) (v := 40) rfl (by decide) (by decide) (by show _ < ((4 : Nat) : Int); decide) rfl ?_
  refine g_icmp_le (tgt := 44) rfl (by decide) (fun h1 => ?_) (fun h1 => ?_)
  · refine x_return rfl rfl ?_
    exact ⟨rfl, f, p, t_cnt_b hw9 (by show ¬ (_ ∧ (40 : Int) ≤ it); omega), fun z => ⟨z, by show it < (40 : Int); omega⟩, ⟨k_C_r (rF_pi (by decide) rF_rf) hr.1, ⟨hr.2.1.1, hr.2.1.2.1, hr.2.1.2.2⟩, rfl⟩, ⟨ht.1, ht.2.1, ht.2.2.1, ht.2.2.2⟩, (rF_pi (by decide) rF_rf)⟩
  · refine g_aload_n rfl rfl ?_
    refine g_iconst rfl ⟨by decide, by decide⟩ ?_
    refine g_aload_n rfl rfl ?_
    refine x_geti (v := (t_s T len i)) rfl rfl (by decide) (Or.inl rfl) ht.2.2.1 ?_
    refine g_iV (as := [tI 3, tI (t_s T len i)]) mX5_note_ok rfl rfl rfl rfl rfl rfl (by decide) rfl rfl rfl ?_
    refine g_aload_n rfl rfl ?_
    refine x_geti (v := f) rfl rfl (by decide) (Or.inl rfl) hr.2.1.1 ?_
    refine g_if_ne (tgt := 17) rfl (by decide) (fun h2 => ?_) (fun h2 => ?_)
    · refine x_return rfl rfl ?_
      intro _
      refine x_return rfl rfl ?_
      exact ⟨rfl, f, p, t_cnt_b hw9 (by show ¬ (_ ∧ (40 : Int) ≤ it); omega), fun z => ⟨z, by show it < (40 : Int); omega⟩, ⟨k_C_r (rF_pi (by decide) rF_rf) hr.1, ⟨hr.2.1.1, hr.2.1.2.1, hr.2.1.2.2⟩, rfl⟩, ⟨ht.1, ht.2.1, ht.2.2.1, ht.2.2.2⟩, (rF_pi (by decide) rF_rf)⟩
    · refine g_aload_n rfl rfl ?_
      refine g_iload_n rfl rfl ?_
      refine g_puti rfl rfl (by decide) rfl rfl ?_
      refine g_aload_n rfl rfl ?_
      refine g_iload_n rfl rfl ?_
      refine g_puti rfl rfl (by decide) rfl rfl ?_
      refine x_return rfl rfl ?_
      intro _
      refine x_return rfl rfl ?_
      exact ⟨rfl, 3, t_s T len i, t_cnt_a hw9 (by show _ ∧ (40 : Int) ≤ it; omega), fun z => absurd z (by decide), ⟨k_C_r (rF_pi (by decide) (rF_pi (by decide) (rF_pi (by decide) rF_rf))) hr.1, ⟨rfl, fun z => absurd z (by decide), fun _ => rfl⟩, rfl⟩, ⟨ht.1, ht.2.1, ht.2.2.1, ht.2.2.2⟩, (rF_pi (by decide) (rF_pi (by decide) (rF_pi (by decide) rF_rf)))⟩
set_option maxHeartbeats 4000000 in
set_option maxRecDepth 100000 in
theorem s_cI0b {G : tp_G} {μ : tp_M} (hG : tp_Gf G = true) {T : Int → Int} {len f p it m ft i w : Int} {D : Int → Int} (hr : rs T len f p it μ) (ht : tk9 T len i μ) (hit : 0 ≤ it ∧ it ≤ 600) (hw : 16 ≤ w ∧ w ≤ 20) : tp_k G mX5_countItem [tR (some 41), tI 0, tI w] μ (fun r μ' => r = none ∧ ∃ f1 p1, t_cnt 0 w (t_s T len i) (f, p, it, m, ft, D) = (f1, p1, it + 1, m, ft, D) ∧ (f1 = 0 → f = 0 ∧ it < t_mx 0) ∧ rs T len f1 p1 (it + 1) μ' ∧ tk9 T len i μ' ∧ rF μ μ') := by
  refine tp_ok_of mX5_countItem_ok rfl (Nat.le_refl _) ?_
  have hw9 : ¬ (7 ≤ w ∧ w < 16) := by omega
  have hf8 := hr.2.1.1
  refine g_iload_n rfl rfl ?_
  refine g_bipush rfl ⟨by decide, by decide⟩ (by decide) ?_
  refine g_icmp_lt (tgt := 13) rfl (by decide) (fun hx => absurd hx (by omega)) (fun _ => ?_)
  refine g_iload_n rfl rfl ?_
  refine g_bipush rfl ⟨by decide, by decide⟩ (by decide) ?_
  refine g_icmp_ge (tgt := 13) rfl (by decide) (fun _ => ?_) (fun hx => absurd hx (by omega))
  refine g_aload_n rfl rfl ?_
  refine g_dupr rfl ?_
  refine x_geti (v := it) rfl rfl (by decide) (Or.inl rfl) hr.2.2 ?_
  refine g_iconst rfl ⟨by decide, by decide⟩ ?_
  refine x_iadd (z := it + 1) rfl (by omega) ⟨by omega, by omega⟩ ?_
  refine g_puti rfl rfl (by decide) rfl rfl ?_
  refine g_aload_n rfl rfl ?_
  refine x_geti (v := it + 1) rfl rfl (by decide) (Or.inl rfl) rfl ?_
  refine g_gets rfl ?_
  refine g_iload_n rfl rfl ?_
  refine x_sald (i0 := 7) (v := 40) rfl (by decide) (by decide) (by show _ < ((4 : Nat) : Int); decide) rfl ?_
  refine g_icmp_le (tgt := 44) rfl (by decide) (fun h1 => ?_) (fun h1 => ?_)
  · refine x_return rfl rfl ?_
    exact ⟨rfl, f, p, t_cnt_b hw9 (by show ¬ (_ ∧ (40 : Int) ≤ it); omega), fun z => ⟨z, by show it < (40 : Int); omega⟩, ⟨k_C_r (rF_pi (by decide) rF_rf) hr.1, ⟨hr.2.1.1, hr.2.1.2.1, hr.2.1.2.2⟩, rfl⟩, ⟨ht.1, ht.2.1, ht.2.2.1, ht.2.2.2⟩, (rF_pi (by decide) rF_rf)⟩
  · refine g_aload_n rfl rfl ?_
    refine g_iconst rfl ⟨by decide, by decide⟩ ?_
    refine g_aload_n rfl rfl ?_
    refine x_geti (v := (t_s T len i)) rfl rfl (by decide) (Or.inl rfl) ht.2.2.1 ?_
    refine g_iV (as := [tI 3, tI (t_s T len i)]) mX5_note_ok rfl rfl rfl rfl rfl rfl (by decide) rfl rfl rfl ?_
    refine g_aload_n rfl rfl ?_
    refine x_geti (v := f) rfl rfl (by decide) (Or.inl rfl) hr.2.1.1 ?_
    refine g_if_ne (tgt := 17) rfl (by decide) (fun h2 => ?_) (fun h2 => ?_)
    · refine x_return rfl rfl ?_
      intro _
      refine x_return rfl rfl ?_
      exact ⟨rfl, f, p, t_cnt_b hw9 (by show ¬ (_ ∧ (40 : Int) ≤ it); omega), fun z => ⟨z, by show it < (40 : Int); omega⟩, ⟨k_C_r (rF_pi (by decide) rF_rf) hr.1, ⟨hr.2.1.1, hr.2.1.2.1, hr.2.1.2.2⟩, rfl⟩, ⟨ht.1, ht.2.1, ht.2.2.1, ht.2.2.2⟩, (rF_pi (by decide) rF_rf)⟩
    · refine g_aload_n rfl rfl ?_
      refine g_iload_n rfl rfl ?_
      refine g_puti rfl rfl (by decide) rfl rfl ?_
      refine g_aload_n rfl rfl ?_
      refine g_iload_n rfl rfl ?_
      refine g_puti rfl rfl (by decide) rfl rfl ?_
      refine x_return rfl rfl ?_
      intro _
      refine x_return rfl rfl ?_
      exact ⟨rfl, 3, t_s T len i, t_cnt_a hw9 (by show _ ∧ (40 : Int) ≤ it; omega), fun z => absurd z (by decide), ⟨k_C_r (rF_pi (by decide) (rF_pi (by decide) (rF_pi (by decide) rF_rf))) hr.1, ⟨rfl, fun z => absurd z (by decide), fun _ => rfl⟩, rfl⟩, ⟨ht.1, ht.2.1, ht.2.2.1, ht.2.2.2⟩, (rF_pi (by decide) (rF_pi (by decide) (rF_pi (by decide) rF_rf)))⟩
set_option maxHeartbeats 4000000 in
set_option maxRecDepth 100000 in
theorem s_cI1a {G : tp_G} {μ : tp_M} (hG : tp_Gf G = true) {T : Int → Int} {len f p it m ft i w : Int} {D : Int → Int} (hr : rs T len f p it μ) (ht : tk9 T len i μ) (hit : 0 ≤ it ∧ it ≤ 600) (hw : 0 ≤ w ∧ w ≤ 6) : tp_k G mX5_countItem [tR (some 41), tI 1, tI w] μ (fun r μ' => r = none ∧ ∃ f1 p1, t_cnt 1 w (t_s T len i) (f, p, it, m, ft, D) = (f1, p1, it + 1, m, ft, D) ∧ (f1 = 0 → f = 0 ∧ it < t_mx 1) ∧ rs T len f1 p1 (it + 1) μ' ∧ tk9 T len i μ' ∧ rF μ μ') := by
  refine tp_ok_of mX5_countItem_ok rfl (Nat.le_refl _) ?_
  have hw9 : ¬ (7 ≤ w ∧ w < 16) := by omega
  have hf8 := hr.2.1.1
  refine g_iload_n rfl rfl ?_
  refine g_bipush rfl ⟨by decide, by decide⟩ (by decide) ?_
  refine g_icmp_lt (tgt := 13) rfl (by decide) (fun _ => ?_) (fun hx => absurd hx (by omega))
  refine g_aload_n rfl rfl ?_
  refine g_dupr rfl ?_
  refine x_geti (v := it) rfl rfl (by decide) (Or.inl rfl) hr.2.2 ?_
  refine g_iconst rfl ⟨by decide, by decide⟩ ?_
  refine x_iadd (z := it + 1) rfl (by omega) ⟨by omega, by omega⟩ ?_
  refine g_puti rfl rfl (by decide) rfl rfl ?_
  refine g_aload_n rfl rfl ?_
  refine x_geti (v := it + 1) rfl rfl (by decide) (Or.inl rfl) rfl ?_
  refine g_gets rfl ?_
  refine g_iload_n rfl rfl ?_
  refine x_sald (i0 := 7) (v := 60) rfl (by decide) (by decide) (by show _ < ((4 : Nat) : Int); decide) rfl ?_
  refine g_icmp_le (tgt := 44) rfl (by decide) (fun h1 => ?_) (fun h1 => ?_)
  · refine x_return rfl rfl ?_
    exact ⟨rfl, f, p, t_cnt_b hw9 (by show ¬ (_ ∧ (60 : Int) ≤ it); omega), fun z => ⟨z, by show it < (60 : Int); omega⟩, ⟨k_C_r (rF_pi (by decide) rF_rf) hr.1, ⟨hr.2.1.1, hr.2.1.2.1, hr.2.1.2.2⟩, rfl⟩, ⟨ht.1, ht.2.1, ht.2.2.1, ht.2.2.2⟩, (rF_pi (by decide) rF_rf)⟩
  · refine g_aload_n rfl rfl ?_
    refine g_iconst rfl ⟨by decide, by decide⟩ ?_
    refine g_aload_n rfl rfl ?_
    refine x_geti (v := (t_s T len i)) rfl rfl (by decide) (Or.inl rfl) ht.2.2.1 ?_
    refine g_iV (as := [tI 3, tI (t_s T len i)]) mX5_note_ok rfl rfl rfl rfl rfl rfl (by decide) rfl rfl rfl ?_
    refine g_aload_n rfl rfl ?_
    refine x_geti (v := f) rfl rfl (by decide) (Or.inl rfl) hr.2.1.1 ?_
    refine g_if_ne (tgt := 17) rfl (by decide) (fun h2 => ?_) (fun h2 => ?_)
    · refine x_return rfl rfl ?_
      intro _
      refine x_return rfl rfl ?_
      exact ⟨rfl, f, p, t_cnt_b hw9 (by show ¬ (_ ∧ (60 : Int) ≤ it); omega), fun z => ⟨z, by show it < (60 : Int); omega⟩, ⟨k_C_r (rF_pi (by decide) rF_rf) hr.1, ⟨hr.2.1.1, hr.2.1.2.1, hr.2.1.2.2⟩, rfl⟩, ⟨ht.1, ht.2.1, ht.2.2.1, ht.2.2.2⟩, (rF_pi (by decide) rF_rf)⟩
    · refine g_aload_n rfl rfl ?_
      refine g_iload_n rfl rfl ?_
      refine g_puti rfl rfl (by decide) rfl rfl ?_
      refine g_aload_n rfl rfl ?_
      refine g_iload_n rfl rfl ?_
      refine g_puti rfl rfl (by decide) rfl rfl ?_
      refine x_return rfl rfl ?_
      intro _
      refine x_return rfl rfl ?_
      exact ⟨rfl, 3, t_s T len i, t_cnt_a hw9 (by show _ ∧ (60 : Int) ≤ it; omega), fun z => absurd z (by decide), ⟨k_C_r (rF_pi (by decide) (rF_pi (by decide) (rF_pi (by decide) rF_rf))) hr.1, ⟨rfl, fun z => absurd z (by decide), fun _ => rfl⟩, rfl⟩, ⟨ht.1, ht.2.1, ht.2.2.1, ht.2.2.2⟩, (rF_pi (by decide) (rF_pi (by decide) (rF_pi (by decide) rF_rf)))⟩
set_option maxHeartbeats 4000000 in
set_option maxRecDepth 100000 in
theorem s_cI1b {G : tp_G} {μ : tp_M} (hG : tp_Gf G = true) {T : Int → Int} {len f p it m ft i w : Int} {D : Int → Int} (hr : rs T len f p it μ) (ht : tk9 T len i μ) (hit : 0 ≤ it ∧ it ≤ 600) (hw : 16 ≤ w ∧ w ≤ 20) : tp_k G mX5_countItem [tR (some 41), tI 1, tI w] μ (fun r μ' => r = none ∧ ∃ f1 p1, t_cnt 1 w (t_s T len i) (f, p, it, m, ft, D) = (f1, p1, it + 1, m, ft, D) ∧ (f1 = 0 → f = 0 ∧ it < t_mx 1) ∧ rs T len f1 p1 (it + 1) μ' ∧ tk9 T len i μ' ∧ rF μ μ') := by
  refine tp_ok_of mX5_countItem_ok rfl (Nat.le_refl _) ?_
  have hw9 : ¬ (7 ≤ w ∧ w < 16) := by omega
  have hf8 := hr.2.1.1
  refine g_iload_n rfl rfl ?_
  refine g_bipush rfl ⟨by decide, by decide⟩ (by decide) ?_
  refine g_icmp_lt (tgt := 13) rfl (by decide) (fun hx => absurd hx (by omega)) (fun _ => ?_)
  refine g_iload_n rfl rfl ?_
  refine g_bipush rfl ⟨by decide, by decide⟩ (by decide) ?_
  refine g_icmp_ge (tgt := 13) rfl (by decide) (fun _ => ?_) (fun hx => absurd hx (by omega))
  refine g_aload_n rfl rfl ?_
  refine g_dupr rfl ?_
  refine x_geti (v := it) rfl rfl (by decide) (Or.inl rfl) hr.2.2 ?_
  refine g_iconst rfl ⟨by decide, by decide⟩ ?_
  refine x_iadd (z := it + 1) rfl (by omega) ⟨by omega, by omega⟩ ?_
  refine g_puti rfl rfl (by decide) rfl rfl ?_
  refine g_aload_n rfl rfl ?_
  refine x_geti (v := it + 1) rfl rfl (by decide) (Or.inl rfl) rfl ?_
  refine g_gets rfl ?_
  refine g_iload_n rfl rfl ?_
  refine x_sald (i0 := 7) (v := 60) rfl (by decide) (by decide) (by show _ < ((4 : Nat) : Int); decide) rfl ?_
  refine g_icmp_le (tgt := 44) rfl (by decide) (fun h1 => ?_) (fun h1 => ?_)
  · refine x_return rfl rfl ?_
    exact ⟨rfl, f, p, t_cnt_b hw9 (by show ¬ (_ ∧ (60 : Int) ≤ it); omega), fun z => ⟨z, by show it < (60 : Int); omega⟩, ⟨k_C_r (rF_pi (by decide) rF_rf) hr.1, ⟨hr.2.1.1, hr.2.1.2.1, hr.2.1.2.2⟩, rfl⟩, ⟨ht.1, ht.2.1, ht.2.2.1, ht.2.2.2⟩, (rF_pi (by decide) rF_rf)⟩
  · refine g_aload_n rfl rfl ?_
    refine g_iconst rfl ⟨by decide, by decide⟩ ?_
    refine g_aload_n rfl rfl ?_
    refine x_geti (v := (t_s T len i)) rfl rfl (by decide) (Or.inl rfl) ht.2.2.1 ?_
    refine g_iV (as := [tI 3, tI (t_s T len i)]) mX5_note_ok rfl rfl rfl rfl rfl rfl (by decide) rfl rfl rfl ?_
    refine g_aload_n rfl rfl ?_
    refine x_geti (v := f) rfl rfl (by decide) (Or.inl rfl) hr.2.1.1 ?_
    refine g_if_ne (tgt := 17) rfl (by decide) (fun h2 => ?_) (fun h2 => ?_)
    · refine x_return rfl rfl ?_
      intro _
      refine x_return rfl rfl ?_
      exact ⟨rfl, f, p, t_cnt_b hw9 (by show ¬ (_ ∧ (60 : Int) ≤ it); omega), fun z => ⟨z, by show it < (60 : Int); omega⟩, ⟨k_C_r (rF_pi (by decide) rF_rf) hr.1, ⟨hr.2.1.1, hr.2.1.2.1, hr.2.1.2.2⟩, rfl⟩, ⟨ht.1, ht.2.1, ht.2.2.1, ht.2.2.2⟩, (rF_pi (by decide) rF_rf)⟩
    · refine g_aload_n rfl rfl ?_
      refine g_iload_n rfl rfl ?_
      refine g_puti rfl rfl (by decide) rfl rfl ?_
      refine g_aload_n rfl rfl ?_
      refine g_iload_n rfl rfl ?_
      refine g_puti rfl rfl (by decide) rfl rfl ?_
      refine x_return rfl rfl ?_
      intro _
      refine x_return rfl rfl ?_
      exact ⟨rfl, 3, t_s T len i, t_cnt_a hw9 (by show _ ∧ (60 : Int) ≤ it; omega), fun z => absurd z (by decide), ⟨k_C_r (rF_pi (by decide) (rF_pi (by decide) (rF_pi (by decide) rF_rf))) hr.1, ⟨rfl, fun z => absurd z (by decide), fun _ => rfl⟩, rfl⟩, ⟨ht.1, ht.2.1, ht.2.2.1, ht.2.2.2⟩, (rF_pi (by decide) (rF_pi (by decide) (rF_pi (by decide) rF_rf)))⟩
set_option maxHeartbeats 4000000 in
set_option maxRecDepth 100000 in
theorem s_cI2a {G : tp_G} {μ : tp_M} (hG : tp_Gf G = true) {T : Int → Int} {len f p it m ft i w : Int} {D : Int → Int} (hr : rs T len f p it μ) (ht : tk9 T len i μ) (hit : 0 ≤ it ∧ it ≤ 600) (hw : 0 ≤ w ∧ w ≤ 6) : tp_k G mX5_countItem [tR (some 41), tI 2, tI w] μ (fun r μ' => r = none ∧ ∃ f1 p1, t_cnt 2 w (t_s T len i) (f, p, it, m, ft, D) = (f1, p1, it + 1, m, ft, D) ∧ (f1 = 0 → f = 0 ∧ it < t_mx 2) ∧ rs T len f1 p1 (it + 1) μ' ∧ tk9 T len i μ' ∧ rF μ μ') := by
  refine tp_ok_of mX5_countItem_ok rfl (Nat.le_refl _) ?_
  have hw9 : ¬ (7 ≤ w ∧ w < 16) := by omega
  have hf8 := hr.2.1.1
  refine g_iload_n rfl rfl ?_
  refine g_bipush rfl ⟨by decide, by decide⟩ (by decide) ?_
  refine g_icmp_lt (tgt := 13) rfl (by decide) (fun _ => ?_) (fun hx => absurd hx (by omega))
  refine g_aload_n rfl rfl ?_
  refine g_dupr rfl ?_
  refine x_geti (v := it) rfl rfl (by decide) (Or.inl rfl) hr.2.2 ?_
  refine g_iconst rfl ⟨by decide, by decide⟩ ?_
  refine x_iadd (z := it + 1) rfl (by omega) ⟨by omega, by omega⟩ ?_
  refine g_puti rfl rfl (by decide) rfl rfl ?_
  refine g_aload_n rfl rfl ?_
  refine x_geti (v := it + 1) rfl rfl (by decide) (Or.inl rfl) rfl ?_
  refine g_gets rfl ?_
  refine g_iload_n rfl rfl ?_
  refine x_sald (i0 := 7) (v := 12) rfl (by decide) (by decide) (by show _ < ((4 : Nat) : Int); decide) rfl ?_
  refine g_icmp_le (tgt := 44) rfl (by decide) (fun h1 => ?_) (fun h1 => ?_)
  · refine x_return rfl rfl ?_
    exact ⟨rfl, f, p, t_cnt_b hw9 (by show ¬ (_ ∧ (12 : Int) ≤ it); omega), fun z => ⟨z, by show it < (12 : Int); omega⟩, ⟨k_C_r (rF_pi (by decide) rF_rf) hr.1, ⟨hr.2.1.1, hr.2.1.2.1, hr.2.1.2.2⟩, rfl⟩, ⟨ht.1, ht.2.1, ht.2.2.1, ht.2.2.2⟩, (rF_pi (by decide) rF_rf)⟩
  · refine g_aload_n rfl rfl ?_
    refine g_iconst rfl ⟨by decide, by decide⟩ ?_
    refine g_aload_n rfl rfl ?_
    refine x_geti (v := (t_s T len i)) rfl rfl (by decide) (Or.inl rfl) ht.2.2.1 ?_
    refine g_iV (as := [tI 3, tI (t_s T len i)]) mX5_note_ok rfl rfl rfl rfl rfl rfl (by decide) rfl rfl rfl ?_
    refine g_aload_n rfl rfl ?_
    refine x_geti (v := f) rfl rfl (by decide) (Or.inl rfl) hr.2.1.1 ?_
    refine g_if_ne (tgt := 17) rfl (by decide) (fun h2 => ?_) (fun h2 => ?_)
    · refine x_return rfl rfl ?_
      intro _
      refine x_return rfl rfl ?_
      exact ⟨rfl, f, p, t_cnt_b hw9 (by show ¬ (_ ∧ (12 : Int) ≤ it); omega), fun z => ⟨z, by show it < (12 : Int); omega⟩, ⟨k_C_r (rF_pi (by decide) rF_rf) hr.1, ⟨hr.2.1.1, hr.2.1.2.1, hr.2.1.2.2⟩, rfl⟩, ⟨ht.1, ht.2.1, ht.2.2.1, ht.2.2.2⟩, (rF_pi (by decide) rF_rf)⟩
    · refine g_aload_n rfl rfl ?_
      refine g_iload_n rfl rfl ?_
      refine g_puti rfl rfl (by decide) rfl rfl ?_
      refine g_aload_n rfl rfl ?_
      refine g_iload_n rfl rfl ?_
      refine g_puti rfl rfl (by decide) rfl rfl ?_
      refine x_return rfl rfl ?_
      intro _
      refine x_return rfl rfl ?_
      exact ⟨rfl, 3, t_s T len i, t_cnt_a hw9 (by show _ ∧ (12 : Int) ≤ it; omega), fun z => absurd z (by decide), ⟨k_C_r (rF_pi (by decide) (rF_pi (by decide) (rF_pi (by decide) rF_rf))) hr.1, ⟨rfl, fun z => absurd z (by decide), fun _ => rfl⟩, rfl⟩, ⟨ht.1, ht.2.1, ht.2.2.1, ht.2.2.2⟩, (rF_pi (by decide) (rF_pi (by decide) (rF_pi (by decide) rF_rf)))⟩
set_option maxHeartbeats 4000000 in
set_option maxRecDepth 100000 in
theorem s_cI2b {G : tp_G} {μ : tp_M} (hG : tp_Gf G = true) {T : Int → Int} {len f p it m ft i w : Int} {D : Int → Int} (hr : rs T len f p it μ) (ht : tk9 T len i μ) (hit : 0 ≤ it ∧ it ≤ 600) (hw : 16 ≤ w ∧ w ≤ 20) : tp_k G mX5_countItem [tR (some 41), tI 2, tI w] μ (fun r μ' => r = none ∧ ∃ f1 p1, t_cnt 2 w (t_s T len i) (f, p, it, m, ft, D) = (f1, p1, it + 1, m, ft, D) ∧ (f1 = 0 → f = 0 ∧ it < t_mx 2) ∧ rs T len f1 p1 (it + 1) μ' ∧ tk9 T len i μ' ∧ rF μ μ') := by
  refine tp_ok_of mX5_countItem_ok rfl (Nat.le_refl _) ?_
  have hw9 : ¬ (7 ≤ w ∧ w < 16) := by omega
  have hf8 := hr.2.1.1
  refine g_iload_n rfl rfl ?_
  refine g_bipush rfl ⟨by decide, by decide⟩ (by decide) ?_
  refine g_icmp_lt (tgt := 13) rfl (by decide) (fun hx => absurd hx (by omega)) (fun _ => ?_)
  refine g_iload_n rfl rfl ?_
  refine g_bipush rfl ⟨by decide, by decide⟩ (by decide) ?_
  refine g_icmp_ge (tgt := 13) rfl (by decide) (fun _ => ?_) (fun hx => absurd hx (by omega))
  refine g_aload_n rfl rfl ?_
  refine g_dupr rfl ?_
  refine x_geti (v := it) rfl rfl (by decide) (Or.inl rfl) hr.2.2 ?_
  refine g_iconst rfl ⟨by decide, by decide⟩ ?_
  refine x_iadd (z := it + 1) rfl (by omega) ⟨by omega, by omega⟩ ?_
  refine g_puti rfl rfl (by decide) rfl rfl ?_
  refine g_aload_n rfl rfl ?_
  refine x_geti (v := it + 1) rfl rfl (by decide) (Or.inl rfl) rfl ?_
  refine g_gets rfl ?_
  refine g_iload_n rfl rfl ?_
  refine x_sald (i0 := 7) (v := 12) rfl (by decide) (by decide) (by show _ < ((4 : Nat) : Int); decide) rfl ?_
  refine g_icmp_le (tgt := 44) rfl (by decide) (fun h1 => ?_) (fun h1 => ?_)
  · refine x_return rfl rfl ?_
    exact ⟨rfl, f, p, t_cnt_b hw9 (by show ¬ (_ ∧ (12 : Int) ≤ it); omega), fun z => ⟨z, by show it < (12 : Int); omega⟩, ⟨k_C_r (rF_pi (by decide) rF_rf) hr.1, ⟨hr.2.1.1, hr.2.1.2.1, hr.2.1.2.2⟩, rfl⟩, ⟨ht.1, ht.2.1, ht.2.2.1, ht.2.2.2⟩, (rF_pi (by decide) rF_rf)⟩
  · refine g_aload_n rfl rfl ?_
    refine g_iconst rfl ⟨by decide, by decide⟩ ?_
    refine g_aload_n rfl rfl ?_
    refine x_geti (v := (t_s T len i)) rfl rfl (by decide) (Or.inl rfl) ht.2.2.1 ?_
    refine g_iV (as := [tI 3, tI (t_s T len i)]) mX5_note_ok rfl rfl rfl rfl rfl rfl (by decide) rfl rfl rfl ?_
    refine g_aload_n rfl rfl ?_
    refine x_geti (v := f) rfl rfl (by decide) (Or.inl rfl) hr.2.1.1 ?_
    refine g_if_ne (tgt := 17) rfl (by decide) (fun h2 => ?_) (fun h2 => ?_)
    · refine x_return rfl rfl ?_
      intro _
      refine x_return rfl rfl ?_
      exact ⟨rfl, f, p, t_cnt_b hw9 (by show ¬ (_ ∧ (12 : Int) ≤ it); omega), fun z => ⟨z, by show it < (12 : Int); omega⟩, ⟨k_C_r (rF_pi (by decide) rF_rf) hr.1, ⟨hr.2.1.1, hr.2.1.2.1, hr.2.1.2.2⟩, rfl⟩, ⟨ht.1, ht.2.1, ht.2.2.1, ht.2.2.2⟩, (rF_pi (by decide) rF_rf)⟩
    · refine g_aload_n rfl rfl ?_
      refine g_iload_n rfl rfl ?_
      refine g_puti rfl rfl (by decide) rfl rfl ?_
      refine g_aload_n rfl rfl ?_
      refine g_iload_n rfl rfl ?_
      refine g_puti rfl rfl (by decide) rfl rfl ?_
      refine x_return rfl rfl ?_
      intro _
      refine x_return rfl rfl ?_
      exact ⟨rfl, 3, t_s T len i, t_cnt_a hw9 (by show _ ∧ (12 : Int) ≤ it; omega), fun z => absurd z (by decide), ⟨k_C_r (rF_pi (by decide) (rF_pi (by decide) (rF_pi (by decide) rF_rf))) hr.1, ⟨rfl, fun z => absurd z (by decide), fun _ => rfl⟩, rfl⟩, ⟨ht.1, ht.2.1, ht.2.2.1, ht.2.2.2⟩, (rF_pi (by decide) (rF_pi (by decide) (rF_pi (by decide) rF_rf)))⟩
set_option maxHeartbeats 4000000 in
set_option maxRecDepth 100000 in
theorem s_cI3a {G : tp_G} {μ : tp_M} (hG : tp_Gf G = true) {T : Int → Int} {len f p it m ft i w : Int} {D : Int → Int} (hr : rs T len f p it μ) (ht : tk9 T len i μ) (hit : 0 ≤ it ∧ it ≤ 600) (hw : 0 ≤ w ∧ w ≤ 6) : tp_k G mX5_countItem [tR (some 41), tI 3, tI w] μ (fun r μ' => r = none ∧ ∃ f1 p1, t_cnt 3 w (t_s T len i) (f, p, it, m, ft, D) = (f1, p1, it + 1, m, ft, D) ∧ (f1 = 0 → f = 0 ∧ it < t_mx 3) ∧ rs T len f1 p1 (it + 1) μ' ∧ tk9 T len i μ' ∧ rF μ μ') := by
  refine tp_ok_of mX5_countItem_ok rfl (Nat.le_refl _) ?_
  have hw9 : ¬ (7 ≤ w ∧ w < 16) := by omega
  have hf8 := hr.2.1.1
  refine g_iload_n rfl rfl ?_
  refine g_bipush rfl ⟨by decide, by decide⟩ (by decide) ?_
  refine g_icmp_lt (tgt := 13) rfl (by decide) (fun _ => ?_) (fun hx => absurd hx (by omega))
  refine g_aload_n rfl rfl ?_
  refine g_dupr rfl ?_
  refine x_geti (v := it) rfl rfl (by decide) (Or.inl rfl) hr.2.2 ?_
  refine g_iconst rfl ⟨by decide, by decide⟩ ?_
  refine x_iadd (z := it + 1) rfl (by omega) ⟨by omega, by omega⟩ ?_
  refine g_puti rfl rfl (by decide) rfl rfl ?_
  refine g_aload_n rfl rfl ?_
  refine x_geti (v := it + 1) rfl rfl (by decide) (Or.inl rfl) rfl ?_
  refine g_gets rfl ?_
  refine g_iload_n rfl rfl ?_
  refine x_sald (i0 := 7) (v := 8) rfl (by decide) (by decide) (by show _ < ((4 : Nat) : Int); decide) rfl ?_
  refine g_icmp_le (tgt := 44) rfl (by decide) (fun h1 => ?_) (fun h1 => ?_)
  · refine x_return rfl rfl ?_
    exact ⟨rfl, f, p, t_cnt_b hw9 (by show ¬ (_ ∧ (8 : Int) ≤ it); omega), fun z => ⟨z, by show it < (8 : Int); omega⟩, ⟨k_C_r (rF_pi (by decide) rF_rf) hr.1, ⟨hr.2.1.1, hr.2.1.2.1, hr.2.1.2.2⟩, rfl⟩, ⟨ht.1, ht.2.1, ht.2.2.1, ht.2.2.2⟩, (rF_pi (by decide) rF_rf)⟩
  · refine g_aload_n rfl rfl ?_
    refine g_iconst rfl ⟨by decide, by decide⟩ ?_
    refine g_aload_n rfl rfl ?_
    refine x_geti (v := (t_s T len i)) rfl rfl (by decide) (Or.inl rfl) ht.2.2.1 ?_
    refine g_iV (as := [tI 3, tI (t_s T len i)]) mX5_note_ok rfl rfl rfl rfl rfl rfl (by decide) rfl rfl rfl ?_
    refine g_aload_n rfl rfl ?_
    refine x_geti (v := f) rfl rfl (by decide) (Or.inl rfl) hr.2.1.1 ?_
    refine g_if_ne (tgt := 17) rfl (by decide) (fun h2 => ?_) (fun h2 => ?_)
    · refine x_return rfl rfl ?_
      intro _
      refine x_return rfl rfl ?_
      exact ⟨rfl, f, p, t_cnt_b hw9 (by show ¬ (_ ∧ (8 : Int) ≤ it); omega), fun z => ⟨z, by show it < (8 : Int); omega⟩, ⟨k_C_r (rF_pi (by decide) rF_rf) hr.1, ⟨hr.2.1.1, hr.2.1.2.1, hr.2.1.2.2⟩, rfl⟩, ⟨ht.1, ht.2.1, ht.2.2.1, ht.2.2.2⟩, (rF_pi (by decide) rF_rf)⟩
    · refine g_aload_n rfl rfl ?_
      refine g_iload_n rfl rfl ?_
      refine g_puti rfl rfl (by decide) rfl rfl ?_
      refine g_aload_n rfl rfl ?_
      refine g_iload_n rfl rfl ?_
      refine g_puti rfl rfl (by decide) rfl rfl ?_
      refine x_return rfl rfl ?_
      intro _
      refine x_return rfl rfl ?_
      exact ⟨rfl, 3, t_s T len i, t_cnt_a hw9 (by show _ ∧ (8 : Int) ≤ it; omega), fun z => absurd z (by decide), ⟨k_C_r (rF_pi (by decide) (rF_pi (by decide) (rF_pi (by decide) rF_rf))) hr.1, ⟨rfl, fun z => absurd z (by decide), fun _ => rfl⟩, rfl⟩, ⟨ht.1, ht.2.1, ht.2.2.1, ht.2.2.2⟩, (rF_pi (by decide) (rF_pi (by decide) (rF_pi (by decide) rF_rf)))⟩
set_option maxHeartbeats 4000000 in
set_option maxRecDepth 100000 in
theorem s_cI3b {G : tp_G} {μ : tp_M} (hG : tp_Gf G = true) {T : Int → Int} {len f p it m ft i w : Int} {D : Int → Int} (hr : rs T len f p it μ) (ht : tk9 T len i μ) (hit : 0 ≤ it ∧ it ≤ 600) (hw : 16 ≤ w ∧ w ≤ 20) : tp_k G mX5_countItem [tR (some 41), tI 3, tI w] μ (fun r μ' => r = none ∧ ∃ f1 p1, t_cnt 3 w (t_s T len i) (f, p, it, m, ft, D) = (f1, p1, it + 1, m, ft, D) ∧ (f1 = 0 → f = 0 ∧ it < t_mx 3) ∧ rs T len f1 p1 (it + 1) μ' ∧ tk9 T len i μ' ∧ rF μ μ') := by
  refine tp_ok_of mX5_countItem_ok rfl (Nat.le_refl _) ?_
  have hw9 : ¬ (7 ≤ w ∧ w < 16) := by omega
  have hf8 := hr.2.1.1
  refine g_iload_n rfl rfl ?_
  refine g_bipush rfl ⟨by decide, by decide⟩ (by decide) ?_
  refine g_icmp_lt (tgt := 13) rfl (by decide) (fun hx => absurd hx (by omega)) (fun _ => ?_)
  refine g_iload_n rfl rfl ?_
  refine g_bipush rfl ⟨by decide, by decide⟩ (by decide) ?_
  refine g_icmp_ge (tgt := 13) rfl (by decide) (fun _ => ?_) (fun hx => absurd hx (by omega))
  refine g_aload_n rfl rfl ?_
  refine g_dupr rfl ?_
  refine x_geti (v := it) rfl rfl (by decide) (Or.inl rfl) hr.2.2 ?_
  refine g_iconst rfl ⟨by decide, by decide⟩ ?_
  refine x_iadd (z := it + 1) rfl (by omega) ⟨by omega, by omega⟩ ?_
  refine g_puti rfl rfl (by decide) rfl rfl ?_
  refine g_aload_n rfl rfl ?_
  refine x_geti (v := it + 1) rfl rfl (by decide) (Or.inl rfl) rfl ?_
  refine g_gets rfl ?_
  refine g_iload_n rfl rfl ?_
  refine x_sald (i0 := 7) (v := 8) rfl (by decide) (by decide) (by show _ < ((4 : Nat) : Int); decide) rfl ?_
  refine g_icmp_le (tgt := 44) rfl (by decide) (fun h1 => ?_) (fun h1 => ?_)
  · refine x_return rfl rfl ?_
    exact ⟨rfl, f, p, t_cnt_b hw9 (by show ¬ (_ ∧ (8 : Int) ≤ it); omega), fun z => ⟨z, by show it < (8 : Int); omega⟩, ⟨k_C_r (rF_pi (by decide) rF_rf) hr.1, ⟨hr.2.1.1, hr.2.1.2.1, hr.2.1.2.2⟩, rfl⟩, ⟨ht.1, ht.2.1, ht.2.2.1, ht.2.2.2⟩, (rF_pi (by decide) rF_rf)⟩
  · refine g_aload_n rfl rfl ?_
    refine g_iconst rfl ⟨by decide, by decide⟩ ?_
    refine g_aload_n rfl rfl ?_
    refine x_geti (v := (t_s T len i)) rfl rfl (by decide) (Or.inl rfl) ht.2.2.1 ?_
    refine g_iV (as := [tI 3, tI (t_s T len i)]) mX5_note_ok rfl rfl rfl rfl rfl rfl (by decide) rfl rfl rfl ?_
    refine g_aload_n rfl rfl ?_
    refine x_geti (v := f) rfl rfl (by decide) (Or.inl rfl) hr.2.1.1 ?_
    refine g_if_ne (tgt := 17) rfl (by decide) (fun h2 => ?_) (fun h2 => ?_)
    · refine x_return rfl rfl ?_
      intro _
      refine x_return rfl rfl ?_
      exact ⟨rfl, f, p, t_cnt_b hw9 (by show ¬ (_ ∧ (8 : Int) ≤ it); omega), fun z => ⟨z, by show it < (8 : Int); omega⟩, ⟨k_C_r (rF_pi (by decide) rF_rf) hr.1, ⟨hr.2.1.1, hr.2.1.2.1, hr.2.1.2.2⟩, rfl⟩, ⟨ht.1, ht.2.1, ht.2.2.1, ht.2.2.2⟩, (rF_pi (by decide) rF_rf)⟩
    · refine g_aload_n rfl rfl ?_
      refine g_iload_n rfl rfl ?_
      refine g_puti rfl rfl (by decide) rfl rfl ?_
      refine g_aload_n rfl rfl ?_
      refine g_iload_n rfl rfl ?_
      refine g_puti rfl rfl (by decide) rfl rfl ?_
      refine x_return rfl rfl ?_
      intro _
      refine x_return rfl rfl ?_
      exact ⟨rfl, 3, t_s T len i, t_cnt_a hw9 (by show _ ∧ (8 : Int) ≤ it; omega), fun z => absurd z (by decide), ⟨k_C_r (rF_pi (by decide) (rF_pi (by decide) (rF_pi (by decide) rF_rf))) hr.1, ⟨rfl, fun z => absurd z (by decide), fun _ => rfl⟩, rfl⟩, ⟨ht.1, ht.2.1, ht.2.2.1, ht.2.2.2⟩, (rF_pi (by decide) (rF_pi (by decide) (rF_pi (by decide) rF_rf)))⟩
set_option maxHeartbeats 4000000 in
set_option maxRecDepth 100000 in
theorem s_cN1 {G : tp_G} {μ : tp_M} (hG : tp_Gf G = true) {T : Int → Int} {len f p it i : Int} {R : Int × Int × (Int → Int)} (hr : rs T len f p it μ) (ht : tk9 T len i μ) (hk : t_k T len i = 2) : tp_k G mX5_checkNumber [tR (some 41), tI 1] μ (fun r μ' => r = none ∧ ∃ f2 p2, t_chk 1 (t_v T len i) (t_s T len i) (f, p, it, R) = (f2, p2, it, R) ∧ (f2 = 0 → f = 0 ∧ t_lo 1 ≤ t_v T len i ∧ t_v T len i ≤ t_hi 1) ∧ rs T len f2 p2 it μ' ∧ tk9 T len i μ' ∧ rF μ μ') := by
  refine tp_ok_of mX5_checkNumber_ok rfl (Nat.le_refl _) ?_
  have hf8 := hr.2.1.1
  refine g_aload_n rfl rfl ?_
  refine x_geti (v := (t_v T len i)) rfl rfl (by decide) (Or.inl rfl) (ht.2.2.2 hk) ?_
  refine g_gets rfl ?_
  refine g_iload_n rfl rfl ?_
  refine x_sald (i0 := 5) (v := 0) rfl (by decide) (by decide) (by show _ < ((21 : Nat) : Int); decide) rfl ?_
  refine g_icmp_lt (tgt := 24) rfl (by decide) (fun h1 => ?_) (fun h1 => ?_)
  · refine g_aload_n rfl rfl ?_
    refine g_iconst rfl ⟨by decide, by decide⟩ ?_
    refine g_aload_n rfl rfl ?_
    refine x_geti (v := (t_s T len i)) rfl rfl (by decide) (Or.inl rfl) ht.2.2.1 ?_
    refine g_iV (as := [tI 2, tI (t_s T len i)]) mX5_note_ok rfl rfl rfl rfl rfl rfl (by decide) rfl rfl rfl ?_
    refine g_aload_n rfl rfl ?_
    refine x_geti (v := f) rfl rfl (by decide) (Or.inl rfl) hr.2.1.1 ?_
    refine g_if_ne (tgt := 17) rfl (by decide) (fun h2 => ?_) (fun h2 => ?_)
    · refine x_return rfl rfl ?_
      intro _
      refine x_return rfl rfl ?_
      exact ⟨rfl, f, p, t_chk_b (by show ¬ ((_ < (0 : Int) ∨ (39 : Int) < _) ∧ _); omega), fun z => ⟨z, by show (0 : Int) ≤ _ ∧ _ ≤ (39 : Int); omega⟩, ⟨k_C_r rF_rf hr.1, ⟨hr.2.1.1, hr.2.1.2.1, hr.2.1.2.2⟩, hr.2.2⟩, ⟨ht.1, ht.2.1, ht.2.2.1, ht.2.2.2⟩, rF_rf⟩
    · refine g_aload_n rfl rfl ?_
      refine g_iload_n rfl rfl ?_
      refine g_puti rfl rfl (by decide) rfl rfl ?_
      refine g_aload_n rfl rfl ?_
      refine g_iload_n rfl rfl ?_
      refine g_puti rfl rfl (by decide) rfl rfl ?_
      refine x_return rfl rfl ?_
      intro _
      refine x_return rfl rfl ?_
      exact ⟨rfl, 2, t_s T len i, t_chk_a (by show (_ < (0 : Int) ∨ (39 : Int) < _) ∧ _; omega), fun z => absurd z (by decide), ⟨k_C_r (rF_pi (by decide) (rF_pi (by decide) rF_rf)) hr.1, ⟨rfl, fun z => absurd z (by decide), fun _ => rfl⟩, hr.2.2⟩, ⟨ht.1, ht.2.1, ht.2.2.1, ht.2.2.2⟩, (rF_pi (by decide) (rF_pi (by decide) rF_rf))⟩
  · refine g_aload_n rfl rfl ?_
    refine x_geti (v := (t_v T len i)) rfl rfl (by decide) (Or.inl rfl) (ht.2.2.2 hk) ?_
    refine g_gets rfl ?_
    refine g_iload_n rfl rfl ?_
    refine x_sald (i0 := 6) (v := 39) rfl (by decide) (by decide) (by show _ < ((21 : Nat) : Int); decide) rfl ?_
    refine g_icmp_le (tgt := 33) rfl (by decide) (fun h3 => ?_) (fun h3 => ?_)
    · refine x_return rfl rfl ?_
      exact ⟨rfl, f, p, t_chk_b (by show ¬ ((_ < (0 : Int) ∨ (39 : Int) < _) ∧ _); omega), fun z => ⟨z, by show (0 : Int) ≤ _ ∧ _ ≤ (39 : Int); omega⟩, ⟨k_C_r rF_rf hr.1, ⟨hr.2.1.1, hr.2.1.2.1, hr.2.1.2.2⟩, hr.2.2⟩, ⟨ht.1, ht.2.1, ht.2.2.1, ht.2.2.2⟩, rF_rf⟩
    · refine g_aload_n rfl rfl ?_
      refine g_iconst rfl ⟨by decide, by decide⟩ ?_
      refine g_aload_n rfl rfl ?_
      refine x_geti (v := (t_s T len i)) rfl rfl (by decide) (Or.inl rfl) ht.2.2.1 ?_
      refine g_iV (as := [tI 2, tI (t_s T len i)]) mX5_note_ok rfl rfl rfl rfl rfl rfl (by decide) rfl rfl rfl ?_
      refine g_aload_n rfl rfl ?_
      refine x_geti (v := f) rfl rfl (by decide) (Or.inl rfl) hr.2.1.1 ?_
      refine g_if_ne (tgt := 17) rfl (by decide) (fun h4 => ?_) (fun h4 => ?_)
      · refine x_return rfl rfl ?_
        intro _
        refine x_return rfl rfl ?_
        exact ⟨rfl, f, p, t_chk_b (by show ¬ ((_ < (0 : Int) ∨ (39 : Int) < _) ∧ _); omega), fun z => ⟨z, by show (0 : Int) ≤ _ ∧ _ ≤ (39 : Int); omega⟩, ⟨k_C_r rF_rf hr.1, ⟨hr.2.1.1, hr.2.1.2.1, hr.2.1.2.2⟩, hr.2.2⟩, ⟨ht.1, ht.2.1, ht.2.2.1, ht.2.2.2⟩, rF_rf⟩
      · refine g_aload_n rfl rfl ?_
        refine g_iload_n rfl rfl ?_
        refine g_puti rfl rfl (by decide) rfl rfl ?_
        refine g_aload_n rfl rfl ?_
        refine g_iload_n rfl rfl ?_
        refine g_puti rfl rfl (by decide) rfl rfl ?_
        refine x_return rfl rfl ?_
        intro _
        refine x_return rfl rfl ?_
        exact ⟨rfl, 2, t_s T len i, t_chk_a (by show (_ < (0 : Int) ∨ (39 : Int) < _) ∧ _; omega), fun z => absurd z (by decide), ⟨k_C_r (rF_pi (by decide) (rF_pi (by decide) rF_rf)) hr.1, ⟨rfl, fun z => absurd z (by decide), fun _ => rfl⟩, hr.2.2⟩, ⟨ht.1, ht.2.1, ht.2.2.1, ht.2.2.2⟩, (rF_pi (by decide) (rF_pi (by decide) rF_rf))⟩
set_option maxHeartbeats 4000000 in
set_option maxRecDepth 100000 in
theorem s_cN2 {G : tp_G} {μ : tp_M} (hG : tp_Gf G = true) {T : Int → Int} {len f p it i : Int} {R : Int × Int × (Int → Int)} (hr : rs T len f p it μ) (ht : tk9 T len i μ) (hk : t_k T len i = 2) : tp_k G mX5_checkNumber [tR (some 41), tI 2] μ (fun r μ' => r = none ∧ ∃ f2 p2, t_chk 2 (t_v T len i) (t_s T len i) (f, p, it, R) = (f2, p2, it, R) ∧ (f2 = 0 → f = 0 ∧ t_lo 2 ≤ t_v T len i ∧ t_v T len i ≤ t_hi 2) ∧ rs T len f2 p2 it μ' ∧ tk9 T len i μ' ∧ rF μ μ') := by
  refine tp_ok_of mX5_checkNumber_ok rfl (Nat.le_refl _) ?_
  have hf8 := hr.2.1.1
  refine g_aload_n rfl rfl ?_
  refine x_geti (v := (t_v T len i)) rfl rfl (by decide) (Or.inl rfl) (ht.2.2.2 hk) ?_
  refine g_gets rfl ?_
  refine g_iload_n rfl rfl ?_
  refine x_sald (i0 := 5) (v := 0) rfl (by decide) (by decide) (by show _ < ((21 : Nat) : Int); decide) rfl ?_
  refine g_icmp_lt (tgt := 24) rfl (by decide) (fun h1 => ?_) (fun h1 => ?_)
  · refine g_aload_n rfl rfl ?_
    refine g_iconst rfl ⟨by decide, by decide⟩ ?_
    refine g_aload_n rfl rfl ?_
    refine x_geti (v := (t_s T len i)) rfl rfl (by decide) (Or.inl rfl) ht.2.2.1 ?_
    refine g_iV (as := [tI 2, tI (t_s T len i)]) mX5_note_ok rfl rfl rfl rfl rfl rfl (by decide) rfl rfl rfl ?_
    refine g_aload_n rfl rfl ?_
    refine x_geti (v := f) rfl rfl (by decide) (Or.inl rfl) hr.2.1.1 ?_
    refine g_if_ne (tgt := 17) rfl (by decide) (fun h2 => ?_) (fun h2 => ?_)
    · refine x_return rfl rfl ?_
      intro _
      refine x_return rfl rfl ?_
      exact ⟨rfl, f, p, t_chk_b (by show ¬ ((_ < (0 : Int) ∨ (39 : Int) < _) ∧ _); omega), fun z => ⟨z, by show (0 : Int) ≤ _ ∧ _ ≤ (39 : Int); omega⟩, ⟨k_C_r rF_rf hr.1, ⟨hr.2.1.1, hr.2.1.2.1, hr.2.1.2.2⟩, hr.2.2⟩, ⟨ht.1, ht.2.1, ht.2.2.1, ht.2.2.2⟩, rF_rf⟩
    · refine g_aload_n rfl rfl ?_
      refine g_iload_n rfl rfl ?_
      refine g_puti rfl rfl (by decide) rfl rfl ?_
      refine g_aload_n rfl rfl ?_
      refine g_iload_n rfl rfl ?_
      refine g_puti rfl rfl (by decide) rfl rfl ?_
      refine x_return rfl rfl ?_
      intro _
      refine x_return rfl rfl ?_
      exact ⟨rfl, 2, t_s T len i, t_chk_a (by show (_ < (0 : Int) ∨ (39 : Int) < _) ∧ _; omega), fun z => absurd z (by decide), ⟨k_C_r (rF_pi (by decide) (rF_pi (by decide) rF_rf)) hr.1, ⟨rfl, fun z => absurd z (by decide), fun _ => rfl⟩, hr.2.2⟩, ⟨ht.1, ht.2.1, ht.2.2.1, ht.2.2.2⟩, (rF_pi (by decide) (rF_pi (by decide) rF_rf))⟩
  · refine g_aload_n rfl rfl ?_
    refine x_geti (v := (t_v T len i)) rfl rfl (by decide) (Or.inl rfl) (ht.2.2.2 hk) ?_
    refine g_gets rfl ?_
    refine g_iload_n rfl rfl ?_
    refine x_sald (i0 := 6) (v := 39) rfl (by decide) (by decide) (by show _ < ((21 : Nat) : Int); decide) rfl ?_
    refine g_icmp_le (tgt := 33) rfl (by decide) (fun h3 => ?_) (fun h3 => ?_)
    · refine x_return rfl rfl ?_
      exact ⟨rfl, f, p, t_chk_b (by show ¬ ((_ < (0 : Int) ∨ (39 : Int) < _) ∧ _); omega), fun z => ⟨z, by show (0 : Int) ≤ _ ∧ _ ≤ (39 : Int); omega⟩, ⟨k_C_r rF_rf hr.1, ⟨hr.2.1.1, hr.2.1.2.1, hr.2.1.2.2⟩, hr.2.2⟩, ⟨ht.1, ht.2.1, ht.2.2.1, ht.2.2.2⟩, rF_rf⟩
    · refine g_aload_n rfl rfl ?_
      refine g_iconst rfl ⟨by decide, by decide⟩ ?_
      refine g_aload_n rfl rfl ?_
      refine x_geti (v := (t_s T len i)) rfl rfl (by decide) (Or.inl rfl) ht.2.2.1 ?_
      refine g_iV (as := [tI 2, tI (t_s T len i)]) mX5_note_ok rfl rfl rfl rfl rfl rfl (by decide) rfl rfl rfl ?_
      refine g_aload_n rfl rfl ?_
      refine x_geti (v := f) rfl rfl (by decide) (Or.inl rfl) hr.2.1.1 ?_
      refine g_if_ne (tgt := 17) rfl (by decide) (fun h4 => ?_) (fun h4 => ?_)
      · refine x_return rfl rfl ?_
        intro _
        refine x_return rfl rfl ?_
        exact ⟨rfl, f, p, t_chk_b (by show ¬ ((_ < (0 : Int) ∨ (39 : Int) < _) ∧ _); omega), fun z => ⟨z, by show (0 : Int) ≤ _ ∧ _ ≤ (39 : Int); omega⟩, ⟨k_C_r rF_rf hr.1, ⟨hr.2.1.1, hr.2.1.2.1, hr.2.1.2.2⟩, hr.2.2⟩, ⟨ht.1, ht.2.1, ht.2.2.1, ht.2.2.2⟩, rF_rf⟩
      · refine g_aload_n rfl rfl ?_
        refine g_iload_n rfl rfl ?_
        refine g_puti rfl rfl (by decide) rfl rfl ?_
        refine g_aload_n rfl rfl ?_
        refine g_iload_n rfl rfl ?_
        refine g_puti rfl rfl (by decide) rfl rfl ?_
        refine x_return rfl rfl ?_
        intro _
        refine x_return rfl rfl ?_
        exact ⟨rfl, 2, t_s T len i, t_chk_a (by show (_ < (0 : Int) ∨ (39 : Int) < _) ∧ _; omega), fun z => absurd z (by decide), ⟨k_C_r (rF_pi (by decide) (rF_pi (by decide) rF_rf)) hr.1, ⟨rfl, fun z => absurd z (by decide), fun _ => rfl⟩, hr.2.2⟩, ⟨ht.1, ht.2.1, ht.2.2.1, ht.2.2.2⟩, (rF_pi (by decide) (rF_pi (by decide) rF_rf))⟩
set_option maxHeartbeats 4000000 in
set_option maxRecDepth 100000 in
theorem s_cN3 {G : tp_G} {μ : tp_M} (hG : tp_Gf G = true) {T : Int → Int} {len f p it i : Int} {R : Int × Int × (Int → Int)} (hr : rs T len f p it μ) (ht : tk9 T len i μ) (hk : t_k T len i = 2) : tp_k G mX5_checkNumber [tR (some 41), tI 3] μ (fun r μ' => r = none ∧ ∃ f2 p2, t_chk 3 (t_v T len i) (t_s T len i) (f, p, it, R) = (f2, p2, it, R) ∧ (f2 = 0 → f = 0 ∧ t_lo 3 ≤ t_v T len i ∧ t_v T len i ≤ t_hi 3) ∧ rs T len f2 p2 it μ' ∧ tk9 T len i μ' ∧ rF μ μ') := by
  refine tp_ok_of mX5_checkNumber_ok rfl (Nat.le_refl _) ?_
  have hf8 := hr.2.1.1
  refine g_aload_n rfl rfl ?_
  refine x_geti (v := (t_v T len i)) rfl rfl (by decide) (Or.inl rfl) (ht.2.2.2 hk) ?_
  refine g_gets rfl ?_
  refine g_iload_n rfl rfl ?_
  refine x_sald (i0 := 5) (v := 0) rfl (by decide) (by decide) (by show _ < ((21 : Nat) : Int); decide) rfl ?_
  refine g_icmp_lt (tgt := 24) rfl (by decide) (fun h1 => ?_) (fun h1 => ?_)
  · refine g_aload_n rfl rfl ?_
    refine g_iconst rfl ⟨by decide, by decide⟩ ?_
    refine g_aload_n rfl rfl ?_
    refine x_geti (v := (t_s T len i)) rfl rfl (by decide) (Or.inl rfl) ht.2.2.1 ?_
    refine g_iV (as := [tI 2, tI (t_s T len i)]) mX5_note_ok rfl rfl rfl rfl rfl rfl (by decide) rfl rfl rfl ?_
    refine g_aload_n rfl rfl ?_
    refine x_geti (v := f) rfl rfl (by decide) (Or.inl rfl) hr.2.1.1 ?_
    refine g_if_ne (tgt := 17) rfl (by decide) (fun h2 => ?_) (fun h2 => ?_)
    · refine x_return rfl rfl ?_
      intro _
      refine x_return rfl rfl ?_
      exact ⟨rfl, f, p, t_chk_b (by show ¬ ((_ < (0 : Int) ∨ (39 : Int) < _) ∧ _); omega), fun z => ⟨z, by show (0 : Int) ≤ _ ∧ _ ≤ (39 : Int); omega⟩, ⟨k_C_r rF_rf hr.1, ⟨hr.2.1.1, hr.2.1.2.1, hr.2.1.2.2⟩, hr.2.2⟩, ⟨ht.1, ht.2.1, ht.2.2.1, ht.2.2.2⟩, rF_rf⟩
    · refine g_aload_n rfl rfl ?_
      refine g_iload_n rfl rfl ?_
      refine g_puti rfl rfl (by decide) rfl rfl ?_
      refine g_aload_n rfl rfl ?_
      refine g_iload_n rfl rfl ?_
      refine g_puti rfl rfl (by decide) rfl rfl ?_
      refine x_return rfl rfl ?_
      intro _
      refine x_return rfl rfl ?_
      exact ⟨rfl, 2, t_s T len i, t_chk_a (by show (_ < (0 : Int) ∨ (39 : Int) < _) ∧ _; omega), fun z => absurd z (by decide), ⟨k_C_r (rF_pi (by decide) (rF_pi (by decide) rF_rf)) hr.1, ⟨rfl, fun z => absurd z (by decide), fun _ => rfl⟩, hr.2.2⟩, ⟨ht.1, ht.2.1, ht.2.2.1, ht.2.2.2⟩, (rF_pi (by decide) (rF_pi (by decide) rF_rf))⟩
  · refine g_aload_n rfl rfl ?_
    refine x_geti (v := (t_v T len i)) rfl rfl (by decide) (Or.inl rfl) (ht.2.2.2 hk) ?_
    refine g_gets rfl ?_
    refine g_iload_n rfl rfl ?_
    refine x_sald (i0 := 6) (v := 39) rfl (by decide) (by decide) (by show _ < ((21 : Nat) : Int); decide) rfl ?_
    refine g_icmp_le (tgt := 33) rfl (by decide) (fun h3 => ?_) (fun h3 => ?_)
    · refine x_return rfl rfl ?_
      exact ⟨rfl, f, p, t_chk_b (by show ¬ ((_ < (0 : Int) ∨ (39 : Int) < _) ∧ _); omega), fun z => ⟨z, by show (0 : Int) ≤ _ ∧ _ ≤ (39 : Int); omega⟩, ⟨k_C_r rF_rf hr.1, ⟨hr.2.1.1, hr.2.1.2.1, hr.2.1.2.2⟩, hr.2.2⟩, ⟨ht.1, ht.2.1, ht.2.2.1, ht.2.2.2⟩, rF_rf⟩
    · refine g_aload_n rfl rfl ?_
      refine g_iconst rfl ⟨by decide, by decide⟩ ?_
      refine g_aload_n rfl rfl ?_
      refine x_geti (v := (t_s T len i)) rfl rfl (by decide) (Or.inl rfl) ht.2.2.1 ?_
      refine g_iV (as := [tI 2, tI (t_s T len i)]) mX5_note_ok rfl rfl rfl rfl rfl rfl (by decide) rfl rfl rfl ?_
      refine g_aload_n rfl rfl ?_
      refine x_geti (v := f) rfl rfl (by decide) (Or.inl rfl) hr.2.1.1 ?_
      refine g_if_ne (tgt := 17) rfl (by decide) (fun h4 => ?_) (fun h4 => ?_)
      · refine x_return rfl rfl ?_
        intro _
        refine x_return rfl rfl ?_
        exact ⟨rfl, f, p, t_chk_b (by show ¬ ((_ < (0 : Int) ∨ (39 : Int) < _) ∧ _); omega), fun z => ⟨z, by show (0 : Int) ≤ _ ∧ _ ≤ (39 : Int); omega⟩, ⟨k_C_r rF_rf hr.1, ⟨hr.2.1.1, hr.2.1.2.1, hr.2.1.2.2⟩, hr.2.2⟩, ⟨ht.1, ht.2.1, ht.2.2.1, ht.2.2.2⟩, rF_rf⟩
      · refine g_aload_n rfl rfl ?_
        refine g_iload_n rfl rfl ?_
        refine g_puti rfl rfl (by decide) rfl rfl ?_
        refine g_aload_n rfl rfl ?_
        refine g_iload_n rfl rfl ?_
        refine g_puti rfl rfl (by decide) rfl rfl ?_
        refine x_return rfl rfl ?_
        intro _
        refine x_return rfl rfl ?_
        exact ⟨rfl, 2, t_s T len i, t_chk_a (by show (_ < (0 : Int) ∨ (39 : Int) < _) ∧ _; omega), fun z => absurd z (by decide), ⟨k_C_r (rF_pi (by decide) (rF_pi (by decide) rF_rf)) hr.1, ⟨rfl, fun z => absurd z (by decide), fun _ => rfl⟩, hr.2.2⟩, ⟨ht.1, ht.2.1, ht.2.2.1, ht.2.2.2⟩, (rF_pi (by decide) (rF_pi (by decide) rF_rf))⟩
set_option maxHeartbeats 4000000 in
set_option maxRecDepth 100000 in
theorem s_cN7 {G : tp_G} {μ : tp_M} (hG : tp_Gf G = true) {T : Int → Int} {len f p it i : Int} {R : Int × Int × (Int → Int)} (hr : rs T len f p it μ) (ht : tk9 T len i μ) (hk : t_k T len i = 2) : tp_k G mX5_checkNumber [tR (some 41), tI 7] μ (fun r μ' => r = none ∧ ∃ f2 p2, t_chk 7 (t_v T len i) (t_s T len i) (f, p, it, R) = (f2, p2, it, R) ∧ (f2 = 0 → f = 0 ∧ t_lo 7 ≤ t_v T len i ∧ t_v T len i ≤ t_hi 7) ∧ rs T len f2 p2 it μ' ∧ tk9 T len i μ' ∧ rF μ μ') := by
  refine tp_ok_of mX5_checkNumber_ok rfl (Nat.le_refl _) ?_
  have hf8 := hr.2.1.1
  refine g_aload_n rfl rfl ?_
  refine x_geti (v := (t_v T len i)) rfl rfl (by decide) (Or.inl rfl) (ht.2.2.2 hk) ?_
  refine g_gets rfl ?_
  refine g_iload_n rfl rfl ?_
  refine x_sald (i0 := 5) (v := 0) rfl (by decide) (by decide) (by show _ < ((21 : Nat) : Int); decide) rfl ?_
  refine g_icmp_lt (tgt := 24) rfl (by decide) (fun h1 => ?_) (fun h1 => ?_)
  · refine g_aload_n rfl rfl ?_
    refine g_iconst rfl ⟨by decide, by decide⟩ ?_
    refine g_aload_n rfl rfl ?_
    refine x_geti (v := (t_s T len i)) rfl rfl (by decide) (Or.inl rfl) ht.2.2.1 ?_
    refine g_iV (as := [tI 2, tI (t_s T len i)]) mX5_note_ok rfl rfl rfl rfl rfl rfl (by decide) rfl rfl rfl ?_
    refine g_aload_n rfl rfl ?_
    refine x_geti (v := f) rfl rfl (by decide) (Or.inl rfl) hr.2.1.1 ?_
    refine g_if_ne (tgt := 17) rfl (by decide) (fun h2 => ?_) (fun h2 => ?_)
    · refine x_return rfl rfl ?_
      intro _
      refine x_return rfl rfl ?_
      exact ⟨rfl, f, p, t_chk_b (by show ¬ ((_ < (0 : Int) ∨ (1 : Int) < _) ∧ _); omega), fun z => ⟨z, by show (0 : Int) ≤ _ ∧ _ ≤ (1 : Int); omega⟩, ⟨k_C_r rF_rf hr.1, ⟨hr.2.1.1, hr.2.1.2.1, hr.2.1.2.2⟩, hr.2.2⟩, ⟨ht.1, ht.2.1, ht.2.2.1, ht.2.2.2⟩, rF_rf⟩
    · refine g_aload_n rfl rfl ?_
      refine g_iload_n rfl rfl ?_
      refine g_puti rfl rfl (by decide) rfl rfl ?_
      refine g_aload_n rfl rfl ?_
      refine g_iload_n rfl rfl ?_
      refine g_puti rfl rfl (by decide) rfl rfl ?_
      refine x_return rfl rfl ?_
      intro _
      refine x_return rfl rfl ?_
      exact ⟨rfl, 2, t_s T len i, t_chk_a (by show (_ < (0 : Int) ∨ (1 : Int) < _) ∧ _; omega), fun z => absurd z (by decide), ⟨k_C_r (rF_pi (by decide) (rF_pi (by decide) rF_rf)) hr.1, ⟨rfl, fun z => absurd z (by decide), fun _ => rfl⟩, hr.2.2⟩, ⟨ht.1, ht.2.1, ht.2.2.1, ht.2.2.2⟩, (rF_pi (by decide) (rF_pi (by decide) rF_rf))⟩
  · refine g_aload_n rfl rfl ?_
    refine x_geti (v := (t_v T len i)) rfl rfl (by decide) (Or.inl rfl) (ht.2.2.2 hk) ?_
    refine g_gets rfl ?_
    refine g_iload_n rfl rfl ?_
    refine x_sald (i0 := 6) (v := 1) rfl (by decide) (by decide) (by show _ < ((21 : Nat) : Int); decide) rfl ?_
    refine g_icmp_le (tgt := 33) rfl (by decide) (fun h3 => ?_) (fun h3 => ?_)
    · refine x_return rfl rfl ?_
      exact ⟨rfl, f, p, t_chk_b (by show ¬ ((_ < (0 : Int) ∨ (1 : Int) < _) ∧ _); omega), fun z => ⟨z, by show (0 : Int) ≤ _ ∧ _ ≤ (1 : Int); omega⟩, ⟨k_C_r rF_rf hr.1, ⟨hr.2.1.1, hr.2.1.2.1, hr.2.1.2.2⟩, hr.2.2⟩, ⟨ht.1, ht.2.1, ht.2.2.1, ht.2.2.2⟩, rF_rf⟩
    · refine g_aload_n rfl rfl ?_
      refine g_iconst rfl ⟨by decide, by decide⟩ ?_
      refine g_aload_n rfl rfl ?_
      refine x_geti (v := (t_s T len i)) rfl rfl (by decide) (Or.inl rfl) ht.2.2.1 ?_
      refine g_iV (as := [tI 2, tI (t_s T len i)]) mX5_note_ok rfl rfl rfl rfl rfl rfl (by decide) rfl rfl rfl ?_
      refine g_aload_n rfl rfl ?_
      refine x_geti (v := f) rfl rfl (by decide) (Or.inl rfl) hr.2.1.1 ?_
      refine g_if_ne (tgt := 17) rfl (by decide) (fun h4 => ?_) (fun h4 => ?_)
      · refine x_return rfl rfl ?_
        intro _
        refine x_return rfl rfl ?_
        exact ⟨rfl, f, p, t_chk_b (by show ¬ ((_ < (0 : Int) ∨ (1 : Int) < _) ∧ _); omega), fun z => ⟨z, by show (0 : Int) ≤ _ ∧ _ ≤ (1 : Int); omega⟩, ⟨k_C_r rF_rf hr.1, ⟨hr.2.1.1, hr.2.1.2.1, hr.2.1.2.2⟩, hr.2.2⟩, ⟨ht.1, ht.2.1, ht.2.2.1, ht.2.2.2⟩, rF_rf⟩
      · refine g_aload_n rfl rfl ?_
        refine g_iload_n rfl rfl ?_
        refine g_puti rfl rfl (by decide) rfl rfl ?_
        refine g_aload_n rfl rfl ?_
        refine g_iload_n rfl rfl ?_
        refine g_puti rfl rfl (by decide) rfl rfl ?_
        refine x_return rfl rfl ?_
        intro _
        refine x_return rfl rfl ?_
        exact ⟨rfl, 2, t_s T len i, t_chk_a (by show (_ < (0 : Int) ∨ (1 : Int) < _) ∧ _; omega), fun z => absurd z (by decide), ⟨k_C_r (rF_pi (by decide) (rF_pi (by decide) rF_rf)) hr.1, ⟨rfl, fun z => absurd z (by decide), fun _ => rfl⟩, hr.2.2⟩, ⟨ht.1, ht.2.1, ht.2.2.1, ht.2.2.2⟩, (rF_pi (by decide) (rF_pi (by decide) rF_rf))⟩
set_option maxHeartbeats 4000000 in
set_option maxRecDepth 100000 in
theorem s_cN8 {G : tp_G} {μ : tp_M} (hG : tp_Gf G = true) {T : Int → Int} {len f p it i : Int} {R : Int × Int × (Int → Int)} (hr : rs T len f p it μ) (ht : tk9 T len i μ) (hk : t_k T len i = 2) : tp_k G mX5_checkNumber [tR (some 41), tI 8] μ (fun r μ' => r = none ∧ ∃ f2 p2, t_chk 8 (t_v T len i) (t_s T len i) (f, p, it, R) = (f2, p2, it, R) ∧ (f2 = 0 → f = 0 ∧ t_lo 8 ≤ t_v T len i ∧ t_v T len i ≤ t_hi 8) ∧ rs T len f2 p2 it μ' ∧ tk9 T len i μ' ∧ rF μ μ') := by
  refine tp_ok_of mX5_checkNumber_ok rfl (Nat.le_refl _) ?_
  have hf8 := hr.2.1.1
  refine g_aload_n rfl rfl ?_
  refine x_geti (v := (t_v T len i)) rfl rfl (by decide) (Or.inl rfl) (ht.2.2.2 hk) ?_
  refine g_gets rfl ?_
  refine g_iload_n rfl rfl ?_
  refine x_sald (i0 := 5) (v := 1) rfl (by decide) (by decide) (by show _ < ((21 : Nat) : Int); decide) rfl ?_
  refine g_icmp_lt (tgt := 24) rfl (by decide) (fun h1 => ?_) (fun h1 => ?_)
  · refine g_aload_n rfl rfl ?_
    refine g_iconst rfl ⟨by decide, by decide⟩ ?_
    refine g_aload_n rfl rfl ?_
    refine x_geti (v := (t_s T len i)) rfl rfl (by decide) (Or.inl rfl) ht.2.2.1 ?_
    refine g_iV (as := [tI 2, tI (t_s T len i)]) mX5_note_ok rfl rfl rfl rfl rfl rfl (by decide) rfl rfl rfl ?_
    refine g_aload_n rfl rfl ?_
    refine x_geti (v := f) rfl rfl (by decide) (Or.inl rfl) hr.2.1.1 ?_
    refine g_if_ne (tgt := 17) rfl (by decide) (fun h2 => ?_) (fun h2 => ?_)
    · refine x_return rfl rfl ?_
      intro _
      refine x_return rfl rfl ?_
      exact ⟨rfl, f, p, t_chk_b (by show ¬ ((_ < (1 : Int) ∨ (9 : Int) < _) ∧ _); omega), fun z => ⟨z, by show (1 : Int) ≤ _ ∧ _ ≤ (9 : Int); omega⟩, ⟨k_C_r rF_rf hr.1, ⟨hr.2.1.1, hr.2.1.2.1, hr.2.1.2.2⟩, hr.2.2⟩, ⟨ht.1, ht.2.1, ht.2.2.1, ht.2.2.2⟩, rF_rf⟩
    · refine g_aload_n rfl rfl ?_
      refine g_iload_n rfl rfl ?_
      refine g_puti rfl rfl (by decide) rfl rfl ?_
      refine g_aload_n rfl rfl ?_
      refine g_iload_n rfl rfl ?_
      refine g_puti rfl rfl (by decide) rfl rfl ?_
      refine x_return rfl rfl ?_
      intro _
      refine x_return rfl rfl ?_
      exact ⟨rfl, 2, t_s T len i, t_chk_a (by show (_ < (1 : Int) ∨ (9 : Int) < _) ∧ _; omega), fun z => absurd z (by decide), ⟨k_C_r (rF_pi (by decide) (rF_pi (by decide) rF_rf)) hr.1, ⟨rfl, fun z => absurd z (by decide), fun _ => rfl⟩, hr.2.2⟩, ⟨ht.1, ht.2.1, ht.2.2.1, ht.2.2.2⟩, (rF_pi (by decide) (rF_pi (by decide) rF_rf))⟩
  · refine g_aload_n rfl rfl ?_
    refine x_geti (v := (t_v T len i)) rfl rfl (by decide) (Or.inl rfl) (ht.2.2.2 hk) ?_
    refine g_gets rfl ?_
    refine g_iload_n rfl rfl ?_
    refine x_sald (i0 := 6) (v := 9) rfl (by decide) (by decide) (by show _ < ((21 : Nat) : Int); decide) rfl ?_
    refine g_icmp_le (tgt := 33) rfl (by decide) (fun h3 => ?_) (fun h3 => ?_)
    · refine x_return rfl rfl ?_
      exact ⟨rfl, f, p, t_chk_b (by show ¬ ((_ < (1 : Int) ∨ (9 : Int) < _) ∧ _); omega), fun z => ⟨z, by show (1 : Int) ≤ _ ∧ _ ≤ (9 : Int); omega⟩, ⟨k_C_r rF_rf hr.1, ⟨hr.2.1.1, hr.2.1.2.1, hr.2.1.2.2⟩, hr.2.2⟩, ⟨ht.1, ht.2.1, ht.2.2.1, ht.2.2.2⟩, rF_rf⟩
    · refine g_aload_n rfl rfl ?_
      refine g_iconst rfl ⟨by decide, by decide⟩ ?_
      refine g_aload_n rfl rfl ?_
      refine x_geti (v := (t_s T len i)) rfl rfl (by decide) (Or.inl rfl) ht.2.2.1 ?_
      refine g_iV (as := [tI 2, tI (t_s T len i)]) mX5_note_ok rfl rfl rfl rfl rfl rfl (by decide) rfl rfl rfl ?_
      refine g_aload_n rfl rfl ?_
      refine x_geti (v := f) rfl rfl (by decide) (Or.inl rfl) hr.2.1.1 ?_
      refine g_if_ne (tgt := 17) rfl (by decide) (fun h4 => ?_) (fun h4 => ?_)
      · refine x_return rfl rfl ?_
        intro _
        refine x_return rfl rfl ?_
        exact ⟨rfl, f, p, t_chk_b (by show ¬ ((_ < (1 : Int) ∨ (9 : Int) < _) ∧ _); omega), fun z => ⟨z, by show (1 : Int) ≤ _ ∧ _ ≤ (9 : Int); omega⟩, ⟨k_C_r rF_rf hr.1, ⟨hr.2.1.1, hr.2.1.2.1, hr.2.1.2.2⟩, hr.2.2⟩, ⟨ht.1, ht.2.1, ht.2.2.1, ht.2.2.2⟩, rF_rf⟩
      · refine g_aload_n rfl rfl ?_
        refine g_iload_n rfl rfl ?_
        refine g_puti rfl rfl (by decide) rfl rfl ?_
        refine g_aload_n rfl rfl ?_
        refine g_iload_n rfl rfl ?_
        refine g_puti rfl rfl (by decide) rfl rfl ?_
        refine x_return rfl rfl ?_
        intro _
        refine x_return rfl rfl ?_
        exact ⟨rfl, 2, t_s T len i, t_chk_a (by show (_ < (1 : Int) ∨ (9 : Int) < _) ∧ _; omega), fun z => absurd z (by decide), ⟨k_C_r (rF_pi (by decide) (rF_pi (by decide) rF_rf)) hr.1, ⟨rfl, fun z => absurd z (by decide), fun _ => rfl⟩, hr.2.2⟩, ⟨ht.1, ht.2.1, ht.2.2.1, ht.2.2.2⟩, (rF_pi (by decide) (rF_pi (by decide) rF_rf))⟩
set_option maxHeartbeats 4000000 in
set_option maxRecDepth 100000 in
theorem s_cN9 {G : tp_G} {μ : tp_M} (hG : tp_Gf G = true) {T : Int → Int} {len f p it i : Int} {R : Int × Int × (Int → Int)} (hr : rs T len f p it μ) (ht : tk9 T len i μ) (hk : t_k T len i = 2) : tp_k G mX5_checkNumber [tR (some 41), tI 9] μ (fun r μ' => r = none ∧ ∃ f2 p2, t_chk 9 (t_v T len i) (t_s T len i) (f, p, it, R) = (f2, p2, it, R) ∧ (f2 = 0 → f = 0 ∧ t_lo 9 ≤ t_v T len i ∧ t_v T len i ≤ t_hi 9) ∧ rs T len f2 p2 it μ' ∧ tk9 T len i μ' ∧ rF μ μ') := by
  refine tp_ok_of mX5_checkNumber_ok rfl (Nat.le_refl _) ?_
  have hf8 := hr.2.1.1
  refine g_aload_n rfl rfl ?_
  refine x_geti (v := (t_v T len i)) rfl rfl (by decide) (Or.inl rfl) (ht.2.2.2 hk) ?_
  refine g_gets rfl ?_
  refine g_iload_n rfl rfl ?_
  refine x_sald (i0 := 5) (v := 0) rfl (by decide) (by decide) (by show _ < ((21 : Nat) : Int); decide) rfl ?_
  refine g_icmp_lt (tgt := 24) rfl (by decide) (fun h1 => ?_) (fun h1 => ?_)
  · refine g_aload_n rfl rfl ?_
    refine g_iconst rfl ⟨by decide, by decide⟩ ?_
    refine g_aload_n rfl rfl ?_
    refine x_geti (v := (t_s T len i)) rfl rfl (by decide) (Or.inl rfl) ht.2.2.1 ?_
    refine g_iV (as := [tI 2, tI (t_s T len i)]) mX5_note_ok rfl rfl rfl rfl rfl rfl (by decide) rfl rfl rfl ?_
    refine g_aload_n rfl rfl ?_
    refine x_geti (v := f) rfl rfl (by decide) (Or.inl rfl) hr.2.1.1 ?_
    refine g_if_ne (tgt := 17) rfl (by decide) (fun h2 => ?_) (fun h2 => ?_)
    · refine x_return rfl rfl ?_
      intro _
      refine x_return rfl rfl ?_
      exact ⟨rfl, f, p, t_chk_b (by show ¬ ((_ < (0 : Int) ∨ (4 : Int) < _) ∧ _); omega), fun z => ⟨z, by show (0 : Int) ≤ _ ∧ _ ≤ (4 : Int); omega⟩, ⟨k_C_r rF_rf hr.1, ⟨hr.2.1.1, hr.2.1.2.1, hr.2.1.2.2⟩, hr.2.2⟩, ⟨ht.1, ht.2.1, ht.2.2.1, ht.2.2.2⟩, rF_rf⟩
    · refine g_aload_n rfl rfl ?_
      refine g_iload_n rfl rfl ?_
      refine g_puti rfl rfl (by decide) rfl rfl ?_
      refine g_aload_n rfl rfl ?_
      refine g_iload_n rfl rfl ?_
      refine g_puti rfl rfl (by decide) rfl rfl ?_
      refine x_return rfl rfl ?_
      intro _
      refine x_return rfl rfl ?_
      exact ⟨rfl, 2, t_s T len i, t_chk_a (by show (_ < (0 : Int) ∨ (4 : Int) < _) ∧ _; omega), fun z => absurd z (by decide), ⟨k_C_r (rF_pi (by decide) (rF_pi (by decide) rF_rf)) hr.1, ⟨rfl, fun z => absurd z (by decide), fun _ => rfl⟩, hr.2.2⟩, ⟨ht.1, ht.2.1, ht.2.2.1, ht.2.2.2⟩, (rF_pi (by decide) (rF_pi (by decide) rF_rf))⟩
  · refine g_aload_n rfl rfl ?_
    refine x_geti (v := (t_v T len i)) rfl rfl (by decide) (Or.inl rfl) (ht.2.2.2 hk) ?_
    refine g_gets rfl ?_
    refine g_iload_n rfl rfl ?_
    refine x_sald (i0 := 6) (v := 4) rfl (by decide) (by decide) (by show _ < ((21 : Nat) : Int); decide) rfl ?_
    refine g_icmp_le (tgt := 33) rfl (by decide) (fun h3 => ?_) (fun h3 => ?_)
    · refine x_return rfl rfl ?_
      exact ⟨rfl, f, p, t_chk_b (by show ¬ ((_ < (0 : Int) ∨ (4 : Int) < _) ∧ _); omega), fun z => ⟨z, by show (0 : Int) ≤ _ ∧ _ ≤ (4 : Int); omega⟩, ⟨k_C_r rF_rf hr.1, ⟨hr.2.1.1, hr.2.1.2.1, hr.2.1.2.2⟩, hr.2.2⟩, ⟨ht.1, ht.2.1, ht.2.2.1, ht.2.2.2⟩, rF_rf⟩
    · refine g_aload_n rfl rfl ?_
      refine g_iconst rfl ⟨by decide, by decide⟩ ?_
      refine g_aload_n rfl rfl ?_
      refine x_geti (v := (t_s T len i)) rfl rfl (by decide) (Or.inl rfl) ht.2.2.1 ?_
      refine g_iV (as := [tI 2, tI (t_s T len i)]) mX5_note_ok rfl rfl rfl rfl rfl rfl (by decide) rfl rfl rfl ?_
      refine g_aload_n rfl rfl ?_
      refine x_geti (v := f) rfl rfl (by decide) (Or.inl rfl) hr.2.1.1 ?_
      refine g_if_ne (tgt := 17) rfl (by decide) (fun h4 => ?_) (fun h4 => ?_)
      · refine x_return rfl rfl ?_
        intro _
        refine x_return rfl rfl ?_
        exact ⟨rfl, f, p, t_chk_b (by show ¬ ((_ < (0 : Int) ∨ (4 : Int) < _) ∧ _); omega), fun z => ⟨z, by show (0 : Int) ≤ _ ∧ _ ≤ (4 : Int); omega⟩, ⟨k_C_r rF_rf hr.1, ⟨hr.2.1.1, hr.2.1.2.1, hr.2.1.2.2⟩, hr.2.2⟩, ⟨ht.1, ht.2.1, ht.2.2.1, ht.2.2.2⟩, rF_rf⟩
      · refine g_aload_n rfl rfl ?_
        refine g_iload_n rfl rfl ?_
        refine g_puti rfl rfl (by decide) rfl rfl ?_
        refine g_aload_n rfl rfl ?_
        refine g_iload_n rfl rfl ?_
        refine g_puti rfl rfl (by decide) rfl rfl ?_
        refine x_return rfl rfl ?_
        intro _
        refine x_return rfl rfl ?_
        exact ⟨rfl, 2, t_s T len i, t_chk_a (by show (_ < (0 : Int) ∨ (4 : Int) < _) ∧ _; omega), fun z => absurd z (by decide), ⟨k_C_r (rF_pi (by decide) (rF_pi (by decide) rF_rf)) hr.1, ⟨rfl, fun z => absurd z (by decide), fun _ => rfl⟩, hr.2.2⟩, ⟨ht.1, ht.2.1, ht.2.2.1, ht.2.2.2⟩, (rF_pi (by decide) (rF_pi (by decide) rF_rf))⟩
set_option maxHeartbeats 4000000 in
set_option maxRecDepth 100000 in
theorem s_cN10 {G : tp_G} {μ : tp_M} (hG : tp_Gf G = true) {T : Int → Int} {len f p it i : Int} {R : Int × Int × (Int → Int)} (hr : rs T len f p it μ) (ht : tk9 T len i μ) (hk : t_k T len i = 2) : tp_k G mX5_checkNumber [tR (some 41), tI 10] μ (fun r μ' => r = none ∧ ∃ f2 p2, t_chk 10 (t_v T len i) (t_s T len i) (f, p, it, R) = (f2, p2, it, R) ∧ (f2 = 0 → f = 0 ∧ t_lo 10 ≤ t_v T len i ∧ t_v T len i ≤ t_hi 10) ∧ rs T len f2 p2 it μ' ∧ tk9 T len i μ' ∧ rF μ μ') := by
  refine tp_ok_of mX5_checkNumber_ok rfl (Nat.le_refl _) ?_
  have hf8 := hr.2.1.1
  refine g_aload_n rfl rfl ?_
  refine x_geti (v := (t_v T len i)) rfl rfl (by decide) (Or.inl rfl) (ht.2.2.2 hk) ?_
  refine g_gets rfl ?_
  refine g_iload_n rfl rfl ?_
  refine x_sald (i0 := 5) (v := 2) rfl (by decide) (by decide) (by show _ < ((21 : Nat) : Int); decide) rfl ?_
  refine g_icmp_lt (tgt := 24) rfl (by decide) (fun h1 => ?_) (fun h1 => ?_)
  · refine g_aload_n rfl rfl ?_
    refine g_iconst rfl ⟨by decide, by decide⟩ ?_
    refine g_aload_n rfl rfl ?_
    refine x_geti (v := (t_s T len i)) rfl rfl (by decide) (Or.inl rfl) ht.2.2.1 ?_
    refine g_iV (as := [tI 2, tI (t_s T len i)]) mX5_note_ok rfl rfl rfl rfl rfl rfl (by decide) rfl rfl rfl ?_
    refine g_aload_n rfl rfl ?_
    refine x_geti (v := f) rfl rfl (by decide) (Or.inl rfl) hr.2.1.1 ?_
    refine g_if_ne (tgt := 17) rfl (by decide) (fun h2 => ?_) (fun h2 => ?_)
    · refine x_return rfl rfl ?_
      intro _
      refine x_return rfl rfl ?_
      exact ⟨rfl, f, p, t_chk_b (by show ¬ ((_ < (2 : Int) ∨ (99 : Int) < _) ∧ _); omega), fun z => ⟨z, by show (2 : Int) ≤ _ ∧ _ ≤ (99 : Int); omega⟩, ⟨k_C_r rF_rf hr.1, ⟨hr.2.1.1, hr.2.1.2.1, hr.2.1.2.2⟩, hr.2.2⟩, ⟨ht.1, ht.2.1, ht.2.2.1, ht.2.2.2⟩, rF_rf⟩
    · refine g_aload_n rfl rfl ?_
      refine g_iload_n rfl rfl ?_
      refine g_puti rfl rfl (by decide) rfl rfl ?_
      refine g_aload_n rfl rfl ?_
      refine g_iload_n rfl rfl ?_
      refine g_puti rfl rfl (by decide) rfl rfl ?_
      refine x_return rfl rfl ?_
      intro _
      refine x_return rfl rfl ?_
      exact ⟨rfl, 2, t_s T len i, t_chk_a (by show (_ < (2 : Int) ∨ (99 : Int) < _) ∧ _; omega), fun z => absurd z (by decide), ⟨k_C_r (rF_pi (by decide) (rF_pi (by decide) rF_rf)) hr.1, ⟨rfl, fun z => absurd z (by decide), fun _ => rfl⟩, hr.2.2⟩, ⟨ht.1, ht.2.1, ht.2.2.1, ht.2.2.2⟩, (rF_pi (by decide) (rF_pi (by decide) rF_rf))⟩
  · refine g_aload_n rfl rfl ?_
    refine x_geti (v := (t_v T len i)) rfl rfl (by decide) (Or.inl rfl) (ht.2.2.2 hk) ?_
    refine g_gets rfl ?_
    refine g_iload_n rfl rfl ?_
    refine x_sald (i0 := 6) (v := 99) rfl (by decide) (by decide) (by show _ < ((21 : Nat) : Int); decide) rfl ?_
    refine g_icmp_le (tgt := 33) rfl (by decide) (fun h3 => ?_) (fun h3 => ?_)
    · refine x_return rfl rfl ?_
      exact ⟨rfl, f, p, t_chk_b (by show ¬ ((_ < (2 : Int) ∨ (99 : Int) < _) ∧ _); omega), fun z => ⟨z, by show (2 : Int) ≤ _ ∧ _ ≤ (99 : Int); omega⟩, ⟨k_C_r rF_rf hr.1, ⟨hr.2.1.1, hr.2.1.2.1, hr.2.1.2.2⟩, hr.2.2⟩, ⟨ht.1, ht.2.1, ht.2.2.1, ht.2.2.2⟩, rF_rf⟩
    · refine g_aload_n rfl rfl ?_
      refine g_iconst rfl ⟨by decide, by decide⟩ ?_
      refine g_aload_n rfl rfl ?_
      refine x_geti (v := (t_s T len i)) rfl rfl (by decide) (Or.inl rfl) ht.2.2.1 ?_
      refine g_iV (as := [tI 2, tI (t_s T len i)]) mX5_note_ok rfl rfl rfl rfl rfl rfl (by decide) rfl rfl rfl ?_
      refine g_aload_n rfl rfl ?_
      refine x_geti (v := f) rfl rfl (by decide) (Or.inl rfl) hr.2.1.1 ?_
      refine g_if_ne (tgt := 17) rfl (by decide) (fun h4 => ?_) (fun h4 => ?_)
      · refine x_return rfl rfl ?_
        intro _
        refine x_return rfl rfl ?_
        exact ⟨rfl, f, p, t_chk_b (by show ¬ ((_ < (2 : Int) ∨ (99 : Int) < _) ∧ _); omega), fun z => ⟨z, by show (2 : Int) ≤ _ ∧ _ ≤ (99 : Int); omega⟩, ⟨k_C_r rF_rf hr.1, ⟨hr.2.1.1, hr.2.1.2.1, hr.2.1.2.2⟩, hr.2.2⟩, ⟨ht.1, ht.2.1, ht.2.2.1, ht.2.2.2⟩, rF_rf⟩
      · refine g_aload_n rfl rfl ?_
        refine g_iload_n rfl rfl ?_
        refine g_puti rfl rfl (by decide) rfl rfl ?_
        refine g_aload_n rfl rfl ?_
        refine g_iload_n rfl rfl ?_
        refine g_puti rfl rfl (by decide) rfl rfl ?_
        refine x_return rfl rfl ?_
        intro _
        refine x_return rfl rfl ?_
        exact ⟨rfl, 2, t_s T len i, t_chk_a (by show (_ < (2 : Int) ∨ (99 : Int) < _) ∧ _; omega), fun z => absurd z (by decide), ⟨k_C_r (rF_pi (by decide) (rF_pi (by decide) rF_rf)) hr.1, ⟨rfl, fun z => absurd z (by decide), fun _ => rfl⟩, hr.2.2⟩, ⟨ht.1, ht.2.1, ht.2.2.1, ht.2.2.2⟩, (rF_pi (by decide) (rF_pi (by decide) rF_rf))⟩
set_option maxHeartbeats 4000000 in
set_option maxRecDepth 100000 in
theorem s_cN11 {G : tp_G} {μ : tp_M} (hG : tp_Gf G = true) {T : Int → Int} {len f p it i : Int} {R : Int × Int × (Int → Int)} (hr : rs T len f p it μ) (ht : tk9 T len i μ) (hk : t_k T len i = 2) : tp_k G mX5_checkNumber [tR (some 41), tI 11] μ (fun r μ' => r = none ∧ ∃ f2 p2, t_chk 11 (t_v T len i) (t_s T len i) (f, p, it, R) = (f2, p2, it, R) ∧ (f2 = 0 → f = 0 ∧ t_lo 11 ≤ t_v T len i ∧ t_v T len i ≤ t_hi 11) ∧ rs T len f2 p2 it μ' ∧ tk9 T len i μ' ∧ rF μ μ') := by
  refine tp_ok_of mX5_checkNumber_ok rfl (Nat.le_refl _) ?_
  have hf8 := hr.2.1.1
  refine g_aload_n rfl rfl ?_
  refine x_geti (v := (t_v T len i)) rfl rfl (by decide) (Or.inl rfl) (ht.2.2.2 hk) ?_
  refine g_gets rfl ?_
  refine g_iload_n rfl rfl ?_
  refine x_sald (i0 := 5) (v := 0) rfl (by decide) (by decide) (by show _ < ((21 : Nat) : Int); decide) rfl ?_
  refine g_icmp_lt (tgt := 24) rfl (by decide) (fun h1 => ?_) (fun h1 => ?_)
  · refine g_aload_n rfl rfl ?_
    refine g_iconst rfl ⟨by decide, by decide⟩ ?_
    refine g_aload_n rfl rfl ?_
    refine x_geti (v := (t_s T len i)) rfl rfl (by decide) (Or.inl rfl) ht.2.2.1 ?_
    refine g_iV (as := [tI 2, tI (t_s T len i)]) mX5_note_ok rfl rfl rfl rfl rfl rfl (by decide) rfl rfl rfl ?_
    refine g_aload_n rfl rfl ?_
    refine x_geti (v := f) rfl rfl (by decide) (Or.inl rfl) hr.2.1.1 ?_
    refine g_if_ne (tgt := 17) rfl (by decide) (fun h2 => ?_) (fun h2 => ?_)
    · refine x_return rfl rfl ?_
      intro _
      refine x_return rfl rfl ?_
      exact ⟨rfl, f, p, t_chk_b (by show ¬ ((_ < (0 : Int) ∨ (39 : Int) < _) ∧ _); omega), fun z => ⟨z, by show (0 : Int) ≤ _ ∧ _ ≤ (39 : Int); omega⟩, ⟨k_C_r rF_rf hr.1, ⟨hr.2.1.1, hr.2.1.2.1, hr.2.1.2.2⟩, hr.2.2⟩, ⟨ht.1, ht.2.1, ht.2.2.1, ht.2.2.2⟩, rF_rf⟩
    · refine g_aload_n rfl rfl ?_
      refine g_iload_n rfl rfl ?_
      refine g_puti rfl rfl (by decide) rfl rfl ?_
      refine g_aload_n rfl rfl ?_
      refine g_iload_n rfl rfl ?_
      refine g_puti rfl rfl (by decide) rfl rfl ?_
      refine x_return rfl rfl ?_
      intro _
      refine x_return rfl rfl ?_
      exact ⟨rfl, 2, t_s T len i, t_chk_a (by show (_ < (0 : Int) ∨ (39 : Int) < _) ∧ _; omega), fun z => absurd z (by decide), ⟨k_C_r (rF_pi (by decide) (rF_pi (by decide) rF_rf)) hr.1, ⟨rfl, fun z => absurd z (by decide), fun _ => rfl⟩, hr.2.2⟩, ⟨ht.1, ht.2.1, ht.2.2.1, ht.2.2.2⟩, (rF_pi (by decide) (rF_pi (by decide) rF_rf))⟩
  · refine g_aload_n rfl rfl ?_
    refine x_geti (v := (t_v T len i)) rfl rfl (by decide) (Or.inl rfl) (ht.2.2.2 hk) ?_
    refine g_gets rfl ?_
    refine g_iload_n rfl rfl ?_
    refine x_sald (i0 := 6) (v := 39) rfl (by decide) (by decide) (by show _ < ((21 : Nat) : Int); decide) rfl ?_
    refine g_icmp_le (tgt := 33) rfl (by decide) (fun h3 => ?_) (fun h3 => ?_)
    · refine x_return rfl rfl ?_
      exact ⟨rfl, f, p, t_chk_b (by show ¬ ((_ < (0 : Int) ∨ (39 : Int) < _) ∧ _); omega), fun z => ⟨z, by show (0 : Int) ≤ _ ∧ _ ≤ (39 : Int); omega⟩, ⟨k_C_r rF_rf hr.1, ⟨hr.2.1.1, hr.2.1.2.1, hr.2.1.2.2⟩, hr.2.2⟩, ⟨ht.1, ht.2.1, ht.2.2.1, ht.2.2.2⟩, rF_rf⟩
    · refine g_aload_n rfl rfl ?_
      refine g_iconst rfl ⟨by decide, by decide⟩ ?_
      refine g_aload_n rfl rfl ?_
      refine x_geti (v := (t_s T len i)) rfl rfl (by decide) (Or.inl rfl) ht.2.2.1 ?_
      refine g_iV (as := [tI 2, tI (t_s T len i)]) mX5_note_ok rfl rfl rfl rfl rfl rfl (by decide) rfl rfl rfl ?_
      refine g_aload_n rfl rfl ?_
      refine x_geti (v := f) rfl rfl (by decide) (Or.inl rfl) hr.2.1.1 ?_
      refine g_if_ne (tgt := 17) rfl (by decide) (fun h4 => ?_) (fun h4 => ?_)
      · refine x_return rfl rfl ?_
        intro _
        refine x_return rfl rfl ?_
        exact ⟨rfl, f, p, t_chk_b (by show ¬ ((_ < (0 : Int) ∨ (39 : Int) < _) ∧ _); omega), fun z => ⟨z, by show (0 : Int) ≤ _ ∧ _ ≤ (39 : Int); omega⟩, ⟨k_C_r rF_rf hr.1, ⟨hr.2.1.1, hr.2.1.2.1, hr.2.1.2.2⟩, hr.2.2⟩, ⟨ht.1, ht.2.1, ht.2.2.1, ht.2.2.2⟩, rF_rf⟩
      · refine g_aload_n rfl rfl ?_
        refine g_iload_n rfl rfl ?_
        refine g_puti rfl rfl (by decide) rfl rfl ?_
        refine g_aload_n rfl rfl ?_
        refine g_iload_n rfl rfl ?_
        refine g_puti rfl rfl (by decide) rfl rfl ?_
        refine x_return rfl rfl ?_
        intro _
        refine x_return rfl rfl ?_
        exact ⟨rfl, 2, t_s T len i, t_chk_a (by show (_ < (0 : Int) ∨ (39 : Int) < _) ∧ _; omega), fun z => absurd z (by decide), ⟨k_C_r (rF_pi (by decide) (rF_pi (by decide) rF_rf)) hr.1, ⟨rfl, fun z => absurd z (by decide), fun _ => rfl⟩, hr.2.2⟩, ⟨ht.1, ht.2.1, ht.2.2.1, ht.2.2.2⟩, (rF_pi (by decide) (rF_pi (by decide) rF_rf))⟩
set_option maxHeartbeats 4000000 in
set_option maxRecDepth 100000 in
theorem s_cN12 {G : tp_G} {μ : tp_M} (hG : tp_Gf G = true) {T : Int → Int} {len f p it i : Int} {R : Int × Int × (Int → Int)} (hr : rs T len f p it μ) (ht : tk9 T len i μ) (hk : t_k T len i = 2) : tp_k G mX5_checkNumber [tR (some 41), tI 12] μ (fun r μ' => r = none ∧ ∃ f2 p2, t_chk 12 (t_v T len i) (t_s T len i) (f, p, it, R) = (f2, p2, it, R) ∧ (f2 = 0 → f = 0 ∧ t_lo 12 ≤ t_v T len i ∧ t_v T len i ≤ t_hi 12) ∧ rs T len f2 p2 it μ' ∧ tk9 T len i μ' ∧ rF μ μ') := by
  refine tp_ok_of mX5_checkNumber_ok rfl (Nat.le_refl _) ?_
  have hf8 := hr.2.1.1
  refine g_aload_n rfl rfl ?_
  refine x_geti (v := (t_v T len i)) rfl rfl (by decide) (Or.inl rfl) (ht.2.2.2 hk) ?_
  refine g_gets rfl ?_
  refine g_iload_n rfl rfl ?_
  refine x_sald (i0 := 5) (v := 0) rfl (by decide) (by decide) (by show _ < ((21 : Nat) : Int); decide) rfl ?_
  refine g_icmp_lt (tgt := 24) rfl (by decide) (fun h1 => ?_) (fun h1 => ?_)
  · refine g_aload_n rfl rfl ?_
    refine g_iconst rfl ⟨by decide, by decide⟩ ?_
    refine g_aload_n rfl rfl ?_
    refine x_geti (v := (t_s T len i)) rfl rfl (by decide) (Or.inl rfl) ht.2.2.1 ?_
    refine g_iV (as := [tI 2, tI (t_s T len i)]) mX5_note_ok rfl rfl rfl rfl rfl rfl (by decide) rfl rfl rfl ?_
    refine g_aload_n rfl rfl ?_
    refine x_geti (v := f) rfl rfl (by decide) (Or.inl rfl) hr.2.1.1 ?_
    refine g_if_ne (tgt := 17) rfl (by decide) (fun h2 => ?_) (fun h2 => ?_)
    · refine x_return rfl rfl ?_
      intro _
      refine x_return rfl rfl ?_
      exact ⟨rfl, f, p, t_chk_b (by show ¬ ((_ < (0 : Int) ∨ (39 : Int) < _) ∧ _); omega), fun z => ⟨z, by show (0 : Int) ≤ _ ∧ _ ≤ (39 : Int); omega⟩, ⟨k_C_r rF_rf hr.1, ⟨hr.2.1.1, hr.2.1.2.1, hr.2.1.2.2⟩, hr.2.2⟩, ⟨ht.1, ht.2.1, ht.2.2.1, ht.2.2.2⟩, rF_rf⟩
    · refine g_aload_n rfl rfl ?_
      refine g_iload_n rfl rfl ?_
      refine g_puti rfl rfl (by decide) rfl rfl ?_
      refine g_aload_n rfl rfl ?_
      refine g_iload_n rfl rfl ?_
      refine g_puti rfl rfl (by decide) rfl rfl ?_
      refine x_return rfl rfl ?_
      intro _
      refine x_return rfl rfl ?_
      exact ⟨rfl, 2, t_s T len i, t_chk_a (by show (_ < (0 : Int) ∨ (39 : Int) < _) ∧ _; omega), fun z => absurd z (by decide), ⟨k_C_r (rF_pi (by decide) (rF_pi (by decide) rF_rf)) hr.1, ⟨rfl, fun z => absurd z (by decide), fun _ => rfl⟩, hr.2.2⟩, ⟨ht.1, ht.2.1, ht.2.2.1, ht.2.2.2⟩, (rF_pi (by decide) (rF_pi (by decide) rF_rf))⟩
  · refine g_aload_n rfl rfl ?_
    refine x_geti (v := (t_v T len i)) rfl rfl (by decide) (Or.inl rfl) (ht.2.2.2 hk) ?_
    refine g_gets rfl ?_
    refine g_iload_n rfl rfl ?_
    refine x_sald (i0 := 6) (v := 39) rfl (by decide) (by decide) (by show _ < ((21 : Nat) : Int); decide) rfl ?_
    refine g_icmp_le (tgt := 33) rfl (by decide) (fun h3 => ?_) (fun h3 => ?_)
    · refine x_return rfl rfl ?_
      exact ⟨rfl, f, p, t_chk_b (by show ¬ ((_ < (0 : Int) ∨ (39 : Int) < _) ∧ _); omega), fun z => ⟨z, by show (0 : Int) ≤ _ ∧ _ ≤ (39 : Int); omega⟩, ⟨k_C_r rF_rf hr.1, ⟨hr.2.1.1, hr.2.1.2.1, hr.2.1.2.2⟩, hr.2.2⟩, ⟨ht.1, ht.2.1, ht.2.2.1, ht.2.2.2⟩, rF_rf⟩
    · refine g_aload_n rfl rfl ?_
      refine g_iconst rfl ⟨by decide, by decide⟩ ?_
      refine g_aload_n rfl rfl ?_
      refine x_geti (v := (t_s T len i)) rfl rfl (by decide) (Or.inl rfl) ht.2.2.1 ?_
      refine g_iV (as := [tI 2, tI (t_s T len i)]) mX5_note_ok rfl rfl rfl rfl rfl rfl (by decide) rfl rfl rfl ?_
      refine g_aload_n rfl rfl ?_
      refine x_geti (v := f) rfl rfl (by decide) (Or.inl rfl) hr.2.1.1 ?_
      refine g_if_ne (tgt := 17) rfl (by decide) (fun h4 => ?_) (fun h4 => ?_)
      · refine x_return rfl rfl ?_
        intro _
        refine x_return rfl rfl ?_
        exact ⟨rfl, f, p, t_chk_b (by show ¬ ((_ < (0 : Int) ∨ (39 : Int) < _) ∧ _); omega), fun z => ⟨z, by show (0 : Int) ≤ _ ∧ _ ≤ (39 : Int); omega⟩, ⟨k_C_r rF_rf hr.1, ⟨hr.2.1.1, hr.2.1.2.1, hr.2.1.2.2⟩, hr.2.2⟩, ⟨ht.1, ht.2.1, ht.2.2.1, ht.2.2.2⟩, rF_rf⟩
      · refine g_aload_n rfl rfl ?_
        refine g_iload_n rfl rfl ?_
        refine g_puti rfl rfl (by decide) rfl rfl ?_
        refine g_aload_n rfl rfl ?_
        refine g_iload_n rfl rfl ?_
        refine g_puti rfl rfl (by decide) rfl rfl ?_
        refine x_return rfl rfl ?_
        intro _
        refine x_return rfl rfl ?_
        exact ⟨rfl, 2, t_s T len i, t_chk_a (by show (_ < (0 : Int) ∨ (39 : Int) < _) ∧ _; omega), fun z => absurd z (by decide), ⟨k_C_r (rF_pi (by decide) (rF_pi (by decide) rF_rf)) hr.1, ⟨rfl, fun z => absurd z (by decide), fun _ => rfl⟩, hr.2.2⟩, ⟨ht.1, ht.2.1, ht.2.2.1, ht.2.2.2⟩, (rF_pi (by decide) (rF_pi (by decide) rF_rf))⟩
set_option maxHeartbeats 4000000 in
set_option maxRecDepth 100000 in
theorem s_cN13 {G : tp_G} {μ : tp_M} (hG : tp_Gf G = true) {T : Int → Int} {len f p it i : Int} {R : Int × Int × (Int → Int)} (hr : rs T len f p it μ) (ht : tk9 T len i μ) (hk : t_k T len i = 2) : tp_k G mX5_checkNumber [tR (some 41), tI 13] μ (fun r μ' => r = none ∧ ∃ f2 p2, t_chk 13 (t_v T len i) (t_s T len i) (f, p, it, R) = (f2, p2, it, R) ∧ (f2 = 0 → f = 0 ∧ t_lo 13 ≤ t_v T len i ∧ t_v T len i ≤ t_hi 13) ∧ rs T len f2 p2 it μ' ∧ tk9 T len i μ' ∧ rF μ μ') := by
  refine tp_ok_of mX5_checkNumber_ok rfl (Nat.le_refl _) ?_
  have hf8 := hr.2.1.1
  refine g_aload_n rfl rfl ?_
  refine x_geti (v := (t_v T len i)) rfl rfl (by decide) (Or.inl rfl) (ht.2.2.2 hk) ?_
  refine g_gets rfl ?_
  refine g_iload_n rfl rfl ?_
  refine x_sald (i0 := 5) (v := 0) rfl (by decide) (by decide) (by show _ < ((21 : Nat) : Int); decide) rfl ?_
  refine g_icmp_lt (tgt := 24) rfl (by decide) (fun h1 => ?_) (fun h1 => ?_)
  · refine g_aload_n rfl rfl ?_
    refine g_iconst rfl ⟨by decide, by decide⟩ ?_
    refine g_aload_n rfl rfl ?_
    refine x_geti (v := (t_s T len i)) rfl rfl (by decide) (Or.inl rfl) ht.2.2.1 ?_
    refine g_iV (as := [tI 2, tI (t_s T len i)]) mX5_note_ok rfl rfl rfl rfl rfl rfl (by decide) rfl rfl rfl ?_
    refine g_aload_n rfl rfl ?_
    refine x_geti (v := f) rfl rfl (by decide) (Or.inl rfl) hr.2.1.1 ?_
    refine g_if_ne (tgt := 17) rfl (by decide) (fun h2 => ?_) (fun h2 => ?_)
    · refine x_return rfl rfl ?_
      intro _
      refine x_return rfl rfl ?_
      exact ⟨rfl, f, p, t_chk_b (by show ¬ ((_ < (0 : Int) ∨ (2 : Int) < _) ∧ _); omega), fun z => ⟨z, by show (0 : Int) ≤ _ ∧ _ ≤ (2 : Int); omega⟩, ⟨k_C_r rF_rf hr.1, ⟨hr.2.1.1, hr.2.1.2.1, hr.2.1.2.2⟩, hr.2.2⟩, ⟨ht.1, ht.2.1, ht.2.2.1, ht.2.2.2⟩, rF_rf⟩
    · refine g_aload_n rfl rfl ?_
      refine g_iload_n rfl rfl ?_
      refine g_puti rfl rfl (by decide) rfl rfl ?_
      refine g_aload_n rfl rfl ?_
      refine g_iload_n rfl rfl ?_
      refine g_puti rfl rfl (by decide) rfl rfl ?_
      refine x_return rfl rfl ?_
      intro _
      refine x_return rfl rfl ?_
      exact ⟨rfl, 2, t_s T len i, t_chk_a (by show (_ < (0 : Int) ∨ (2 : Int) < _) ∧ _; omega), fun z => absurd z (by decide), ⟨k_C_r (rF_pi (by decide) (rF_pi (by decide) rF_rf)) hr.1, ⟨rfl, fun z => absurd z (by decide), fun _ => rfl⟩, hr.2.2⟩, ⟨ht.1, ht.2.1, ht.2.2.1, ht.2.2.2⟩, (rF_pi (by decide) (rF_pi (by decide) rF_rf))⟩
  · refine g_aload_n rfl rfl ?_
    refine x_geti (v := (t_v T len i)) rfl rfl (by decide) (Or.inl rfl) (ht.2.2.2 hk) ?_
    refine g_gets rfl ?_
    refine g_iload_n rfl rfl ?_
    refine x_sald (i0 := 6) (v := 2) rfl (by decide) (by decide) (by show _ < ((21 : Nat) : Int); decide) rfl ?_
    refine g_icmp_le (tgt := 33) rfl (by decide) (fun h3 => ?_) (fun h3 => ?_)
    · refine x_return rfl rfl ?_
      exact ⟨rfl, f, p, t_chk_b (by show ¬ ((_ < (0 : Int) ∨ (2 : Int) < _) ∧ _); omega), fun z => ⟨z, by show (0 : Int) ≤ _ ∧ _ ≤ (2 : Int); omega⟩, ⟨k_C_r rF_rf hr.1, ⟨hr.2.1.1, hr.2.1.2.1, hr.2.1.2.2⟩, hr.2.2⟩, ⟨ht.1, ht.2.1, ht.2.2.1, ht.2.2.2⟩, rF_rf⟩
    · refine g_aload_n rfl rfl ?_
      refine g_iconst rfl ⟨by decide, by decide⟩ ?_
      refine g_aload_n rfl rfl ?_
      refine x_geti (v := (t_s T len i)) rfl rfl (by decide) (Or.inl rfl) ht.2.2.1 ?_
      refine g_iV (as := [tI 2, tI (t_s T len i)]) mX5_note_ok rfl rfl rfl rfl rfl rfl (by decide) rfl rfl rfl ?_
      refine g_aload_n rfl rfl ?_
      refine x_geti (v := f) rfl rfl (by decide) (Or.inl rfl) hr.2.1.1 ?_
      refine g_if_ne (tgt := 17) rfl (by decide) (fun h4 => ?_) (fun h4 => ?_)
      · refine x_return rfl rfl ?_
        intro _
        refine x_return rfl rfl ?_
        exact ⟨rfl, f, p, t_chk_b (by show ¬ ((_ < (0 : Int) ∨ (2 : Int) < _) ∧ _); omega), fun z => ⟨z, by show (0 : Int) ≤ _ ∧ _ ≤ (2 : Int); omega⟩, ⟨k_C_r rF_rf hr.1, ⟨hr.2.1.1, hr.2.1.2.1, hr.2.1.2.2⟩, hr.2.2⟩, ⟨ht.1, ht.2.1, ht.2.2.1, ht.2.2.2⟩, rF_rf⟩
      · refine g_aload_n rfl rfl ?_
        refine g_iload_n rfl rfl ?_
        refine g_puti rfl rfl (by decide) rfl rfl ?_
        refine g_aload_n rfl rfl ?_
        refine g_iload_n rfl rfl ?_
        refine g_puti rfl rfl (by decide) rfl rfl ?_
        refine x_return rfl rfl ?_
        intro _
        refine x_return rfl rfl ?_
        exact ⟨rfl, 2, t_s T len i, t_chk_a (by show (_ < (0 : Int) ∨ (2 : Int) < _) ∧ _; omega), fun z => absurd z (by decide), ⟨k_C_r (rF_pi (by decide) (rF_pi (by decide) rF_rf)) hr.1, ⟨rfl, fun z => absurd z (by decide), fun _ => rfl⟩, hr.2.2⟩, ⟨ht.1, ht.2.1, ht.2.2.1, ht.2.2.2⟩, (rF_pi (by decide) (rF_pi (by decide) rF_rf))⟩
set_option maxHeartbeats 4000000 in
set_option maxRecDepth 100000 in
theorem s_cN14 {G : tp_G} {μ : tp_M} (hG : tp_Gf G = true) {T : Int → Int} {len f p it i : Int} {R : Int × Int × (Int → Int)} (hr : rs T len f p it μ) (ht : tk9 T len i μ) (hk : t_k T len i = 2) : tp_k G mX5_checkNumber [tR (some 41), tI 14] μ (fun r μ' => r = none ∧ ∃ f2 p2, t_chk 14 (t_v T len i) (t_s T len i) (f, p, it, R) = (f2, p2, it, R) ∧ (f2 = 0 → f = 0 ∧ t_lo 14 ≤ t_v T len i ∧ t_v T len i ≤ t_hi 14) ∧ rs T len f2 p2 it μ' ∧ tk9 T len i μ' ∧ rF μ μ') := by
  refine tp_ok_of mX5_checkNumber_ok rfl (Nat.le_refl _) ?_
  have hf8 := hr.2.1.1
  refine g_aload_n rfl rfl ?_
  refine x_geti (v := (t_v T len i)) rfl rfl (by decide) (Or.inl rfl) (ht.2.2.2 hk) ?_
  refine g_gets rfl ?_
  refine g_iload_n rfl rfl ?_
  refine x_sald (i0 := 5) (v := 3) rfl (by decide) (by decide) (by show _ < ((21 : Nat) : Int); decide) rfl ?_
  refine g_icmp_lt (tgt := 24) rfl (by decide) (fun h1 => ?_) (fun h1 => ?_)
  · refine g_aload_n rfl rfl ?_
    refine g_iconst rfl ⟨by decide, by decide⟩ ?_
    refine g_aload_n rfl rfl ?_
    refine x_geti (v := (t_s T len i)) rfl rfl (by decide) (Or.inl rfl) ht.2.2.1 ?_
    refine g_iV (as := [tI 2, tI (t_s T len i)]) mX5_note_ok rfl rfl rfl rfl rfl rfl (by decide) rfl rfl rfl ?_
    refine g_aload_n rfl rfl ?_
    refine x_geti (v := f) rfl rfl (by decide) (Or.inl rfl) hr.2.1.1 ?_
    refine g_if_ne (tgt := 17) rfl (by decide) (fun h2 => ?_) (fun h2 => ?_)
    · refine x_return rfl rfl ?_
      intro _
      refine x_return rfl rfl ?_
      exact ⟨rfl, f, p, t_chk_b (by show ¬ ((_ < (3 : Int) ∨ (9 : Int) < _) ∧ _); omega), fun z => ⟨z, by show (3 : Int) ≤ _ ∧ _ ≤ (9 : Int); omega⟩, ⟨k_C_r rF_rf hr.1, ⟨hr.2.1.1, hr.2.1.2.1, hr.2.1.2.2⟩, hr.2.2⟩, ⟨ht.1, ht.2.1, ht.2.2.1, ht.2.2.2⟩, rF_rf⟩
    · refine g_aload_n rfl rfl ?_
      refine g_iload_n rfl rfl ?_
      refine g_puti rfl rfl (by decide) rfl rfl ?_
      refine g_aload_n rfl rfl ?_
      refine g_iload_n rfl rfl ?_
      refine g_puti rfl rfl (by decide) rfl rfl ?_
      refine x_return rfl rfl ?_
      intro _
      refine x_return rfl rfl ?_
      exact ⟨rfl, 2, t_s T len i, t_chk_a (by show (_ < (3 : Int) ∨ (9 : Int) < _) ∧ _; omega), fun z => absurd z (by decide), ⟨k_C_r (rF_pi (by decide) (rF_pi (by decide) rF_rf)) hr.1, ⟨rfl, fun z => absurd z (by decide), fun _ => rfl⟩, hr.2.2⟩, ⟨ht.1, ht.2.1, ht.2.2.1, ht.2.2.2⟩, (rF_pi (by decide) (rF_pi (by decide) rF_rf))⟩
  · refine g_aload_n rfl rfl ?_
    refine x_geti (v := (t_v T len i)) rfl rfl (by decide) (Or.inl rfl) (ht.2.2.2 hk) ?_
    refine g_gets rfl ?_
    refine g_iload_n rfl rfl ?_
    refine x_sald (i0 := 6) (v := 9) rfl (by decide) (by decide) (by show _ < ((21 : Nat) : Int); decide) rfl ?_
    refine g_icmp_le (tgt := 33) rfl (by decide) (fun h3 => ?_) (fun h3 => ?_)
    · refine x_return rfl rfl ?_
      exact ⟨rfl, f, p, t_chk_b (by show ¬ ((_ < (3 : Int) ∨ (9 : Int) < _) ∧ _); omega), fun z => ⟨z, by show (3 : Int) ≤ _ ∧ _ ≤ (9 : Int); omega⟩, ⟨k_C_r rF_rf hr.1, ⟨hr.2.1.1, hr.2.1.2.1, hr.2.1.2.2⟩, hr.2.2⟩, ⟨ht.1, ht.2.1, ht.2.2.1, ht.2.2.2⟩, rF_rf⟩
    · refine g_aload_n rfl rfl ?_
      refine g_iconst rfl ⟨by decide, by decide⟩ ?_
      refine g_aload_n rfl rfl ?_
      refine x_geti (v := (t_s T len i)) rfl rfl (by decide) (Or.inl rfl) ht.2.2.1 ?_
      refine g_iV (as := [tI 2, tI (t_s T len i)]) mX5_note_ok rfl rfl rfl rfl rfl rfl (by decide) rfl rfl rfl ?_
      refine g_aload_n rfl rfl ?_
      refine x_geti (v := f) rfl rfl (by decide) (Or.inl rfl) hr.2.1.1 ?_
      refine g_if_ne (tgt := 17) rfl (by decide) (fun h4 => ?_) (fun h4 => ?_)
      · refine x_return rfl rfl ?_
        intro _
        refine x_return rfl rfl ?_
        exact ⟨rfl, f, p, t_chk_b (by show ¬ ((_ < (3 : Int) ∨ (9 : Int) < _) ∧ _); omega), fun z => ⟨z, by show (3 : Int) ≤ _ ∧ _ ≤ (9 : Int); omega⟩, ⟨k_C_r rF_rf hr.1, ⟨hr.2.1.1, hr.2.1.2.1, hr.2.1.2.2⟩, hr.2.2⟩, ⟨ht.1, ht.2.1, ht.2.2.1, ht.2.2.2⟩, rF_rf⟩
      · refine g_aload_n rfl rfl ?_
        refine g_iload_n rfl rfl ?_
        refine g_puti rfl rfl (by decide) rfl rfl ?_
        refine g_aload_n rfl rfl ?_
        refine g_iload_n rfl rfl ?_
        refine g_puti rfl rfl (by decide) rfl rfl ?_
        refine x_return rfl rfl ?_
        intro _
        refine x_return rfl rfl ?_
        exact ⟨rfl, 2, t_s T len i, t_chk_a (by show (_ < (3 : Int) ∨ (9 : Int) < _) ∧ _; omega), fun z => absurd z (by decide), ⟨k_C_r (rF_pi (by decide) (rF_pi (by decide) rF_rf)) hr.1, ⟨rfl, fun z => absurd z (by decide), fun _ => rfl⟩, hr.2.2⟩, ⟨ht.1, ht.2.1, ht.2.2.1, ht.2.2.2⟩, (rF_pi (by decide) (rF_pi (by decide) rF_rf))⟩
set_option maxHeartbeats 4000000 in
set_option maxRecDepth 100000 in
theorem s_cN15 {G : tp_G} {μ : tp_M} (hG : tp_Gf G = true) {T : Int → Int} {len f p it i : Int} {R : Int × Int × (Int → Int)} (hr : rs T len f p it μ) (ht : tk9 T len i μ) (hk : t_k T len i = 2) : tp_k G mX5_checkNumber [tR (some 41), tI 15] μ (fun r μ' => r = none ∧ ∃ f2 p2, t_chk 15 (t_v T len i) (t_s T len i) (f, p, it, R) = (f2, p2, it, R) ∧ (f2 = 0 → f = 0 ∧ t_lo 15 ≤ t_v T len i ∧ t_v T len i ≤ t_hi 15) ∧ rs T len f2 p2 it μ' ∧ tk9 T len i μ' ∧ rF μ μ') := by
  refine tp_ok_of mX5_checkNumber_ok rfl (Nat.le_refl _) ?_
  have hf8 := hr.2.1.1
  refine g_aload_n rfl rfl ?_
  refine x_geti (v := (t_v T len i)) rfl rfl (by decide) (Or.inl rfl) (ht.2.2.2 hk) ?_
  refine g_gets rfl ?_
  refine g_iload_n rfl rfl ?_
  refine x_sald (i0 := 5) (v := 1) rfl (by decide) (by decide) (by show _ < ((21 : Nat) : Int); decide) rfl ?_
  refine g_icmp_lt (tgt := 24) rfl (by decide) (fun h1 => ?_) (fun h1 => ?_)
  · refine g_aload_n rfl rfl ?_
    refine g_iconst rfl ⟨by decide, by decide⟩ ?_
    refine g_aload_n rfl rfl ?_
    refine x_geti (v := (t_s T len i)) rfl rfl (by decide) (Or.inl rfl) ht.2.2.1 ?_
    refine g_iV (as := [tI 2, tI (t_s T len i)]) mX5_note_ok rfl rfl rfl rfl rfl rfl (by decide) rfl rfl rfl ?_
    refine g_aload_n rfl rfl ?_
    refine x_geti (v := f) rfl rfl (by decide) (Or.inl rfl) hr.2.1.1 ?_
    refine g_if_ne (tgt := 17) rfl (by decide) (fun h2 => ?_) (fun h2 => ?_)
    · refine x_return rfl rfl ?_
      intro _
      refine x_return rfl rfl ?_
      exact ⟨rfl, f, p, t_chk_b (by show ¬ ((_ < (1 : Int) ∨ (9 : Int) < _) ∧ _); omega), fun z => ⟨z, by show (1 : Int) ≤ _ ∧ _ ≤ (9 : Int); omega⟩, ⟨k_C_r rF_rf hr.1, ⟨hr.2.1.1, hr.2.1.2.1, hr.2.1.2.2⟩, hr.2.2⟩, ⟨ht.1, ht.2.1, ht.2.2.1, ht.2.2.2⟩, rF_rf⟩
    · refine g_aload_n rfl rfl ?_
      refine g_iload_n rfl rfl ?_
      refine g_puti rfl rfl (by decide) rfl rfl ?_
      refine g_aload_n rfl rfl ?_
      refine g_iload_n rfl rfl ?_
      refine g_puti rfl rfl (by decide) rfl rfl ?_
      refine x_return rfl rfl ?_
      intro _
      refine x_return rfl rfl ?_
      exact ⟨rfl, 2, t_s T len i, t_chk_a (by show (_ < (1 : Int) ∨ (9 : Int) < _) ∧ _; omega), fun z => absurd z (by decide), ⟨k_C_r (rF_pi (by decide) (rF_pi (by decide) rF_rf)) hr.1, ⟨rfl, fun z => absurd z (by decide), fun _ => rfl⟩, hr.2.2⟩, ⟨ht.1, ht.2.1, ht.2.2.1, ht.2.2.2⟩, (rF_pi (by decide) (rF_pi (by decide) rF_rf))⟩
  · refine g_aload_n rfl rfl ?_
    refine x_geti (v := (t_v T len i)) rfl rfl (by decide) (Or.inl rfl) (ht.2.2.2 hk) ?_
    refine g_gets rfl ?_
    refine g_iload_n rfl rfl ?_
    refine x_sald (i0 := 6) (v := 9) rfl (by decide) (by decide) (by show _ < ((21 : Nat) : Int); decide) rfl ?_
    refine g_icmp_le (tgt := 33) rfl (by decide) (fun h3 => ?_) (fun h3 => ?_)
    · refine x_return rfl rfl ?_
      exact ⟨rfl, f, p, t_chk_b (by show ¬ ((_ < (1 : Int) ∨ (9 : Int) < _) ∧ _); omega), fun z => ⟨z, by show (1 : Int) ≤ _ ∧ _ ≤ (9 : Int); omega⟩, ⟨k_C_r rF_rf hr.1, ⟨hr.2.1.1, hr.2.1.2.1, hr.2.1.2.2⟩, hr.2.2⟩, ⟨ht.1, ht.2.1, ht.2.2.1, ht.2.2.2⟩, rF_rf⟩
    · refine g_aload_n rfl rfl ?_
      refine g_iconst rfl ⟨by decide, by decide⟩ ?_
      refine g_aload_n rfl rfl ?_
      refine x_geti (v := (t_s T len i)) rfl rfl (by decide) (Or.inl rfl) ht.2.2.1 ?_
      refine g_iV (as := [tI 2, tI (t_s T len i)]) mX5_note_ok rfl rfl rfl rfl rfl rfl (by decide) rfl rfl rfl ?_
      refine g_aload_n rfl rfl ?_
      refine x_geti (v := f) rfl rfl (by decide) (Or.inl rfl) hr.2.1.1 ?_
      refine g_if_ne (tgt := 17) rfl (by decide) (fun h4 => ?_) (fun h4 => ?_)
      · refine x_return rfl rfl ?_
        intro _
        refine x_return rfl rfl ?_
        exact ⟨rfl, f, p, t_chk_b (by show ¬ ((_ < (1 : Int) ∨ (9 : Int) < _) ∧ _); omega), fun z => ⟨z, by show (1 : Int) ≤ _ ∧ _ ≤ (9 : Int); omega⟩, ⟨k_C_r rF_rf hr.1, ⟨hr.2.1.1, hr.2.1.2.1, hr.2.1.2.2⟩, hr.2.2⟩, ⟨ht.1, ht.2.1, ht.2.2.1, ht.2.2.2⟩, rF_rf⟩
      · refine g_aload_n rfl rfl ?_
        refine g_iload_n rfl rfl ?_
        refine g_puti rfl rfl (by decide) rfl rfl ?_
        refine g_aload_n rfl rfl ?_
        refine g_iload_n rfl rfl ?_
        refine g_puti rfl rfl (by decide) rfl rfl ?_
        refine x_return rfl rfl ?_
        intro _
        refine x_return rfl rfl ?_
        exact ⟨rfl, 2, t_s T len i, t_chk_a (by show (_ < (1 : Int) ∨ (9 : Int) < _) ∧ _; omega), fun z => absurd z (by decide), ⟨k_C_r (rF_pi (by decide) (rF_pi (by decide) rF_rf)) hr.1, ⟨rfl, fun z => absurd z (by decide), fun _ => rfl⟩, hr.2.2⟩, ⟨ht.1, ht.2.1, ht.2.2.1, ht.2.2.2⟩, (rF_pi (by decide) (rF_pi (by decide) rF_rf))⟩
set_option maxHeartbeats 4000000 in
set_option maxRecDepth 100000 in
theorem s_cN18 {G : tp_G} {μ : tp_M} (hG : tp_Gf G = true) {T : Int → Int} {len f p it i : Int} {R : Int × Int × (Int → Int)} (hr : rs T len f p it μ) (ht : tk9 T len i μ) (hk : t_k T len i = 2) : tp_k G mX5_checkNumber [tR (some 41), tI 18] μ (fun r μ' => r = none ∧ ∃ f2 p2, t_chk 18 (t_v T len i) (t_s T len i) (f, p, it, R) = (f2, p2, it, R) ∧ (f2 = 0 → f = 0 ∧ t_lo 18 ≤ t_v T len i ∧ t_v T len i ≤ t_hi 18) ∧ rs T len f2 p2 it μ' ∧ tk9 T len i μ' ∧ rF μ μ') := by
  refine tp_ok_of mX5_checkNumber_ok rfl (Nat.le_refl _) ?_
  have hf8 := hr.2.1.1
  refine g_aload_n rfl rfl ?_
  refine x_geti (v := (t_v T len i)) rfl rfl (by decide) (Or.inl rfl) (ht.2.2.2 hk) ?_
  refine g_gets rfl ?_
  refine g_iload_n rfl rfl ?_
  refine x_sald (i0 := 5) (v := 0) rfl (by decide) (by decide) (by show _ < ((21 : Nat) : Int); decide) rfl ?_
  refine g_icmp_lt (tgt := 24) rfl (by decide) (fun h1 => ?_) (fun h1 => ?_)
  · refine g_aload_n rfl rfl ?_
    refine g_iconst rfl ⟨by decide, by decide⟩ ?_
    refine g_aload_n rfl rfl ?_
    refine x_geti (v := (t_s T len i)) rfl rfl (by decide) (Or.inl rfl) ht.2.2.1 ?_
    refine g_iV (as := [tI 2, tI (t_s T len i)]) mX5_note_ok rfl rfl rfl rfl rfl rfl (by decide) rfl rfl rfl ?_
    refine g_aload_n rfl rfl ?_
    refine x_geti (v := f) rfl rfl (by decide) (Or.inl rfl) hr.2.1.1 ?_
    refine g_if_ne (tgt := 17) rfl (by decide) (fun h2 => ?_) (fun h2 => ?_)
    · refine x_return rfl rfl ?_
      intro _
      refine x_return rfl rfl ?_
      exact ⟨rfl, f, p, t_chk_b (by show ¬ ((_ < (0 : Int) ∨ (39 : Int) < _) ∧ _); omega), fun z => ⟨z, by show (0 : Int) ≤ _ ∧ _ ≤ (39 : Int); omega⟩, ⟨k_C_r rF_rf hr.1, ⟨hr.2.1.1, hr.2.1.2.1, hr.2.1.2.2⟩, hr.2.2⟩, ⟨ht.1, ht.2.1, ht.2.2.1, ht.2.2.2⟩, rF_rf⟩
    · refine g_aload_n rfl rfl ?_
      refine g_iload_n rfl rfl ?_
      refine g_puti rfl rfl (by decide) rfl rfl ?_
      refine g_aload_n rfl rfl ?_
      refine g_iload_n rfl rfl ?_
      refine g_puti rfl rfl (by decide) rfl rfl ?_
      refine x_return rfl rfl ?_
      intro _
      refine x_return rfl rfl ?_
      exact ⟨rfl, 2, t_s T len i, t_chk_a (by show (_ < (0 : Int) ∨ (39 : Int) < _) ∧ _; omega), fun z => absurd z (by decide), ⟨k_C_r (rF_pi (by decide) (rF_pi (by decide) rF_rf)) hr.1, ⟨rfl, fun z => absurd z (by decide), fun _ => rfl⟩, hr.2.2⟩, ⟨ht.1, ht.2.1, ht.2.2.1, ht.2.2.2⟩, (rF_pi (by decide) (rF_pi (by decide) rF_rf))⟩
  · refine g_aload_n rfl rfl ?_
    refine x_geti (v := (t_v T len i)) rfl rfl (by decide) (Or.inl rfl) (ht.2.2.2 hk) ?_
    refine g_gets rfl ?_
    refine g_iload_n rfl rfl ?_
    refine x_sald (i0 := 6) (v := 39) rfl (by decide) (by decide) (by show _ < ((21 : Nat) : Int); decide) rfl ?_
    refine g_icmp_le (tgt := 33) rfl (by decide) (fun h3 => ?_) (fun h3 => ?_)
    · refine x_return rfl rfl ?_
      exact ⟨rfl, f, p, t_chk_b (by show ¬ ((_ < (0 : Int) ∨ (39 : Int) < _) ∧ _); omega), fun z => ⟨z, by show (0 : Int) ≤ _ ∧ _ ≤ (39 : Int); omega⟩, ⟨k_C_r rF_rf hr.1, ⟨hr.2.1.1, hr.2.1.2.1, hr.2.1.2.2⟩, hr.2.2⟩, ⟨ht.1, ht.2.1, ht.2.2.1, ht.2.2.2⟩, rF_rf⟩
    · refine g_aload_n rfl rfl ?_
      refine g_iconst rfl ⟨by decide, by decide⟩ ?_
      refine g_aload_n rfl rfl ?_
      refine x_geti (v := (t_s T len i)) rfl rfl (by decide) (Or.inl rfl) ht.2.2.1 ?_
      refine g_iV (as := [tI 2, tI (t_s T len i)]) mX5_note_ok rfl rfl rfl rfl rfl rfl (by decide) rfl rfl rfl ?_
      refine g_aload_n rfl rfl ?_
      refine x_geti (v := f) rfl rfl (by decide) (Or.inl rfl) hr.2.1.1 ?_
      refine g_if_ne (tgt := 17) rfl (by decide) (fun h4 => ?_) (fun h4 => ?_)
      · refine x_return rfl rfl ?_
        intro _
        refine x_return rfl rfl ?_
        exact ⟨rfl, f, p, t_chk_b (by show ¬ ((_ < (0 : Int) ∨ (39 : Int) < _) ∧ _); omega), fun z => ⟨z, by show (0 : Int) ≤ _ ∧ _ ≤ (39 : Int); omega⟩, ⟨k_C_r rF_rf hr.1, ⟨hr.2.1.1, hr.2.1.2.1, hr.2.1.2.2⟩, hr.2.2⟩, ⟨ht.1, ht.2.1, ht.2.2.1, ht.2.2.2⟩, rF_rf⟩
      · refine g_aload_n rfl rfl ?_
        refine g_iload_n rfl rfl ?_
        refine g_puti rfl rfl (by decide) rfl rfl ?_
        refine g_aload_n rfl rfl ?_
        refine g_iload_n rfl rfl ?_
        refine g_puti rfl rfl (by decide) rfl rfl ?_
        refine x_return rfl rfl ?_
        intro _
        refine x_return rfl rfl ?_
        exact ⟨rfl, 2, t_s T len i, t_chk_a (by show (_ < (0 : Int) ∨ (39 : Int) < _) ∧ _; omega), fun z => absurd z (by decide), ⟨k_C_r (rF_pi (by decide) (rF_pi (by decide) rF_rf)) hr.1, ⟨rfl, fun z => absurd z (by decide), fun _ => rfl⟩, hr.2.2⟩, ⟨ht.1, ht.2.1, ht.2.2.1, ht.2.2.2⟩, (rF_pi (by decide) (rF_pi (by decide) rF_rf))⟩
set_option maxHeartbeats 4000000 in
set_option maxRecDepth 100000 in
theorem s_cN19 {G : tp_G} {μ : tp_M} (hG : tp_Gf G = true) {T : Int → Int} {len f p it i : Int} {R : Int × Int × (Int → Int)} (hr : rs T len f p it μ) (ht : tk9 T len i μ) (hk : t_k T len i = 2) : tp_k G mX5_checkNumber [tR (some 41), tI 19] μ (fun r μ' => r = none ∧ ∃ f2 p2, t_chk 19 (t_v T len i) (t_s T len i) (f, p, it, R) = (f2, p2, it, R) ∧ (f2 = 0 → f = 0 ∧ t_lo 19 ≤ t_v T len i ∧ t_v T len i ≤ t_hi 19) ∧ rs T len f2 p2 it μ' ∧ tk9 T len i μ' ∧ rF μ μ') := by
  refine tp_ok_of mX5_checkNumber_ok rfl (Nat.le_refl _) ?_
  have hf8 := hr.2.1.1
  refine g_aload_n rfl rfl ?_
  refine x_geti (v := (t_v T len i)) rfl rfl (by decide) (Or.inl rfl) (ht.2.2.2 hk) ?_
  refine g_gets rfl ?_
  refine g_iload_n rfl rfl ?_
  refine x_sald (i0 := 5) (v := 0) rfl (by decide) (by decide) (by show _ < ((21 : Nat) : Int); decide) rfl ?_
  refine g_icmp_lt (tgt := 24) rfl (by decide) (fun h1 => ?_) (fun h1 => ?_)
  · refine g_aload_n rfl rfl ?_
    refine g_iconst rfl ⟨by decide, by decide⟩ ?_
    refine g_aload_n rfl rfl ?_
    refine x_geti (v := (t_s T len i)) rfl rfl (by decide) (Or.inl rfl) ht.2.2.1 ?_
    refine g_iV (as := [tI 2, tI (t_s T len i)]) mX5_note_ok rfl rfl rfl rfl rfl rfl (by decide) rfl rfl rfl ?_
    refine g_aload_n rfl rfl ?_
    refine x_geti (v := f) rfl rfl (by decide) (Or.inl rfl) hr.2.1.1 ?_
    refine g_if_ne (tgt := 17) rfl (by decide) (fun h2 => ?_) (fun h2 => ?_)
    · refine x_return rfl rfl ?_
      intro _
      refine x_return rfl rfl ?_
      exact ⟨rfl, f, p, t_chk_b (by show ¬ ((_ < (0 : Int) ∨ (99 : Int) < _) ∧ _); omega), fun z => ⟨z, by show (0 : Int) ≤ _ ∧ _ ≤ (99 : Int); omega⟩, ⟨k_C_r rF_rf hr.1, ⟨hr.2.1.1, hr.2.1.2.1, hr.2.1.2.2⟩, hr.2.2⟩, ⟨ht.1, ht.2.1, ht.2.2.1, ht.2.2.2⟩, rF_rf⟩
    · refine g_aload_n rfl rfl ?_
      refine g_iload_n rfl rfl ?_
      refine g_puti rfl rfl (by decide) rfl rfl ?_
      refine g_aload_n rfl rfl ?_
      refine g_iload_n rfl rfl ?_
      refine g_puti rfl rfl (by decide) rfl rfl ?_
      refine x_return rfl rfl ?_
      intro _
      refine x_return rfl rfl ?_
      exact ⟨rfl, 2, t_s T len i, t_chk_a (by show (_ < (0 : Int) ∨ (99 : Int) < _) ∧ _; omega), fun z => absurd z (by decide), ⟨k_C_r (rF_pi (by decide) (rF_pi (by decide) rF_rf)) hr.1, ⟨rfl, fun z => absurd z (by decide), fun _ => rfl⟩, hr.2.2⟩, ⟨ht.1, ht.2.1, ht.2.2.1, ht.2.2.2⟩, (rF_pi (by decide) (rF_pi (by decide) rF_rf))⟩
  · refine g_aload_n rfl rfl ?_
    refine x_geti (v := (t_v T len i)) rfl rfl (by decide) (Or.inl rfl) (ht.2.2.2 hk) ?_
    refine g_gets rfl ?_
    refine g_iload_n rfl rfl ?_
    refine x_sald (i0 := 6) (v := 99) rfl (by decide) (by decide) (by show _ < ((21 : Nat) : Int); decide) rfl ?_
    refine g_icmp_le (tgt := 33) rfl (by decide) (fun h3 => ?_) (fun h3 => ?_)
    · refine x_return rfl rfl ?_
      exact ⟨rfl, f, p, t_chk_b (by show ¬ ((_ < (0 : Int) ∨ (99 : Int) < _) ∧ _); omega), fun z => ⟨z, by show (0 : Int) ≤ _ ∧ _ ≤ (99 : Int); omega⟩, ⟨k_C_r rF_rf hr.1, ⟨hr.2.1.1, hr.2.1.2.1, hr.2.1.2.2⟩, hr.2.2⟩, ⟨ht.1, ht.2.1, ht.2.2.1, ht.2.2.2⟩, rF_rf⟩
    · refine g_aload_n rfl rfl ?_
      refine g_iconst rfl ⟨by decide, by decide⟩ ?_
      refine g_aload_n rfl rfl ?_
      refine x_geti (v := (t_s T len i)) rfl rfl (by decide) (Or.inl rfl) ht.2.2.1 ?_
      refine g_iV (as := [tI 2, tI (t_s T len i)]) mX5_note_ok rfl rfl rfl rfl rfl rfl (by decide) rfl rfl rfl ?_
      refine g_aload_n rfl rfl ?_
      refine x_geti (v := f) rfl rfl (by decide) (Or.inl rfl) hr.2.1.1 ?_
      refine g_if_ne (tgt := 17) rfl (by decide) (fun h4 => ?_) (fun h4 => ?_)
      · refine x_return rfl rfl ?_
        intro _
        refine x_return rfl rfl ?_
        exact ⟨rfl, f, p, t_chk_b (by show ¬ ((_ < (0 : Int) ∨ (99 : Int) < _) ∧ _); omega), fun z => ⟨z, by show (0 : Int) ≤ _ ∧ _ ≤ (99 : Int); omega⟩, ⟨k_C_r rF_rf hr.1, ⟨hr.2.1.1, hr.2.1.2.1, hr.2.1.2.2⟩, hr.2.2⟩, ⟨ht.1, ht.2.1, ht.2.2.1, ht.2.2.2⟩, rF_rf⟩
      · refine g_aload_n rfl rfl ?_
        refine g_iload_n rfl rfl ?_
        refine g_puti rfl rfl (by decide) rfl rfl ?_
        refine g_aload_n rfl rfl ?_
        refine g_iload_n rfl rfl ?_
        refine g_puti rfl rfl (by decide) rfl rfl ?_
        refine x_return rfl rfl ?_
        intro _
        refine x_return rfl rfl ?_
        exact ⟨rfl, 2, t_s T len i, t_chk_a (by show (_ < (0 : Int) ∨ (99 : Int) < _) ∧ _; omega), fun z => absurd z (by decide), ⟨k_C_r (rF_pi (by decide) (rF_pi (by decide) rF_rf)) hr.1, ⟨rfl, fun z => absurd z (by decide), fun _ => rfl⟩, hr.2.2⟩, ⟨ht.1, ht.2.1, ht.2.2.1, ht.2.2.2⟩, (rF_pi (by decide) (rF_pi (by decide) rF_rf))⟩
set_option maxHeartbeats 4000000 in
set_option maxRecDepth 100000 in
theorem s_cN20 {G : tp_G} {μ : tp_M} (hG : tp_Gf G = true) {T : Int → Int} {len f p it i : Int} {R : Int × Int × (Int → Int)} (hr : rs T len f p it μ) (ht : tk9 T len i μ) (hk : t_k T len i = 2) : tp_k G mX5_checkNumber [tR (some 41), tI 20] μ (fun r μ' => r = none ∧ ∃ f2 p2, t_chk 20 (t_v T len i) (t_s T len i) (f, p, it, R) = (f2, p2, it, R) ∧ (f2 = 0 → f = 0 ∧ t_lo 20 ≤ t_v T len i ∧ t_v T len i ≤ t_hi 20) ∧ rs T len f2 p2 it μ' ∧ tk9 T len i μ' ∧ rF μ μ') := by
  refine tp_ok_of mX5_checkNumber_ok rfl (Nat.le_refl _) ?_
  have hf8 := hr.2.1.1
  refine g_aload_n rfl rfl ?_
  refine x_geti (v := (t_v T len i)) rfl rfl (by decide) (Or.inl rfl) (ht.2.2.2 hk) ?_
  refine g_gets rfl ?_
  refine g_iload_n rfl rfl ?_
  refine x_sald (i0 := 5) (v := 0) rfl (by decide) (by decide) (by show _ < ((21 : Nat) : Int); decide) rfl ?_
  refine g_icmp_lt (tgt := 24) rfl (by decide) (fun h1 => ?_) (fun h1 => ?_)
  · refine g_aload_n rfl rfl ?_
    refine g_iconst rfl ⟨by decide, by decide⟩ ?_
    refine g_aload_n rfl rfl ?_
    refine x_geti (v := (t_s T len i)) rfl rfl (by decide) (Or.inl rfl) ht.2.2.1 ?_
    refine g_iV (as := [tI 2, tI (t_s T len i)]) mX5_note_ok rfl rfl rfl rfl rfl rfl (by decide) rfl rfl rfl ?_
    refine g_aload_n rfl rfl ?_
    refine x_geti (v := f) rfl rfl (by decide) (Or.inl rfl) hr.2.1.1 ?_
    refine g_if_ne (tgt := 17) rfl (by decide) (fun h2 => ?_) (fun h2 => ?_)
    · refine x_return rfl rfl ?_
      intro _
      refine x_return rfl rfl ?_
      exact ⟨rfl, f, p, t_chk_b (by show ¬ ((_ < (0 : Int) ∨ (39 : Int) < _) ∧ _); omega), fun z => ⟨z, by show (0 : Int) ≤ _ ∧ _ ≤ (39 : Int); omega⟩, ⟨k_C_r rF_rf hr.1, ⟨hr.2.1.1, hr.2.1.2.1, hr.2.1.2.2⟩, hr.2.2⟩, ⟨ht.1, ht.2.1, ht.2.2.1, ht.2.2.2⟩, rF_rf⟩
    · refine g_aload_n rfl rfl ?_
      refine g_iload_n rfl rfl ?_
      refine g_puti rfl rfl (by decide) rfl rfl ?_
      refine g_aload_n rfl rfl ?_
      refine g_iload_n rfl rfl ?_
      refine g_puti rfl rfl (by decide) rfl rfl ?_
      refine x_return rfl rfl ?_
      intro _
      refine x_return rfl rfl ?_
      exact ⟨rfl, 2, t_s T len i, t_chk_a (by show (_ < (0 : Int) ∨ (39 : Int) < _) ∧ _; omega), fun z => absurd z (by decide), ⟨k_C_r (rF_pi (by decide) (rF_pi (by decide) rF_rf)) hr.1, ⟨rfl, fun z => absurd z (by decide), fun _ => rfl⟩, hr.2.2⟩, ⟨ht.1, ht.2.1, ht.2.2.1, ht.2.2.2⟩, (rF_pi (by decide) (rF_pi (by decide) rF_rf))⟩
  · refine g_aload_n rfl rfl ?_
    refine x_geti (v := (t_v T len i)) rfl rfl (by decide) (Or.inl rfl) (ht.2.2.2 hk) ?_
    refine g_gets rfl ?_
    refine g_iload_n rfl rfl ?_
    refine x_sald (i0 := 6) (v := 39) rfl (by decide) (by decide) (by show _ < ((21 : Nat) : Int); decide) rfl ?_
    refine g_icmp_le (tgt := 33) rfl (by decide) (fun h3 => ?_) (fun h3 => ?_)
    · refine x_return rfl rfl ?_
      exact ⟨rfl, f, p, t_chk_b (by show ¬ ((_ < (0 : Int) ∨ (39 : Int) < _) ∧ _); omega), fun z => ⟨z, by show (0 : Int) ≤ _ ∧ _ ≤ (39 : Int); omega⟩, ⟨k_C_r rF_rf hr.1, ⟨hr.2.1.1, hr.2.1.2.1, hr.2.1.2.2⟩, hr.2.2⟩, ⟨ht.1, ht.2.1, ht.2.2.1, ht.2.2.2⟩, rF_rf⟩
    · refine g_aload_n rfl rfl ?_
      refine g_iconst rfl ⟨by decide, by decide⟩ ?_
      refine g_aload_n rfl rfl ?_
      refine x_geti (v := (t_s T len i)) rfl rfl (by decide) (Or.inl rfl) ht.2.2.1 ?_
      refine g_iV (as := [tI 2, tI (t_s T len i)]) mX5_note_ok rfl rfl rfl rfl rfl rfl (by decide) rfl rfl rfl ?_
      refine g_aload_n rfl rfl ?_
      refine x_geti (v := f) rfl rfl (by decide) (Or.inl rfl) hr.2.1.1 ?_
      refine g_if_ne (tgt := 17) rfl (by decide) (fun h4 => ?_) (fun h4 => ?_)
      · refine x_return rfl rfl ?_
        intro _
        refine x_return rfl rfl ?_
        exact ⟨rfl, f, p, t_chk_b (by show ¬ ((_ < (0 : Int) ∨ (39 : Int) < _) ∧ _); omega), fun z => ⟨z, by show (0 : Int) ≤ _ ∧ _ ≤ (39 : Int); omega⟩, ⟨k_C_r rF_rf hr.1, ⟨hr.2.1.1, hr.2.1.2.1, hr.2.1.2.2⟩, hr.2.2⟩, ⟨ht.1, ht.2.1, ht.2.2.1, ht.2.2.2⟩, rF_rf⟩
      · refine g_aload_n rfl rfl ?_
        refine g_iload_n rfl rfl ?_
        refine g_puti rfl rfl (by decide) rfl rfl ?_
        refine g_aload_n rfl rfl ?_
        refine g_iload_n rfl rfl ?_
        refine g_puti rfl rfl (by decide) rfl rfl ?_
        refine x_return rfl rfl ?_
        intro _
        refine x_return rfl rfl ?_
        exact ⟨rfl, 2, t_s T len i, t_chk_a (by show (_ < (0 : Int) ∨ (39 : Int) < _) ∧ _; omega), fun z => absurd z (by decide), ⟨k_C_r (rF_pi (by decide) (rF_pi (by decide) rF_rf)) hr.1, ⟨rfl, fun z => absurd z (by decide), fun _ => rfl⟩, hr.2.2⟩, ⟨ht.1, ht.2.1, ht.2.2.1, ht.2.2.2⟩, (rF_pi (by decide) (rF_pi (by decide) rF_rf))⟩
