/-! blocks: the best head, its weight, the head now, the weight now -/
noncomputable def q_bn (f V : Int → Int) (k : Int) (s : Int × Int × Int × Int) : Int × Int × Int × Int :=
  (if s.2.1 < (if q_hd f k = 1 then 0 else s.2.2.2) + V k then (if q_hd f k = 1 then k else s.2.2.1) else s.1, max s.2.1 ((if q_hd f k = 1 then 0 else s.2.2.2) + V k), (if q_hd f k = 1 then k else s.2.2.1), (if q_hd f k = 1 then 0 else s.2.2.2) + V k)
noncomputable def q_bl (f V : Int → Int) : Nat → Int × Int × Int × Int
  | 0 => (-1, 0, -1, 0)
  | n + 1 => q_bn f V n (q_bl f V n)
noncomputable def q_bk (f V : Int → Int) (k : Int) : Int × Int × Int × Int := q_bl f V k.toNat
theorem q_bk_s {f V : Int → Int} {k b m h x b' m' h' x' : Int} (h0 : 0 ≤ k) (hI : q_bk f V k = (b, m, h, x)) (hd : (q_hd f k = 1 ∧ h' = k ∧ x' = V k) ∨ (q_hd f k = 0 ∧ h' = h ∧ x' = x + V k)) (hg : (m < x' ∧ b' = h' ∧ m' = x') ∨ (x' ≤ m ∧ b' = b ∧ m' = m)) : q_bk f V (k + 1) = (b', m', h', x') := by
  have e : q_bk f V (k + 1) = q_bn f V k (q_bk f V k) := by
    unfold q_bk
    rw [show (k + 1).toNat = k.toNat + 1 by omega]
    show q_bn f V (k.toNat : Int) (q_bl f V k.toNat) = _
    rw [show ((k.toNat : Nat) : Int) = k by omega]
  rw [e, hI]
  unfold q_bn
  have e1 : (if q_hd f k = 1 then k else h) = h' := by
    rcases hd with hd | hd
    · rw [if_pos hd.1]; omega
    · rw [if_neg (by omega)]; omega
  have e2 : (if q_hd f k = 1 then 0 else x) + V k = x' := by
    rcases hd with hd | hd
    · rw [if_pos hd.1]; omega
    · rw [if_neg (by omega)]; omega
  show (if m < (if q_hd f k = 1 then 0 else x) + V k then (if q_hd f k = 1 then k else h) else b, max m ((if q_hd f k = 1 then 0 else x) + V k), (if q_hd f k = 1 then k else h), (if q_hd f k = 1 then 0 else x) + V k) = _
  rw [e1, e2]
  rcases hg with ⟨g1, g2, g3⟩ | ⟨g1, g2, g3⟩
  · rw [if_pos g1, g2, g3, show max m x' = x' by omega]
  · rw [if_neg (by omega), g2, g3, show max m x' = m by omega]
set_option maxHeartbeats 4000000 in
set_option maxRecDepth 100000 in
theorem l_hvB {G : tp_G} {μ : tp_M} (hG : tp_Gf G = true) {c : Nat} {f : Int → Int} (hc : tp_SH c = .inl 0) (hcl : c < 37) (hw : tp_Cw f) (hCd : tp_Cd c f μ) {V : Int → Int} (hV : ∀ b, 0 ≤ b → b < 40 → μ.1 83 b = V b ∧ 0 ≤ V b ∧ V b ≤ 200) {S : Int} (hS : q_st S) (hB : ∀ a, 0 ≤ a → (q_bt S a = true ↔ q_hP f (f 0) a)) : ∀ k, k ≤ f 0 → ∀ (b m h x : Int), 0 ≤ k → q_bk f V k = (b, m, h, x) → (0 ≤ x ∧ x ≤ 200 * k) → tp_g G mX0_heaviestBlock 20 [some (tR (some c)), some (tR (some 83)), some (tL (S)), none, some (tI b), some (tI m), some (tI h), some (tI x), some (tI k)] [] μ (fun r μ' => r = some (tI (q_bk f V (f 0)).1) ∧ μ' = μ) := by
  have hcn : c < 234 := by omega
  have hw0 := hw.1
  have he4 := hCd.1
  refine tp_ind _ ?_
  intro k hkN ih b m h x h0 hI hx
  have hVk : k < 40 → μ.1 83 k = V k ∧ 0 ≤ V k ∧ V k ≤ 200 := hV k h0
  refine g_iload rfl rfl ?_
  refine g_aload_n rfl rfl ?_
  refine x_geti (v := (μ.1 c 4)) rfl hc hcn (Or.inl rfl) rfl ?_
  refine g_icmp_ge (tgt := 85) rfl (by decide) (fun h1 => ?_) (fun h1 => ?_)
  · refine g_iload rfl rfl ?_
    refine x_ireturn rfl rfl ?_
    exact ⟨by rw [show f 0 = k by omega, hI], rfl⟩
  · refine g_iload rfl rfl ?_
    refine g_aload_n rfl rfl ?_
    refine g_alen (t0 := 0) rfl rfl rfl (by decide) ⟨by decide, by decide⟩ ?_
    refine g_icmp_ge (tgt := 85) rfl (by decide) (fun hx => absurd hx (by omega)) (fun _ => ?_)
    refine g_lload_n rfl rfl ?_
    refine g_iload rfl rfl ?_
    refine g_cN (as := [tI k]) (s_memberI hG (by omega) (by omega)) rfl rfl mX11_member_ok rfl rfl rfl rfl ?_
    rintro _ w9 ⟨rfl, hw9⟩ _
    have hw9 := hw9.symm
    subst hw9
    refine g_land rfl ?_
    refine g_lconst (b := 0) rfl rfl ⟨by decide, by decide⟩ ?_
    refine g_lcmp rfl ?_
    refine g_if_eq (tgt := 55) rfl (by decide) (fun h2 => ?_) (fun h2 => ?_)
    · refine g_iload rfl rfl ?_
      refine g_aload_n rfl rfl ?_
      refine g_iload rfl rfl ?_
      refine x_iald (v := (μ.1 83 k)) rfl rfl (by decide) (by omega) (by omega) rfl ?_
      refine x_iadd (z := x + (μ.1 83 k)) rfl (by omega) ⟨by omega, by omega⟩ ?_
      refine g_istore rfl rfl rfl ?_
      refine g_iload rfl rfl ?_
      refine g_iload rfl rfl ?_
      refine g_icmp_le (tgt := 79) rfl (by decide) (fun h3 => ?_) (fun h3 => ?_)
      · refine x_iinc (z := k + 1) rfl rfl (by omega) ⟨by omega, by omega⟩ rfl rfl ?_
        refine g_goto (tgt := 20) rfl (by decide) ?_
        have hb := (q_lc_mem (L := S) (b := k) (by omega) (by omega)).1 (by assumption)
        have hd1 : q_hd f k = 0 := q_hd_0 (fun z => by rw [(hB k h0).2 z] at hb; cases hb)
        exact ih (by omega) _ _ _ _ (by omega) (q_bk_s h0 hI (by omega) (by omega)) (by omega)
      · refine g_iload rfl rfl ?_
        refine g_istore rfl rfl rfl ?_
        refine g_iload rfl rfl ?_
        refine g_istore rfl rfl rfl ?_
        refine x_iinc (z := k + 1) rfl rfl (by omega) ⟨by omega, by omega⟩ rfl rfl ?_
        refine g_goto (tgt := 20) rfl (by decide) ?_
        have hb := (q_lc_mem (L := S) (b := k) (by omega) (by omega)).1 (by assumption)
        have hd1 : q_hd f k = 0 := q_hd_0 (fun z => by rw [(hB k h0).2 z] at hb; cases hb)
        exact ih (by omega) _ _ _ _ (by omega) (q_bk_s h0 hI (by omega) (by omega)) (by omega)
    · refine g_iload rfl rfl ?_
      refine g_istore rfl rfl rfl ?_
      refine g_iconst rfl ⟨by decide, by decide⟩ ?_
      refine g_istore rfl rfl rfl ?_
      refine g_iload rfl rfl ?_
      refine g_aload_n rfl rfl ?_
      refine g_iload rfl rfl ?_
      refine x_iald (v := (μ.1 83 k)) rfl rfl (by decide) (by omega) (by omega) rfl ?_
      refine x_iadd (z := (μ.1 83 k)) rfl (by omega) ⟨by omega, by omega⟩ ?_
      refine g_istore rfl rfl rfl ?_
      refine g_iload rfl rfl ?_
      refine g_iload rfl rfl ?_
      refine g_icmp_le (tgt := 79) rfl (by decide) (fun h4 => ?_) (fun h4 => ?_)
      · refine x_iinc (z := k + 1) rfl rfl (by omega) ⟨by omega, by omega⟩ rfl rfl ?_
        refine g_goto (tgt := 20) rfl (by decide) ?_
        have hb := q_lc_t (L := S) (b := k) (by omega) (by omega) (by assumption)
        have hd1 : q_hd f k = 1 := q_hd_1 ((hB k h0).1 hb)
        exact ih (by omega) _ _ _ _ (by omega) (q_bk_s h0 hI (by omega) (by omega)) (by omega)
      · refine g_iload rfl rfl ?_
        refine g_istore rfl rfl rfl ?_
        refine g_iload rfl rfl ?_
        refine g_istore rfl rfl rfl ?_
        refine x_iinc (z := k + 1) rfl rfl (by omega) ⟨by omega, by omega⟩ rfl rfl ?_
        refine g_goto (tgt := 20) rfl (by decide) ?_
        have hb := q_lc_t (L := S) (b := k) (by omega) (by omega) (by assumption)
        have hd1 : q_hd f k = 1 := q_hd_1 ((hB k h0).1 hb)
        exact ih (by omega) _ _ _ _ (by omega) (q_bk_s h0 hI (by omega) (by omega)) (by omega)
set_option maxHeartbeats 4000000 in
set_option maxRecDepth 100000 in
theorem s_hvB {G : tp_G} {μ : tp_M} (hG : tp_Gf G = true) {c : Nat} {f : Int → Int} (hc : tp_SH c = .inl 0) (hcl : c < 37) (hw : tp_Cw f) (hCd : tp_Cd c f μ) {V : Int → Int} (hV : ∀ b, 0 ≤ b → b < 40 → μ.1 83 b = V b ∧ 0 ≤ V b ∧ V b ≤ 200) : tp_k G mX0_heaviestBlock [tR (some c), tR (some 83)] μ (fun r μ' => r = some (tI (q_bk f V (f 0)).1) ∧ μ' = μ) := by
  refine tp_ok_of mX0_heaviestBlock_ok rfl (Nat.le_refl _) ?_
  have hcn : c < 234 := by omega
  have hw0 := hw.1
  have he4 := hCd.1
  refine g_aload_n rfl rfl ?_
  refine g_cV (as := []) (s_heads hG hc hcl hw hCd) rfl rfl mX0_heads_ok rfl hc rfl hcn rfl rfl rfl ?_
  rintro _ w9 ⟨S, rfl, hS, hB, hw9⟩ _
  have hw9 := hw9.symm
  subst hw9
  refine g_lstore_n rfl rfl rfl ?_
  refine g_iconst rfl ⟨by decide, by decide⟩ ?_
  refine g_istore rfl rfl rfl ?_
  refine g_iconst rfl ⟨by decide, by decide⟩ ?_
  refine g_istore rfl rfl rfl ?_
  refine g_iconst rfl ⟨by decide, by decide⟩ ?_
  refine g_istore rfl rfl rfl ?_
  refine g_iconst rfl ⟨by decide, by decide⟩ ?_
  refine g_istore rfl rfl rfl ?_
  refine g_iconst rfl ⟨by decide, by decide⟩ ?_
  refine g_istore rfl rfl rfl ?_
  exact l_hvB hG hc hcl hw hCd hV hS hB 0 (by omega) _ _ _ _ (by omega) rfl (by omega)
set_option maxHeartbeats 4000000 in
set_option maxRecDepth 100000 in
theorem l_blkM0 {G : tp_G} {μ : tp_M} (hG : tp_Gf G = true) {ck : Int} {f : Int → Int} (hw : tp_Cw f) (hMc : tp_Mc ck f μ) {x1 : Option tp_V} : ∀ k, k ≤ f 0 → ∀ (b m h x : Int) (x8 : Option tp_V), 0 ≤ k → q_bk f (fun _ => 1) k = (b, m, h, x) → (0 ≤ x ∧ x ≤ 200 * k) → tp_g G mX12_block 46 [some (tR (some 201)), x1, some (tI (-1)), some (tI b), some (tI m), some (tI h), some (tI x), some (tI k), x8] [] μ (fun r μ' => r = some (tI (q_bk f (fun _ => 1) (f 0)).1) ∧ μ' = μ) := by
  have hw0 := hw.1
  have hall := hMc.2.2.1
  refine tp_ind _ ?_
  intro k hkN ih b m h x x8 h0 hI hx
  have hVk : (fun _ : Int => (1 : Int)) k = 1 := rfl
  refine g_iload rfl rfl ?_
  refine g_aload_n rfl rfl ?_
  refine x_geti (v := (μ.1 201 26)) rfl rfl (by decide) (Or.inl rfl) rfl ?_
  refine g_icmp_ge (tgt := 135) rfl (by decide) (fun h1 => ?_) (fun h1 => ?_)
  · refine g_iload_n rfl rfl ?_
    refine x_ireturn rfl rfl ?_
    exact ⟨by rw [show f 0 = k by omega, hI], rfl⟩
  · refine g_aload_n rfl rfl ?_
    refine g_iload rfl rfl ?_
    refine g_cV (as := [tI k]) (s_isHead hG hw hMc (by omega) (by omega)) rfl rfl mX12_isHead_ok rfl rfl rfl (by decide) rfl rfl rfl ?_
    rintro _ w9 ⟨rfl, hw9⟩ _
    have hw9 := hw9.symm
    subst hw9
    have hqb := q_hd_b f (k)
    refine g_istore rfl rfl rfl ?_
    refine g_iload rfl rfl ?_
    refine g_if_eq (tgt := 73) rfl (by decide) (fun h2 => ?_) (fun h2 => ?_)
    · refine g_iload rfl rfl ?_
      refine g_istore rfl rfl rfl ?_
      refine g_iload rfl rfl ?_
      refine g_if_eq (tgt := 86) rfl (by decide) (fun _ => ?_) (fun hx => absurd hx (by omega))
      refine g_iload rfl rfl ?_
      refine g_iload_n rfl rfl ?_
      refine g_iconst rfl ⟨by decide, by decide⟩ ?_
      refine g_icmp_ne (tgt := 97) rfl (by decide) (fun hx => absurd hx (by omega)) (fun _ => ?_)
      refine g_iconst rfl ⟨by decide, by decide⟩ ?_
      refine g_goto (tgt := 103) rfl (by decide) ?_
      refine x_iadd (z := x + 1) rfl (by omega) ⟨by omega, by omega⟩ ?_
      refine g_istore rfl rfl rfl ?_
      refine g_iload rfl rfl ?_
      refine g_iload rfl rfl ?_
      refine g_icmp_le (tgt := 118) rfl (by decide) (fun h3 => ?_) (fun h3 => ?_)
      · refine g_iload_n rfl rfl ?_
        refine g_istore_n rfl rfl rfl ?_
        refine g_iload rfl rfl ?_
        refine g_iload rfl rfl ?_
        refine g_cS (as := [tI m, tI (x + 1)]) (s_greater hG) rfl rfl mX12_greater_ok rfl rfl rfl rfl ?_
        rintro _ w9 ⟨rfl, hw9⟩ _
        have hw9 := hw9.symm
        subst hw9
        refine g_istore rfl rfl rfl ?_
        refine x_iinc (z := k + 1) rfl rfl (by omega) ⟨by omega, by omega⟩ rfl rfl ?_
        refine g_goto (tgt := 46) rfl (by decide) ?_
        exact ih (by omega) _ _ _ _ _ (by omega) (q_bk_s h0 hI (by omega) (by omega)) (by omega)
      · refine g_iload rfl rfl ?_
        refine g_goto (tgt := 119) rfl (by decide) ?_
        refine g_istore_n rfl rfl rfl ?_
        refine g_iload rfl rfl ?_
        refine g_iload rfl rfl ?_
        refine g_cS (as := [tI m, tI (x + 1)]) (s_greater hG) rfl rfl mX12_greater_ok rfl rfl rfl rfl ?_
        rintro _ w9 ⟨rfl, hw9⟩ _
        have hw9 := hw9.symm
        subst hw9
        refine g_istore rfl rfl rfl ?_
        refine x_iinc (z := k + 1) rfl rfl (by omega) ⟨by omega, by omega⟩ rfl rfl ?_
        refine g_goto (tgt := 46) rfl (by decide) ?_
        exact ih (by omega) _ _ _ _ _ (by omega) (q_bk_s h0 hI (by omega) (by omega)) (by omega)
    · refine g_iload rfl rfl ?_
      refine g_goto (tgt := 75) rfl (by decide) ?_
      refine g_istore rfl rfl rfl ?_
      refine g_iload rfl rfl ?_
      refine g_if_eq (tgt := 86) rfl (by decide) (fun hx => absurd hx (by omega)) (fun _ => ?_)
      refine g_iconst rfl ⟨by decide, by decide⟩ ?_
      refine g_goto (tgt := 88) rfl (by decide) ?_
      refine g_iload_n rfl rfl ?_
      refine g_iconst rfl ⟨by decide, by decide⟩ ?_
      refine g_icmp_ne (tgt := 97) rfl (by decide) (fun hx => absurd hx (by omega)) (fun _ => ?_)
      refine g_iconst rfl ⟨by decide, by decide⟩ ?_
      refine g_goto (tgt := 103) rfl (by decide) ?_
      refine x_iadd (z := 1) rfl (by omega) ⟨by omega, by omega⟩ ?_
      refine g_istore rfl rfl rfl ?_
      refine g_iload rfl rfl ?_
      refine g_iload rfl rfl ?_
      refine g_icmp_le (tgt := 118) rfl (by decide) (fun h4 => ?_) (fun h4 => ?_)
      · refine g_iload_n rfl rfl ?_
        refine g_istore_n rfl rfl rfl ?_
        refine g_iload rfl rfl ?_
        refine g_iload rfl rfl ?_
        refine g_cS (as := [tI m, tI 1]) (s_greater hG) rfl rfl mX12_greater_ok rfl rfl rfl rfl ?_
        rintro _ w9 ⟨rfl, hw9⟩ _
        have hw9 := hw9.symm
        subst hw9
        refine g_istore rfl rfl rfl ?_
        refine x_iinc (z := k + 1) rfl rfl (by omega) ⟨by omega, by omega⟩ rfl rfl ?_
        refine g_goto (tgt := 46) rfl (by decide) ?_
        exact ih (by omega) _ _ _ _ _ (by omega) (q_bk_s h0 hI (by omega) (by omega)) (by omega)
      · refine g_iload rfl rfl ?_
        refine g_goto (tgt := 119) rfl (by decide) ?_
        refine g_istore_n rfl rfl rfl ?_
        refine g_iload rfl rfl ?_
        refine g_iload rfl rfl ?_
        refine g_cS (as := [tI m, tI 1]) (s_greater hG) rfl rfl mX12_greater_ok rfl rfl rfl rfl ?_
        rintro _ w9 ⟨rfl, hw9⟩ _
        have hw9 := hw9.symm
        subst hw9
        refine g_istore rfl rfl rfl ?_
        refine x_iinc (z := k + 1) rfl rfl (by omega) ⟨by omega, by omega⟩ rfl rfl ?_
        refine g_goto (tgt := 46) rfl (by decide) ?_
        exact ih (by omega) _ _ _ _ _ (by omega) (q_bk_s h0 hI (by omega) (by omega)) (by omega)
theorem q_vis_b {n : Int} {A : Int → Int} (hn : 0 ≤ n) (a : Int) : 0 ≤ q_s (fun j => q_is A a j) n ∧ q_s (fun j => q_is A a j) n ≤ n := q_s_B hn (fun j => q_is_b A a j)
set_option maxHeartbeats 4000000 in
set_option maxRecDepth 100000 in
theorem l_blkM1 {G : tp_G} {μ : tp_M} (hG : tp_Gf G = true) {ck : Int} {f : Int → Int} {n : Int} {A B Y H : Int → Int} {E D U T : Int} (hw : tp_Cw f) (hW : r_W f n A B Y H) (hT : m_T n A B Y E D U T μ) (hMc : tp_Mc ck f μ) {d : Int} (hd : d ≠ -1) {x1 : Option tp_V} : ∀ k, k ≤ f 0 → ∀ (b m h x : Int) (x8 : Option tp_V), 0 ≤ k → q_bk f (fun a => q_s (fun j => q_is A a j) n) k = (b, m, h, x) → (0 ≤ x ∧ x ≤ 200 * k) → tp_g G mX12_block 46 [some (tR (some 201)), x1, some (tI d), some (tI b), some (tI m), some (tI h), some (tI x), some (tI k), x8] [] μ (fun r μ' => r = some (tI (q_bk f (fun a => q_s (fun j => q_is A a j) n) (f 0)).1) ∧ μ' = μ) := by
  have hw0 := hw.1
  have hn0 := hW.1
  have hall := hMc.2.2.1
  refine tp_ind _ ?_
  intro k hkN ih b m h x x8 h0 hI hx
  have hVk : (fun a => q_s (fun j => q_is A a j) n) k = q_s (fun j => q_is A k j) n := rfl
  have hVb := q_vis_b (A := A) hn0.1 k
  refine g_iload rfl rfl ?_
  refine g_aload_n rfl rfl ?_
  refine x_geti (v := (μ.1 201 26)) rfl rfl (by decide) (Or.inl rfl) rfl ?_
  refine g_icmp_ge (tgt := 135) rfl (by decide) (fun h1 => ?_) (fun h1 => ?_)
  · refine g_iload_n rfl rfl ?_
    refine x_ireturn rfl rfl ?_
    exact ⟨by rw [show f 0 = k by omega, hI], rfl⟩
  · refine g_aload_n rfl rfl ?_
    refine g_iload rfl rfl ?_
    refine g_cV (as := [tI k]) (s_isHead hG hw hMc (by omega) (by omega)) rfl rfl mX12_isHead_ok rfl rfl rfl (by decide) rfl rfl rfl ?_
    rintro _ w9 ⟨rfl, hw9⟩ _
    have hw9 := hw9.symm
    subst hw9
    have hqb := q_hd_b f (k)
    refine g_istore rfl rfl rfl ?_
    refine g_iload rfl rfl ?_
    refine g_if_eq (tgt := 73) rfl (by decide) (fun h2 => ?_) (fun h2 => ?_)
    · refine g_iload rfl rfl ?_
      refine g_istore rfl rfl rfl ?_
      refine g_iload rfl rfl ?_
      refine g_if_eq (tgt := 86) rfl (by decide) (fun _ => ?_) (fun hx => absurd hx (by omega))
      refine g_iload rfl rfl ?_
      refine g_iload_n rfl rfl ?_
      refine g_iconst rfl ⟨by decide, by decide⟩ ?_
      refine g_icmp_ne (tgt := 97) rfl (by decide) (fun _ => ?_) (fun hx => absurd hx (by omega))
      refine g_aload_n rfl rfl ?_
      refine g_iload rfl rfl ?_
      refine g_cV (as := [tI k]) (s_visM hG hw hW hT hMc) rfl rfl mX12_visitsOf_ok rfl rfl rfl (by decide) rfl rfl rfl ?_
      rintro _ w9 ⟨rfl, hw9⟩ _
      have hw9 := hw9.symm
      subst hw9
      refine x_iadd (z := x + (q_s (fun j => q_is A k j) n)) rfl (by omega) ⟨by omega, by omega⟩ ?_
      refine g_istore rfl rfl rfl ?_
      refine g_iload rfl rfl ?_
      refine g_iload rfl rfl ?_
      refine g_icmp_le (tgt := 118) rfl (by decide) (fun h3 => ?_) (fun h3 => ?_)
      · refine g_iload_n rfl rfl ?_
        refine g_istore_n rfl rfl rfl ?_
        refine g_iload rfl rfl ?_
        refine g_iload rfl rfl ?_
        refine g_cS (as := [tI m, tI (x + (q_s (fun j => q_is A k j) n))]) (s_greater hG) rfl rfl mX12_greater_ok rfl rfl rfl rfl ?_
        rintro _ w9 ⟨rfl, hw9⟩ _
        have hw9 := hw9.symm
        subst hw9
        refine g_istore rfl rfl rfl ?_
        refine x_iinc (z := k + 1) rfl rfl (by omega) ⟨by omega, by omega⟩ rfl rfl ?_
        refine g_goto (tgt := 46) rfl (by decide) ?_
        exact ih (by omega) _ _ _ _ _ (by omega) (q_bk_s h0 hI (by omega) (by omega)) (by omega)
      · refine g_iload rfl rfl ?_
        refine g_goto (tgt := 119) rfl (by decide) ?_
        refine g_istore_n rfl rfl rfl ?_
        refine g_iload rfl rfl ?_
        refine g_iload rfl rfl ?_
        refine g_cS (as := [tI m, tI (x + (q_s (fun j => q_is A k j) n))]) (s_greater hG) rfl rfl mX12_greater_ok rfl rfl rfl rfl ?_
        rintro _ w9 ⟨rfl, hw9⟩ _
        have hw9 := hw9.symm
        subst hw9
        refine g_istore rfl rfl rfl ?_
        refine x_iinc (z := k + 1) rfl rfl (by omega) ⟨by omega, by omega⟩ rfl rfl ?_
        refine g_goto (tgt := 46) rfl (by decide) ?_
        exact ih (by omega) _ _ _ _ _ (by omega) (q_bk_s h0 hI (by omega) (by omega)) (by omega)
    · refine g_iload rfl rfl ?_
      refine g_goto (tgt := 75) rfl (by decide) ?_
      refine g_istore rfl rfl rfl ?_
      refine g_iload rfl rfl ?_
      refine g_if_eq (tgt := 86) rfl (by decide) (fun hx => absurd hx (by omega)) (fun _ => ?_)
      refine g_iconst rfl ⟨by decide, by decide⟩ ?_
      refine g_goto (tgt := 88) rfl (by decide) ?_
      refine g_iload_n rfl rfl ?_
      refine g_iconst rfl ⟨by decide, by decide⟩ ?_
      refine g_icmp_ne (tgt := 97) rfl (by decide) (fun _ => ?_) (fun hx => absurd hx (by omega))
      refine g_aload_n rfl rfl ?_
      refine g_iload rfl rfl ?_
      refine g_cV (as := [tI k]) (s_visM hG hw hW hT hMc) rfl rfl mX12_visitsOf_ok rfl rfl rfl (by decide) rfl rfl rfl ?_
      rintro _ w9 ⟨rfl, hw9⟩ _
      have hw9 := hw9.symm
      subst hw9
      refine x_iadd (z := (q_s (fun j => q_is A k j) n)) rfl (by omega) ⟨by omega, by omega⟩ ?_
      refine g_istore rfl rfl rfl ?_
      refine g_iload rfl rfl ?_
      refine g_iload rfl rfl ?_
      refine g_icmp_le (tgt := 118) rfl (by decide) (fun h4 => ?_) (fun h4 => ?_)
      · refine g_iload_n rfl rfl ?_
        refine g_istore_n rfl rfl rfl ?_
        refine g_iload rfl rfl ?_
        refine g_iload rfl rfl ?_
        refine g_cS (as := [tI m, tI (q_s (fun j => q_is A k j) n)]) (s_greater hG) rfl rfl mX12_greater_ok rfl rfl rfl rfl ?_
        rintro _ w9 ⟨rfl, hw9⟩ _
        have hw9 := hw9.symm
        subst hw9
        refine g_istore rfl rfl rfl ?_
        refine x_iinc (z := k + 1) rfl rfl (by omega) ⟨by omega, by omega⟩ rfl rfl ?_
        refine g_goto (tgt := 46) rfl (by decide) ?_
        exact ih (by omega) _ _ _ _ _ (by omega) (q_bk_s h0 hI (by omega) (by omega)) (by omega)
      · refine g_iload rfl rfl ?_
        refine g_goto (tgt := 119) rfl (by decide) ?_
        refine g_istore_n rfl rfl rfl ?_
        refine g_iload rfl rfl ?_
        refine g_iload rfl rfl ?_
        refine g_cS (as := [tI m, tI (q_s (fun j => q_is A k j) n)]) (s_greater hG) rfl rfl mX12_greater_ok rfl rfl rfl rfl ?_
        rintro _ w9 ⟨rfl, hw9⟩ _
        have hw9 := hw9.symm
        subst hw9
        refine g_istore rfl rfl rfl ?_
        refine x_iinc (z := k + 1) rfl rfl (by omega) ⟨by omega, by omega⟩ rfl rfl ?_
        refine g_goto (tgt := 46) rfl (by decide) ?_
        exact ih (by omega) _ _ _ _ _ (by omega) (q_bk_s h0 hI (by omega) (by omega)) (by omega)
set_option maxHeartbeats 4000000 in
set_option maxRecDepth 100000 in
theorem l_one {G : tp_G} (hG : tp_Gf G = true) {μ0 : tp_M} {c : Nat} {x1 x2 : Option tp_V} {Φ : Option tp_V → tp_M → Prop} (hΦ : ∀ μ, (∀ a, 0 ≤ a → a < 40 → μ.1 83 a = 1) → q_f1 83 μ0 μ → tp_g G mX11_block 44 [some (tR (some 0)), x1, x2, some (tR (some c)), some (tI 40)] [] μ Φ) : ∀ k, k ≤ 40 → ∀ (μ : tp_M), 0 ≤ k → (∀ a, 0 ≤ a → a < k → μ.1 83 a = 1) → q_f1 83 μ0 μ → tp_g G mX11_block 23 [some (tR (some 0)), x1, x2, some (tR (some c)), some (tI k)] [] μ Φ := by
  refine tp_ind _ ?_
  intro k hkN ih μ h0 hz hF
  refine g_iload rfl rfl ?_
  refine g_bipush rfl ⟨by decide, by decide⟩ (by decide) ?_
  refine g_icmp_ge (tgt := 44) rfl (by decide) (fun h1 => ?_) (fun h1 => ?_)
  · have hk4 : k = 40 := by omega
    subst hk4
    exact hΦ _ (fun a g0 g1 => hz a g0 (by omega)) hF
  · refine g_aload_n rfl rfl ?_
    refine x_getF (r := 83) hG rfl rfl (by decide) (Or.inr ⟨_, rfl⟩) rfl ?_
    refine g_iload rfl rfl ?_
    refine g_iconst rfl ⟨by decide, by decide⟩ ?_
    refine g_iast rfl rfl (by decide) (by omega) (by omega) ?_
    refine x_iinc (z := k + 1) rfl rfl (by omega) ⟨by omega, by omega⟩ rfl rfl ?_
    refine g_goto (tgt := 23) rfl (by decide) ?_
    exact ih (by omega) _ (by omega) (fun a g0 g1 => by rw [tp_pi1]; split; rfl; exact hz a g0 (by omega)) (q_f1_pi hF)
set_option maxHeartbeats 4000000 in
set_option maxRecDepth 100000 in
theorem p_block0 {G : tp_G} (hG : tp_Gf G = true) {a : Int} : tp_pair G mX11_block mX12_block [tI a, tI (-1)] := by
  intro μ hR
  have hm0 := tp_R_many hR 0 (by decide) (by decide)
  by_cases hab : (a < 0 ∨ μ.1 5 0 ≤ a)
  · have hab9 : ∀ w, tp_kp μ w → ((a < 0 ∨ w.1 206 0 ≤ a) ∧ (0 ≤ w.1 206 0 ∧ w.1 206 0 ≤ 2)) := fun w h => by rw [h 206 (by unfold tp_tl; omega)]; omega
    refine tp_ok_of mX11_block_ok rfl (Nat.le_refl _) ?_
    refine g_aload_n rfl rfl ?_
    refine x_getF (r := 1) hG rfl rfl (by decide) (Or.inl ⟨_, rfl⟩) rfl ?_
    refine g_iload_n rfl rfl ?_
    refine g_cV (as := [tI a]) (s_codeOfo hG ⟨hab, hm0.2.2⟩) rfl rfl mX9_codeOf_ok rfl rfl rfl (by decide) rfl rfl rfl ?_
    rintro _ w9 ⟨rfl, hw9⟩ _
    have hw9 := hw9.symm
    subst hw9
    refine g_astore_n rfl rfl rfl ?_
    refine g_aload_n rfl rfl ?_
    refine g_ifnonnull (tgt := 15) rfl (by decide) (fun _ hx => by cases hx) (fun _ => ?_)
    refine g_iconst rfl ⟨by decide, by decide⟩ ?_
    refine x_ireturn rfl rfl ?_
    refine ⟨_, rfl, ?_⟩
    refine tp_ok_of mX12_block_ok rfl (Nat.le_refl _) ?_
    refine g_aload_n rfl rfl ?_
    refine g_iconst rfl ⟨by decide, by decide⟩ ?_
    refine g_puti rfl rfl (by decide) rfl rfl ?_
    refine g_iload_n rfl rfl ?_
    refine g_iconst rfl ⟨by decide, by decide⟩ ?_
    refine g_icmp_ne (tgt := 21) rfl (by decide) (fun hx => absurd hx (by omega)) (fun _ => ?_)
    refine g_aload_n rfl rfl ?_
    refine g_iload_n rfl rfl ?_
    refine g_cV (as := [tI a]) (s_hasCo hG (hab9 _ (tp_kp_pi (by decide) tp_kp_rf))) rfl rfl mX12_hasCode_ok rfl rfl rfl (by decide) rfl rfl rfl ?_
    rintro _ w2 ⟨rfl, hGm⟩ _
    have hkp2 : tp_kp μ w2 := m_G_kp (tp_kp_pi (by decide) tp_kp_rf) hGm
    refine g_if_ne (tgt := 32) rfl (by decide) (fun hx => absurd hx (by omega)) (fun _ => ?_)
    refine g_goto (tgt := 30) rfl (by decide) ?_
    refine g_iconst rfl ⟨by decide, by decide⟩ ?_
    refine x_ireturn rfl rfl ?_
    exact ⟨rfl, tp_R_kp hR hkp2⟩
  · obtain ⟨a, rfl⟩ : ∃ a9 : Nat, a = (a9 : Int) := ⟨a.toNat, by omega⟩
    obtain ⟨f, c, hfE, hcE, hc, hcl, hw, hCd, hX, hM⟩ := tp_cdL hG hR (k := a) (by omega) (by omega)
    have hcn : c < 234 := by omega
    have hw0 := hw.1
    refine tp_ok_of mX11_block_ok rfl (Nat.le_refl _) ?_
    refine g_aload_n rfl rfl ?_
    refine x_getF (r := 1) hG rfl rfl (by decide) (Or.inl ⟨_, rfl⟩) rfl ?_
    refine g_iload_n rfl rfl ?_
    refine g_cV (as := [tI (a : Int)]) (hX) rfl rfl mX9_codeOf_ok rfl rfl rfl (by decide) rfl rfl rfl ?_
    rintro _ w9 ⟨rfl, hw9⟩ _
    have hw9 := hw9.symm
    subst hw9
    refine g_astore_n rfl rfl rfl ?_
    refine g_aload_n rfl rfl ?_
    refine g_ifnonnull (tgt := 15) rfl (by decide) (fun _ _ => ?_) (fun hx => by cases hx)
    refine g_iload_n rfl rfl ?_
    refine g_iconst rfl ⟨by decide, by decide⟩ ?_
    refine g_icmp_ne (tgt := 53) rfl (by decide) (fun hx => absurd hx (by omega)) (fun _ => ?_)
    refine g_iconst rfl ⟨by decide, by decide⟩ ?_
    refine g_istore rfl rfl rfl ?_
    refine l_one (μ0 := μ) hG (fun w3 hz hF => ?_) 0 (by omega) _ (by omega) (fun a g0 g1 => by omega) q_f1_rf
    have hCd3 : tp_Cd c f w3 := tp_Cd_fr hcl (fun k9 z9 => hF.1 k9 (by omega)) hCd
    have hkp3 : tp_kp μ w3 := q_f1_kp (by unfold tp_tl; omega) tp_kp_rf hF
    refine g_aload_n rfl rfl ?_
    refine g_aload_n rfl rfl ?_
    refine x_getF (r := 83) hG rfl rfl (by decide) (Or.inr ⟨_, rfl⟩) rfl ?_
    refine g_cV (as := [tR (some 83)]) (s_hvB (V := (fun _ => 1)) hG hc hcl hw hCd3 (fun b g0 g1 => ⟨hz b g0 g1, by decide, by decide⟩)) rfl rfl mX0_heaviestBlock_ok rfl hc rfl hcn rfl rfl rfl ?_
    rintro _ w9 ⟨rfl, hw9⟩ _
    have hw9 := hw9.symm
    subst hw9
    refine x_ireturn rfl rfl ?_
    refine ⟨_, rfl, ?_⟩
    refine tp_ok_of mX12_block_ok rfl (Nat.le_refl _) ?_
    refine g_aload_n rfl rfl ?_
    refine g_iconst rfl ⟨by decide, by decide⟩ ?_
    refine g_puti rfl rfl (by decide) rfl rfl ?_
    refine g_iload_n rfl rfl ?_
    refine g_iconst rfl ⟨by decide, by decide⟩ ?_
    refine g_icmp_ne (tgt := 21) rfl (by decide) (fun hx => absurd hx (by omega)) (fun _ => ?_)
    refine g_aload_n rfl rfl ?_
    refine g_iload_n rfl rfl ?_
    refine g_cV (as := [tI (a : Int)]) (hM _ (tp_kp_pi (by decide) hkp3)) rfl rfl mX12_hasCode_ok rfl rfl rfl (by decide) rfl rfl rfl ?_
    rintro _ w2 ⟨rfl, hMc, hGm⟩ _
    have hkp2 : tp_kp μ w2 := m_G_kp (tp_kp_pi (by decide) hkp3) hGm
    have hall := hMc.2.2.1
    refine g_if_ne (tgt := 32) rfl (by decide) (fun _ => ?_) (fun hx => absurd hx (by omega))
    refine g_iconst rfl ⟨by decide, by decide⟩ ?_
    refine g_istore_n rfl rfl rfl ?_
    refine g_iconst rfl ⟨by decide, by decide⟩ ?_
    refine g_istore rfl rfl rfl ?_
    refine g_iconst rfl ⟨by decide, by decide⟩ ?_
    refine g_istore rfl rfl rfl ?_
    refine g_iconst rfl ⟨by decide, by decide⟩ ?_
    refine g_istore rfl rfl rfl ?_
    refine g_iconst rfl ⟨by decide, by decide⟩ ?_
    refine g_istore rfl rfl rfl ?_
    refine tp_conseq (fun r9 μ8 q8 => ?_) (l_blkM0 hG hw hMc 0 (by omega) _ _ _ _ _ (by omega) rfl (by omega))
    obtain ⟨rfl, e8⟩ := q8
    have e8 := e8.symm
    subst e8
    exact ⟨rfl, tp_R_kp hR hkp2⟩
set_option maxHeartbeats 4000000 in
set_option maxRecDepth 100000 in
theorem s_codeOfV {G : tp_G} {μ : tp_M} (hG : tp_Gf G = true) (hR : tp_R μ) {a : Int} : tp_k G mX9_codeOf [tR (some 1), tI a] μ (fun r μ' => (((a < 0 ∨ μ.1 5 0 ≤ a) ∧ r = some (tR none)) ∨ ((0 ≤ a ∧ a < μ.1 5 0) ∧ r = some (tR (some (6 + 5 * a.toNat))))) ∧ μ' = μ) := by
  have hm0 := tp_R_many hR 0 (by decide) (by decide)
  rcases (show (a = 0 ∧ 0 < μ.1 5 0) ∨ (a = 1 ∧ 1 < μ.1 5 0) ∨ ((a < 0 ∨ μ.1 5 0 ≤ a) ∧ μ.1 5 0 ≤ 2) by omega) with ⟨rfl, hd⟩ | ⟨rfl, hd⟩ | hd
  · refine tp_ok_of mX9_codeOf_ok rfl (Nat.le_refl _) ?_
    refine g_iload_n rfl rfl ?_
    refine g_if_lt (tgt := 19) rfl (by decide) (fun hx => absurd hx (by omega)) (fun _ => ?_)
    refine g_iload_n rfl rfl ?_
    refine g_aload_n rfl rfl ?_
    refine x_getF (r := 5) hG rfl rfl (by decide) (Or.inr ⟨_, rfl⟩) rfl ?_
    refine g_iconst rfl ⟨by decide, by decide⟩ ?_
    refine x_iald (v := (μ.1 5 0)) rfl rfl (by decide) (by decide) (by decide) rfl ?_
    refine g_icmp_ge (tgt := 19) rfl (by decide) (fun hx => absurd hx (by omega)) (fun _ => ?_)
    refine g_iload_n rfl rfl ?_
    refine g_iconst rfl ⟨by decide, by decide⟩ ?_
    refine g_icmp_lt (tgt := 23) rfl (by decide) (fun _ => ?_) (fun hx => absurd hx (by omega))
    refine g_aload_n rfl rfl ?_
    refine x_getF (r := 3) hG rfl rfl (by decide) (Or.inr ⟨_, rfl⟩) rfl ?_
    refine g_iload_n rfl rfl ?_
    refine x_aald (t0 := 4) (r := 6) hG rfl rfl rfl (by decide) (by decide) (by decide) rfl ?_
    refine x_areturn rfl rfl ?_
    exact ⟨Or.inr ⟨by omega, rfl⟩, rfl⟩
  · refine tp_ok_of mX9_codeOf_ok rfl (Nat.le_refl _) ?_
    refine g_iload_n rfl rfl ?_
    refine g_if_lt (tgt := 19) rfl (by decide) (fun hx => absurd hx (by omega)) (fun _ => ?_)
    refine g_iload_n rfl rfl ?_
    refine g_aload_n rfl rfl ?_
    refine x_getF (r := 5) hG rfl rfl (by decide) (Or.inr ⟨_, rfl⟩) rfl ?_
    refine g_iconst rfl ⟨by decide, by decide⟩ ?_
    refine x_iald (v := (μ.1 5 0)) rfl rfl (by decide) (by decide) (by decide) rfl ?_
    refine g_icmp_ge (tgt := 19) rfl (by decide) (fun hx => absurd hx (by omega)) (fun _ => ?_)
    refine g_iload_n rfl rfl ?_
    refine g_iconst rfl ⟨by decide, by decide⟩ ?_
    refine g_icmp_lt (tgt := 23) rfl (by decide) (fun _ => ?_) (fun hx => absurd hx (by omega))
    refine g_aload_n rfl rfl ?_
    refine x_getF (r := 3) hG rfl rfl (by decide) (Or.inr ⟨_, rfl⟩) rfl ?_
    refine g_iload_n rfl rfl ?_
    refine x_aald (t0 := 4) (r := 11) hG rfl rfl rfl (by decide) (by decide) (by decide) rfl ?_
    refine x_areturn rfl rfl ?_
    exact ⟨Or.inr ⟨by omega, rfl⟩, rfl⟩
  · refine tp_ok_of mX9_codeOf_ok rfl (Nat.le_refl _) ?_
    refine g_iload_n rfl rfl ?_
    refine g_if_lt (tgt := 19) rfl (by decide) (fun h1 => ?_) (fun h1 => ?_)
    · first
        | omega
        | refine g_null rfl ?_
          refine g_goto (tgt := 29) rfl (by decide) ?_
          refine x_areturn rfl rfl ?_
          exact ⟨Or.inl ⟨hd.1, rfl⟩, rfl⟩
    · first
        | omega
        | refine g_iload_n rfl rfl ?_
          refine g_aload_n rfl rfl ?_
          refine x_getF (r := 5) hG rfl rfl (by decide) (Or.inr ⟨_, rfl⟩) rfl ?_
          refine g_iconst rfl ⟨by decide, by decide⟩ ?_
          refine x_iald (v := (μ.1 5 0)) rfl rfl (by decide) (by decide) (by decide) rfl ?_
          refine g_icmp_ge (tgt := 19) rfl (by decide) (fun h2 => ?_) (fun h2 => ?_)
          · first
              | omega
              | refine g_null rfl ?_
                refine g_goto (tgt := 29) rfl (by decide) ?_
                refine x_areturn rfl rfl ?_
                exact ⟨Or.inl ⟨hd.1, rfl⟩, rfl⟩
          · first
              | omega
              | refine g_iload_n rfl rfl ?_
                refine g_iconst rfl ⟨by decide, by decide⟩ ?_
                refine g_icmp_lt (tgt := 23) rfl (by decide) (fun h3 => ?_) (fun h3 => ?_)
                · first
                    | omega
                    | refine g_aload_n rfl rfl ?_
                      refine x_getF (r := 3) hG rfl rfl (by decide) (Or.inr ⟨_, rfl⟩) rfl ?_
                      refine g_iload_n rfl rfl ?_
                      refine x_aald (t0 := 4) (r := 6) hG rfl rfl rfl (by decide) (by omega) (by omega) rfl ?_
                      refine x_areturn rfl rfl ?_
                      exact ⟨Or.inl ⟨hd.1, rfl⟩, rfl⟩
                · first
                    | omega
                    | refine g_null rfl ?_
                      refine g_goto (tgt := 29) rfl (by decide) ?_
                      refine x_areturn rfl rfl ?_
                      exact ⟨Or.inl ⟨hd.1, rfl⟩, rfl⟩
set_option maxHeartbeats 4000000 in
set_option maxRecDepth 100000 in
theorem p_block1 {G : tp_G} (hG : tp_Gf G = true) {a d : Int} (hd : d ≠ -1) : tp_pair G mX11_block mX12_block [tI a, tI d] := by
  intro μ hR
  have hm0 := tp_R_many hR 0 (by decide) (by decide)
  have hm1 := tp_R_many hR 1 (by decide) (by decide)
  by_cases hab : ((a < 0 ∨ μ.1 5 0 ≤ a) ∨ (d < 0 ∨ μ.1 5 1 ≤ d))
  · obtain ⟨hX, hM⟩ := tp_layo hG hR hab
    refine tp_ok_of mX11_block_ok rfl (Nat.le_refl _) ?_
    refine g_aload_n rfl rfl ?_
    refine x_getF (r := 1) hG rfl rfl (by decide) (Or.inl ⟨_, rfl⟩) rfl ?_
    refine g_iload_n rfl rfl ?_
    refine g_cV (as := [tI a]) (s_codeOfV hG hR) rfl rfl mX9_codeOf_ok rfl rfl rfl (by decide) rfl rfl rfl ?_
    rintro _ w9 ⟨⟨h9, rfl⟩ | ⟨h9, rfl⟩, hw9⟩ _
    · have hw9 := hw9.symm
      subst hw9
      refine g_astore_n rfl rfl rfl ?_
      refine g_aload_n rfl rfl ?_
      refine g_ifnonnull (tgt := 15) rfl (by decide) (fun _ hx => by cases hx) (fun _ => ?_)
      refine g_iconst rfl ⟨by decide, by decide⟩ ?_
      refine x_ireturn rfl rfl ?_
      refine ⟨_, rfl, ?_⟩
      refine tp_ok_of mX12_block_ok rfl (Nat.le_refl _) ?_
      refine g_aload_n rfl rfl ?_
      refine g_iconst rfl ⟨by decide, by decide⟩ ?_
      refine g_puti rfl rfl (by decide) rfl rfl ?_
      refine g_iload_n rfl rfl ?_
      refine g_iconst rfl ⟨by decide, by decide⟩ ?_
      refine g_icmp_ne (tgt := 21) rfl (by decide) (fun _ => ?_) (fun hx => absurd hx (by omega))
      refine g_aload_n rfl rfl ?_
      refine g_iload_n rfl rfl ?_
      refine g_iload_n rfl rfl ?_
      refine g_cV (as := [tI a, tI d]) (hM _ (tp_kp_pi (by decide) tp_kp_rf)) rfl rfl mX12_lay_ok rfl rfl rfl (by decide) rfl rfl rfl ?_
      rintro _ w2 ⟨rfl, hGm⟩ _
      have hkp2 : tp_kp μ w2 := m_G_kp (tp_kp_pi (by decide) tp_kp_rf) hGm
      refine g_if_ne (tgt := 32) rfl (by decide) (fun hx => absurd hx (by omega)) (fun _ => ?_)
      refine g_iconst rfl ⟨by decide, by decide⟩ ?_
      refine x_ireturn rfl rfl ?_
      exact ⟨rfl, tp_R_kp hR hkp2⟩
    · have hw9 := hw9.symm
      subst hw9
      refine g_astore_n rfl rfl rfl ?_
      refine g_aload_n rfl rfl ?_
      refine g_ifnonnull (tgt := 15) rfl (by decide) (fun _ _ => ?_) (fun hx => by cases hx)
      refine g_iload_n rfl rfl ?_
      refine g_iconst rfl ⟨by decide, by decide⟩ ?_
      refine g_icmp_ne (tgt := 53) rfl (by decide) (fun _ => ?_) (fun hx => absurd hx (by omega))
      refine g_aload_n rfl rfl ?_
      refine g_iload_n rfl rfl ?_
      refine g_iload_n rfl rfl ?_
      refine g_cV (as := [tI a, tI d]) (hX) rfl rfl mX11_follow_ok rfl rfl rfl (by decide) rfl rfl rfl ?_
      rintro _ w9 ⟨rfl, hw9⟩ _
      have hw9 := hw9.symm
      subst hw9
      refine g_if_ne (tgt := 64) rfl (by decide) (fun hx => absurd hx (by omega)) (fun _ => ?_)
      refine g_iconst rfl ⟨by decide, by decide⟩ ?_
      refine x_ireturn rfl rfl ?_
      refine ⟨_, rfl, ?_⟩
      refine tp_ok_of mX12_block_ok rfl (Nat.le_refl _) ?_
      refine g_aload_n rfl rfl ?_
      refine g_iconst rfl ⟨by decide, by decide⟩ ?_
      refine g_puti rfl rfl (by decide) rfl rfl ?_
      refine g_iload_n rfl rfl ?_
      refine g_iconst rfl ⟨by decide, by decide⟩ ?_
      refine g_icmp_ne (tgt := 21) rfl (by decide) (fun _ => ?_) (fun hx => absurd hx (by omega))
      refine g_aload_n rfl rfl ?_
      refine g_iload_n rfl rfl ?_
      refine g_iload_n rfl rfl ?_
      refine g_cV (as := [tI a, tI d]) (hM _ (tp_kp_pi (by decide) tp_kp_rf)) rfl rfl mX12_lay_ok rfl rfl rfl (by decide) rfl rfl rfl ?_
      rintro _ w2 ⟨rfl, hGm⟩ _
      have hkp2 : tp_kp μ w2 := m_G_kp (tp_kp_pi (by decide) tp_kp_rf) hGm
      refine g_if_ne (tgt := 32) rfl (by decide) (fun hx => absurd hx (by omega)) (fun _ => ?_)
      refine g_iconst rfl ⟨by decide, by decide⟩ ?_
      refine x_ireturn rfl rfl ?_
      exact ⟨rfl, tp_R_kp hR hkp2⟩
  · obtain ⟨a, rfl⟩ : ∃ a9 : Nat, a = (a9 : Int) := ⟨a.toNat, by omega⟩
    obtain ⟨d, rfl⟩ : ∃ d9 : Nat, d = (d9 : Int) := ⟨d.toNat, by omega⟩
    obtain ⟨n, A, B, Y, H, E, D, U, T, hW, hw, hCd0, hX, hM⟩ := tp_lay hG hR (k := a) (d := d) (by omega) (by omega) (by omega) (by omega)
    generalize tp_cf μ (a : Int) = f at hW hw hCd0 hX hM
    obtain ⟨c, hcE⟩ : ∃ c, c = 6 + 5 * a := ⟨_, rfl⟩
    rw [← hcE] at hCd0 hX
    have hc : tp_SH c = .inl 0 := by rcases (show a = 0 ∨ a = 1 by omega) with q | q <;> (subst q; subst hcE; rfl)
    have hcl : c < 37 := by omega
    have hcn : c < 234 := by omega
    have hw0 := hw.1
    have hn0 := hW.1
    obtain ⟨f9, c9, _, hc9, _, _, _, _, hCo, _⟩ := tp_cdL hG hR (k := a) (by omega) (by omega)
    rw [hc9, ← hcE] at hCo
    clear hc9
    refine tp_ok_of mX11_block_ok rfl (Nat.le_refl _) ?_
    refine g_aload_n rfl rfl ?_
    refine x_getF (r := 1) hG rfl rfl (by decide) (Or.inl ⟨_, rfl⟩) rfl ?_
    refine g_iload_n rfl rfl ?_
    refine g_cV (as := [tI (a : Int)]) (hCo) rfl rfl mX9_codeOf_ok rfl rfl rfl (by decide) rfl rfl rfl ?_
    rintro _ w9 ⟨rfl, hw9⟩ _
    have hw9 := hw9.symm
    subst hw9
    refine g_astore_n rfl rfl rfl ?_
    refine g_aload_n rfl rfl ?_
    refine g_ifnonnull (tgt := 15) rfl (by decide) (fun _ _ => ?_) (fun hx => by cases hx)
    refine g_iload_n rfl rfl ?_
    refine g_iconst rfl ⟨by decide, by decide⟩ ?_
    refine g_icmp_ne (tgt := 53) rfl (by decide) (fun _ => ?_) (fun hx => absurd hx (by omega))
    refine g_aload_n rfl rfl ?_
    refine g_iload_n rfl rfl ?_
    refine g_iload_n rfl rfl ?_
    refine g_cV (as := [tI (a : Int), tI (d : Int)]) (hX) rfl rfl mX11_follow_ok rfl rfl rfl (by decide) rfl rfl rfl ?_
    rintro _ w1 ⟨rfl, hT, hco, hfr⟩ _
    have hCd : tp_Cd c f w1 := tp_Cd_fr hcl (fun k9 z9 => hfr k9 (by omega)) hCd0
    have hkp1 : tp_kp μ w1 := fun k9 z9 => hfr k9 (by unfold tp_tl at z9; omega)
    have hn6 := hT.1
    refine g_if_ne (tgt := 64) rfl (by decide) (fun _ => ?_) (fun hx => absurd hx (by omega))
    refine g_aload_n rfl rfl ?_
    refine x_getF (r := 50) hG rfl rfl (by decide) (Or.inl ⟨_, rfl⟩) rfl ?_
    refine g_aload_n rfl rfl ?_
    refine x_getF (r := 83) hG rfl rfl (by decide) (Or.inr ⟨_, rfl⟩) rfl ?_
    refine g_cV (as := [tR (some 83)]) (s_visits hG hc hcl hw hW hT hCd hco) rfl rfl mX7_visitsInto_ok rfl rfl rfl (by decide) rfl rfl rfl ?_
    rintro _ w3 ⟨rfl, hv, hf1⟩ _
    have hkp3 : tp_kp μ w3 := q_f1_kp (by unfold tp_tl; omega) hkp1 hf1
    have hCd3 : tp_Cd c f w3 := tp_Cd_fr hcl (fun k9 z9 => hf1.1 k9 (by omega)) hCd
    refine g_aload_n rfl rfl ?_
    refine g_aload_n rfl rfl ?_
    refine x_getF (r := 83) hG rfl rfl (by decide) (Or.inr ⟨_, rfl⟩) rfl ?_
    refine g_cV (as := [tR (some 83)]) (s_hvB (V := (fun a => q_s (fun j => q_is A a j) n)) hG hc hcl hw hCd3 (fun b g0 g1 => ⟨hv b g0 g1, (q_vis_b hn0.1 b).1, Int.le_trans (q_vis_b hn0.1 b).2 hn0.2⟩)) rfl rfl mX0_heaviestBlock_ok rfl hc rfl hcn rfl rfl rfl ?_
    rintro _ w9 ⟨rfl, hw9⟩ _
    have hw9 := hw9.symm
    subst hw9
    refine x_ireturn rfl rfl ?_
    refine ⟨_, rfl, ?_⟩
    refine tp_ok_of mX12_block_ok rfl (Nat.le_refl _) ?_
    refine g_aload_n rfl rfl ?_
    refine g_iconst rfl ⟨by decide, by decide⟩ ?_
    refine g_puti rfl rfl (by decide) rfl rfl ?_
    refine g_iload_n rfl rfl ?_
    refine g_iconst rfl ⟨by decide, by decide⟩ ?_
    refine g_icmp_ne (tgt := 21) rfl (by decide) (fun _ => ?_) (fun hx => absurd hx (by omega))
    refine g_aload_n rfl rfl ?_
    refine g_iload_n rfl rfl ?_
    refine g_iload_n rfl rfl ?_
    refine g_cV (as := [tI (a : Int), tI (d : Int)]) (hM _ (tp_kp_pi (by decide) hkp3)) rfl rfl mX12_lay_ok rfl rfl rfl (by decide) rfl rfl rfl ?_
    rintro _ w2 ⟨rfl, hTm, hMc, hGm, hdr, hdm⟩ _
    have hkp2 : tp_kp μ w2 := m_G_kp (tp_kp_pi (by decide) hkp3) hGm
    have hm6 := hTm.1
    have hall := hMc.2.2.1
    refine g_if_ne (tgt := 32) rfl (by decide) (fun _ => ?_) (fun hx => absurd hx (by omega))
    refine g_iconst rfl ⟨by decide, by decide⟩ ?_
    refine g_istore_n rfl rfl rfl ?_
    refine g_iconst rfl ⟨by decide, by decide⟩ ?_
    refine g_istore rfl rfl rfl ?_
    refine g_iconst rfl ⟨by decide, by decide⟩ ?_
    refine g_istore rfl rfl rfl ?_
    refine g_iconst rfl ⟨by decide, by decide⟩ ?_
    refine g_istore rfl rfl rfl ?_
    refine g_iconst rfl ⟨by decide, by decide⟩ ?_
    refine g_istore rfl rfl rfl ?_
    refine tp_conseq (fun r9 μ8 q8 => ?_) (l_blkM1 hG hw hW hTm hMc (by omega) 0 (by omega) _ _ _ _ _ (by omega) rfl (by omega))
    obtain ⟨rfl, e8⟩ := q8
    have e8 := e8.symm
    subst e8
    exact ⟨rfl, tp_R_kp hR hkp2⟩
theorem p_block {G : tp_G} (hG : tp_Gf G = true) {a d : Int} : tp_pair G mX11_block mX12_block [tI a, tI d] := by
  by_cases h : d = -1
  · rw [h]; exact p_block0 hG
  · exact p_block1 hG h
