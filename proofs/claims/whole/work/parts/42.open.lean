/-- the calls that are open at a step -/
def q_op (f A H : Int → Int) : Nat → Int → Int
  | 0 => fun _ => 0
  | k + 1 => if f (9 + A k) = 3 then (fun i => if i = H k then A k else q_op f A H k i) else q_op f A H k
def q_o (f A H : Int → Int) (k : Int) : Int → Int := q_op f A H k.toNat
theorem q_o1 {f A H : Int → Int} {k : Int} (h : 0 ≤ k) : q_o f A H (k + 1) = if f (9 + A k) = 3 then (fun i => if i = H k then A k else q_o f A H k i) else q_o f A H k := by
  unfold q_o
  rw [show (k + 1).toNat = k.toNat + 1 by omega]
  show (if f (9 + A (k.toNat : Int)) = 3 then (fun i => if i = H (k.toNat : Int) then A (k.toNat : Int) else q_op f A H k.toNat i) else q_op f A H k.toNat) = _
  rw [show ((k.toNat : Nat) : Int) = k by omega]
def q_oa (f A H : Int → Int) (q i : Int) : Int := if i = -1 then H q else if 0 ≤ i ∧ i < H q then q_o f A H q i else -1
set_option maxHeartbeats 4000000 in
set_option maxRecDepth 100000 in
theorem l_openX {G : tp_G} (hG : tp_Gf G = true) {c : Nat} {f : Int → Int} {n : Int} {A B Y H : Int → Int} {E D U T : Int} (hc : tp_SH c = .inl 0) (hcl : c < 37) (hw : tp_Cw f) (hW : r_W f n A B Y H) {μ0 : tp_M} {q i : Int} (hT0 : c_T 50 n A B Y E D U T μ0) (hCd0 : tp_Cd c f μ0) (hco0 : μ0.2 50 5 = some c) : ∀ k, k ≤ q → ∀ (s : Int) (μ : tp_M) (x : Option tp_V), 0 ≤ k → q < n → s = H k → (∀ i, 0 ≤ i → i < H k → μ.1 54 i = q_o f A H k i) → q_f1 54 μ0 μ → tp_g G mX7_openAt 5 [some (tR (some 50)), some (tI q), some (tI i), some (tI s), some (tI k), x] [] μ (fun r μ' => r = some (tI (q_oa f A H q i)) ∧ q_f1 54 μ0 μ') := by
  have hcn : c < 234 := by omega
  have hw0 := hw.1
  have hn0 := hW.1
  refine tp_ind _ ?_
  intro k hkN ih s μ x h0 hqn hs hr hF
  by_cases hlt : k < q
  · have hWk := hW.2.2.2 k (by omega) (by omega)
    have hH := hWk.2.1
    have hA1 := hWk.1.1
    have hkk := (hw.2.1 _ hA1.1 hA1.2).1
    have h3 := (hWk.2.2 (by omega)).2.1
    have h4 := (hWk.2.2 (by omega)).2.2.1
    have h5 := (hWk.2.2 (by omega)).2.2.2
    rcases (show f (9 + A k) ≤ 2 ∨ f (9 + A k) = 3 ∨ f (9 + A k) = 4 ∨ 5 ≤ f (9 + A k) by omega) with hk | hk | hk | hk
    · have h6 := h5 (by omega) (by omega)
      have hTv : c_T 50 n A B Y E D U T μ := c_T_fr (fun c9 z1 z2 => hF.1 c9 (by omega)) hT0
      have hCv : tp_Cd c f μ := tp_Cd_fr hcl (fun k9 z9 => hF.1 k9 (by omega)) hCd0
      have hcov : μ.2 50 5 = some c := by rw [hF.2]; exact hco0
      have hn6 := hTv.1
      refine g_iload rfl rfl ?_
      refine g_iload_n rfl rfl ?_
      refine g_icmp_ge (tgt := 95) rfl (by decide) (fun hx => absurd hx (by omega)) (fun _ => ?_)
      refine g_iload rfl rfl ?_
      refine g_aload_n rfl rfl ?_
      refine x_geti (v := (μ.1 50 6)) rfl rfl (by decide) (Or.inl rfl) rfl ?_
      refine g_icmp_ge (tgt := 95) rfl (by decide) (fun hx => absurd hx (by omega)) (fun _ => ?_)
      refine g_aload_n rfl rfl ?_
      refine x_getM (v := (some c)) hG rfl rfl (by decide) (Or.inl ⟨_, rfl⟩) rfl hcov ?_
      refine g_ifnonnull (tgt := 31) rfl (by decide) (fun _ _ => ?_) (fun hx => by cases hx)
      refine g_aload_n rfl rfl ?_
      refine x_getM (v := (some c)) hG rfl rfl (by decide) (Or.inl ⟨_, rfl⟩) rfl hcov ?_
      refine g_aload_n rfl rfl ?_
      refine g_iload rfl rfl ?_
      refine g_cV (as := [tI k]) (s_at50 hG hTv (by omega) (by omega) (by omega)) rfl rfl mX7_at_ok rfl rfl rfl (by decide) rfl rfl rfl ?_
      rintro _ w9 ⟨rfl, hw9⟩ _
      have hw9 := hw9.symm
      subst hw9
      have hr0 := (hW.2.2.2 (k) (by omega) (by omega)).1.1
      refine g_cV (as := [tI (A k)]) (s_kindX hG hc hcl hw hCv (by omega) (by omega)) rfl rfl mX0_kindAt_ok rfl hc rfl hcn rfl rfl rfl ?_
      rintro _ w9 ⟨rfl, hw9⟩ _
      have hw9 := hw9.symm
      subst hw9
      refine g_istore rfl rfl rfl ?_
      refine g_iload rfl rfl ?_
      refine g_iconst rfl ⟨by decide, by decide⟩ ?_
      refine g_icmp_ne (tgt := 76) rfl (by decide) (fun _ => ?_) (fun hx => absurd hx (by omega))
      refine g_iload rfl rfl ?_
      refine g_iconst rfl ⟨by decide, by decide⟩ ?_
      refine g_icmp_ne (tgt := 89) rfl (by decide) (fun _ => ?_) (fun hx => absurd hx (by omega))
      refine x_iinc (z := k + 1) rfl rfl (by omega) ⟨by omega, by omega⟩ rfl rfl ?_
      refine g_goto (tgt := 5) rfl (by decide) ?_
      exact ih hlt _ _ _ (by omega) (by omega) (by omega) (fun i h1 h2 => by rw [q_o1 (by omega), if_neg (by omega)]; exact hr i h1 (by omega)) hF
    · have h6 := h3 hk
      have hTv : c_T 50 n A B Y E D U T μ := c_T_fr (fun c9 z1 z2 => hF.1 c9 (by omega)) hT0
      have hCv : tp_Cd c f μ := tp_Cd_fr hcl (fun k9 z9 => hF.1 k9 (by omega)) hCd0
      have hcov : μ.2 50 5 = some c := by rw [hF.2]; exact hco0
      have hn6 := hTv.1
      refine g_iload rfl rfl ?_
      refine g_iload_n rfl rfl ?_
      refine g_icmp_ge (tgt := 95) rfl (by decide) (fun hx => absurd hx (by omega)) (fun _ => ?_)
      refine g_iload rfl rfl ?_
      refine g_aload_n rfl rfl ?_
      refine x_geti (v := (μ.1 50 6)) rfl rfl (by decide) (Or.inl rfl) rfl ?_
      refine g_icmp_ge (tgt := 95) rfl (by decide) (fun hx => absurd hx (by omega)) (fun _ => ?_)
      refine g_aload_n rfl rfl ?_
      refine x_getM (v := (some c)) hG rfl rfl (by decide) (Or.inl ⟨_, rfl⟩) rfl hcov ?_
      refine g_ifnonnull (tgt := 31) rfl (by decide) (fun _ _ => ?_) (fun hx => by cases hx)
      refine g_aload_n rfl rfl ?_
      refine x_getM (v := (some c)) hG rfl rfl (by decide) (Or.inl ⟨_, rfl⟩) rfl hcov ?_
      refine g_aload_n rfl rfl ?_
      refine g_iload rfl rfl ?_
      refine g_cV (as := [tI k]) (s_at50 hG hTv (by omega) (by omega) (by omega)) rfl rfl mX7_at_ok rfl rfl rfl (by decide) rfl rfl rfl ?_
      rintro _ w9 ⟨rfl, hw9⟩ _
      have hw9 := hw9.symm
      subst hw9
      have hr0 := (hW.2.2.2 (k) (by omega) (by omega)).1.1
      refine g_cV (as := [tI (A k)]) (s_kindX hG hc hcl hw hCv (by omega) (by omega)) rfl rfl mX0_kindAt_ok rfl hc rfl hcn rfl rfl rfl ?_
      rintro _ w9 ⟨rfl, hw9⟩ _
      have hw9 := hw9.symm
      subst hw9
      refine g_istore rfl rfl rfl ?_
      refine g_iload rfl rfl ?_
      refine g_iconst rfl ⟨by decide, by decide⟩ ?_
      refine g_icmp_ne (tgt := 76) rfl (by decide) (fun hx => absurd hx (by omega)) (fun _ => ?_)
      refine g_iload_n rfl rfl ?_
      refine g_bipush rfl ⟨by decide, by decide⟩ (by decide) ?_
      refine g_icmp_ge (tgt := 76) rfl (by decide) (fun hx => absurd hx (by omega)) (fun _ => ?_)
      refine g_aload_n rfl rfl ?_
      refine x_getF (r := 54) hG rfl rfl (by decide) (Or.inr ⟨_, rfl⟩) rfl ?_
      refine g_iload_n rfl rfl ?_
      refine g_aload_n rfl rfl ?_
      refine g_iload rfl rfl ?_
      refine g_cV (as := [tI k]) (s_at50 hG hTv (by omega) (by omega) (by omega)) rfl rfl mX7_at_ok rfl rfl rfl (by decide) rfl rfl rfl ?_
      rintro _ w9 ⟨rfl, hw9⟩ _
      have hw9 := hw9.symm
      subst hw9
      have hr1 := (hW.2.2.2 (k) (by omega) (by omega)).1.1
      refine g_iast rfl rfl (by decide) (by omega) (by omega) ?_
      refine x_iinc (z := s + 1) rfl rfl (by omega) ⟨by omega, by omega⟩ rfl rfl ?_
      refine g_goto (tgt := 89) rfl (by decide) ?_
      refine x_iinc (z := k + 1) rfl rfl (by omega) ⟨by omega, by omega⟩ rfl rfl ?_
      refine g_goto (tgt := 5) rfl (by decide) ?_
      exact ih hlt _ _ _ (by omega) (by omega) (by omega) (fun i h1 h2 => by
          rw [q_o1 (by omega), if_pos hk, tp_pi1]
          by_cases hi : i = s
          · rw [if_pos ⟨rfl, hi⟩]
            show _ = if i = H k then A k else q_o f A H k i
            rw [if_pos (by omega)]
          · rw [if_neg (fun z => hi z.2)]
            show _ = if i = H k then A k else q_o f A H k i
            rw [if_neg (by omega)]
            exact hr i h1 (by omega)) (q_f1_pi hF)
    · have h6 := h4 hk
      have hTv : c_T 50 n A B Y E D U T μ := c_T_fr (fun c9 z1 z2 => hF.1 c9 (by omega)) hT0
      have hCv : tp_Cd c f μ := tp_Cd_fr hcl (fun k9 z9 => hF.1 k9 (by omega)) hCd0
      have hcov : μ.2 50 5 = some c := by rw [hF.2]; exact hco0
      have hn6 := hTv.1
      refine g_iload rfl rfl ?_
      refine g_iload_n rfl rfl ?_
      refine g_icmp_ge (tgt := 95) rfl (by decide) (fun hx => absurd hx (by omega)) (fun _ => ?_)
      refine g_iload rfl rfl ?_
      refine g_aload_n rfl rfl ?_
      refine x_geti (v := (μ.1 50 6)) rfl rfl (by decide) (Or.inl rfl) rfl ?_
      refine g_icmp_ge (tgt := 95) rfl (by decide) (fun hx => absurd hx (by omega)) (fun _ => ?_)
      refine g_aload_n rfl rfl ?_
      refine x_getM (v := (some c)) hG rfl rfl (by decide) (Or.inl ⟨_, rfl⟩) rfl hcov ?_
      refine g_ifnonnull (tgt := 31) rfl (by decide) (fun _ _ => ?_) (fun hx => by cases hx)
      refine g_aload_n rfl rfl ?_
      refine x_getM (v := (some c)) hG rfl rfl (by decide) (Or.inl ⟨_, rfl⟩) rfl hcov ?_
      refine g_aload_n rfl rfl ?_
      refine g_iload rfl rfl ?_
      refine g_cV (as := [tI k]) (s_at50 hG hTv (by omega) (by omega) (by omega)) rfl rfl mX7_at_ok rfl rfl rfl (by decide) rfl rfl rfl ?_
      rintro _ w9 ⟨rfl, hw9⟩ _
      have hw9 := hw9.symm
      subst hw9
      have hr0 := (hW.2.2.2 (k) (by omega) (by omega)).1.1
      refine g_cV (as := [tI (A k)]) (s_kindX hG hc hcl hw hCv (by omega) (by omega)) rfl rfl mX0_kindAt_ok rfl hc rfl hcn rfl rfl rfl ?_
      rintro _ w9 ⟨rfl, hw9⟩ _
      have hw9 := hw9.symm
      subst hw9
      refine g_istore rfl rfl rfl ?_
      refine g_iload rfl rfl ?_
      refine g_iconst rfl ⟨by decide, by decide⟩ ?_
      refine g_icmp_ne (tgt := 76) rfl (by decide) (fun _ => ?_) (fun hx => absurd hx (by omega))
      refine g_iload rfl rfl ?_
      refine g_iconst rfl ⟨by decide, by decide⟩ ?_
      refine g_icmp_ne (tgt := 89) rfl (by decide) (fun hx => absurd hx (by omega)) (fun _ => ?_)
      refine g_iload_n rfl rfl ?_
      refine g_if_le (tgt := 89) rfl (by decide) (fun hx => absurd hx (by omega)) (fun _ => ?_)
      refine x_iinc (z := s - 1) rfl rfl (by omega) ⟨by omega, by omega⟩ rfl rfl ?_
      refine x_iinc (z := k + 1) rfl rfl (by omega) ⟨by omega, by omega⟩ rfl rfl ?_
      refine g_goto (tgt := 5) rfl (by decide) ?_
      exact ih hlt _ _ _ (by omega) (by omega) (by omega) (fun i h1 h2 => by rw [q_o1 (by omega), if_neg (by omega)]; exact hr i h1 (by omega)) hF
    · have h6 := h5 (by omega) (by omega)
      have hTv : c_T 50 n A B Y E D U T μ := c_T_fr (fun c9 z1 z2 => hF.1 c9 (by omega)) hT0
      have hCv : tp_Cd c f μ := tp_Cd_fr hcl (fun k9 z9 => hF.1 k9 (by omega)) hCd0
      have hcov : μ.2 50 5 = some c := by rw [hF.2]; exact hco0
      have hn6 := hTv.1
      refine g_iload rfl rfl ?_
      refine g_iload_n rfl rfl ?_
      refine g_icmp_ge (tgt := 95) rfl (by decide) (fun hx => absurd hx (by omega)) (fun _ => ?_)
      refine g_iload rfl rfl ?_
      refine g_aload_n rfl rfl ?_
      refine x_geti (v := (μ.1 50 6)) rfl rfl (by decide) (Or.inl rfl) rfl ?_
      refine g_icmp_ge (tgt := 95) rfl (by decide) (fun hx => absurd hx (by omega)) (fun _ => ?_)
      refine g_aload_n rfl rfl ?_
      refine x_getM (v := (some c)) hG rfl rfl (by decide) (Or.inl ⟨_, rfl⟩) rfl hcov ?_
      refine g_ifnonnull (tgt := 31) rfl (by decide) (fun _ _ => ?_) (fun hx => by cases hx)
      refine g_aload_n rfl rfl ?_
      refine x_getM (v := (some c)) hG rfl rfl (by decide) (Or.inl ⟨_, rfl⟩) rfl hcov ?_
      refine g_aload_n rfl rfl ?_
      refine g_iload rfl rfl ?_
      refine g_cV (as := [tI k]) (s_at50 hG hTv (by omega) (by omega) (by omega)) rfl rfl mX7_at_ok rfl rfl rfl (by decide) rfl rfl rfl ?_
      rintro _ w9 ⟨rfl, hw9⟩ _
      have hw9 := hw9.symm
      subst hw9
      have hr0 := (hW.2.2.2 (k) (by omega) (by omega)).1.1
      refine g_cV (as := [tI (A k)]) (s_kindX hG hc hcl hw hCv (by omega) (by omega)) rfl rfl mX0_kindAt_ok rfl hc rfl hcn rfl rfl rfl ?_
      rintro _ w9 ⟨rfl, hw9⟩ _
      have hw9 := hw9.symm
      subst hw9
      refine g_istore rfl rfl rfl ?_
      refine g_iload rfl rfl ?_
      refine g_iconst rfl ⟨by decide, by decide⟩ ?_
      refine g_icmp_ne (tgt := 76) rfl (by decide) (fun _ => ?_) (fun hx => absurd hx (by omega))
      refine g_iload rfl rfl ?_
      refine g_iconst rfl ⟨by decide, by decide⟩ ?_
      refine g_icmp_ne (tgt := 89) rfl (by decide) (fun _ => ?_) (fun hx => absurd hx (by omega))
      refine x_iinc (z := k + 1) rfl rfl (by omega) ⟨by omega, by omega⟩ rfl rfl ?_
      refine g_goto (tgt := 5) rfl (by decide) ?_
      exact ih hlt _ _ _ (by omega) (by omega) (by omega) (fun i h1 h2 => by rw [q_o1 (by omega), if_neg (by omega)]; exact hr i h1 (by omega)) hF
  · have hkq : k = q := by omega
    have hHq := (hW.2.2.2 q (by omega) (by omega)).2.1
    subst hkq
    refine g_iload rfl rfl ?_
    refine g_iload_n rfl rfl ?_
    refine g_icmp_ge (tgt := 95) rfl (by decide) (fun _ => ?_) (fun hx => absurd hx (by omega))
    refine g_iload_n rfl rfl ?_
    refine g_iconst rfl ⟨by decide, by decide⟩ ?_
    refine g_icmp_ne (tgt := 102) rfl (by decide) (fun h1 => ?_) (fun h1 => ?_)
    · refine g_iload_n rfl rfl ?_
      refine g_if_lt (tgt := 111) rfl (by decide) (fun h2 => ?_) (fun h2 => ?_)
      · refine g_iconst rfl ⟨by decide, by decide⟩ ?_
        refine g_goto (tgt := 121) rfl (by decide) ?_
        refine x_ireturn rfl rfl ?_
        exact ⟨by rw [q_oa, if_neg (by omega), if_neg (by omega)], hF⟩
      · refine g_iload_n rfl rfl ?_
        refine g_iload_n rfl rfl ?_
        refine g_icmp_lt (tgt := 115) rfl (by decide) (fun h3 => ?_) (fun h3 => ?_)
        · refine g_aload_n rfl rfl ?_
          refine x_getF (r := 54) hG rfl rfl (by decide) (Or.inr ⟨_, rfl⟩) rfl ?_
          refine g_iload_n rfl rfl ?_
          refine x_iald (v := (μ.1 54 i)) rfl rfl (by decide) (by omega) (by omega) rfl ?_
          refine x_ireturn rfl rfl ?_
          exact ⟨by rw [q_oa, if_neg (by omega), if_pos (by omega), ← hr i (by omega) (by omega)], hF⟩
        · refine g_iconst rfl ⟨by decide, by decide⟩ ?_
          refine g_goto (tgt := 121) rfl (by decide) ?_
          refine x_ireturn rfl rfl ?_
          exact ⟨by rw [q_oa, if_neg (by omega), if_neg (by omega)], hF⟩
    · refine g_iload_n rfl rfl ?_
      refine x_ireturn rfl rfl ?_
      exact ⟨by rw [q_oa, if_pos (by omega), hs], hF⟩
set_option maxHeartbeats 4000000 in
set_option maxRecDepth 100000 in
theorem s_openX {G : tp_G} {μ : tp_M} (hG : tp_Gf G = true) {c : Nat} {f : Int → Int} {n : Int} {A B Y H : Int → Int} {E D U T : Int} (hc : tp_SH c = .inl 0) (hcl : c < 37) (hw : tp_Cw f) (hW : r_W f n A B Y H) {q i : Int} (hT : c_T 50 n A B Y E D U T μ) (hCd : tp_Cd c f μ) (hco : μ.2 50 5 = some c) (h0 : 0 ≤ q) (h1 : q < n) : tp_k G mX7_openAt [tR (some 50), tI q, tI i] μ (fun r μ' => r = some (tI (q_oa f A H q i)) ∧ q_f1 54 μ μ') := by
  refine tp_ok_of mX7_openAt_ok rfl (Nat.le_refl _) ?_
  have hcn : c < 234 := by omega
  have hw0 := hw.1
  have hn0 := hW.1
  refine g_iconst rfl ⟨by decide, by decide⟩ ?_
  refine g_istore_n rfl rfl rfl ?_
  refine g_iconst rfl ⟨by decide, by decide⟩ ?_
  refine g_istore rfl rfl rfl ?_
  exact l_openX hG hc hcl hw hW hT hCd hco 0 (by omega) _ _ _ (by omega) h1 hW.2.2.1.symm (fun i h1 h2 => absurd h2 (by rw [hW.2.2.1]; omega)) ⟨fun _ _ => rfl, rfl⟩
set_option maxHeartbeats 4000000 in
set_option maxRecDepth 100000 in
theorem l_openM {G : tp_G} (hG : tp_Gf G = true) {ck : Int} {f : Int → Int} {n : Int} {A B Y H : Int → Int} {E D U T : Int} (hw : tp_Cw f) (hW : r_W f n A B Y H) {μ0 : tp_M} {q : Int} (hT0 : m_T n A B Y E D U T μ0) (hMc0 : tp_Mc ck f μ0) : ∀ k, k ≤ q → ∀ (s : Int) (μ : tp_M) (x : Option tp_V), 0 ≤ k → q < n → s = H k → (∀ i, 0 ≤ i → i < H k → μ.1 228 i = q_o f A H k i) → q_f1 228 μ0 μ → tp_g G mX12_openAt 4 [some (tR (some 201)), some (tI q), some (tI s), some (tI k), x] [] μ (fun r μ' => r = some (tI (H q)) ∧ (∀ i, 0 ≤ i → i < H q → μ'.1 228 i = q_o f A H q i) ∧ q_f1 228 μ0 μ') := by
  have hw0 := hw.1
  have hn0 := hW.1
  refine tp_ind _ ?_
  intro k hkN ih s μ x h0 hqn hs hr hF
  by_cases hlt : k < q
  · have hWk := hW.2.2.2 k (by omega) (by omega)
    have hH := hWk.2.1
    have hA1 := hWk.1.1
    have hkk := (hw.2.1 _ hA1.1 hA1.2).1
    have h3 := (hWk.2.2 (by omega)).2.1
    have h4 := (hWk.2.2 (by omega)).2.2.1
    have h5 := (hWk.2.2 (by omega)).2.2.2
    rcases (show f (9 + A k) ≤ 2 ∨ f (9 + A k) = 3 ∨ f (9 + A k) = 4 ∨ 5 ≤ f (9 + A k) by omega) with hk | hk | hk | hk
    · have h6 := h5 (by omega) (by omega)
      have hTv : μ.1 212 = μ0.1 212 := hF.1 212 (by omega)
      have hMv : tp_Mc ck f μ := tp_Mc_fr ⟨by rw [hF.1 201 (by omega)], by rw [hF.1 201 (by omega)]⟩ (hF.1 207 (by omega)) hMc0
      have ea : μ.1 212 k = A k := by rw [hTv]; exact hT0.2.1 k (by omega) (by omega)
      refine g_iload_n rfl rfl ?_
      refine g_iload_n rfl rfl ?_
      refine g_icmp_ge (tgt := 69) rfl (by decide) (fun hx => absurd hx (by omega)) (fun _ => ?_)
      refine g_aload_n rfl rfl ?_
      refine g_aload_n rfl rfl ?_
      refine x_getF (r := 212) hG rfl rfl (by decide) (Or.inr ⟨_, rfl⟩) rfl ?_
      refine g_iload_n rfl rfl ?_
      refine x_iald (v := (μ.1 212 k)) rfl rfl (by decide) (by omega) (by omega) rfl ?_
      refine g_cV (as := [tI (μ.1 212 k)]) (s_kindM hG hMv (by omega) (by omega)) rfl rfl mX12_kindAt_ok rfl rfl rfl (by decide) rfl rfl rfl ?_
      rintro _ w9 ⟨rfl, hw9⟩ _
      have hw9 := hw9.symm
      subst hw9
      rw [ea]
      refine g_istore rfl rfl rfl ?_
      refine g_iload rfl rfl ?_
      refine g_iconst rfl ⟨by decide, by decide⟩ ?_
      refine g_icmp_ne (tgt := 39) rfl (by decide) (fun _ => ?_) (fun hx => absurd hx (by omega))
      refine g_iload_n rfl rfl ?_
      refine g_iload rfl rfl ?_
      refine g_iconst rfl ⟨by decide, by decide⟩ ?_
      refine g_icmp_ne (tgt := 50) rfl (by decide) (fun _ => ?_) (fun hx => absurd hx (by omega))
      refine g_iload rfl rfl ?_
      refine g_iconst rfl ⟨by decide, by decide⟩ ?_
      refine g_icmp_ne (tgt := 60) rfl (by decide) (fun _ => ?_) (fun hx => absurd hx (by omega))
      refine g_iconst rfl ⟨by decide, by decide⟩ ?_
      refine x_iadd (z := s) rfl (by omega) ⟨by omega, by omega⟩ ?_
      refine g_istore_n rfl rfl rfl ?_
      refine x_iinc (z := k + 1) rfl rfl (by omega) ⟨by omega, by omega⟩ rfl rfl ?_
      refine g_goto (tgt := 4) rfl (by decide) ?_
      exact ih hlt _ _ _ (by omega) (by omega) (by omega) (fun i h1 h2 => by rw [q_o1 (by omega), if_neg (by omega)]; exact hr i h1 (by omega)) hF
    · have h6 := h3 hk
      have hTv : μ.1 212 = μ0.1 212 := hF.1 212 (by omega)
      have hMv : tp_Mc ck f μ := tp_Mc_fr ⟨by rw [hF.1 201 (by omega)], by rw [hF.1 201 (by omega)]⟩ (hF.1 207 (by omega)) hMc0
      have ea : μ.1 212 k = A k := by rw [hTv]; exact hT0.2.1 k (by omega) (by omega)
      refine g_iload_n rfl rfl ?_
      refine g_iload_n rfl rfl ?_
      refine g_icmp_ge (tgt := 69) rfl (by decide) (fun hx => absurd hx (by omega)) (fun _ => ?_)
      refine g_aload_n rfl rfl ?_
      refine g_aload_n rfl rfl ?_
      refine x_getF (r := 212) hG rfl rfl (by decide) (Or.inr ⟨_, rfl⟩) rfl ?_
      refine g_iload_n rfl rfl ?_
      refine x_iald (v := (μ.1 212 k)) rfl rfl (by decide) (by omega) (by omega) rfl ?_
      refine g_cV (as := [tI (μ.1 212 k)]) (s_kindM hG hMv (by omega) (by omega)) rfl rfl mX12_kindAt_ok rfl rfl rfl (by decide) rfl rfl rfl ?_
      rintro _ w9 ⟨rfl, hw9⟩ _
      have hw9 := hw9.symm
      subst hw9
      rw [ea]
      refine g_istore rfl rfl rfl ?_
      refine g_iload rfl rfl ?_
      refine g_iconst rfl ⟨by decide, by decide⟩ ?_
      refine g_icmp_ne (tgt := 39) rfl (by decide) (fun hx => absurd hx (by omega)) (fun _ => ?_)
      refine g_aload_n rfl rfl ?_
      refine x_getF (r := 228) hG rfl rfl (by decide) (Or.inr ⟨_, rfl⟩) rfl ?_
      refine g_iload_n rfl rfl ?_
      refine g_aload_n rfl rfl ?_
      refine x_getF (r := 212) hG rfl rfl (by decide) (Or.inr ⟨_, rfl⟩) rfl ?_
      refine g_iload_n rfl rfl ?_
      refine x_iald (v := (μ.1 212 k)) rfl rfl (by decide) (by omega) (by omega) rfl ?_
      refine g_iast rfl rfl (by decide) (by omega) (by omega) ?_
      refine g_iload_n rfl rfl ?_
      refine g_iload rfl rfl ?_
      refine g_iconst rfl ⟨by decide, by decide⟩ ?_
      refine g_icmp_ne (tgt := 50) rfl (by decide) (fun hx => absurd hx (by omega)) (fun _ => ?_)
      refine g_iconst rfl ⟨by decide, by decide⟩ ?_
      refine g_goto (tgt := 61) rfl (by decide) ?_
      refine x_iadd (z := s + 1) rfl (by omega) ⟨by omega, by omega⟩ ?_
      refine g_istore_n rfl rfl rfl ?_
      refine x_iinc (z := k + 1) rfl rfl (by omega) ⟨by omega, by omega⟩ rfl rfl ?_
      refine g_goto (tgt := 4) rfl (by decide) ?_
      exact ih hlt _ _ _ (by omega) (by omega) (by omega) (fun i h1 h2 => by
          rw [q_o1 (by omega), if_pos hk, tp_pi1]
          by_cases hi : i = s
          · rw [if_pos ⟨rfl, hi⟩]
            show _ = if i = H k then A k else q_o f A H k i
            rw [if_pos (by omega)]; exact ea
          · rw [if_neg (fun z => hi z.2)]
            show _ = if i = H k then A k else q_o f A H k i
            rw [if_neg (by omega)]
            exact hr i h1 (by omega)) (q_f1_pi hF)
    · have h6 := h4 hk
      have hTv : μ.1 212 = μ0.1 212 := hF.1 212 (by omega)
      have hMv : tp_Mc ck f μ := tp_Mc_fr ⟨by rw [hF.1 201 (by omega)], by rw [hF.1 201 (by omega)]⟩ (hF.1 207 (by omega)) hMc0
      have ea : μ.1 212 k = A k := by rw [hTv]; exact hT0.2.1 k (by omega) (by omega)
      refine g_iload_n rfl rfl ?_
      refine g_iload_n rfl rfl ?_
      refine g_icmp_ge (tgt := 69) rfl (by decide) (fun hx => absurd hx (by omega)) (fun _ => ?_)
      refine g_aload_n rfl rfl ?_
      refine g_aload_n rfl rfl ?_
      refine x_getF (r := 212) hG rfl rfl (by decide) (Or.inr ⟨_, rfl⟩) rfl ?_
      refine g_iload_n rfl rfl ?_
      refine x_iald (v := (μ.1 212 k)) rfl rfl (by decide) (by omega) (by omega) rfl ?_
      refine g_cV (as := [tI (μ.1 212 k)]) (s_kindM hG hMv (by omega) (by omega)) rfl rfl mX12_kindAt_ok rfl rfl rfl (by decide) rfl rfl rfl ?_
      rintro _ w9 ⟨rfl, hw9⟩ _
      have hw9 := hw9.symm
      subst hw9
      rw [ea]
      refine g_istore rfl rfl rfl ?_
      refine g_iload rfl rfl ?_
      refine g_iconst rfl ⟨by decide, by decide⟩ ?_
      refine g_icmp_ne (tgt := 39) rfl (by decide) (fun _ => ?_) (fun hx => absurd hx (by omega))
      refine g_iload_n rfl rfl ?_
      refine g_iload rfl rfl ?_
      refine g_iconst rfl ⟨by decide, by decide⟩ ?_
      refine g_icmp_ne (tgt := 50) rfl (by decide) (fun _ => ?_) (fun hx => absurd hx (by omega))
      refine g_iload rfl rfl ?_
      refine g_iconst rfl ⟨by decide, by decide⟩ ?_
      refine g_icmp_ne (tgt := 60) rfl (by decide) (fun hx => absurd hx (by omega)) (fun _ => ?_)
      refine g_iconst rfl ⟨by decide, by decide⟩ ?_
      refine g_goto (tgt := 61) rfl (by decide) ?_
      refine x_iadd (z := s - 1) rfl (by omega) ⟨by omega, by omega⟩ ?_
      refine g_istore_n rfl rfl rfl ?_
      refine x_iinc (z := k + 1) rfl rfl (by omega) ⟨by omega, by omega⟩ rfl rfl ?_
      refine g_goto (tgt := 4) rfl (by decide) ?_
      exact ih hlt _ _ _ (by omega) (by omega) (by omega) (fun i h1 h2 => by rw [q_o1 (by omega), if_neg (by omega)]; exact hr i h1 (by omega)) hF
    · have h6 := h5 (by omega) (by omega)
      have hTv : μ.1 212 = μ0.1 212 := hF.1 212 (by omega)
      have hMv : tp_Mc ck f μ := tp_Mc_fr ⟨by rw [hF.1 201 (by omega)], by rw [hF.1 201 (by omega)]⟩ (hF.1 207 (by omega)) hMc0
      have ea : μ.1 212 k = A k := by rw [hTv]; exact hT0.2.1 k (by omega) (by omega)
      refine g_iload_n rfl rfl ?_
      refine g_iload_n rfl rfl ?_
      refine g_icmp_ge (tgt := 69) rfl (by decide) (fun hx => absurd hx (by omega)) (fun _ => ?_)
      refine g_aload_n rfl rfl ?_
      refine g_aload_n rfl rfl ?_
      refine x_getF (r := 212) hG rfl rfl (by decide) (Or.inr ⟨_, rfl⟩) rfl ?_
      refine g_iload_n rfl rfl ?_
      refine x_iald (v := (μ.1 212 k)) rfl rfl (by decide) (by omega) (by omega) rfl ?_
      refine g_cV (as := [tI (μ.1 212 k)]) (s_kindM hG hMv (by omega) (by omega)) rfl rfl mX12_kindAt_ok rfl rfl rfl (by decide) rfl rfl rfl ?_
      rintro _ w9 ⟨rfl, hw9⟩ _
      have hw9 := hw9.symm
      subst hw9
      rw [ea]
      refine g_istore rfl rfl rfl ?_
      refine g_iload rfl rfl ?_
      refine g_iconst rfl ⟨by decide, by decide⟩ ?_
      refine g_icmp_ne (tgt := 39) rfl (by decide) (fun _ => ?_) (fun hx => absurd hx (by omega))
      refine g_iload_n rfl rfl ?_
      refine g_iload rfl rfl ?_
      refine g_iconst rfl ⟨by decide, by decide⟩ ?_
      refine g_icmp_ne (tgt := 50) rfl (by decide) (fun _ => ?_) (fun hx => absurd hx (by omega))
      refine g_iload rfl rfl ?_
      refine g_iconst rfl ⟨by decide, by decide⟩ ?_
      refine g_icmp_ne (tgt := 60) rfl (by decide) (fun _ => ?_) (fun hx => absurd hx (by omega))
      refine g_iconst rfl ⟨by decide, by decide⟩ ?_
      refine x_iadd (z := s) rfl (by omega) ⟨by omega, by omega⟩ ?_
      refine g_istore_n rfl rfl rfl ?_
      refine x_iinc (z := k + 1) rfl rfl (by omega) ⟨by omega, by omega⟩ rfl rfl ?_
      refine g_goto (tgt := 4) rfl (by decide) ?_
      exact ih hlt _ _ _ (by omega) (by omega) (by omega) (fun i h1 h2 => by rw [q_o1 (by omega), if_neg (by omega)]; exact hr i h1 (by omega)) hF
  · have hkq : k = q := by omega
    have hHq := (hW.2.2.2 q (by omega) (by omega)).2.1
    subst hkq
    refine g_iload_n rfl rfl ?_
    refine g_iload_n rfl rfl ?_
    refine g_icmp_ge (tgt := 69) rfl (by decide) (fun _ => ?_) (fun hx => absurd hx (by omega))
    refine g_iload_n rfl rfl ?_
    refine x_ireturn rfl rfl ?_
    exact ⟨by rw [hs], hr, hF⟩
set_option maxHeartbeats 4000000 in
set_option maxRecDepth 100000 in
theorem s_openM {G : tp_G} {μ : tp_M} (hG : tp_Gf G = true) {ck : Int} {f : Int → Int} {n : Int} {A B Y H : Int → Int} {E D U T : Int} (hw : tp_Cw f) (hW : r_W f n A B Y H) {q : Int} (hT : m_T n A B Y E D U T μ) (hMc : tp_Mc ck f μ) (h0 : 0 ≤ q) (h1 : q < n) : tp_k G mX12_openAt [tR (some 201), tI q] μ (fun r μ' => r = some (tI (H q)) ∧ (∀ i, 0 ≤ i → i < H q → μ'.1 228 i = q_o f A H q i) ∧ q_f1 228 μ μ') := by
  refine tp_ok_of mX12_openAt_ok rfl (Nat.le_refl _) ?_
  have hw0 := hw.1
  have hn0 := hW.1
  refine g_iconst rfl ⟨by decide, by decide⟩ ?_
  refine g_istore_n rfl rfl rfl ?_
  refine g_iconst rfl ⟨by decide, by decide⟩ ?_
  refine g_istore_n rfl rfl rfl ?_
  exact l_openM hG hw hW hT hMc 0 (by omega) _ _ _ (by omega) h1 hW.2.2.1.symm (fun i h1 h2 => absurd h2 (by rw [hW.2.2.1]; omega)) ⟨fun _ _ => rfl, rfl⟩
set_option maxHeartbeats 4000000 in
set_option maxRecDepth 100000 in
theorem p_open {G : tp_G} (hG : tp_Gf G = true) {a d k i : Int} : tp_pair G mX11_open mX12_open [tI a, tI d, tI k, tI i] := by
  intro μ hR
  have hm0 := tp_R_many hR 0 (by decide) (by decide)
  have hm1 := tp_R_many hR 1 (by decide) (by decide)
  by_cases hab : ((a < 0 ∨ μ.1 5 0 ≤ a) ∨ (d < 0 ∨ μ.1 5 1 ≤ d))
  · obtain ⟨hX, hM⟩ := tp_layo hG hR hab
    refine tp_ok_of mX11_open_ok rfl (Nat.le_refl _) ?_
    refine g_aload_n rfl rfl ?_
    refine g_iload_n rfl rfl ?_
    refine g_iload_n rfl rfl ?_
    refine g_cV (as := [tI a, tI d]) (hX) rfl rfl mX11_follow_ok rfl rfl rfl (by decide) rfl rfl rfl ?_
    rintro _ w9 ⟨rfl, hw9⟩ _
    have hw9 := hw9.symm
    subst hw9
    refine g_if_eq (tgt := 24) rfl (by decide) (fun _ => ?_) (fun hx => absurd hx (by omega))
    refine g_iconst rfl ⟨by decide, by decide⟩ ?_
    refine x_ireturn rfl rfl ?_
    refine ⟨_, rfl, ?_⟩
    refine tp_ok_of mX12_open_ok rfl (Nat.le_refl _) ?_
    refine g_aload_n rfl rfl ?_
    refine g_iconst rfl ⟨by decide, by decide⟩ ?_
    refine g_puti rfl rfl (by decide) rfl rfl ?_
    refine g_aload_n rfl rfl ?_
    refine g_iload_n rfl rfl ?_
    refine g_iload_n rfl rfl ?_
    refine g_cV (as := [tI a, tI d]) (hM _ (tp_kp_pi (by decide) tp_kp_rf)) rfl rfl mX12_lay_ok rfl rfl rfl (by decide) rfl rfl rfl ?_
    rintro _ w2 ⟨rfl, hGm⟩ _
    have hkp2 : tp_kp μ w2 := m_G_kp (tp_kp_pi (by decide) tp_kp_rf) hGm
    refine g_if_eq (tgt := 28) rfl (by decide) (fun _ => ?_) (fun hx => absurd hx (by omega))
    refine g_iconst rfl ⟨by decide, by decide⟩ ?_
    refine x_ireturn rfl rfl ?_
    exact ⟨rfl, tp_R_kp hR hkp2⟩
  · obtain ⟨a, rfl⟩ : ∃ a9 : Nat, a = (a9 : Int) := ⟨a.toNat, by omega⟩
    obtain ⟨d, rfl⟩ : ∃ d9 : Nat, d = (d9 : Int) := ⟨d.toNat, by omega⟩
    obtain ⟨n, A, B, Y, H, E, D, U, T, hW, hw, hCd0, hX, hM⟩ := tp_lay hG hR (k := a) (d := d) (by omega) (by omega) (by omega) (by omega)
    generalize tp_cf μ (a : Int) = f at hW hw hCd0 hX hM
    obtain ⟨c, hcE⟩ : ∃ c, c = 6 + 5 * a := ⟨_, rfl⟩
    rw [← hcE] at hCd0 hX
    have hc : tp_SH c = .inl 0 := by rcases (show a = 0 ∨ a = 1 by omega) with q | q <;> (subst q; subst hcE; rfl)
    have hcl : c < 37 := by omega
    have hcn : c < 234 := by omega
    have hw0 := hw.1
    have hn0 := hW.1
    refine tp_ok_of mX11_open_ok rfl (Nat.le_refl _) ?_
    refine g_aload_n rfl rfl ?_
    refine g_iload_n rfl rfl ?_
    refine g_iload_n rfl rfl ?_
    refine g_cV (as := [tI (a : Int), tI (d : Int)]) (hX) rfl rfl mX11_follow_ok rfl rfl rfl (by decide) rfl rfl rfl ?_
    rintro _ w1 ⟨rfl, hT, hco, hfr⟩ _
    have hCd : tp_Cd c f w1 := tp_Cd_fr hcl (fun k9 z9 => hfr k9 (by omega)) hCd0
    have hkp1 : tp_kp μ w1 := fun k9 z9 => hfr k9 (by unfold tp_tl at z9; omega)
    have hn6 := hT.1
    refine g_if_eq (tgt := 24) rfl (by decide) (fun hx => absurd hx (by omega)) (fun _ => ?_)
    refine g_iload_n rfl rfl ?_
    refine g_if_lt (tgt := 24) rfl (by decide) (fun h1 => ?_) (fun h1 => ?_)
    · refine g_iconst rfl ⟨by decide, by decide⟩ ?_
      refine x_ireturn rfl rfl ?_
      refine ⟨_, rfl, ?_⟩
      refine tp_ok_of mX12_open_ok rfl (Nat.le_refl _) ?_
      refine g_aload_n rfl rfl ?_
      refine g_iconst rfl ⟨by decide, by decide⟩ ?_
      refine g_puti rfl rfl (by decide) rfl rfl ?_
      refine g_aload_n rfl rfl ?_
      refine g_iload_n rfl rfl ?_
      refine g_iload_n rfl rfl ?_
      refine g_cV (as := [tI (a : Int), tI (d : Int)]) (hM _ (tp_kp_pi (by decide) hkp1)) rfl rfl mX12_lay_ok rfl rfl rfl (by decide) rfl rfl rfl ?_
      rintro _ w2 ⟨rfl, hTm, hMc, hGm, hdr, hdm⟩ _
      have hkp2 : tp_kp μ w2 := m_G_kp (tp_kp_pi (by decide) hkp1) hGm
      have hm6 := hTm.1
      have hall := hMc.2.2.1
      refine g_if_eq (tgt := 28) rfl (by decide) (fun hx => absurd hx (by omega)) (fun _ => ?_)
      refine g_iload_n rfl rfl ?_
      refine g_iconst rfl ⟨by decide, by decide⟩ ?_
      refine g_aload_n rfl rfl ?_
      refine x_geti (v := (w2.1 201 27)) rfl rfl (by decide) (Or.inl rfl) rfl ?_
      refine g_iconst rfl ⟨by decide, by decide⟩ ?_
      refine x_isub (z := (w2.1 201 27) - 1) rfl (by omega) ⟨by omega, by omega⟩ ?_
      refine g_iS (as := [tI k, tI 0, tI ((w2.1 201 27) - 1)]) mX12_in_ok rfl rfl rfl rfl rfl rfl rfl ?_
      refine g_iload_n rfl rfl ?_
      refine g_iload_n rfl rfl ?_
      refine g_icmp_lt (tgt := 14) rfl (by decide) (fun _ => ?_) (fun hx => absurd hx (by omega))
      refine g_iconst rfl ⟨by decide, by decide⟩ ?_
      refine x_zreturn rfl rfl (Or.inl rfl) ?_
      intro _
      refine g_if_ne (tgt := 30) rfl (by decide) (fun hx => absurd hx (by omega)) (fun _ => ?_)
      refine g_iconst rfl ⟨by decide, by decide⟩ ?_
      refine x_ireturn rfl rfl ?_
      exact ⟨(by first | rfl | (exfalso; omega)), tp_R_kp hR hkp2⟩
    · refine g_iload_n rfl rfl ?_
      refine g_aload_n rfl rfl ?_
      refine x_getF (r := 50) hG rfl rfl (by decide) (Or.inl ⟨_, rfl⟩) rfl ?_
      refine x_geti (v := (w1.1 50 6)) rfl rfl (by decide) (Or.inl rfl) rfl ?_
      refine g_icmp_lt (tgt := 26) rfl (by decide) (fun h2 => ?_) (fun h2 => ?_)
      · refine g_aload_n rfl rfl ?_
        refine x_getF (r := 50) hG rfl rfl (by decide) (Or.inl ⟨_, rfl⟩) rfl ?_
        refine g_iload_n rfl rfl ?_
        refine g_iload rfl rfl ?_
        refine g_cV (as := [tI k, tI i]) (s_openX hG hc hcl hw hW hT hCd hco (by omega) (by omega)) rfl rfl mX7_openAt_ok rfl rfl rfl (by decide) rfl rfl rfl ?_
        rintro _ w3 ⟨rfl, hf1⟩ _
        have hkp3 : tp_kp μ w3 := q_f1_kp (by unfold tp_tl; omega) hkp1 hf1
        have hHk := (hW.2.2.2 k (by omega) (by omega)).2.1
        refine x_ireturn rfl rfl ?_
        refine ⟨_, rfl, ?_⟩
        refine tp_ok_of mX12_open_ok rfl (Nat.le_refl _) ?_
        refine g_aload_n rfl rfl ?_
        refine g_iconst rfl ⟨by decide, by decide⟩ ?_
        refine g_puti rfl rfl (by decide) rfl rfl ?_
        refine g_aload_n rfl rfl ?_
        refine g_iload_n rfl rfl ?_
        refine g_iload_n rfl rfl ?_
        refine g_cV (as := [tI (a : Int), tI (d : Int)]) (hM _ (tp_kp_pi (by decide) hkp3)) rfl rfl mX12_lay_ok rfl rfl rfl (by decide) rfl rfl rfl ?_
        rintro _ w2 ⟨rfl, hTm, hMc, hGm, hdr, hdm⟩ _
        have hkp2 : tp_kp μ w2 := m_G_kp (tp_kp_pi (by decide) hkp3) hGm
        have hm6 := hTm.1
        have hall := hMc.2.2.1
        refine g_if_eq (tgt := 28) rfl (by decide) (fun hx => absurd hx (by omega)) (fun _ => ?_)
        refine g_iload_n rfl rfl ?_
        refine g_iconst rfl ⟨by decide, by decide⟩ ?_
        refine g_aload_n rfl rfl ?_
        refine x_geti (v := (w2.1 201 27)) rfl rfl (by decide) (Or.inl rfl) rfl ?_
        refine g_iconst rfl ⟨by decide, by decide⟩ ?_
        refine x_isub (z := (w2.1 201 27) - 1) rfl (by omega) ⟨by omega, by omega⟩ ?_
        refine g_iS (as := [tI k, tI 0, tI ((w2.1 201 27) - 1)]) mX12_in_ok rfl rfl rfl rfl rfl rfl rfl ?_
        refine g_iload_n rfl rfl ?_
        refine g_iload_n rfl rfl ?_
        refine g_icmp_lt (tgt := 14) rfl (by decide) (fun hx => absurd hx (by omega)) (fun _ => ?_)
        refine g_iload_n rfl rfl ?_
        refine g_iload_n rfl rfl ?_
        refine g_icmp_gt (tgt := 14) rfl (by decide) (fun hx => absurd hx (by omega)) (fun _ => ?_)
        refine g_iconst rfl ⟨by decide, by decide⟩ ?_
        refine g_goto (tgt := 15) rfl (by decide) ?_
        refine x_zreturn rfl rfl (Or.inr rfl) ?_
        intro _
        refine g_if_ne (tgt := 30) rfl (by decide) (fun _ => ?_) (fun hx => absurd hx (by omega))
        refine g_aload_n rfl rfl ?_
        refine g_iload_n rfl rfl ?_
        refine g_cV (as := [tI k]) (s_openM hG hw hW hTm hMc (by omega) (by omega)) rfl rfl mX12_openAt_ok rfl rfl rfl (by decide) rfl rfl rfl ?_
        rintro _ w4 ⟨rfl, hr4, hf4⟩ _
        have hkp4 : tp_kp μ w4 := q_f1_kp (by unfold tp_tl; omega) hkp2 hf4
        refine g_istore rfl rfl rfl ?_
        refine g_iload rfl rfl ?_
        refine g_iconst rfl ⟨by decide, by decide⟩ ?_
        refine g_icmp_ne (tgt := 48) rfl (by decide) (fun h3 => ?_) (fun h3 => ?_)
        · refine g_iload rfl rfl ?_
          refine g_iconst rfl ⟨by decide, by decide⟩ ?_
          refine g_iload rfl rfl ?_
          refine g_iconst rfl ⟨by decide, by decide⟩ ?_
          refine x_isub (z := (H k) - 1) rfl (by omega) ⟨by omega, by omega⟩ ?_
          refine g_iS (as := [tI i, tI 0, tI ((H k) - 1)]) mX12_in_ok rfl rfl rfl rfl rfl rfl rfl ?_
          refine g_iload_n rfl rfl ?_
          refine g_iload_n rfl rfl ?_
          refine g_icmp_lt (tgt := 14) rfl (by decide) (fun h4 => ?_) (fun h4 => ?_)
          · refine g_iconst rfl ⟨by decide, by decide⟩ ?_
            refine x_zreturn rfl rfl (Or.inl rfl) ?_
            intro _
            refine g_if_eq (tgt := 71) rfl (by decide) (fun _ => ?_) (fun hx => absurd hx (by omega))
            refine g_iconst rfl ⟨by decide, by decide⟩ ?_
            refine x_ireturn rfl rfl ?_
            exact ⟨(by first | rw [q_oa, if_neg (by omega), if_neg (by omega)] | (exfalso; omega)), tp_R_kp hR hkp4⟩
          · refine g_iload_n rfl rfl ?_
            refine g_iload_n rfl rfl ?_
            refine g_icmp_gt (tgt := 14) rfl (by decide) (fun h5 => ?_) (fun h5 => ?_)
            · refine g_iconst rfl ⟨by decide, by decide⟩ ?_
              refine x_zreturn rfl rfl (Or.inl rfl) ?_
              intro _
              refine g_if_eq (tgt := 71) rfl (by decide) (fun _ => ?_) (fun hx => absurd hx (by omega))
              refine g_iconst rfl ⟨by decide, by decide⟩ ?_
              refine x_ireturn rfl rfl ?_
              exact ⟨(by first | rw [q_oa, if_neg (by omega), if_neg (by omega)] | (exfalso; omega)), tp_R_kp hR hkp4⟩
            · refine g_iconst rfl ⟨by decide, by decide⟩ ?_
              refine g_goto (tgt := 15) rfl (by decide) ?_
              refine x_zreturn rfl rfl (Or.inr rfl) ?_
              intro _
              refine g_if_eq (tgt := 71) rfl (by decide) (fun hx => absurd hx (by omega)) (fun _ => ?_)
              refine g_aload_n rfl rfl ?_
              refine x_getF (r := 228) hG rfl rfl (by decide) (Or.inr ⟨_, rfl⟩) rfl ?_
              refine g_iload rfl rfl ?_
              refine x_iald (v := (w4.1 228 i)) rfl rfl (by decide) (by omega) (by omega) rfl ?_
              refine g_goto (tgt := 72) rfl (by decide) ?_
              refine x_ireturn rfl rfl ?_
              exact ⟨(by first | rw [q_oa, if_neg (by omega), if_pos (by omega), hr4 i (by omega) (by omega)] | (exfalso; omega)), tp_R_kp hR hkp4⟩
        · refine g_iload rfl rfl ?_
          refine g_goto (tgt := 72) rfl (by decide) ?_
          refine x_ireturn rfl rfl ?_
          exact ⟨(by first | rw [q_oa, if_pos (by omega)] | (exfalso; omega)), tp_R_kp hR hkp4⟩
      · refine g_iconst rfl ⟨by decide, by decide⟩ ?_
        refine x_ireturn rfl rfl ?_
        refine ⟨_, rfl, ?_⟩
        refine tp_ok_of mX12_open_ok rfl (Nat.le_refl _) ?_
        refine g_aload_n rfl rfl ?_
        refine g_iconst rfl ⟨by decide, by decide⟩ ?_
        refine g_puti rfl rfl (by decide) rfl rfl ?_
        refine g_aload_n rfl rfl ?_
        refine g_iload_n rfl rfl ?_
        refine g_iload_n rfl rfl ?_
        refine g_cV (as := [tI (a : Int), tI (d : Int)]) (hM _ (tp_kp_pi (by decide) hkp1)) rfl rfl mX12_lay_ok rfl rfl rfl (by decide) rfl rfl rfl ?_
        rintro _ w2 ⟨rfl, hTm, hMc, hGm, hdr, hdm⟩ _
        have hkp2 : tp_kp μ w2 := m_G_kp (tp_kp_pi (by decide) hkp1) hGm
        have hm6 := hTm.1
        have hall := hMc.2.2.1
        refine g_if_eq (tgt := 28) rfl (by decide) (fun hx => absurd hx (by omega)) (fun _ => ?_)
        refine g_iload_n rfl rfl ?_
        refine g_iconst rfl ⟨by decide, by decide⟩ ?_
        refine g_aload_n rfl rfl ?_
        refine x_geti (v := (w2.1 201 27)) rfl rfl (by decide) (Or.inl rfl) rfl ?_
        refine g_iconst rfl ⟨by decide, by decide⟩ ?_
        refine x_isub (z := (w2.1 201 27) - 1) rfl (by omega) ⟨by omega, by omega⟩ ?_
        refine g_iS (as := [tI k, tI 0, tI ((w2.1 201 27) - 1)]) mX12_in_ok rfl rfl rfl rfl rfl rfl rfl ?_
        refine g_iload_n rfl rfl ?_
        refine g_iload_n rfl rfl ?_
        refine g_icmp_lt (tgt := 14) rfl (by decide) (fun hx => absurd hx (by omega)) (fun _ => ?_)
        refine g_iload_n rfl rfl ?_
        refine g_iload_n rfl rfl ?_
        refine g_icmp_gt (tgt := 14) rfl (by decide) (fun _ => ?_) (fun hx => absurd hx (by omega))
        refine g_iconst rfl ⟨by decide, by decide⟩ ?_
        refine x_zreturn rfl rfl (Or.inl rfl) ?_
        intro _
        refine g_if_ne (tgt := 30) rfl (by decide) (fun hx => absurd hx (by omega)) (fun _ => ?_)
        refine g_iconst rfl ⟨by decide, by decide⟩ ?_
        refine x_ireturn rfl rfl ?_
        exact ⟨(by first | rfl | (exfalso; omega)), tp_R_kp hR hkp2⟩
