theorem e_s3_y {f : Int → Int} {a k : Int} {σ : tp_M} (h : σ.1 0 6 = 1) : e_s3 f a k σ = σ := if_pos h
theorem e_s3_n {f : Int → Int} {a k : Int} {σ : tp_M} (h : ¬ σ.1 0 6 = 1) : e_s3 f a k σ = e_trn f a k σ := if_neg h
theorem e_s4_y {f : Int → Int} {a b y dp k : Int} {σ : tp_M} (h : σ.1 0 5 = 1) : e_s4 f a b y dp k σ = e_tel f a b y dp k σ := if_pos h
theorem e_s4_n {f : Int → Int} {a b y dp k : Int} {σ : tp_M} (h : ¬ σ.1 0 5 = 1) : e_s4 f a b y dp k σ = σ := if_neg h
theorem e_s5_y {f : Int → Int} {bt k : Int} {σ : tp_M} (h : σ.1 0 5 = 1 ∧ σ.1 0 2 = bt) : e_s5 f bt k σ = e_pm f k σ := if_pos h
theorem e_s5_n {f : Int → Int} {bt k : Int} {σ : tp_M} (h : ¬ (σ.1 0 5 = 1 ∧ σ.1 0 2 = bt)) : e_s5 f bt k σ = σ := if_neg h
theorem e_s6_y {σ : tp_M} (h : σ.1 0 5 = 1) : e_s6 σ = tp_pi σ 0 4 (σ.1 0 4 + 1) := if_pos h
theorem e_s6_n {σ : tp_M} (h : ¬ σ.1 0 5 = 1) : e_s6 σ = σ := if_neg h
theorem e_it_s {f : Int → Int} {bt dp : Int} {A B Y : Int → Int} {k : Int} (h : 0 ≤ k) : e_it f bt dp A B Y (k + 1).toNat = e_stp f bt dp (A k) (B k) (Y k) k (e_it f bt dp A B Y k.toNat) := by
  rw [show (k + 1).toNat = k.toNat + 1 by omega]
  show e_stp f bt dp (A (k.toNat : Int)) (B (k.toNat : Int)) (Y (k.toNat : Int)) (k.toNat : Int) _ = _
  rw [show ((k.toNat : Nat) : Int) = k by omega]
theorem L_tel_off {f : Int → Int} {k a b y dp : Int} {σ : tp_M} (h : σ.1 0 5 = 1) (h' : (e_tel f a b y dp k σ).1 0 5 ≠ 1) : (e_tel f a b y dp k σ).1 0 2 ≤ 0 := by
  unfold e_tel at h' ⊢
  split
  · rename_i q
    rw [if_pos q] at h'
    exfalso
    apply h'
    unfold e_psh
    split
    · exact h
    · exact h
  · rename_i q
    rw [if_neg q] at h'
    split
    · rename_i q2
      rw [if_pos q2] at h'
      exact absurd h h'
    · rename_i q2
      rw [if_neg q2] at h'
      split
      · rename_i q3
        rw [if_pos q3] at h'
        exact absurd h h'
      · rename_i q3
        rw [if_neg q3] at h'
        split
        · rename_i q4
          rw [if_pos q4] at h'
          split
          · rename_i q5
            rw [if_pos q5] at h'
            exact absurd (show (e_pop σ).1 0 5 = 1 by rw [e_pop_kp.2.1]; exact h) h'
          · rw [L_gto]; exact Int.le_refl 0
        · rename_i q4
          rw [if_neg q4] at h'
          split
          · rw [L_gto]; exact Int.le_refl 0
          · rename_i q5
            rw [if_neg q5] at h'
            exact absurd h h'
theorem e_stp_J {f : Int → Int} {bt dp a b y k : Int} {σ : tp_M} (hk : 0 ≤ k) (hbt : 1 ≤ bt ∧ bt ≤ 9) (hdp : dp ≤ 4) (ha : 0 ≤ a ∧ a ≤ 40) (hb : b = -1 ∨ (0 ≤ b ∧ b ≤ 40)) (hJ : e_J f (max (k - 1) 0) k σ) (hL : σ.1 0 2 < bt) : e_J f k (k + 1) (e_stp f bt dp a b y k σ) ∧ (e_stp f bt dp a b y k σ).1 0 2 < bt := by
  have l1 : (e_out f k σ).1 0 2 < bt := by rw [L_out]; exact hL
  have l2 := L_see (f := f) (k := k) (by omega) l1
  have l3 := L_s3 (f := f) (k := k) (a := a) (by omega) l2
  have J3 := J_s3 (f := f) (k' := k) (a := a) hk ha (J_see (k' := k) (J_out hk hJ))
  have J4 := J_s4 (f := f) (k' := k) (a := a) (y := y) hdp hb (by omega) J3
  refine ⟨J_s6 (J_s5 J4), ?_⟩
  unfold e_stp
  rw [L_s6]
  refine L_s5 (by omega) (fun z => ?_) (fun z => ?_)
  · by_cases q : (e_s3 f a k (e_see f k (e_out f k σ))).1 0 5 = 1
    · rw [e_s4_y q]; exact L_tel (by omega) l3
    · rw [e_s4_n q]; omega
  · by_cases q : (e_s3 f a k (e_see f k (e_out f k σ))).1 0 5 = 1
    · rw [e_s4_y q] at z ⊢
      by_cases t : (e_tel f a b y dp k (e_s3 f a k (e_see f k (e_out f k σ)))).1 0 2 < bt
      · exact t
      · have := L_tel_off (f := f) (k := k) (a := a) (b := b) (y := y) (dp := dp) q z
        omega
    · rw [e_s4_n q]; exact l3
theorem e_it_J {f : Int → Int} {bt dp n : Int} {A B Y H : Int → Int} (hw : tp_Cw f) (hW : r_W f n A B Y H) (hbt : 1 ≤ bt ∧ bt ≤ 9) (hdp : dp ≤ 4) : ∀ k : Nat, (k : Int) ≤ n → e_J f (max ((k : Int) - 1) 0) k (e_it f bt dp A B Y k) ∧ (e_it f bt dp A B Y k).1 0 2 < bt := by
  intro k
  have hf7 := hw.2.2.2.2.2.2.2.2.1
  have hw0 := hw.1
  induction k with
  | zero => intro _; exact ⟨J_0 (by omega), by show (0 : Int) < bt; omega⟩
  | succ k ih =>
    intro hk
    obtain ⟨h1, h2⟩ := ih (by omega)
    have r := (hW.2.2.2 (k : Int) (by omega) (by omega)).1
    have e := e_stp_J (f := f) (bt := bt) (dp := dp) (a := A k) (b := B k) (y := Y k) (k := (k : Int)) (by omega) hbt hdp (by have := r.1; omega) r.2.1 h1 h2
    rw [show max (((k + 1 : Nat) : Int) - 1) 0 = (k : Int) by omega, show ((k + 1 : Nat) : Int) = (k : Int) + 1 by omega]
    exact e
set_option maxHeartbeats 4000000 in
set_option maxRecDepth 100000 in
theorem l_enc {G : tp_G} (hG : tp_Gf G = true) {c : Nat} {f : Int → Int} {μ0 : tp_M} {bt dp : Int} (hc : tp_SH c = .inl 0) (hcl : c < 37) (hw : tp_Cw f) (hCd0 : tp_Cd c f μ0) (href : μ0.2 62 2 = some c) {n : Int} {A B Y H : Int → Int} {E D U T : Int} (hW : r_W f n A B Y H) (hT0 : c_T 50 n A B Y E D U T μ0) (hrun : μ0.2 62 3 = some 50) (hbt9 : 1 ≤ bt ∧ bt ≤ 9) (hdp4 : 0 ≤ dp ∧ dp ≤ 4) : ∀ k, k ≤ n → ∀ (μ : tp_M) (σ : tp_M), 0 ≤ k → σ = e_it f bt dp A B Y k.toNat → (∃ k', c_E μ0 bt dp k' σ μ) → tp_g G mX1_encode 77 [some (tR (some 62)), some (tR (some c)), some (tR (some 50)), some (tI bt), some (tI dp), some (tI k)] [] μ (fun r μ' => r = none ∧ c_E μ0 bt dp n (e_all f bt dp A B Y n) μ') := by
  have hcn : c < 234 := by omega
  have hw0 := hw.1
  have hn0 := hW.1
  refine tp_ind _ ?_
  intro k hkN ih μ σ h0 hσ hEx
  obtain ⟨k', hE⟩ := hEx
  have hJL := e_it_J hw hW hbt9 hdp4.2 k.toNat (by omega)
  rw [← hσ, show ((k.toNat : Nat) : Int) = k by omega] at hJL
  have hJ := hJL.1
  have hL := hJL.2
  clear hJL
  obtain ⟨⟨a0, a1, a2, a4, a5, a6, a7, a8, a9, a10, al⟩, hB, hS, ⟨hbt, hdp, hnow⟩, hF, hR2⟩ := c_E_lin hE
  obtain ⟨j1, j2, j3, j4, j5, j6, j7, j8, j9⟩ := e_J_lin hJ
  have hT : c_T 50 n A B Y E D U T μ := c_T_fr (fun k9 z1 z2 => hF k9 (by omega)) hT0
  have hn6 := hT.1
  have hrl := hw.2.2
  have hkn : n ≤ k → n.toNat = k.toNat := fun z => by omega
  have hJn : n ≤ k → e_J f (max (n - 1) 0) n σ := fun z => by rw [show n = k by omega]; exact hJ
  refine g_iload rfl rfl ?_
  refine g_aload_n rfl rfl ?_
  refine x_geti (v := (μ.1 50 6)) rfl rfl (by decide) (Or.inl rfl) rfl ?_
  refine g_icmp_ge (tgt := 186) rfl (by decide) (fun h1 => ?_) (fun h1 => ?_)
  · refine g_aload_n rfl rfl ?_
    refine g_aload_n rfl rfl ?_
    refine x_geti (v := (μ.1 50 6)) rfl rfl (by decide) (Or.inl rfl) rfl ?_
    refine g_puti rfl rfl (by decide) rfl rfl ?_
    refine g_aload_n rfl rfl ?_
    refine x_geti (v := (μ.1 62 12)) rfl rfl (by decide) (Or.inr (Or.inl rfl)) rfl ?_
    refine g_if_eq (tgt := 219) rfl (by decide) (fun h2 => ?_) (fun h2 => ?_)
    · refine x_return rfl rfl ?_
      have e9 : e_fin f n σ = σ := if_neg (by omega)
      exact ⟨rfl, by unfold e_all; rw [hkn (by omega), ← hσ, e9]; exact ⟨⟨a0, a1, a2, a4, a5, a6, a7, a8, a9, a10, al⟩, (fun i i0 i1 => hB i i0 i1), (fun i i0 i1 => hS i i0 i1), ⟨hbt, hdp, (by show μ.1 50 6 = n; omega)⟩, (fun c9 z9 => by rw [tp_pi_ne (by omega)]; exact hF c9 z9), hR2⟩⟩
    · refine g_aload_n rfl rfl ?_
      have hE0 : c_E μ0 bt dp n σ (tp_pi μ 62 6 (μ.1 50 6)) := ⟨⟨a0, a1, a2, a4, a5, a6, a7, a8, a9, a10, al⟩, (fun i i0 i1 => hB i i0 i1), (fun i i0 i1 => hS i i0 i1), ⟨hbt, hdp, (by show μ.1 50 6 = n; omega)⟩, (fun c9 z9 => by rw [tp_pi_ne (by omega)]; exact hF c9 z9), hR2⟩
      refine g_cV (as := []) (s_putMap (m := max (n - 1) 0) (k := n) hG hc hcl hw hCd0 href (by omega) (by omega) hE0 (hJn (by omega))) rfl rfl mX1_putMap_ok rfl rfl rfl (by decide) rfl rfl rfl ?_
      rintro _ w6 ⟨rfl, hE6⟩ _
      have hp6 := e_pmk_l f σ
      have hl6 := e_pm_l (f := f) (t := n) (σ := σ)
      have hJ6 : e_J f (max (n - 1) 0) n (e_pm f n σ) := J_pm (hJn (by omega))
      obtain ⟨σ6, hq6⟩ : ∃ τ9, τ9 = e_pm f n σ := ⟨_, rfl⟩
      rw [← hq6] at hE6 hl6 hJ6
      obtain ⟨⟨a06, a16, a26, a46, a56, a66, a76, a86, a96, a106, al6⟩, hB6, hS6, ⟨hbt6, hdp6, hnow6⟩, hF6, hR26⟩ := c_E_lin hE6
      refine g_if_eq (tgt := 219) rfl (by decide) (fun h3 => ?_) (fun h3 => ?_)
      · refine x_return rfl rfl ?_
        have e9 : e_fin f n σ = σ6 := by unfold e_fin; rw [if_pos (by omega), e_pp_n (by omega)]; exact hq6.symm
        exact ⟨rfl, by unfold e_all; rw [hkn (by omega), ← hσ, e9]; exact hE6⟩
      · refine g_aload_n rfl rfl ?_
        refine g_iconst rfl ⟨by decide, by decide⟩ ?_
        refine g_aload_n rfl rfl ?_
        refine x_geti (v := (w6.1 62 11)) rfl rfl (by decide) (Or.inl rfl) rfl ?_
        refine g_iconst rfl ⟨by decide, by decide⟩ ?_
        have hp7 : tp_k G mX1_put [tR (some 62), tI 4, tI (w6.1 62 11), tI 0] w6 (fun r μ' => r = some (tI (e_ok f σ6)) ∧ c_E μ0 bt dp n (e_put f 4 (σ.1 0 4) 0 10 n n σ6) μ') := by
          rw [show w6.1 62 11 = σ.1 0 4 by omega]
          exact s_put (m := max (n - 1) 0) hG hc hcl hw hCd0 href (by omega) (by omega) hE6 hJ6
        refine g_cV (as := [tI 4, tI (w6.1 62 11), tI 0]) (hp7) rfl rfl mX1_put_ok rfl rfl rfl (by decide) rfl rfl rfl ?_
        rintro _ w7 ⟨rfl, hE7⟩ _
        refine g_popi rfl ?_
        refine x_return rfl rfl ?_
        have e9 : e_fin f n σ = e_put f 4 (σ.1 0 4) 0 10 n n σ6 := by unfold e_fin; rw [if_pos (by omega), e_pp_y (by omega), ← hq6]
        exact ⟨rfl, by unfold e_all; rw [hkn (by omega), ← hσ, e9]; exact hE7⟩
  · refine g_aload_n rfl rfl ?_
    refine g_iload rfl rfl ?_
    refine g_puti rfl rfl (by decide) rfl rfl ?_
    refine g_aload_n rfl rfl ?_
    have hE0 : c_E μ0 bt dp k σ (tp_pi μ 62 6 k) := ⟨⟨a0, a1, a2, a4, a5, a6, a7, a8, a9, a10, al⟩, (fun i i0 i1 => hB i i0 i1), (fun i i0 i1 => hS i i0 i1), ⟨hbt, hdp, rfl⟩, (fun c9 z9 => by rw [tp_pi_ne (by omega)]; exact hF c9 z9), hR2⟩
    refine g_cV (as := []) (s_lout (m := max (k - 1) 0) (k := k) hG hc hcl hw hCd0 href (by omega) (by omega) hE0 hJ) rfl rfl mX1_letOneOut_ok rfl rfl rfl (by decide) rfl rfl rfl ?_
    rintro _ w1 ⟨rfl, hE1⟩ _
    obtain ⟨σ1, hq1⟩ : ∃ τ9, τ9 = e_out f k σ := ⟨_, rfl⟩
    rw [← hq1] at hE1
    have hJ1 : e_J f k k σ1 := by rw [hq1]; exact J_out h0 hJ
    have hL1 : σ1.1 0 2 < bt := by rw [hq1, L_out]; exact hL
    obtain ⟨⟨a01, a11, a21, a41, a51, a61, a71, a81, a91, a101, al1⟩, hB1, hS1, ⟨hbt1, hdp1, hnow1⟩, hF1, hR21⟩ := c_E_lin hE1
    obtain ⟨j11, j21, j31, j41, j51, j61, j71, j81, j91⟩ := e_J_lin hJ1
    refine g_aload_n rfl rfl ?_
    refine g_cV (as := []) (s_seeA (m := k) (k := k) hG hc hcl hw hCd0 href (by omega) (by omega) hE1 hJ1) rfl rfl mX1_seeAgain_ok rfl rfl rfl (by decide) rfl rfl rfl ?_
    rintro _ w2 ⟨rfl, hE2⟩ _
    obtain ⟨σ2, hq2⟩ : ∃ τ9, τ9 = e_see f k σ1 := ⟨_, rfl⟩
    rw [← hq2] at hE2
    have hJ2 : e_J f k k σ2 := by rw [hq2]; exact J_see hJ1
    have hL2 : σ2.1 0 2 < bt := by rw [hq2]; exact L_see (by omega) hL1
    obtain ⟨⟨a02, a12, a22, a42, a52, a62, a72, a82, a92, a102, al2⟩, hB2, hS2, ⟨hbt2, hdp2, hnow2⟩, hF2, hR22⟩ := c_E_lin hE2
    obtain ⟨j12, j22, j32, j42, j52, j62, j72, j82, j92⟩ := e_J_lin hJ2
    have hb7 : σ2.1 0 6 = 1 → σ2.1 0 5 = 0 := j72
    have hT2 : c_T 50 n A B Y E D U T w2 := c_T_fr (fun k9 z1 z2 => hF2 k9 (by omega)) hT0
    have hak := (hW.2.2.2 k h0 (by omega)).1.1
    have hbk : q_H (B k = -1 ∨ (0 ≤ B k ∧ B k ≤ 40)) := (hW.2.2.2 k h0 (by omega)).1.2.1
    refine g_aload_n rfl rfl ?_
    refine x_geti (v := (w2.1 62 13)) rfl rfl (by decide) (Or.inr (Or.inl rfl)) rfl ?_
    refine g_if_ne (tgt := 117) rfl (by decide) (fun h4 => ?_) (fun h4 => ?_)
    · refine g_aload_n rfl rfl ?_
      refine x_geti (v := (w2.1 62 12)) rfl rfl (by decide) (Or.inr (Or.inl rfl)) rfl ?_
      refine g_if_eq (tgt := 140) rfl (by decide) (fun _ => ?_) (fun hx => absurd hx (by omega))
      refine g_aload_n rfl rfl ?_
      refine x_geti (v := (w2.1 62 12)) rfl rfl (by decide) (Or.inr (Or.inl rfl)) rfl ?_
      refine g_if_eq (tgt := 163) rfl (by decide) (fun _ => ?_) (fun hx => absurd hx (by omega))
      refine g_aload_n rfl rfl ?_
      refine x_geti (v := (w2.1 62 12)) rfl rfl (by decide) (Or.inr (Or.inl rfl)) rfl ?_
      refine g_if_eq (tgt := 180) rfl (by decide) (fun _ => ?_) (fun hx => absurd hx (by omega))
      refine x_iinc (z := k + 1) rfl rfl (by omega) ⟨by omega, by omega⟩ rfl rfl ?_
      refine g_goto (tgt := 77) rfl (by decide) ?_
      have hst : e_stp f bt dp (A k) (B k) (Y k) k σ = σ2 := by
        unfold e_stp
        rw [← hq1, ← hq2, e_s3_y (by omega), e_s4_n (by omega), e_s5_n (fun z => by omega), e_s6_n (by omega)]
      exact ih (by omega) _ σ2 (by omega) (by rw [e_it_s h0, ← hσ, hst]) ⟨k, hE2⟩
    · refine g_aload_n rfl rfl ?_
      refine g_aload_n rfl rfl ?_
      refine g_iload rfl rfl ?_
      refine g_cV (as := [tI k]) (s_at50 hG hT2 (by omega) h0 (by omega)) rfl rfl mX7_at_ok rfl rfl rfl (by decide) rfl rfl rfl ?_
      rintro _ w9 ⟨rfl, hw9⟩ _
      have hw9 := hw9.symm
      subst hw9
      refine g_cV (as := [tI (A k)]) (s_turn (m := k) (k := k) hG hc hcl hw hCd0 href (by omega) (by omega) hE2 hJ2 hak) rfl rfl mX1_turn_ok rfl rfl rfl (by decide) rfl rfl rfl ?_
      rintro _ w3 ⟨rfl, hE3⟩ _
      have hbz : σ2.1 0 6 = 0 := by omega
      obtain ⟨σ3, hq3⟩ : ∃ τ9, τ9 = e_trn f (A k) k σ2 := ⟨_, rfl⟩
      rw [← hq3] at hE3
      have hJ3 : e_J f k k σ3 := by rw [hq3]; exact J_trn (by omega) (by omega) hJ2 hbz
      have hL3 : σ3.1 0 2 < bt := by rw [hq3]; exact L_trn (by omega) hL2
      obtain ⟨⟨a03, a13, a23, a43, a53, a63, a73, a83, a93, a103, al3⟩, hB3, hS3, ⟨hbt3, hdp3, hnow3⟩, hF3, hR23⟩ := c_E_lin hE3
      obtain ⟨j13, j23, j33, j43, j53, j63, j73, j83, j93⟩ := e_J_lin hJ3
      have hT3 : c_T 50 n A B Y E D U T w3 := c_T_fr (fun k9 z1 z2 => hF3 k9 (by omega)) hT0
      refine g_aload_n rfl rfl ?_
      refine x_geti (v := (w3.1 62 12)) rfl rfl (by decide) (Or.inr (Or.inl rfl)) rfl ?_
      refine g_if_eq (tgt := 140) rfl (by decide) (fun h5 => ?_) (fun h5 => ?_)
      · refine g_aload_n rfl rfl ?_
        refine x_geti (v := (w3.1 62 12)) rfl rfl (by decide) (Or.inr (Or.inl rfl)) rfl ?_
        refine g_if_eq (tgt := 163) rfl (by decide) (fun _ => ?_) (fun hx => absurd hx (by omega))
        refine g_aload_n rfl rfl ?_
        refine x_geti (v := (w3.1 62 12)) rfl rfl (by decide) (Or.inr (Or.inl rfl)) rfl ?_
        refine g_if_eq (tgt := 180) rfl (by decide) (fun _ => ?_) (fun hx => absurd hx (by omega))
        refine x_iinc (z := k + 1) rfl rfl (by omega) ⟨by omega, by omega⟩ rfl rfl ?_
        refine g_goto (tgt := 77) rfl (by decide) ?_
        have hst : e_stp f bt dp (A k) (B k) (Y k) k σ = σ3 := by
          unfold e_stp
          rw [← hq1, ← hq2, e_s3_n (by omega), ← hq3, e_s4_n (by omega), e_s5_n (fun z => by omega), e_s6_n (by omega)]
        exact ih (by omega) _ σ3 (by omega) (by rw [e_it_s h0, ← hσ, hst]) ⟨k, hE3⟩
      · refine g_aload_n rfl rfl ?_
        refine g_aload_n rfl rfl ?_
        refine g_iload rfl rfl ?_
        refine g_cV (as := [tI k]) (s_at50 hG hT3 (by omega) h0 (by omega)) rfl rfl mX7_at_ok rfl rfl rfl (by decide) rfl rfl rfl ?_
        rintro _ w9 ⟨rfl, hw9⟩ _
        have hw9 := hw9.symm
        subst hw9
        refine g_aload_n rfl rfl ?_
        refine g_iload rfl rfl ?_
        refine g_cV (as := [tI k]) (s_behind50 hG hT3 (by omega) h0 (by omega)) rfl rfl mX7_behind_ok rfl rfl rfl (by decide) rfl rfl rfl ?_
        rintro _ w9 ⟨rfl, hw9⟩ _
        have hw9 := hw9.symm
        subst hw9
        refine g_cV (as := [tI (A k), tI (B k)]) (s_tell (m := k) (k := k) hG hc hcl hw hCd0 href (by omega) (by omega) hE3 hJ3 hW hT0 hrun (by omega) hdp4 (by omega) (by omega)) rfl rfl mX1_tellWay_ok rfl rfl rfl (by decide) rfl rfl rfl ?_
        rintro _ w4 ⟨rfl, hE4⟩ _
        obtain ⟨σ4, hq4⟩ : ∃ τ9, τ9 = e_tel f (A k) (B k) (Y k) dp k σ3 := ⟨_, rfl⟩
        rw [← hq4] at hE4
        have hJ4 : e_J f k k σ4 := by rw [hq4]; exact J_tel (by omega) hbk (by omega) hJ3
        obtain ⟨⟨a04, a14, a24, a44, a54, a64, a74, a84, a94, a104, al4⟩, hB4, hS4, ⟨hbt4, hdp4, hnow4⟩, hF4, hR24⟩ := c_E_lin hE4
        obtain ⟨j14, j24, j34, j44, j54, j64, j74, j84, j94⟩ := e_J_lin hJ4
        refine g_aload_n rfl rfl ?_
        refine x_geti (v := (w4.1 62 12)) rfl rfl (by decide) (Or.inr (Or.inl rfl)) rfl ?_
        refine g_if_eq (tgt := 163) rfl (by decide) (fun h6 => ?_) (fun h6 => ?_)
        · refine g_aload_n rfl rfl ?_
          refine x_geti (v := (w4.1 62 12)) rfl rfl (by decide) (Or.inr (Or.inl rfl)) rfl ?_
          refine g_if_eq (tgt := 180) rfl (by decide) (fun _ => ?_) (fun hx => absurd hx (by omega))
          refine x_iinc (z := k + 1) rfl rfl (by omega) ⟨by omega, by omega⟩ rfl rfl ?_
          refine g_goto (tgt := 77) rfl (by decide) ?_
          have hst : e_stp f bt dp (A k) (B k) (Y k) k σ = σ4 := by
            unfold e_stp
            rw [← hq1, ← hq2, e_s3_n (by omega), ← hq3, e_s4_y (by omega), ← hq4, e_s5_n (fun z => by omega), e_s6_n (by omega)]
          exact ih (by omega) _ σ4 (by omega) (by rw [e_it_s h0, ← hσ, hst]) ⟨k, hE4⟩
        · refine g_aload_n rfl rfl ?_
          refine x_geti (v := (w4.1 62 9)) rfl rfl (by decide) (Or.inl rfl) rfl ?_
          refine g_aload_n rfl rfl ?_
          refine x_geti (v := (w4.1 62 4)) rfl rfl (by decide) (Or.inl rfl) rfl ?_
          refine g_icmp_ne (tgt := 163) rfl (by decide) (fun h7 => ?_) (fun h7 => ?_)
          · refine g_aload_n rfl rfl ?_
            refine x_geti (v := (w4.1 62 12)) rfl rfl (by decide) (Or.inr (Or.inl rfl)) rfl ?_
            refine g_if_eq (tgt := 180) rfl (by decide) (fun hx => absurd hx (by omega)) (fun _ => ?_)
            refine g_aload_n rfl rfl ?_
            refine g_dupr rfl ?_
            refine x_geti (v := (w4.1 62 11)) rfl rfl (by decide) (Or.inl rfl) rfl ?_
            refine g_iconst rfl ⟨by decide, by decide⟩ ?_
            refine x_iadd (z := (w4.1 62 11) + 1) rfl (by omega) ⟨by omega, by omega⟩ ?_
            refine g_puti rfl rfl (by decide) rfl rfl ?_
            refine x_iinc (z := k + 1) rfl rfl (by omega) ⟨by omega, by omega⟩ rfl rfl ?_
            refine g_goto (tgt := 77) rfl (by decide) ?_
            have hst : e_stp f bt dp (A k) (B k) (Y k) k σ = (tp_pi σ4 0 4 ((σ4.1 0 4) + 1)) := by
              unfold e_stp
              rw [← hq1, ← hq2, e_s3_n (by omega), ← hq3, e_s4_y (by omega), ← hq4, e_s5_n (fun z => by omega), e_s6_y (by omega)]
            exact ih (by omega) _ (tp_pi σ4 0 4 ((σ4.1 0 4) + 1)) (by omega) (by rw [e_it_s h0, ← hσ, hst]) ⟨k, ⟨⟨a04, a14, a24, (by show (w4.1 62 11) + 1 = (σ4.1 0 4) + 1; first | (rw [a44]; done) | (simp only [a04, a14, a24, a44, a54, a64, a74, a84, a94, a104]; done) | omega), a54, a64, a74, a84, a94, a104, al4⟩, (fun i i0 i1 => hB4 i i0 i1), (fun i i0 i1 => hS4 i i0 i1), ⟨hbt4, hdp4, hnow4⟩, (fun c9 z9 => by rw [tp_pi_ne (by omega)]; exact hF4 c9 z9), hR24⟩⟩
          · refine g_aload_n rfl rfl ?_
            refine g_cV (as := []) (s_putMap (m := k) (k := k) hG hc hcl hw hCd0 href (by omega) (by omega) hE4 hJ4) rfl rfl mX1_putMap_ok rfl rfl rfl (by decide) rfl rfl rfl ?_
            rintro _ w5 ⟨rfl, hE5⟩ _
            have hp5 := e_pmk_l f σ4
            obtain ⟨σ5, hq5⟩ : ∃ τ9, τ9 = e_pm f k σ4 := ⟨_, rfl⟩
            rw [← hq5] at hE5
            have hJ5 : e_J f k k σ5 := by rw [hq5]; exact J_pm hJ4
            obtain ⟨⟨a05, a15, a25, a45, a55, a65, a75, a85, a95, a105, al5⟩, hB5, hS5, ⟨hbt5, hdp5, hnow5⟩, hF5, hR25⟩ := c_E_lin hE5
            obtain ⟨j15, j25, j35, j45, j55, j65, j75, j85, j95⟩ := e_J_lin hJ5
            refine g_popi rfl ?_
            refine g_aload_n rfl rfl ?_
            refine x_geti (v := (w5.1 62 12)) rfl rfl (by decide) (Or.inr (Or.inl rfl)) rfl ?_
            refine g_if_eq (tgt := 180) rfl (by decide) (fun h8 => ?_) (fun h8 => ?_)
            · refine x_iinc (z := k + 1) rfl rfl (by omega) ⟨by omega, by omega⟩ rfl rfl ?_
              refine g_goto (tgt := 77) rfl (by decide) ?_
              have hst : e_stp f bt dp (A k) (B k) (Y k) k σ = σ5 := by
                unfold e_stp
                rw [← hq1, ← hq2, e_s3_n (by omega), ← hq3, e_s4_y (by omega), ← hq4, e_s5_y ⟨by omega, by omega⟩, ← hq5, e_s6_n (by omega)]
              exact ih (by omega) _ σ5 (by omega) (by rw [e_it_s h0, ← hσ, hst]) ⟨k, hE5⟩
            · refine g_aload_n rfl rfl ?_
              refine g_dupr rfl ?_
              refine x_geti (v := (w5.1 62 11)) rfl rfl (by decide) (Or.inl rfl) rfl ?_
              refine g_iconst rfl ⟨by decide, by decide⟩ ?_
              refine x_iadd (z := (w5.1 62 11) + 1) rfl (by omega) ⟨by omega, by omega⟩ ?_
              refine g_puti rfl rfl (by decide) rfl rfl ?_
              refine x_iinc (z := k + 1) rfl rfl (by omega) ⟨by omega, by omega⟩ rfl rfl ?_
              refine g_goto (tgt := 77) rfl (by decide) ?_
              have hst : e_stp f bt dp (A k) (B k) (Y k) k σ = (tp_pi σ5 0 4 ((σ5.1 0 4) + 1)) := by
                unfold e_stp
                rw [← hq1, ← hq2, e_s3_n (by omega), ← hq3, e_s4_y (by omega), ← hq4, e_s5_y ⟨by omega, by omega⟩, ← hq5, e_s6_y (by omega)]
              exact ih (by omega) _ (tp_pi σ5 0 4 ((σ5.1 0 4) + 1)) (by omega) (by rw [e_it_s h0, ← hσ, hst]) ⟨k, ⟨⟨a05, a15, a25, (by show (w5.1 62 11) + 1 = (σ5.1 0 4) + 1; first | (rw [a45]; done) | (simp only [a05, a15, a25, a45, a55, a65, a75, a85, a95, a105]; done) | omega), a55, a65, a75, a85, a95, a105, al5⟩, (fun i i0 i1 => hB5 i i0 i1), (fun i i0 i1 => hS5 i i0 i1), ⟨hbt5, hdp5, hnow5⟩, (fun c9 z9 => by rw [tp_pi_ne (by omega)]; exact hF5 c9 z9), hR25⟩⟩
set_option maxHeartbeats 4000000 in
set_option maxRecDepth 100000 in
theorem s_encode {G : tp_G} {μ : tp_M} (hG : tp_Gf G = true) {c : Nat} {f : Int → Int} {bt dp : Int} (hc : tp_SH c = .inl 0) (hcl : c < 37) (hw : tp_Cw f) (hCd : tp_Cd c f μ) {n : Int} {A B Y H : Int → Int} {E D U T : Int} (hW : r_W f n A B Y H) (hT : c_T 50 n A B Y E D U T μ) (hbt9 : 1 ≤ bt ∧ bt ≤ 9) (hdp4 : 0 ≤ dp ∧ dp ≤ 4) : tp_k G mX1_encode [tR (some 62), tR (some c), tR (some 50), tI bt, tI dp] μ (fun r μ' => r = none ∧ c_E (tp_pr (tp_pr μ 62 2 (some c)) 62 3 (some 50)) bt dp n (e_all f bt dp A B Y n) μ') := by
  refine tp_ok_of mX1_encode_ok rfl (Nat.le_refl _) ?_
  have hcn : c < 234 := by omega
  have hn0 := hW.1
  refine g_aload_n rfl rfl ?_
  refine g_aload_n rfl rfl ?_
  refine x_putr rfl rfl (by decide) rfl (Or.inl ⟨_, rfl⟩) rfl ?_
  refine g_aload_n rfl rfl ?_
  refine g_aload_n rfl rfl ?_
  refine x_putr rfl rfl (by decide) rfl (Or.inl ⟨_, rfl⟩) rfl ?_
  refine g_aload_n rfl rfl ?_
  refine g_iload_n rfl rfl ?_
  refine g_puti rfl rfl (by decide) rfl rfl ?_
  refine g_aload_n rfl rfl ?_
  refine g_iload rfl rfl ?_
  refine g_puti rfl rfl (by decide) rfl rfl ?_
  refine g_aload_n rfl rfl ?_
  refine g_iconst rfl ⟨by decide, by decide⟩ ?_
  refine g_puti rfl rfl (by decide) rfl rfl ?_
  refine g_aload_n rfl rfl ?_
  refine g_iconst rfl ⟨by decide, by decide⟩ ?_
  refine g_puti rfl rfl (by decide) rfl rfl ?_
  refine g_aload_n rfl rfl ?_
  refine g_iconst rfl ⟨by decide, by decide⟩ ?_
  refine g_puti rfl rfl (by decide) rfl rfl ?_
  refine g_aload_n rfl rfl ?_
  refine g_iconst rfl ⟨by decide, by decide⟩ ?_
  refine g_putz rfl rfl (by decide) rfl rfl (Or.inl rfl) ?_
  refine g_aload_n rfl rfl ?_
  refine g_iconst rfl ⟨by decide, by decide⟩ ?_
  refine g_putz rfl rfl (by decide) rfl rfl (Or.inl rfl) ?_
  refine g_aload_n rfl rfl ?_
  refine g_iconst rfl ⟨by decide, by decide⟩ ?_
  refine g_puti rfl rfl (by decide) rfl rfl ?_
  refine g_aload_n rfl rfl ?_
  refine g_iconst rfl ⟨by decide, by decide⟩ ?_
  refine g_puti rfl rfl (by decide) rfl rfl ?_
  refine g_aload_n rfl rfl ?_
  refine x_getF (r := 63) hG rfl rfl (by decide) (Or.inl ⟨_, rfl⟩) rfl ?_
  refine g_iV (as := []) mX3_clear_ok rfl rfl rfl rfl rfl rfl (by decide) rfl rfl rfl ?_
  refine g_aload_n rfl rfl ?_
  refine g_iconst rfl ⟨by decide, by decide⟩ ?_
  refine g_puti rfl rfl (by decide) rfl rfl ?_
  refine x_return rfl rfl ?_
  intro _
  refine g_aload_n rfl rfl ?_
  refine x_getF (r := 68) hG rfl rfl (by decide) (Or.inl ⟨_, rfl⟩) rfl ?_
  refine g_iV (as := []) mX8_clear_ok rfl rfl rfl rfl rfl rfl (by decide) rfl rfl rfl ?_
  refine g_aload_n rfl rfl ?_
  refine g_iconst rfl ⟨by decide, by decide⟩ ?_
  refine g_puti rfl rfl (by decide) rfl rfl ?_
  refine x_return rfl rfl ?_
  intro _
  refine g_aload_n rfl rfl ?_
  refine g_iV (as := []) mX1_clearMap_ok rfl rfl rfl rfl rfl rfl (by decide) rfl rfl rfl ?_
  refine g_aload_n rfl rfl ?_
  refine g_iconst rfl ⟨by decide, by decide⟩ ?_
  refine g_puti rfl rfl (by decide) rfl rfl ?_
  refine g_aload_n rfl rfl ?_
  refine g_iconst rfl ⟨by decide, by decide⟩ ?_
  refine g_puti rfl rfl (by decide) rfl rfl ?_
  refine x_return rfl rfl ?_
  intro _
  refine g_iconst rfl ⟨by decide, by decide⟩ ?_
  refine g_istore rfl rfl rfl ?_
  refine l_enc (μ0 := (tp_pr (tp_pr μ 62 2 (some c)) 62 3 (some 50))) hG hc hcl hw hCd rfl hW hT rfl hbt9 hdp4 0 (by omega) _ e_0 (by omega) rfl ⟨μ.1 62 6, ⟨⟨rfl, rfl, rfl, rfl, rfl, rfl, rfl, rfl, rfl, rfl, fun z => by have z : (0 : Int) = 1 := z; omega⟩, fun i i0 i1 => by have i1 : i < 0 := i1; omega, fun i i0 i1 => by have i1 : i < 0 := i1; omega, ⟨rfl, rfl, rfl⟩, fun c9 z9 => ?_, rfl⟩⟩
  rw [tp_pi_ne (by omega), tp_pi_ne (by omega), tp_pi_ne (by omega), tp_pi_ne (by omega), tp_pi_ne (by omega), tp_pi_ne (by omega), tp_pi_ne (by omega), tp_pi_ne (by omega), tp_pi_ne (by omega), tp_pi_ne (by omega), tp_pi_ne (by omega), tp_pi_ne (by omega), tp_pi_ne (by omega)]
  rfl
