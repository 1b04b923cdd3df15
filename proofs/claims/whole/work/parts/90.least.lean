/-- the sum by so many bits -/
def q_SB (f A B Y : Int → Int) (n b : Int) : Int := (e_all f b (f 2) A B Y n).1 0 12
theorem e_all_p {f : Int → Int} {bt dp n : Int} {A B Y H : Int → Int} (hw : tp_Cw f) (hW : r_W f n A B Y H) (hbt : 1 ≤ bt ∧ bt ≤ 9) (hdp : dp ≤ 4) : e_B (e_all f bt dp A B Y n) ∧ (0 ≤ (e_all f bt dp A B Y n).1 0 9 ∧ (e_all f bt dp A B Y n).1 0 9 ≤ 209) ∧ (0 ≤ (e_all f bt dp A B Y n).1 0 12 ∧ (e_all f bt dp A B Y n).1 0 12 ≤ 3344) := by
  have h := e_all_B (bt := bt) (dp := dp) hw hW hbt hdp
  have hp : 0 ≤ (e_all f bt dp A B Y n).1 0 9 ∧ (e_all f bt dp A B Y n).1 0 9 ≤ 209 := by
    have j1 := h.2.1
    have j2 := h.2.2.1
    have hf := hw.2.2.2.2.2.2.2.2.1
    have hn := hW.1
    omega
  exact ⟨h.1, hp, e_B_sum h.1 hp⟩
def q_lb (f A B Y : Int → Int) (n : Int) : Nat → Int × Int
  | 0 => (1, 1000000)
  | m + 1 => if q_SB f A B Y n ((m : Int) + 1) < (q_lb f A B Y n m).2 then ((m : Int) + 1, q_SB f A B Y n ((m : Int) + 1)) else q_lb f A B Y n m
def q_LB (f A B Y : Int → Int) (n k : Int) : Int × Int := q_lb f A B Y n (k - 1).toNat
theorem q_LB_s {f A B Y : Int → Int} {n k : Int} (h : 1 ≤ k) : q_LB f A B Y n (k + 1) = if q_SB f A B Y n k < (q_LB f A B Y n k).2 then (k, q_SB f A B Y n k) else q_LB f A B Y n k := by
  unfold q_LB
  rw [show (k + 1 - 1).toNat = (k - 1).toNat + 1 by omega]
  show (if q_SB f A B Y n (((k - 1).toNat : Int) + 1) < _ then ((((k - 1).toNat : Int) + 1), q_SB f A B Y n (((k - 1).toNat : Int) + 1)) else _) = _
  rw [show (((k - 1).toNat : Nat) : Int) + 1 = k by omega]
theorem q_LB_y {f A B Y : Int → Int} {n k : Int} (h : 1 ≤ k) (hs : q_SB f A B Y n k < (q_LB f A B Y n k).2) : q_LB f A B Y n (k + 1) = (k, q_SB f A B Y n k) := by rw [q_LB_s h, if_pos hs]
theorem q_LB_n {f A B Y : Int → Int} {n k : Int} (h : 1 ≤ k) (hs : ¬ q_SB f A B Y n k < (q_LB f A B Y n k).2) : q_LB f A B Y n (k + 1) = q_LB f A B Y n k := by rw [q_LB_s h, if_neg hs]
/-- how much is rebuilt without one packet -/
def q_WZ (σ : tp_M) (k : Int) : Int := q_s (v_S (v_1 k) σ (σ.1 0 9)).2.2.2 (v_S (v_1 k) σ (σ.1 0 9)).2.1
theorem q_WZ_b {f A B Y : Int → Int} {dp n : Int} {σ : tp_M} (hn : 0 ≤ n) (hp : 0 ≤ σ.1 0 9) (H : ∀ p, 0 ≤ p → p < σ.1 0 9 → s_H f A B Y dp n σ p) (k : Int) : q_WZ σ k ≤ n := Int.le_trans (v_I_all (l := v_1 k) H hp (Int.le_refl _)).2.2.2.2.2 (v_K_n hn H)
def q_wr (σ : tp_M) : Nat → Int × Int
  | 0 => (-1, 1000000)
  | m + 1 => if q_WZ σ m < (q_wr σ m).2 then ((m : Int), q_WZ σ m) else q_wr σ m
def q_WR (σ : tp_M) (k : Int) : Int × Int := q_wr σ k.toNat
theorem q_WR_s {σ : tp_M} {k : Int} (h : 0 ≤ k) : q_WR σ (k + 1) = if q_WZ σ k < (q_WR σ k).2 then (k, q_WZ σ k) else q_WR σ k := by
  unfold q_WR
  rw [show (k + 1).toNat = k.toNat + 1 by omega]
  show (if q_WZ σ (k.toNat : Int) < _ then ((k.toNat : Int), q_WZ σ (k.toNat : Int)) else _) = _
  rw [show ((k.toNat : Nat) : Int) = k by omega]
theorem q_WR_y {σ : tp_M} {k : Int} (h : 0 ≤ k) (hs : q_WZ σ k < (q_WR σ k).2) : q_WR σ (k + 1) = (k, q_WZ σ k) := by rw [q_WR_s h, if_pos hs]
theorem q_WR_n {σ : tp_M} {k : Int} (h : 0 ≤ k) (hs : ¬ q_WZ σ k < (q_WR σ k).2) : q_WR σ (k + 1) = q_WR σ k := by rw [q_WR_s h, if_neg hs]
/-- what encoding changes -/
def e_F (μ0 μ : tp_M) : Prop := ∀ c, (c < 62 ∨ 69 < c) → μ.1 c = μ0.1 c
def e_G (μ0 μ : tp_M) : Prop := (∀ c, c ≠ 201 → (c < 216 ∨ 222 < c) → μ.1 c = μ0.1 c) ∧ (∀ j, (j < 46 ∨ 58 < j) → μ.1 201 j = μ0.1 201 j)
theorem m_T_e {n : Int} {A B Y : Int → Int} {E D U T : Int} {μ μ' : tp_M} (h : e_G μ μ') (hT : m_T n A B Y E D U T μ) : m_T n A B Y E D U T μ' := by
  unfold m_T
  rw [h.2 27 (by omega), h.2 28 (by omega), h.2 30 (by omega), h.2 31 (by omega), h.2 32 (by omega), h.1 212 (by omega) (by omega), h.1 213 (by omega) (by omega), h.1 214 (by omega) (by omega)]
  exact hT
theorem tp_Mc_e {k : Int} {f : Int → Int} {μ μ' : tp_M} (h : e_G μ μ') (hM : tp_Mc k f μ) : tp_Mc k f μ' := by
  unfold tp_Mc
  rw [h.2 24 (by omega), h.2 26 (by omega), h.1 207 (by omega) (by omega)]
  exact hM
theorem e_G_kp {μ μ1 μ2 : tp_M} (h : tp_kp μ μ1) (h2 : e_G μ1 μ2) : tp_kp μ μ2 := fun k hk => (h2.1 k (by unfold tp_tl at hk; omega) (by unfold tp_tl at hk; omega)).trans (h k hk)
theorem e_F_kp {μ μ1 μ2 : tp_M} (h : tp_kp μ μ1) (h2 : e_F μ1 μ2) : tp_kp μ μ2 := fun k hk => (h2 k (by unfold tp_tl at hk; omega)).trans (h k hk)
set_option maxHeartbeats 4000000 in
set_option maxRecDepth 100000 in
theorem l_lb {G : tp_G} (hG : tp_Gf G = true) {c : Nat} {f : Int → Int} {n : Int} {A B Y H : Int → Int} {E D U T : Int} (hc : tp_SH c = .inl 0) (hcl : c < 37) (hw : tp_Cw f) (hW : r_W f n A B Y H) {μ0 : tp_M} (hT0 : c_T 50 n A B Y E D U T μ0) (hCd0 : tp_Cd c f μ0) (hco0 : μ0.2 50 5 = some c) : ∀ k, k ≤ 10 → ∀ (μ : tp_M) (b l : Int) (x5 : Option tp_V), 1 ≤ k → b = (q_LB f A B Y n k).1 → l = (q_LB f A B Y n k).2 → e_F μ0 μ → tp_g G mX11_leastBits 23 [some (tR (some 0)), some (tR (some c)), some (tI b), some (tI l), some (tI k), x5] [] μ (fun r μ' => r = some (tI (q_LB f A B Y n 10).1) ∧ e_F μ0 μ') := by
  have hcn : c < 234 := by omega
  have hw0 := hw.1
  have hn0 := hW.1
  refine tp_ind _ ?_
  intro k hkN ih μ b l x5 hk1 hb hl hF
  have hCdm : tp_Cd c f μ := tp_Cd_fr hcl (fun k9 z9 => hF k9 (by omega)) hCd0
  have hTm : c_T 50 n A B Y E D U T μ := c_T_fr (fun c9 z1 z2 => hF c9 (by omega)) hT0
  have hrl := hw.2.2
  refine g_iload rfl rfl ?_
  refine g_bipush rfl ⟨by decide, by decide⟩ (by decide) ?_
  refine g_icmp_gt (tgt := 79) rfl (by decide) (fun h1 => ?_) (fun h1 => ?_)
  · refine g_iload_n rfl rfl ?_
    refine x_ireturn rfl rfl ?_
    exact ⟨by rw [hb, show k = 10 by omega], hF⟩
  · refine g_aload_n rfl rfl ?_
    refine x_getF (r := 62) hG rfl rfl (by decide) (Or.inl ⟨_, rfl⟩) rfl ?_
    refine g_aload_n rfl rfl ?_
    refine g_aload_n rfl rfl ?_
    refine x_getF (r := 50) hG rfl rfl (by decide) (Or.inl ⟨_, rfl⟩) rfl ?_
    refine g_iload rfl rfl ?_
    refine g_aload_n rfl rfl ?_
    refine g_iconst rfl ⟨by decide, by decide⟩ ?_
    refine g_cV (as := [tI 1]) (s_ruleN (n := 2) hG hc hcl hCdm (by decide) (by decide) (by decide)) rfl rfl mX0_rule_ok rfl hc rfl hcn rfl rfl rfl ?_
    rintro _ w9 ⟨rfl, hw9⟩ _
    have hw9 := hw9.symm
    subst hw9
    refine g_cV (as := [tR (some c), tR (some 50), tI k, tI (f 2)]) (s_encode hG hc hcl hw hCdm hW hTm (bt := k) (dp := f 2) (by omega) (by omega)) rfl rfl mX1_encode_ok rfl rfl rfl (by decide) rfl rfl rfl ?_
    rintro _ w1 ⟨rfl, hE1⟩ _
    have hF1 : e_F μ0 w1 := fun c9 z9 => (hE1.2.2.2.2.1 c9 z9).trans (hF c9 z9)
    have hal := e_all_p (bt := k) (dp := f 2) hw hW (by omega) (by omega)
    have hsz1 : w1.1 63 4 = (e_all f k (f 2) A B Y n).1 0 9 := hE1.1.2.2.2.2.2.2.2.2.1
    refine g_aload_n rfl rfl ?_
    refine x_getF (r := 62) hG rfl rfl (by decide) (Or.inl ⟨_, rfl⟩) rfl ?_
    refine x_getF (r := 63) hG rfl rfl (by decide) (Or.inl ⟨_, rfl⟩) rfl ?_
    refine g_cV (as := []) ((show tp_k G mX3_sum [tR (some 63)] w1 (fun r μ' => r = some (tI (q_SB f A B Y n k)) ∧ μ' = w1) from s_sum hG hsz1 hE1.2.1 hal.1 hal.2.1)) rfl rfl mX3_sum_ok rfl rfl rfl (by decide) rfl rfl rfl ?_
    rintro _ w9 ⟨rfl, hw9⟩ _
    have hw9 := hw9.symm
    subst hw9
    refine g_istore rfl rfl rfl ?_
    refine g_iload rfl rfl ?_
    refine g_iload_n rfl rfl ?_
    refine g_icmp_ge (tgt := 73) rfl (by decide) (fun h2 => ?_) (fun h2 => ?_)
    · refine x_iinc (z := k + 1) rfl rfl (by omega) ⟨by omega, by omega⟩ rfl rfl ?_
      refine g_goto (tgt := 23) rfl (by decide) ?_
      exact ih (by omega) _ _ _ _ (by omega) (by rw [q_LB_n hk1 (by omega)]; exact hb) (by rw [q_LB_n hk1 (by omega)]; exact hl) hF1
    · refine g_iload rfl rfl ?_
      refine g_istore_n rfl rfl rfl ?_
      refine g_iload rfl rfl ?_
      refine g_istore_n rfl rfl rfl ?_
      refine x_iinc (z := k + 1) rfl rfl (by omega) ⟨by omega, by omega⟩ rfl rfl ?_
      refine g_goto (tgt := 23) rfl (by decide) ?_
      exact ih (by omega) _ _ _ _ (by omega) (by rw [q_LB_y hk1 (by omega)]) (by rw [q_LB_y hk1 (by omega)]) hF1
set_option maxHeartbeats 4000000 in
set_option maxRecDepth 100000 in
theorem s_lb {G : tp_G} {μ : tp_M} (hG : tp_Gf G = true) {c : Nat} {f : Int → Int} {n : Int} {A B Y H : Int → Int} {E D U T : Int} (hc : tp_SH c = .inl 0) (hcl : c < 37) (hw : tp_Cw f) (hW : r_W f n A B Y H) (hT : c_T 50 n A B Y E D U T μ) (hCd : tp_Cd c f μ) (hco : μ.2 50 5 = some c) : tp_k G mX11_leastBits [tR (some 0)] μ (fun r μ' => r = some (tI (q_LB f A B Y n 10).1) ∧ e_F μ μ') := by
  refine tp_ok_of mX11_leastBits_ok rfl (Nat.le_refl _) ?_
  have hcn : c < 234 := by omega
  have hw0 := hw.1
  have hn0 := hW.1
  refine g_aload_n rfl rfl ?_
  refine x_getF (r := 50) hG rfl rfl (by decide) (Or.inl ⟨_, rfl⟩) rfl ?_
  refine x_getM (v := (some c)) hG rfl rfl (by decide) (Or.inl ⟨_, rfl⟩) rfl hco ?_
  refine g_astore_n rfl rfl rfl ?_
  refine g_aload_n rfl rfl ?_
  refine g_ifnonnull (tgt := 14) rfl (by decide) (fun _ _ => ?_) (fun hx => by cases hx)
  refine g_iconst rfl ⟨by decide, by decide⟩ ?_
  refine g_istore_n rfl rfl rfl ?_
  refine g_ldc_w rfl ⟨by decide, by decide⟩ ?_
  refine g_istore_n rfl rfl rfl ?_
  refine g_iconst rfl ⟨by decide, by decide⟩ ?_
  refine g_istore rfl rfl rfl ?_
  exact l_lb hG hc hcl hw hW hT hCd hco 1 (by omega) _ _ _ _ (by omega) rfl rfl (fun _ _ => rfl)
set_option maxHeartbeats 4000000 in
set_option maxRecDepth 100000 in
theorem l_lbM {G : tp_G} (hG : tp_Gf G = true) {ck : Int} {f : Int → Int} {n : Int} {A B Y H : Int → Int} {E D U T : Int} (hw : tp_Cw f) (hW : r_W f n A B Y H) {μ0 : tp_M} (hT0 : m_T n A B Y E D U T μ0) (hMc0 : tp_Mc ck f μ0) : ∀ k, k ≤ 10 → ∀ (μ : tp_M) (b l : Int), 1 ≤ k → b = (q_LB f A B Y n k).1 → (2 ≤ k → l = (q_LB f A B Y n k).2) → e_G μ0 μ → tp_g G mX12_leastBits 6 [some (tR (some 201)), some (tI b), some (tI l), some (tI k)] [] μ (fun r μ' => r = some (tI (q_LB f A B Y n 10).1) ∧ e_G μ0 μ') := by
  have hw0 := hw.1
  have hn0 := hW.1
  refine tp_ind _ ?_
  intro k hkN ih μ b l hk1 hb hl hF
  have hMcm := tp_Mc_e hF hMc0
  have hTm := m_T_e hF hT0
  have hrl := hw.2.2
  refine g_iload_n rfl rfl ?_
  refine g_bipush rfl ⟨by decide, by decide⟩ (by decide) ?_
  refine g_icmp_gt (tgt := 68) rfl (by decide) (fun h1 => ?_) (fun h1 => ?_)
  · refine g_iload_n rfl rfl ?_
    refine x_ireturn rfl rfl ?_
    exact ⟨by rw [hb, show k = 10 by omega], hF⟩
  · refine g_aload_n rfl rfl ?_
    refine g_iload_n rfl rfl ?_
    refine g_aload_n rfl rfl ?_
    refine g_iconst rfl ⟨by decide, by decide⟩ ?_
    refine g_cV (as := [tI 2]) (s_of hG hMcm (by omega) (by omega)) rfl rfl mX12_of_ok rfl rfl rfl (by decide) rfl rfl rfl ?_
    rintro _ w9 ⟨rfl, hw9⟩ _
    have hw9 := hw9.symm
    subst hw9
    refine g_cV (as := [tI k, tI (f 2)]) (s_encodesM hG hw hMcm hW hTm (bt := k) (dp := f 2) (by omega) (by omega)) rfl rfl mX12_encodes_ok rfl rfl rfl (by decide) rfl rfl rfl ?_
    rintro _ w1 ⟨rfl, hE1⟩ _
    have hF1 : e_G μ0 w1 := ⟨fun c9 z1 z2 => (hE1.2.2.2.1 c9 z1 z2).trans (hF.1 c9 z1 z2), fun j z => (hE1.2.2.2.2 j z).trans (hF.2 j z)⟩
    have hsm1 : w1.1 201 48 = (e_all f k (f 2) A B Y n).1 0 12 := hE1.1.2.2.2.2.2.2.2.2.2.2.1
    have hal := e_all_p (bt := k) (dp := f 2) hw hW (by omega) (by omega)
    refine g_iload_n rfl rfl ?_
    refine g_iconst rfl ⟨by decide, by decide⟩ ?_
    refine g_icmp_eq (tgt := 35) rfl (by decide) (fun h2 => ?_) (fun h2 => ?_)
    · refine g_iload_n rfl rfl ?_
      refine g_goto (tgt := 40) rfl (by decide) ?_
      refine g_istore_n rfl rfl rfl ?_
      refine g_iload_n rfl rfl ?_
      refine g_iconst rfl ⟨by decide, by decide⟩ ?_
      refine g_icmp_ne (tgt := 53) rfl (by decide) (fun hx => absurd hx (by omega)) (fun _ => ?_)
      refine g_aload_n rfl rfl ?_
      refine x_geti (v := (w1.1 201 48)) rfl rfl (by decide) (Or.inl rfl) rfl ?_
      refine g_goto (tgt := 61) rfl (by decide) ?_
      refine g_istore_n rfl rfl rfl ?_
      refine x_iinc (z := k + 1) rfl rfl (by omega) ⟨by omega, by omega⟩ rfl rfl ?_
      refine g_goto (tgt := 6) rfl (by decide) ?_
      have hSB : w1.1 201 48 = q_SB f A B Y n k := hsm1
      have hSb : q_SB f A B Y n k ≤ 3344 := by rw [← hSB, hsm1]; exact hal.2.2.2
      have h1l : k = 1 → (q_LB f A B Y n k).2 = 1000000 ∧ (q_LB f A B Y n k).1 = 1 := fun z => by rw [z]; exact ⟨rfl, rfl⟩
      by_cases hlt : q_SB f A B Y n k < (q_LB f A B Y n k).2
      · exact ih (by omega) _ _ _ (by omega) (by rw [q_LB_y hk1 hlt] <;> (show _ = k; omega)) (fun _ => by rw [q_LB_y hk1 hlt] <;> (show _ = q_SB f A B Y n k; omega)) hF1
      · exact ih (by omega) _ _ _ (by omega) (by rw [q_LB_n hk1 hlt]; omega) (fun _ => by rw [q_LB_n hk1 hlt]; omega) hF1
    · refine g_aload_n rfl rfl ?_
      refine x_geti (v := (w1.1 201 48)) rfl rfl (by decide) (Or.inl rfl) rfl ?_
      refine g_iload_n rfl rfl ?_
      refine g_icmp_ge (tgt := 39) rfl (by decide) (fun h3 => ?_) (fun h3 => ?_)
      · refine g_iload_n rfl rfl ?_
        refine g_istore_n rfl rfl rfl ?_
        refine g_iload_n rfl rfl ?_
        refine g_iconst rfl ⟨by decide, by decide⟩ ?_
        refine g_icmp_ne (tgt := 53) rfl (by decide) (fun _ => ?_) (fun hx => absurd hx (by omega))
        refine g_iload_n rfl rfl ?_
        refine g_aload_n rfl rfl ?_
        refine x_geti (v := (w1.1 201 48)) rfl rfl (by decide) (Or.inl rfl) rfl ?_
        refine g_iS (as := [tI l, tI (w1.1 201 48)]) mX12_lesser_ok rfl rfl rfl rfl rfl rfl rfl ?_
        refine g_iload_n rfl rfl ?_
        refine g_iload_n rfl rfl ?_
        refine g_icmp_ge (tgt := 9) rfl (by decide) (fun h4 => ?_) (fun h4 => ?_)
        · refine g_iload_n rfl rfl ?_
          refine x_ireturn rfl rfl ?_
          intro _
          refine g_istore_n rfl rfl rfl ?_
          refine x_iinc (z := k + 1) rfl rfl (by omega) ⟨by omega, by omega⟩ rfl rfl ?_
          refine g_goto (tgt := 6) rfl (by decide) ?_
          have hSB : w1.1 201 48 = q_SB f A B Y n k := hsm1
          have hSb : q_SB f A B Y n k ≤ 3344 := by rw [← hSB, hsm1]; exact hal.2.2.2
          have h1l : k = 1 → (q_LB f A B Y n k).2 = 1000000 ∧ (q_LB f A B Y n k).1 = 1 := fun z => by rw [z]; exact ⟨rfl, rfl⟩
          by_cases hlt : q_SB f A B Y n k < (q_LB f A B Y n k).2
          · exact ih (by omega) _ _ _ (by omega) (by rw [q_LB_y hk1 hlt] <;> (show _ = k; omega)) (fun _ => by rw [q_LB_y hk1 hlt] <;> (show _ = q_SB f A B Y n k; omega)) hF1
          · exact ih (by omega) _ _ _ (by omega) (by rw [q_LB_n hk1 hlt]; omega) (fun _ => by rw [q_LB_n hk1 hlt]; omega) hF1
        · refine g_iload_n rfl rfl ?_
          refine g_goto (tgt := 10) rfl (by decide) ?_
          refine x_ireturn rfl rfl ?_
          intro _
          refine g_istore_n rfl rfl rfl ?_
          refine x_iinc (z := k + 1) rfl rfl (by omega) ⟨by omega, by omega⟩ rfl rfl ?_
          refine g_goto (tgt := 6) rfl (by decide) ?_
          have hSB : w1.1 201 48 = q_SB f A B Y n k := hsm1
          have hSb : q_SB f A B Y n k ≤ 3344 := by rw [← hSB, hsm1]; exact hal.2.2.2
          have h1l : k = 1 → (q_LB f A B Y n k).2 = 1000000 ∧ (q_LB f A B Y n k).1 = 1 := fun z => by rw [z]; exact ⟨rfl, rfl⟩
          by_cases hlt : q_SB f A B Y n k < (q_LB f A B Y n k).2
          · exact ih (by omega) _ _ _ (by omega) (by rw [q_LB_y hk1 hlt] <;> (show _ = k; omega)) (fun _ => by rw [q_LB_y hk1 hlt] <;> (show _ = q_SB f A B Y n k; omega)) hF1
          · exact ih (by omega) _ _ _ (by omega) (by rw [q_LB_n hk1 hlt]; omega) (fun _ => by rw [q_LB_n hk1 hlt]; omega) hF1
      · refine g_iload_n rfl rfl ?_
        refine g_goto (tgt := 40) rfl (by decide) ?_
        refine g_istore_n rfl rfl rfl ?_
        refine g_iload_n rfl rfl ?_
        refine g_iconst rfl ⟨by decide, by decide⟩ ?_
        refine g_icmp_ne (tgt := 53) rfl (by decide) (fun _ => ?_) (fun hx => absurd hx (by omega))
        refine g_iload_n rfl rfl ?_
        refine g_aload_n rfl rfl ?_
        refine x_geti (v := (w1.1 201 48)) rfl rfl (by decide) (Or.inl rfl) rfl ?_
        refine g_iS (as := [tI l, tI (w1.1 201 48)]) mX12_lesser_ok rfl rfl rfl rfl rfl rfl rfl ?_
        refine g_iload_n rfl rfl ?_
        refine g_iload_n rfl rfl ?_
        refine g_icmp_ge (tgt := 9) rfl (by decide) (fun _ => ?_) (fun hx => absurd hx (by omega))
        refine g_iload_n rfl rfl ?_
        refine x_ireturn rfl rfl ?_
        intro _
        refine g_istore_n rfl rfl rfl ?_
        refine x_iinc (z := k + 1) rfl rfl (by omega) ⟨by omega, by omega⟩ rfl rfl ?_
        refine g_goto (tgt := 6) rfl (by decide) ?_
        have hSB : w1.1 201 48 = q_SB f A B Y n k := hsm1
        have hSb : q_SB f A B Y n k ≤ 3344 := by rw [← hSB, hsm1]; exact hal.2.2.2
        have h1l : k = 1 → (q_LB f A B Y n k).2 = 1000000 ∧ (q_LB f A B Y n k).1 = 1 := fun z => by rw [z]; exact ⟨rfl, rfl⟩
        by_cases hlt : q_SB f A B Y n k < (q_LB f A B Y n k).2
        · exact ih (by omega) _ _ _ (by omega) (by rw [q_LB_y hk1 hlt] <;> (show _ = k; omega)) (fun _ => by rw [q_LB_y hk1 hlt] <;> (show _ = q_SB f A B Y n k; omega)) hF1
        · exact ih (by omega) _ _ _ (by omega) (by rw [q_LB_n hk1 hlt]; omega) (fun _ => by rw [q_LB_n hk1 hlt]; omega) hF1
set_option maxHeartbeats 4000000 in
set_option maxRecDepth 100000 in
theorem s_lbM {G : tp_G} {μ : tp_M} (hG : tp_Gf G = true) {ck : Int} {f : Int → Int} {n : Int} {A B Y H : Int → Int} {E D U T : Int} (hw : tp_Cw f) (hW : r_W f n A B Y H) (hT : m_T n A B Y E D U T μ) (hMc : tp_Mc ck f μ) : tp_k G mX12_leastBits [tR (some 201)] μ (fun r μ' => r = some (tI (q_LB f A B Y n 10).1) ∧ e_G μ μ') := by
  refine tp_ok_of mX12_leastBits_ok rfl (Nat.le_refl _) ?_
  have hw0 := hw.1
  have hn0 := hW.1
  refine g_iconst rfl ⟨by decide, by decide⟩ ?_
  refine g_istore_n rfl rfl rfl ?_
  refine g_iconst rfl ⟨by decide, by decide⟩ ?_
  refine g_istore_n rfl rfl rfl ?_
  refine g_iconst rfl ⟨by decide, by decide⟩ ?_
  refine g_istore_n rfl rfl rfl ?_
  exact l_lbM hG hw hW hT hMc 1 (by omega) _ _ _ (by omega) rfl (fun z => by omega) ⟨fun _ _ _ => rfl, fun _ _ => rfl⟩
set_option maxHeartbeats 4000000 in
set_option maxRecDepth 100000 in
theorem s_saved {G : tp_G} {μ : tp_M} (hG : tp_Gf G = true) {c : Nat} {f : Int → Int} {n : Int} {A B Y H : Int → Int} {E D U T : Int} (hc : tp_SH c = .inl 0) (hcl : c < 37) (hw : tp_Cw f) (hW : r_W f n A B Y H) (hT : c_T 50 n A B Y E D U T μ) (hCd : tp_Cd c f μ) (hco : μ.2 50 5 = some c) {σ : tp_M} (hsz3 : μ.1 63 4 = σ.1 0 9) (hB3 : c_B σ μ) (hb9 : e_B σ) (hp9 : 0 ≤ σ.1 0 9 ∧ σ.1 0 9 ≤ 209) : tp_k G mX11_saved [tR (some 0)] μ (fun r μ' => r = some (tI ((e_all f (f 1) 0 A B Y n).1 0 12 - σ.1 0 12)) ∧ e_F μ μ') := by
  refine tp_ok_of mX11_saved_ok rfl (Nat.le_refl _) ?_
  have hcn : c < 234 := by omega
  have hw0 := hw.1
  have hn0 := hW.1
  have hCdm := hCd
  have hTm := hT
  have hrl := hw.2.2
  have hsm9 := e_B_sum hb9 hp9
  refine g_aload_n rfl rfl ?_
  refine x_getF (r := 50) hG rfl rfl (by decide) (Or.inl ⟨_, rfl⟩) rfl ?_
  refine x_getM (v := (some c)) hG rfl rfl (by decide) (Or.inl ⟨_, rfl⟩) rfl hco ?_
  refine g_astore_n rfl rfl rfl ?_
  refine g_aload_n rfl rfl ?_
  refine g_ifnonnull (tgt := 14) rfl (by decide) (fun _ _ => ?_) (fun hx => by cases hx)
  refine g_aload_n rfl rfl ?_
  refine x_getF (r := 62) hG rfl rfl (by decide) (Or.inl ⟨_, rfl⟩) rfl ?_
  refine x_getF (r := 63) hG rfl rfl (by decide) (Or.inl ⟨_, rfl⟩) rfl ?_
  refine g_cV (as := []) (s_sum hG hsz3 hB3 hb9 hp9) rfl rfl mX3_sum_ok rfl rfl rfl (by decide) rfl rfl rfl ?_
  rintro _ w9 ⟨rfl, hw9⟩ _
  have hw9 := hw9.symm
  subst hw9
  refine g_istore_n rfl rfl rfl ?_
  refine g_aload_n rfl rfl ?_
  refine x_getF (r := 62) hG rfl rfl (by decide) (Or.inl ⟨_, rfl⟩) rfl ?_
  refine g_aload_n rfl rfl ?_
  refine g_aload_n rfl rfl ?_
  refine x_getF (r := 50) hG rfl rfl (by decide) (Or.inl ⟨_, rfl⟩) rfl ?_
  refine g_aload_n rfl rfl ?_
  refine g_iconst rfl ⟨by decide, by decide⟩ ?_
  refine g_cV (as := [tI 0]) (s_ruleN (n := 1) hG hc hcl hCdm (by decide) (by decide) (by decide)) rfl rfl mX0_rule_ok rfl hc rfl hcn rfl rfl rfl ?_
  rintro _ w9 ⟨rfl, hw9⟩ _
  have hw9 := hw9.symm
  subst hw9
  refine g_iconst rfl ⟨by decide, by decide⟩ ?_
  refine g_cV (as := [tR (some c), tR (some 50), tI (f 1), tI 0]) (s_encode hG hc hcl hw hCdm hW hTm (bt := f 1) (dp := 0) (by omega) (by omega)) rfl rfl mX1_encode_ok rfl rfl rfl (by decide) rfl rfl rfl ?_
  rintro _ w1 ⟨rfl, hE1⟩ _
  have hF1 : e_F μ w1 := fun c9 z9 => (hE1.2.2.2.2.1 c9 z9)
  have hal := e_all_p (bt := f 1) (dp := 0) hw hW (by omega) (by omega)
  have hsz1 : w1.1 63 4 = (e_all f (f 1) 0 A B Y n).1 0 9 := hE1.1.2.2.2.2.2.2.2.2.1
  refine g_aload_n rfl rfl ?_
  refine x_getF (r := 62) hG rfl rfl (by decide) (Or.inl ⟨_, rfl⟩) rfl ?_
  refine x_getF (r := 63) hG rfl rfl (by decide) (Or.inl ⟨_, rfl⟩) rfl ?_
  refine g_cV (as := []) ((show tp_k G mX3_sum [tR (some 63)] w1 (fun r μ' => r = some (tI ((e_all f (f 1) 0 A B Y n).1 0 12)) ∧ μ' = w1) from s_sum hG hsz1 hE1.2.1 hal.1 hal.2.1)) rfl rfl mX3_sum_ok rfl rfl rfl (by decide) rfl rfl rfl ?_
  rintro _ w9 ⟨rfl, hw9⟩ _
  have hw9 := hw9.symm
  subst hw9
  refine g_iload_n rfl rfl ?_
  refine x_isub (z := ((e_all f (f 1) 0 A B Y n).1 0 12) - (σ.1 0 12)) rfl (by omega) ⟨by omega, by omega⟩ ?_
  refine x_ireturn rfl rfl ?_
  exact ⟨rfl, hF1⟩
set_option maxHeartbeats 4000000 in
set_option maxRecDepth 100000 in
theorem s_savedM {G : tp_G} {μ : tp_M} (hG : tp_Gf G = true) {ck : Int} {f : Int → Int} {n : Int} {A B Y H : Int → Int} {E D U T : Int} (hw : tp_Cw f) (hW : r_W f n A B Y H) (hT : m_T n A B Y E D U T μ) (hMc : tp_Mc ck f μ) {σ : tp_M} (h48 : μ.1 201 48 = σ.1 0 12) (hsm9 : 0 ≤ σ.1 0 12 ∧ σ.1 0 12 ≤ 3344) : tp_k G mX12_saved [tR (some 201)] μ (fun r μ' => r = some (tI ((e_all f (f 1) 0 A B Y n).1 0 12 - σ.1 0 12)) ∧ e_G μ μ') := by
  refine tp_ok_of mX12_saved_ok rfl (Nat.le_refl _) ?_
  have hw0 := hw.1
  have hn0 := hW.1
  have hMcm := hMc
  have hTm := hT
  have hrl := hw.2.2
  refine g_aload_n rfl rfl ?_
  refine x_geti (v := (μ.1 201 48)) rfl rfl (by decide) (Or.inl rfl) rfl ?_
  refine g_istore_n rfl rfl rfl ?_
  refine g_aload_n rfl rfl ?_
  refine g_aload_n rfl rfl ?_
  refine g_iconst rfl ⟨by decide, by decide⟩ ?_
  refine g_cV (as := [tI 1]) (s_of hG hMcm (by omega) (by omega)) rfl rfl mX12_of_ok rfl rfl rfl (by decide) rfl rfl rfl ?_
  rintro _ w9 ⟨rfl, hw9⟩ _
  have hw9 := hw9.symm
  subst hw9
  refine g_iconst rfl ⟨by decide, by decide⟩ ?_
  refine g_cV (as := [tI (f 1), tI 0]) (s_encodesM hG hw hMcm hW hTm (bt := f 1) (dp := 0) (by omega) (by omega)) rfl rfl mX12_encodes_ok rfl rfl rfl (by decide) rfl rfl rfl ?_
  rintro _ w1 ⟨rfl, hE1⟩ _
  have hF1 : e_G μ w1 := ⟨fun c9 z1 z2 => (hE1.2.2.2.1 c9 z1 z2), fun j z => (hE1.2.2.2.2 j z)⟩
  have hsm1 : w1.1 201 48 = (e_all f (f 1) 0 A B Y n).1 0 12 := hE1.1.2.2.2.2.2.2.2.2.2.2.1
  have hal := e_all_p (bt := f 1) (dp := 0) hw hW (by omega) (by omega)
  refine g_aload_n rfl rfl ?_
  refine x_geti (v := (w1.1 201 48)) rfl rfl (by decide) (Or.inl rfl) rfl ?_
  refine g_iload_n rfl rfl ?_
  refine x_isub (z := (w1.1 201 48) - (μ.1 201 48)) rfl (by omega) ⟨by omega, by omega⟩ ?_
  refine x_ireturn rfl rfl ?_
  exact ⟨by rw [hsm1, h48], hF1⟩
set_option maxHeartbeats 4000000 in
set_option maxRecDepth 100000 in
theorem l_worst {G : tp_G} (hG : tp_Gf G = true) {f A B Y : Int → Int} {n : Int} (hn0 : 0 ≤ n ∧ n ≤ 200) {σ : tp_M} (hp9 : 0 ≤ σ.1 0 9 ∧ σ.1 0 9 ≤ 209) (HH : ∀ p, 0 ≤ p → p < σ.1 0 9 → s_H f A B Y (f 2) n σ p) {μ0 : tp_M} (hsz0 : μ0.1 63 4 = σ.1 0 9) (hB0 : c_B σ μ0) (hpk0 : μ0.2 70 5 = some 63) (hQ0 : w_Q f A B n σ (σ.1 0 9) μ0) : ∀ k, k ≤ σ.1 0 9 → ∀ (μ : tp_M) (b l : Int), 0 ≤ k → b = (q_WR σ k).1 → l = (q_WR σ k).2 → p_F μ0 μ → tp_g G mX11_worst 29 [some (tR (some 0)), some (tI b), some (tI l), some (tI k)] [] μ (fun r μ' => r = some (tI (q_WR σ (σ.1 0 9)).1) ∧ p_F μ0 μ') := by
  refine tp_ind _ ?_
  intro k hkN ih μ b l h0 hb hl hF
  have hsz : μ.1 63 4 = σ.1 0 9 := by rw [hF.1 63 (by omega) (by omega) (by omega)]; exact hsz0
  have hB : c_B σ μ := fun i z0 z1 => by rw [hF.1 64 (by omega) (by omega) (by omega), hF.1 65 (by omega) (by omega) (by omega), hF.1 66 (by omega) (by omega) (by omega), hF.1 67 (by omega) (by omega) (by omega)]; exact hB0 i z0 z1
  have hpk : μ.2 70 5 = some 63 := by rw [hF.2]; exact hpk0
  have hQ : w_Q f A B n σ (σ.1 0 9) μ := by
    have q := hQ0
    unfold w_Q w_P w_X at q ⊢
    rw [hF.1 70 (by omega) (by omega) (by omega), hF.1 71 (by omega) (by omega) (by omega), hF.1 72 (by omega) (by omega) (by omega), hF.1 73 (by omega) (by omega) (by omega), hF.1 74 (by omega) (by omega) (by omega), hF.1 75 (by omega) (by omega) (by omega)]
    exact q
  refine g_iload_n rfl rfl ?_
  refine g_aload_n rfl rfl ?_
  refine x_getF (r := 62) hG rfl rfl (by decide) (Or.inl ⟨_, rfl⟩) rfl ?_
  refine x_getF (r := 63) hG rfl rfl (by decide) (Or.inl ⟨_, rfl⟩) rfl ?_
  refine x_geti (v := (μ.1 63 4)) rfl rfl (by decide) (Or.inl rfl) rfl ?_
  refine g_icmp_ge (tgt := 83) rfl (by decide) (fun h1 => ?_) (fun h1 => ?_)
  · refine g_iload_n rfl rfl ?_
    refine x_ireturn rfl rfl ?_
    exact ⟨by rw [hb, show k = σ.1 0 9 by omega], hF⟩
  · refine g_aload_n rfl rfl ?_
    refine x_getF (r := 76) hG rfl rfl (by decide) (Or.inl ⟨_, rfl⟩) rfl ?_
    refine g_aload_n rfl rfl ?_
    refine x_getF (r := 70) hG rfl rfl (by decide) (Or.inl ⟨_, rfl⟩) rfl ?_
    refine g_null rfl ?_
    refine g_iload_n rfl rfl ?_
    refine g_cV (as := [tR (some 70), tR none, tI k]) (s_siftN (a := k) hG hsz hB hp9 hn0.2 HH hQ hpk) rfl rfl mX4_sift_ok rfl rfl rfl (by decide) rfl rfl rfl ?_
    rintro _ w1 ⟨rfl, hM1, hF9⟩ _
    have hF1 : p_F μ0 w1 := ⟨fun c9 z1 z2 z3 => (hF9.1 c9 z1 z2 z3).trans (hF.1 c9 z1 z2 z3), hF9.2.trans hF.2⟩
    have hWZ : w1.1 76 2 = q_WZ σ k := hM1.2.1
    refine g_aload_n rfl rfl ?_
    refine x_getF (r := 76) hG rfl rfl (by decide) (Or.inl ⟨_, rfl⟩) rfl ?_
    refine x_geti (v := (w1.1 76 2)) rfl rfl (by decide) (Or.inl rfl) rfl ?_
    refine g_iload_n rfl rfl ?_
    refine g_icmp_ge (tgt := 77) rfl (by decide) (fun h2 => ?_) (fun h2 => ?_)
    · refine x_iinc (z := k + 1) rfl rfl (by omega) ⟨by omega, by omega⟩ rfl rfl ?_
      refine g_goto (tgt := 29) rfl (by decide) ?_
      exact ih (by omega) _ _ _ (by omega) (by rw [q_WR_n h0 (by omega)]; exact hb) (by rw [q_WR_n h0 (by omega)]; exact hl) hF1
    · refine g_aload_n rfl rfl ?_
      refine x_getF (r := 76) hG rfl rfl (by decide) (Or.inl ⟨_, rfl⟩) rfl ?_
      refine x_geti (v := (w1.1 76 2)) rfl rfl (by decide) (Or.inl rfl) rfl ?_
      refine g_istore_n rfl rfl rfl ?_
      refine g_iload_n rfl rfl ?_
      refine g_istore_n rfl rfl rfl ?_
      refine x_iinc (z := k + 1) rfl rfl (by omega) ⟨by omega, by omega⟩ rfl rfl ?_
      refine g_goto (tgt := 29) rfl (by decide) ?_
      exact ih (by omega) _ _ _ (by omega) (by rw [q_WR_y h0 (by omega)]) (by rw [q_WR_y h0 (by omega)]; exact hWZ) hF1
set_option maxHeartbeats 4000000 in
set_option maxRecDepth 100000 in
theorem s_worst {G : tp_G} {μ : tp_M} (hG : tp_Gf G = true) {c : Nat} {f : Int → Int} {n : Int} {A B Y H : Int → Int} {E D U T : Int} (hc : tp_SH c = .inl 0) (hcl : c < 37) (hw : tp_Cw f) (hW : r_W f n A B Y H) (hT : c_T 50 n A B Y E D U T μ) (hCd : tp_Cd c f μ) (hco : μ.2 50 5 = some c) {σ : tp_M} (hsz3 : μ.1 63 4 = σ.1 0 9) (hB3 : c_B σ μ) (hp9 : 0 ≤ σ.1 0 9 ∧ σ.1 0 9 ≤ 209) (HH : ∀ p, 0 ≤ p → p < σ.1 0 9 → s_H f A B Y (f 2) n σ p) : tp_k G mX11_worst [tR (some 0)] μ (fun r μ' => r = some (tI (q_WR σ (σ.1 0 9)).1) ∧ ∀ c, (c < 70 ∨ 78 < c) → μ'.1 c = μ.1 c) := by
  refine tp_ok_of mX11_worst_ok rfl (Nat.le_refl _) ?_
  have hcn : c < 234 := by omega
  have hw0 := hw.1
  have hn0 := hW.1
  refine g_aload_n rfl rfl ?_
  refine x_getF (r := 70) hG rfl rfl (by decide) (Or.inl ⟨_, rfl⟩) rfl ?_
  refine g_aload_n rfl rfl ?_
  refine x_getF (r := 50) hG rfl rfl (by decide) (Or.inl ⟨_, rfl⟩) rfl ?_
  refine x_getM (v := (some c)) hG rfl rfl (by decide) (Or.inl ⟨_, rfl⟩) rfl hco ?_
  refine g_aload_n rfl rfl ?_
  refine x_getF (r := 62) hG rfl rfl (by decide) (Or.inl ⟨_, rfl⟩) rfl ?_
  refine x_getF (r := 63) hG rfl rfl (by decide) (Or.inl ⟨_, rfl⟩) rfl ?_
  refine g_cV (as := [tR (some c), tR (some 63)]) (s_walk hG hc hcl hw hW hCd hsz3 hB3 hp9 HH) rfl rfl mX10_go_ok rfl rfl rfl (by decide) rfl rfl rfl ?_
  rintro _ w5 ⟨rfl, hQ5, hF5, hP5⟩ _
  have hpk5 : w5.2 70 5 = some 63 := by rw [hP5]; rfl
  have hsz5 : w5.1 63 4 = σ.1 0 9 := by rw [hF5 63 (by omega)]; exact hsz3
  have hB5 : c_B σ w5 := fun i z0 z1 => by rw [hF5 64 (by omega), hF5 65 (by omega), hF5 66 (by omega), hF5 67 (by omega)]; exact hB3 i z0 z1
  refine g_iconst rfl ⟨by decide, by decide⟩ ?_
  refine g_istore_n rfl rfl rfl ?_
  refine g_ldc_w rfl ⟨by decide, by decide⟩ ?_
  refine g_istore_n rfl rfl rfl ?_
  refine g_iconst rfl ⟨by decide, by decide⟩ ?_
  refine g_istore_n rfl rfl rfl ?_
  refine tp_conseq (fun r9 μ9 q9 => ?_) (l_worst hG hn0 hp9 HH hsz5 hB5 hpk5 hQ5 0 (by omega) _ _ _ (by omega) rfl rfl p_F_rf)
  exact ⟨q9.1, fun c9 z9 => (q9.2.1 c9 (by omega) (by omega) (by omega)).trans (hF5 c9 (by omega))⟩
set_option maxHeartbeats 4000000 in
set_option maxRecDepth 100000 in
theorem l_worstM {G : tp_G} (hG : tp_Gf G = true) {f A B Y : Int → Int} {n : Int} (hn0 : 0 ≤ n ∧ n ≤ 200) {σ : tp_M} (hp9 : 0 ≤ σ.1 0 9 ∧ σ.1 0 9 ≤ 209) (HH : ∀ p, 0 ≤ p → p < σ.1 0 9 → s_H f A B Y (f 2) n σ p) {μ0 : tp_M} (hQ0 : v_Q σ μ0) : ∀ k, k ≤ σ.1 0 9 → ∀ (μ : tp_M) (b l : Int), 0 ≤ k → b = (q_WR σ k).1 → (k = 0 → l = 201) → (1 ≤ k → l = (q_WR σ k).2) → v_G μ0 μ → tp_g G mX12_worst 8 [some (tR (some 201)), some (tI b), some (tI l), some (tI k)] [] μ (fun r μ' => r = some (tI (q_WR σ (σ.1 0 9)).1) ∧ v_G μ0 μ') := by
  refine tp_ind _ ?_
  intro k hkN ih μ b l h0 hb hl0 hl hF
  have hQ := v_Q_G hF hQ0
  have hq47 := hQ.1
  refine g_iload_n rfl rfl ?_
  refine g_aload_n rfl rfl ?_
  refine x_geti (v := (μ.1 201 47)) rfl rfl (by decide) (Or.inl rfl) rfl ?_
  refine g_icmp_ge (tgt := 50) rfl (by decide) (fun h1 => ?_) (fun h1 => ?_)
  · refine g_iload_n rfl rfl ?_
    refine x_ireturn rfl rfl ?_
    exact ⟨by rw [hb, show k = σ.1 0 9 by omega], hF⟩
  · refine g_aload_n rfl rfl ?_
    refine g_iload_n rfl rfl ?_
    refine g_cV (as := [tI k]) (s_but (a := k) hG hQ hp9 hn0.2 HH) rfl rfl mX12_rebuildsBut_ok rfl rfl rfl (by decide) rfl rfl rfl ?_
    rintro _ w1 ⟨rfl, hM1, hs1, hG9⟩ _
    have hF1 : v_G μ0 w1 := ⟨fun c9 z1 z2 z3 z4 => (hG9.1 c9 z1 z2 z3 z4).trans (hF.1 c9 z1 z2 z3 z4), fun j z1 z2 => (hG9.2 j z1 z2).trans (hF.2 j z1 z2)⟩
    have hWZ : w1.1 201 63 = q_WZ σ k := hs1
    have hWb := q_WZ_b hn0.1 hp9.1 HH k
    have h0l : k = 0 → (q_WR σ k).2 = 1000000 ∧ (q_WR σ k).1 = -1 := fun z => by rw [z]; exact ⟨rfl, rfl⟩
    refine g_aload_n rfl rfl ?_
    refine x_geti (v := (w1.1 201 63)) rfl rfl (by decide) (Or.inl rfl) rfl ?_
    refine g_iload_n rfl rfl ?_
    refine g_icmp_ge (tgt := 33) rfl (by decide) (fun h2 => ?_) (fun h2 => ?_)
    · refine g_iload_n rfl rfl ?_
      refine g_istore_n rfl rfl rfl ?_
      refine g_iload_n rfl rfl ?_
      refine g_aload_n rfl rfl ?_
      refine x_geti (v := (w1.1 201 63)) rfl rfl (by decide) (Or.inl rfl) rfl ?_
      refine g_iS (as := [tI l, tI (w1.1 201 63)]) mX12_lesser_ok rfl rfl rfl rfl rfl rfl rfl ?_
      refine g_iload_n rfl rfl ?_
      refine g_iload_n rfl rfl ?_
      refine g_icmp_ge (tgt := 9) rfl (by decide) (fun h3 => ?_) (fun h3 => ?_)
      · refine g_iload_n rfl rfl ?_
        refine x_ireturn rfl rfl ?_
        intro _
        refine g_istore_n rfl rfl rfl ?_
        refine x_iinc (z := k + 1) rfl rfl (by omega) ⟨by omega, by omega⟩ rfl rfl ?_
        refine g_goto (tgt := 8) rfl (by decide) ?_
        by_cases hlt : q_WZ σ k < (q_WR σ k).2
        · exact ih (by omega) _ _ _ (by omega) (by rw [q_WR_y h0 hlt] <;> (show _ = k; omega)) (fun z => by omega) (fun _ => by rw [q_WR_y h0 hlt] <;> (show _ = q_WZ σ k; omega)) hF1
        · exact ih (by omega) _ _ _ (by omega) (by rw [q_WR_n h0 hlt]; omega) (fun z => by omega) (fun _ => by rw [q_WR_n h0 hlt]; omega) hF1
      · refine g_iload_n rfl rfl ?_
        refine g_goto (tgt := 10) rfl (by decide) ?_
        refine x_ireturn rfl rfl ?_
        intro _
        refine g_istore_n rfl rfl rfl ?_
        refine x_iinc (z := k + 1) rfl rfl (by omega) ⟨by omega, by omega⟩ rfl rfl ?_
        refine g_goto (tgt := 8) rfl (by decide) ?_
        by_cases hlt : q_WZ σ k < (q_WR σ k).2
        · exact ih (by omega) _ _ _ (by omega) (by rw [q_WR_y h0 hlt] <;> (show _ = k; omega)) (fun z => by omega) (fun _ => by rw [q_WR_y h0 hlt] <;> (show _ = q_WZ σ k; omega)) hF1
        · exact ih (by omega) _ _ _ (by omega) (by rw [q_WR_n h0 hlt]; omega) (fun z => by omega) (fun _ => by rw [q_WR_n h0 hlt]; omega) hF1
    · refine g_iload_n rfl rfl ?_
      refine g_goto (tgt := 34) rfl (by decide) ?_
      refine g_istore_n rfl rfl rfl ?_
      refine g_iload_n rfl rfl ?_
      refine g_aload_n rfl rfl ?_
      refine x_geti (v := (w1.1 201 63)) rfl rfl (by decide) (Or.inl rfl) rfl ?_
      refine g_iS (as := [tI l, tI (w1.1 201 63)]) mX12_lesser_ok rfl rfl rfl rfl rfl rfl rfl ?_
      refine g_iload_n rfl rfl ?_
      refine g_iload_n rfl rfl ?_
      refine g_icmp_ge (tgt := 9) rfl (by decide) (fun _ => ?_) (fun hx => absurd hx (by omega))
      refine g_iload_n rfl rfl ?_
      refine x_ireturn rfl rfl ?_
      intro _
      refine g_istore_n rfl rfl rfl ?_
      refine x_iinc (z := k + 1) rfl rfl (by omega) ⟨by omega, by omega⟩ rfl rfl ?_
      refine g_goto (tgt := 8) rfl (by decide) ?_
      by_cases hlt : q_WZ σ k < (q_WR σ k).2
      · exact ih (by omega) _ _ _ (by omega) (by rw [q_WR_y h0 hlt] <;> (show _ = k; omega)) (fun z => by omega) (fun _ => by rw [q_WR_y h0 hlt] <;> (show _ = q_WZ σ k; omega)) hF1
      · exact ih (by omega) _ _ _ (by omega) (by rw [q_WR_n h0 hlt]; omega) (fun z => by omega) (fun _ => by rw [q_WR_n h0 hlt]; omega) hF1
set_option maxHeartbeats 4000000 in
set_option maxRecDepth 100000 in
theorem s_worstM {G : tp_G} {μ : tp_M} (hG : tp_Gf G = true) {f A B Y : Int → Int} {n : Int} (hn0 : 0 ≤ n ∧ n ≤ 200) {σ : tp_M} (hp9 : 0 ≤ σ.1 0 9 ∧ σ.1 0 9 ≤ 209) (HH : ∀ p, 0 ≤ p → p < σ.1 0 9 → s_H f A B Y (f 2) n σ p) (hQ : v_Q σ μ) : tp_k G mX12_worst [tR (some 201)] μ (fun r μ' => r = some (tI (q_WR σ (σ.1 0 9)).1) ∧ v_G μ μ') := by
  refine tp_ok_of mX12_worst_ok rfl (Nat.le_refl _) ?_
  refine g_iconst rfl ⟨by decide, by decide⟩ ?_
  refine g_istore_n rfl rfl rfl ?_
  refine g_sipush rfl ⟨by decide, by decide⟩ (by decide) ?_
  refine g_istore_n rfl rfl rfl ?_
  refine g_iconst rfl ⟨by decide, by decide⟩ ?_
  refine g_istore_n rfl rfl rfl ?_
  exact l_worstM hG hn0 hp9 HH hQ 0 (by omega) _ _ _ (by omega) rfl (fun _ => rfl) (fun z => by omega) ⟨fun _ _ _ _ _ => rfl, fun _ _ _ => rfl⟩
