/-! where the cells of a row and of a code lie -/
def tp_ln (k : Nat) : Nat := match tp_SH k with
  | .inl _ => 0
  | .inr q => q.2
set_option maxRecDepth 100000 in
theorem tp_row : ∀ c, c < 234 → tp_SH c = .inl 6 → (tp_RF c 0 = some (c + 1) ∧ tp_RF c 1 = some (c + 2) ∧ tp_SH (c + 1) = .inr (.int, tp_ln (c + 1)) ∧ tp_SH (c + 2) = .inr (.int, tp_ln (c + 1)) ∧ c + 2 < 234 ∧ tp_ln (c + 1) ≤ 60) := by decide +kernel
set_option maxRecDepth 100000 in
theorem tp_code1 : ∀ c, c < 234 → tp_SH c = .inl 0 → (tp_RF c 0 = some (c + 1) ∧ tp_RF c 1 = some (c + 2) ∧ tp_RF c 2 = some (c + 3) ∧ tp_RF c 3 = some (c + 4)) := by decide +kernel
set_option maxRecDepth 100000 in
theorem tp_code2a : ∀ c, c < 234 → tp_SH c = .inl 0 → (tp_SH (c + 1) = .inr (.int, 40) ∧ tp_SH (c + 2) = .inr (.int, 40)) := by decide +kernel
set_option maxRecDepth 100000 in
theorem tp_code2b : ∀ c, c < 234 → tp_SH c = .inl 0 → (tp_SH (c + 3) = .inr (.int, 40) ∧ tp_SH (c + 4) = .inr (.int, 8) ∧ c + 4 < 234) := by decide +kernel
theorem tp_code2 (c : Nat) (hn : c < 234) (hc : tp_SH c = .inl 0) : tp_SH (c + 1) = .inr (.int, 40) ∧ tp_SH (c + 2) = .inr (.int, 40) ∧ tp_SH (c + 3) = .inr (.int, 40) ∧ tp_SH (c + 4) = .inr (.int, 8) ∧ c + 4 < 234 := ⟨(tp_code2a c hn hc).1, (tp_code2a c hn hc).2, tp_code2b c hn hc⟩
set_option maxHeartbeats 4000000 in
set_option maxRecDepth 100000 in
theorem s_value {G : tp_G} {μ : tp_M} (hG : tp_Gf G = true) {c : Nat} {k : Int} (hc : tp_SH c = .inl 6) (hn : c < 234) (h0 : 0 ≤ k) (h1 : k < μ.1 c 2) (h2 : μ.1 c 2 ≤ (tp_ln (c + 1) : Int)) : tp_k G mX6_value [tR (some c), tI k] μ (fun r μ' => r = some (tI (μ.1 (c + 1) k)) ∧ μ' = μ) := by
  refine tp_ok_of mX6_value_ok rfl (Nat.le_refl _) ?_
  have hr := tp_row c hn hc
  refine g_iload_n rfl rfl ?_
  refine g_if_lt (tgt := 21) rfl (by decide) (fun h1 => ?_) (fun h1 => ?_)
  · first
      | omega
      | refine g_iconst rfl ⟨by decide, by decide⟩ ?_
        refine g_goto (tgt := 31) rfl (by decide) ?_
        refine x_ireturn rfl rfl ?_
        exact ⟨rfl, rfl⟩
  · first
      | omega
      | refine g_iload_n rfl rfl ?_
        refine g_aload_n rfl rfl ?_
        refine x_geti (v := (μ.1 c 2)) rfl hc hn (Or.inl rfl) rfl ?_
        refine g_icmp_ge (tgt := 21) rfl (by decide) (fun h2 => ?_) (fun h2 => ?_)
        · first
            | omega
            | refine g_iconst rfl ⟨by decide, by decide⟩ ?_
              refine g_goto (tgt := 31) rfl (by decide) ?_
              refine x_ireturn rfl rfl ?_
              exact ⟨rfl, rfl⟩
        · first
            | omega
            | refine g_iload_n rfl rfl ?_
              refine g_aload_n rfl rfl ?_
              refine x_getF (r := c + 1) hG rfl hc hn (Or.inr ⟨_, rfl⟩) hr.1 ?_
              refine g_alen (t0 := 0) rfl hr.2.2.1 rfl (by omega) ⟨by omega, by omega⟩ ?_
              refine g_icmp_lt (tgt := 25) rfl (by decide) (fun h3 => ?_) (fun h3 => ?_)
              · first
                  | omega
                  | refine g_aload_n rfl rfl ?_
                    refine x_getF (r := c + 1) hG rfl hc hn (Or.inr ⟨_, rfl⟩) hr.1 ?_
                    refine g_iload_n rfl rfl ?_
                    refine x_iald (v := (μ.1 (c + 1) k)) rfl hr.2.2.1 (by omega) (by omega) (by omega) rfl ?_
                    refine x_ireturn rfl rfl ?_
                    exact ⟨rfl, rfl⟩
              · first
                  | omega
                  | refine g_iconst rfl ⟨by decide, by decide⟩ ?_
                    refine g_goto (tgt := 31) rfl (by decide) ?_
                    refine x_ireturn rfl rfl ?_
                    exact ⟨rfl, rfl⟩
set_option maxHeartbeats 4000000 in
set_option maxRecDepth 100000 in
theorem s_valueo {G : tp_G} {μ : tp_M} (hG : tp_Gf G = true) {c : Nat} {k : Int} (hc : tp_SH c = .inl 6) (hn : c < 234) (h0 : k < 0 ∨ μ.1 c 2 ≤ k) : tp_k G mX6_value [tR (some c), tI k] μ (fun r μ' => r = some (tI (-1)) ∧ μ' = μ) := by
  refine tp_ok_of mX6_value_ok rfl (Nat.le_refl _) ?_
  have hr := tp_row c hn hc
  refine g_iload_n rfl rfl ?_
  refine g_if_lt (tgt := 21) rfl (by decide) (fun h1 => ?_) (fun h1 => ?_)
  · first
      | omega
      | refine g_iconst rfl ⟨by decide, by decide⟩ ?_
        refine g_goto (tgt := 31) rfl (by decide) ?_
        refine x_ireturn rfl rfl ?_
        exact ⟨rfl, rfl⟩
  · first
      | omega
      | refine g_iload_n rfl rfl ?_
        refine g_aload_n rfl rfl ?_
        refine x_geti (v := (μ.1 c 2)) rfl hc hn (Or.inl rfl) rfl ?_
        refine g_icmp_ge (tgt := 21) rfl (by decide) (fun h2 => ?_) (fun h2 => ?_)
        · first
            | omega
            | refine g_iconst rfl ⟨by decide, by decide⟩ ?_
              refine g_goto (tgt := 31) rfl (by decide) ?_
              refine x_ireturn rfl rfl ?_
              exact ⟨rfl, rfl⟩
        · first
            | omega
            | refine g_iload_n rfl rfl ?_
              refine g_aload_n rfl rfl ?_
              refine x_getF (r := c + 1) hG rfl hc hn (Or.inr ⟨_, rfl⟩) hr.1 ?_
              refine g_alen (t0 := 0) rfl hr.2.2.1 rfl (by omega) ⟨by omega, by omega⟩ ?_
              refine g_icmp_lt (tgt := 25) rfl (by decide) (fun h3 => ?_) (fun h3 => ?_)
              · first
                  | omega
                  | refine g_aload_n rfl rfl ?_
                    refine x_getF (r := c + 1) hG rfl hc hn (Or.inr ⟨_, rfl⟩) hr.1 ?_
                    refine g_iload_n rfl rfl ?_
                    refine x_iald (v := (μ.1 (c + 1) k)) rfl hr.2.2.1 (by omega) (by omega) (by omega) rfl ?_
                    refine x_ireturn rfl rfl ?_
                    exact ⟨rfl, rfl⟩
              · first
                  | omega
                  | refine g_iconst rfl ⟨by decide, by decide⟩ ?_
                    refine g_goto (tgt := 31) rfl (by decide) ?_
                    refine x_ireturn rfl rfl ?_
                    exact ⟨rfl, rfl⟩
set_option maxHeartbeats 4000000 in
set_option maxRecDepth 100000 in
theorem s_often {G : tp_G} {μ : tp_M} (hG : tp_Gf G = true) {c : Nat} {k : Int} (hc : tp_SH c = .inl 6) (hn : c < 234) (h0 : 0 ≤ k) (h1 : k < μ.1 c 2) (h2 : μ.1 c 2 ≤ (tp_ln (c + 1) : Int)) : tp_k G mX6_often [tR (some c), tI k] μ (fun r μ' => r = some (tI (μ.1 (c + 2) k)) ∧ μ' = μ) := by
  refine tp_ok_of mX6_often_ok rfl (Nat.le_refl _) ?_
  have hr := tp_row c hn hc
  refine g_iload_n rfl rfl ?_
  refine g_if_lt (tgt := 21) rfl (by decide) (fun h1 => ?_) (fun h1 => ?_)
  · first
      | omega
      | refine g_iconst rfl ⟨by decide, by decide⟩ ?_
        refine g_goto (tgt := 31) rfl (by decide) ?_
        refine x_ireturn rfl rfl ?_
        exact ⟨rfl, rfl⟩
  · first
      | omega
      | refine g_iload_n rfl rfl ?_
        refine g_aload_n rfl rfl ?_
        refine x_geti (v := (μ.1 c 2)) rfl hc hn (Or.inl rfl) rfl ?_
        refine g_icmp_ge (tgt := 21) rfl (by decide) (fun h2 => ?_) (fun h2 => ?_)
        · first
            | omega
            | refine g_iconst rfl ⟨by decide, by decide⟩ ?_
              refine g_goto (tgt := 31) rfl (by decide) ?_
              refine x_ireturn rfl rfl ?_
              exact ⟨rfl, rfl⟩
        · first
            | omega
            | refine g_iload_n rfl rfl ?_
              refine g_aload_n rfl rfl ?_
              refine x_getF (r := c + 2) hG rfl hc hn (Or.inr ⟨_, rfl⟩) hr.2.1 ?_
              refine g_alen (t0 := 0) rfl hr.2.2.2.1 rfl (by omega) ⟨by omega, by omega⟩ ?_
              refine g_icmp_lt (tgt := 25) rfl (by decide) (fun h3 => ?_) (fun h3 => ?_)
              · first
                  | omega
                  | refine g_aload_n rfl rfl ?_
                    refine x_getF (r := c + 2) hG rfl hc hn (Or.inr ⟨_, rfl⟩) hr.2.1 ?_
                    refine g_iload_n rfl rfl ?_
                    refine x_iald (v := (μ.1 (c + 2) k)) rfl hr.2.2.2.1 (by omega) (by omega) (by omega) rfl ?_
                    refine x_ireturn rfl rfl ?_
                    exact ⟨rfl, rfl⟩
              · first
                  | omega
                  | refine g_iconst rfl ⟨by decide, by decide⟩ ?_
                    refine g_goto (tgt := 31) rfl (by decide) ?_
                    refine x_ireturn rfl rfl ?_
                    exact ⟨rfl, rfl⟩
set_option maxHeartbeats 4000000 in
set_option maxRecDepth 100000 in
theorem s_ofteno {G : tp_G} {μ : tp_M} (hG : tp_Gf G = true) {c : Nat} {k : Int} (hc : tp_SH c = .inl 6) (hn : c < 234) (h0 : k < 0 ∨ μ.1 c 2 ≤ k) : tp_k G mX6_often [tR (some c), tI k] μ (fun r μ' => r = some (tI (-1)) ∧ μ' = μ) := by
  refine tp_ok_of mX6_often_ok rfl (Nat.le_refl _) ?_
  have hr := tp_row c hn hc
  refine g_iload_n rfl rfl ?_
  refine g_if_lt (tgt := 21) rfl (by decide) (fun h1 => ?_) (fun h1 => ?_)
  · first
      | omega
      | refine g_iconst rfl ⟨by decide, by decide⟩ ?_
        refine g_goto (tgt := 31) rfl (by decide) ?_
        refine x_ireturn rfl rfl ?_
        exact ⟨rfl, rfl⟩
  · first
      | omega
      | refine g_iload_n rfl rfl ?_
        refine g_aload_n rfl rfl ?_
        refine x_geti (v := (μ.1 c 2)) rfl hc hn (Or.inl rfl) rfl ?_
        refine g_icmp_ge (tgt := 21) rfl (by decide) (fun h2 => ?_) (fun h2 => ?_)
        · first
            | omega
            | refine g_iconst rfl ⟨by decide, by decide⟩ ?_
              refine g_goto (tgt := 31) rfl (by decide) ?_
              refine x_ireturn rfl rfl ?_
              exact ⟨rfl, rfl⟩
        · first
            | omega
            | refine g_iload_n rfl rfl ?_
              refine g_aload_n rfl rfl ?_
              refine x_getF (r := c + 2) hG rfl hc hn (Or.inr ⟨_, rfl⟩) hr.2.1 ?_
              refine g_alen (t0 := 0) rfl hr.2.2.2.1 rfl (by omega) ⟨by omega, by omega⟩ ?_
              refine g_icmp_lt (tgt := 25) rfl (by decide) (fun h3 => ?_) (fun h3 => ?_)
              · first
                  | omega
                  | refine g_aload_n rfl rfl ?_
                    refine x_getF (r := c + 2) hG rfl hc hn (Or.inr ⟨_, rfl⟩) hr.2.1 ?_
                    refine g_iload_n rfl rfl ?_
                    refine x_iald (v := (μ.1 (c + 2) k)) rfl hr.2.2.2.1 (by omega) (by omega) (by omega) rfl ?_
                    refine x_ireturn rfl rfl ?_
                    exact ⟨rfl, rfl⟩
              · first
                  | omega
                  | refine g_iconst rfl ⟨by decide, by decide⟩ ?_
                    refine g_goto (tgt := 31) rfl (by decide) ?_
                    refine x_ireturn rfl rfl ?_
                    exact ⟨rfl, rfl⟩
set_option maxHeartbeats 4000000 in
set_option maxRecDepth 100000 in
theorem s_has {G : tp_G} {μ : tp_M} (hG : tp_Gf G = true) {c : Nat} {a : Int} (hc : tp_SH c = .inl 0) (hn : c < 234) (h0 : 0 ≤ a) (h1 : a < μ.1 c 4) (h2 : μ.1 c 4 ≤ 40) : tp_k G mX0_has [tR (some c), tI a] μ (fun r μ' => r = some (tI 1) ∧ μ' = μ) := by
  refine tp_ok_of mX0_has_ok rfl (Nat.le_refl _) ?_
  have hr := tp_code1 c hn hc
  have hs := tp_code2 c hn hc
  refine g_iload_n rfl rfl ?_
  refine g_if_lt (tgt := 22) rfl (by decide) (fun h1 => ?_) (fun h1 => ?_)
  · first
      | omega
      | refine g_iconst rfl ⟨by decide, by decide⟩ ?_
        refine x_zreturn rfl rfl (Or.inl rfl) ?_
        exact ⟨rfl, rfl⟩
  · first
      | omega
      | refine g_iload_n rfl rfl ?_
        refine g_aload_n rfl rfl ?_
        refine x_geti (v := (μ.1 c 4)) rfl hc hn (Or.inl rfl) rfl ?_
        refine g_icmp_ge (tgt := 22) rfl (by decide) (fun h2 => ?_) (fun h2 => ?_)
        · first
            | omega
            | refine g_iconst rfl ⟨by decide, by decide⟩ ?_
              refine x_zreturn rfl rfl (Or.inl rfl) ?_
              exact ⟨rfl, rfl⟩
        · first
            | omega
            | refine g_iload_n rfl rfl ?_
              refine g_bipush rfl ⟨by decide, by decide⟩ (by decide) ?_
              refine g_icmp_ge (tgt := 22) rfl (by decide) (fun h3 => ?_) (fun h3 => ?_)
              · first
                  | omega
                  | refine g_iconst rfl ⟨by decide, by decide⟩ ?_
                    refine x_zreturn rfl rfl (Or.inl rfl) ?_
                    exact ⟨rfl, rfl⟩
              · first
                  | omega
                  | refine g_iconst rfl ⟨by decide, by decide⟩ ?_
                    refine g_goto (tgt := 23) rfl (by decide) ?_
                    refine x_zreturn rfl rfl (Or.inr rfl) ?_
                    exact ⟨rfl, rfl⟩
set_option maxHeartbeats 4000000 in
set_option maxRecDepth 100000 in
theorem s_haso {G : tp_G} {μ : tp_M} (hG : tp_Gf G = true) {c : Nat} {a : Int} (hc : tp_SH c = .inl 0) (hn : c < 234) (h0 : a < 0 ∨ μ.1 c 4 ≤ a) : tp_k G mX0_has [tR (some c), tI a] μ (fun r μ' => r = some (tI 0) ∧ μ' = μ) := by
  refine tp_ok_of mX0_has_ok rfl (Nat.le_refl _) ?_
  have hr := tp_code1 c hn hc
  have hs := tp_code2 c hn hc
  refine g_iload_n rfl rfl ?_
  refine g_if_lt (tgt := 22) rfl (by decide) (fun h1 => ?_) (fun h1 => ?_)
  · first
      | omega
      | refine g_iconst rfl ⟨by decide, by decide⟩ ?_
        refine x_zreturn rfl rfl (Or.inl rfl) ?_
        exact ⟨rfl, rfl⟩
  · first
      | omega
      | refine g_iload_n rfl rfl ?_
        refine g_aload_n rfl rfl ?_
        refine x_geti (v := (μ.1 c 4)) rfl hc hn (Or.inl rfl) rfl ?_
        refine g_icmp_ge (tgt := 22) rfl (by decide) (fun h2 => ?_) (fun h2 => ?_)
        · first
            | omega
            | refine g_iconst rfl ⟨by decide, by decide⟩ ?_
              refine x_zreturn rfl rfl (Or.inl rfl) ?_
              exact ⟨rfl, rfl⟩
        · first
            | omega
            | refine g_iload_n rfl rfl ?_
              refine g_bipush rfl ⟨by decide, by decide⟩ (by decide) ?_
              refine g_icmp_ge (tgt := 22) rfl (by decide) (fun h3 => ?_) (fun h3 => ?_)
              · first
                  | omega
                  | refine g_iconst rfl ⟨by decide, by decide⟩ ?_
                    refine x_zreturn rfl rfl (Or.inl rfl) ?_
                    exact ⟨rfl, rfl⟩
              · first
                  | omega
                  | refine g_iconst rfl ⟨by decide, by decide⟩ ?_
                    refine g_goto (tgt := 23) rfl (by decide) ?_
                    refine x_zreturn rfl rfl (Or.inr rfl) ?_
                    exact ⟨rfl, rfl⟩
set_option maxHeartbeats 4000000 in
set_option maxRecDepth 100000 in
theorem s_kindAt {G : tp_G} {μ : tp_M} (hG : tp_Gf G = true) {c : Nat} {a : Int} (hc : tp_SH c = .inl 0) (hn : c < 234) (h0 : 0 ≤ a) (h1 : a < μ.1 c 4) (h2 : μ.1 c 4 ≤ 40) : tp_k G mX0_kindAt [tR (some c), tI a] μ (fun r μ' => r = some (tI (μ.1 (c + 1) a)) ∧ μ' = μ) := by
  refine tp_ok_of mX0_kindAt_ok rfl (Nat.le_refl _) ?_
  have hr := tp_code1 c hn hc
  have hs := tp_code2 c hn hc
  refine g_aload_n rfl rfl ?_
  refine g_iload_n rfl rfl ?_
  refine g_cV (as := [tI a]) (s_has hG hc hn h0 h1 h2) rfl rfl mX0_has_ok rfl hc rfl hn rfl rfl rfl ?_
  rintro _ w9 ⟨rfl, hw9⟩ _
  have hw9 := hw9.symm
  subst hw9
  refine g_if_eq (tgt := 17) rfl (by decide) (fun hx => absurd hx (by omega)) (fun _ => ?_)
  refine g_aload_n rfl rfl ?_
  refine x_getF (r := c + 1) hG rfl hc hn (Or.inr ⟨_, rfl⟩) hr.1 ?_
  refine g_iload_n rfl rfl ?_
  refine x_iald (v := (μ.1 (c + 1) a)) rfl hs.1 (by omega) (by omega) (by omega) rfl ?_
  refine g_goto (tgt := 18) rfl (by decide) ?_
  refine x_ireturn rfl rfl ?_
  exact ⟨rfl, rfl⟩
set_option maxHeartbeats 4000000 in
set_option maxRecDepth 100000 in
theorem s_kindAto {G : tp_G} {μ : tp_M} (hG : tp_Gf G = true) {c : Nat} {a : Int} (hc : tp_SH c = .inl 0) (hn : c < 234) (h0 : a < 0 ∨ μ.1 c 4 ≤ a) : tp_k G mX0_kindAt [tR (some c), tI a] μ (fun r μ' => r = some (tI (-1)) ∧ μ' = μ) := by
  refine tp_ok_of mX0_kindAt_ok rfl (Nat.le_refl _) ?_
  have hr := tp_code1 c hn hc
  have hs := tp_code2 c hn hc
  refine g_aload_n rfl rfl ?_
  refine g_iload_n rfl rfl ?_
  refine g_cV (as := [tI a]) (s_haso hG hc hn h0) rfl rfl mX0_has_ok rfl hc rfl hn rfl rfl rfl ?_
  rintro _ w9 ⟨rfl, hw9⟩ _
  have hw9 := hw9.symm
  subst hw9
  refine g_if_eq (tgt := 17) rfl (by decide) (fun _ => ?_) (fun hx => absurd hx (by omega))
  refine g_iconst rfl ⟨by decide, by decide⟩ ?_
  refine x_ireturn rfl rfl ?_
  exact ⟨rfl, rfl⟩
set_option maxHeartbeats 4000000 in
set_option maxRecDepth 100000 in
theorem s_targetAt {G : tp_G} {μ : tp_M} (hG : tp_Gf G = true) {c : Nat} {a : Int} (hc : tp_SH c = .inl 0) (hn : c < 234) (h0 : 0 ≤ a) (h1 : a < μ.1 c 4) (h2 : μ.1 c 4 ≤ 40) : tp_k G mX0_targetAt [tR (some c), tI a] μ (fun r μ' => r = some (tI (μ.1 (c + 2) a)) ∧ μ' = μ) := by
  refine tp_ok_of mX0_targetAt_ok rfl (Nat.le_refl _) ?_
  have hr := tp_code1 c hn hc
  have hs := tp_code2 c hn hc
  refine g_aload_n rfl rfl ?_
  refine g_iload_n rfl rfl ?_
  refine g_cV (as := [tI a]) (s_has hG hc hn h0 h1 h2) rfl rfl mX0_has_ok rfl hc rfl hn rfl rfl rfl ?_
  rintro _ w9 ⟨rfl, hw9⟩ _
  have hw9 := hw9.symm
  subst hw9
  refine g_if_eq (tgt := 17) rfl (by decide) (fun hx => absurd hx (by omega)) (fun _ => ?_)
  refine g_aload_n rfl rfl ?_
  refine x_getF (r := c + 2) hG rfl hc hn (Or.inr ⟨_, rfl⟩) hr.2.1 ?_
  refine g_iload_n rfl rfl ?_
  refine x_iald (v := (μ.1 (c + 2) a)) rfl hs.2.1 (by omega) (by omega) (by omega) rfl ?_
  refine g_goto (tgt := 18) rfl (by decide) ?_
  refine x_ireturn rfl rfl ?_
  exact ⟨rfl, rfl⟩
set_option maxHeartbeats 4000000 in
set_option maxRecDepth 100000 in
theorem s_targetAto {G : tp_G} {μ : tp_M} (hG : tp_Gf G = true) {c : Nat} {a : Int} (hc : tp_SH c = .inl 0) (hn : c < 234) (h0 : a < 0 ∨ μ.1 c 4 ≤ a) : tp_k G mX0_targetAt [tR (some c), tI a] μ (fun r μ' => r = some (tI (-1)) ∧ μ' = μ) := by
  refine tp_ok_of mX0_targetAt_ok rfl (Nat.le_refl _) ?_
  have hr := tp_code1 c hn hc
  have hs := tp_code2 c hn hc
  refine g_aload_n rfl rfl ?_
  refine g_iload_n rfl rfl ?_
  refine g_cV (as := [tI a]) (s_haso hG hc hn h0) rfl rfl mX0_has_ok rfl hc rfl hn rfl rfl rfl ?_
  rintro _ w9 ⟨rfl, hw9⟩ _
  have hw9 := hw9.symm
  subst hw9
  refine g_if_eq (tgt := 17) rfl (by decide) (fun _ => ?_) (fun hx => absurd hx (by omega))
  refine g_iconst rfl ⟨by decide, by decide⟩ ?_
  refine x_ireturn rfl rfl ?_
  exact ⟨rfl, rfl⟩
set_option maxHeartbeats 4000000 in
set_option maxRecDepth 100000 in
theorem s_rule {G : tp_G} {μ : tp_M} (hG : tp_Gf G = true) {c : Nat} {a : Int} (hc : tp_SH c = .inl 0) (hn : c < 234) (h0 : 0 ≤ a) (h1 : a < 8) : tp_k G mX0_rule [tR (some c), tI a] μ (fun r μ' => r = some (tI (μ.1 (c + 4) a)) ∧ μ' = μ) := by
  refine tp_ok_of mX0_rule_ok rfl (Nat.le_refl _) ?_
  have hr := tp_code1 c hn hc
  have hs := tp_code2 c hn hc
  refine g_iload_n rfl rfl ?_
  refine g_if_lt (tgt := 10) rfl (by decide) (fun h1 => ?_) (fun h1 => ?_)
  · first
      | omega
      | refine g_iconst rfl ⟨by decide, by decide⟩ ?_
        refine g_goto (tgt := 20) rfl (by decide) ?_
        refine x_ireturn rfl rfl ?_
        exact ⟨rfl, rfl⟩
  · first
      | omega
      | refine g_iload_n rfl rfl ?_
        refine g_bipush rfl ⟨by decide, by decide⟩ (by decide) ?_
        refine g_icmp_lt (tgt := 14) rfl (by decide) (fun h2 => ?_) (fun h2 => ?_)
        · first
            | omega
            | refine g_aload_n rfl rfl ?_
              refine x_getF (r := c + 4) hG rfl hc hn (Or.inr ⟨_, rfl⟩) hr.2.2.2 ?_
              refine g_iload_n rfl rfl ?_
              refine x_iald (v := (μ.1 (c + 4) a)) rfl hs.2.2.2.1 (by omega) (by omega) (by omega) rfl ?_
              refine x_ireturn rfl rfl ?_
              exact ⟨rfl, rfl⟩
        · first
            | omega
            | refine g_iconst rfl ⟨by decide, by decide⟩ ?_
              refine g_goto (tgt := 20) rfl (by decide) ?_
              refine x_ireturn rfl rfl ?_
              exact ⟨rfl, rfl⟩
