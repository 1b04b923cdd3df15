theorem tp_pi_ne {μ : tp_M} {c k : Nat} {j v : Int} (h : k ≠ c) : (tp_pi μ c j v).1 k = μ.1 k := by
  funext j'
  exact if_neg (fun z => h z.1)
theorem tp_pi_ix {μ : tp_M} {c : Nat} {j j' v : Int} (h : j' ≠ j) : (tp_pi μ c j v).1 c j' = μ.1 c j' := if_neg (fun z => h z.2)
theorem tp_pr_i {μ : tp_M} {c : Nat} {j : Int} {r : Option Nat} : (tp_pr μ c j r).1 = μ.1 := rfl
set_option maxHeartbeats 4000000 in
set_option maxRecDepth 100000 in
theorem p_end {G : tp_G} (hG : tp_Gf G = true) {a : Int} : tp_pair G mX11_end mX12_end [tI a] := by
  intro μ hR
  have hL := tp_R_len hR
  refine tp_ok_of mX11_end_ok rfl (Nat.le_refl _) ?_
  refine g_iload_n rfl rfl ?_
  refine g_if_lt (tgt := 15) rfl (by decide) (fun h1 => ?_) (fun h1 => ?_)
  · first
      | omega
      | refine g_iconst rfl ⟨by decide, by decide⟩ ?_
        refine x_ireturn rfl rfl ?_
        refine ⟨_, rfl, ?_⟩
        refine tp_ok_of mX12_end_ok rfl (Nat.le_refl _) ?_
        refine g_aload_n rfl rfl ?_
        refine g_iconst rfl ⟨by decide, by decide⟩ ?_
        refine g_puti rfl rfl (by decide) rfl rfl ?_
        refine g_iload_n rfl rfl ?_
        refine g_iconst rfl ⟨by decide, by decide⟩ ?_
        refine g_aload_n rfl rfl ?_
        refine x_getF (r := 203) hG rfl rfl (by decide) (Or.inr ⟨_, rfl⟩) rfl ?_
        refine g_iconst rfl ⟨by decide, by decide⟩ ?_
        refine x_iald (v := (μ.1 203 0)) rfl rfl (by decide) (by decide) (by decide) rfl ?_
        refine g_iS (as := [tI a, tI 0, tI (μ.1 203 0)]) mX12_in_ok rfl rfl rfl rfl rfl rfl rfl ?_
        refine g_iload_n rfl rfl ?_
        refine g_iload_n rfl rfl ?_
        refine g_icmp_lt (tgt := 14) rfl (by decide) (fun _ => ?_) (fun hx => absurd hx (by omega))
        refine g_iconst rfl ⟨by decide, by decide⟩ ?_
        refine x_zreturn rfl rfl (Or.inl rfl) ?_
        intro _
        refine g_if_ne (tgt := 21) rfl (by decide) (fun hx => absurd hx (by omega)) (fun _ => ?_)
        refine g_iconst rfl ⟨by decide, by decide⟩ ?_
        refine x_ireturn rfl rfl ?_
        exact ⟨rfl, (tp_R_kp hR (tp_kp_pi (by decide) tp_kp_rf))⟩
  · first
      | omega
      | refine g_iload_n rfl rfl ?_
        refine g_aload_n rfl rfl ?_
        refine x_getF (r := 1) hG rfl rfl (by decide) (Or.inl ⟨_, rfl⟩) rfl ?_
        refine x_geti (v := (μ.1 1 1)) rfl rfl (by decide) (Or.inl rfl) rfl ?_
        refine g_icmp_le (tgt := 17) rfl (by decide) (fun h2 => ?_) (fun h2 => ?_)
        · first
            | omega
            | refine g_aload_n rfl rfl ?_
              refine x_getF (r := 1) hG rfl rfl (by decide) (Or.inl ⟨_, rfl⟩) rfl ?_
              refine g_iload_n rfl rfl ?_
              refine g_puti rfl rfl (by decide) rfl rfl ?_
              refine g_iload_n rfl rfl ?_
              refine x_ireturn rfl rfl ?_
              refine ⟨_, rfl, ?_⟩
              refine tp_ok_of mX12_end_ok rfl (Nat.le_refl _) ?_
              refine g_aload_n rfl rfl ?_
              refine g_iconst rfl ⟨by decide, by decide⟩ ?_
              refine g_puti rfl rfl (by decide) rfl rfl ?_
              refine g_iload_n rfl rfl ?_
              refine g_iconst rfl ⟨by decide, by decide⟩ ?_
              refine g_aload_n rfl rfl ?_
              refine x_getF (r := 203) hG rfl rfl (by decide) (Or.inr ⟨_, rfl⟩) rfl ?_
              refine g_iconst rfl ⟨by decide, by decide⟩ ?_
              refine x_iald (v := (μ.1 203 0)) rfl rfl (by decide) (by decide) (by decide) rfl ?_
              refine g_iS (as := [tI a, tI 0, tI (μ.1 203 0)]) mX12_in_ok rfl rfl rfl rfl rfl rfl rfl ?_
              refine g_iload_n rfl rfl ?_
              refine g_iload_n rfl rfl ?_
              refine g_icmp_lt (tgt := 14) rfl (by decide) (fun hx => absurd hx (by omega)) (fun _ => ?_)
              refine g_iload_n rfl rfl ?_
              refine g_iload_n rfl rfl ?_
              refine g_icmp_gt (tgt := 14) rfl (by decide) (fun hx => absurd hx (by omega)) (fun _ => ?_)
              refine g_iconst rfl ⟨by decide, by decide⟩ ?_
              refine g_goto (tgt := 15) rfl (by decide) ?_
              refine x_zreturn rfl rfl (Or.inr rfl) ?_
              intro _
              refine g_if_ne (tgt := 21) rfl (by decide) (fun _ => ?_) (fun hx => absurd hx (by omega))
              refine g_aload_n rfl rfl ?_
              refine x_getF (r := 203) hG rfl rfl (by decide) (Or.inr ⟨_, rfl⟩) rfl ?_
              refine g_iconst rfl ⟨by decide, by decide⟩ ?_
              refine g_iload_n rfl rfl ?_
              refine g_iast rfl rfl (by decide) (by decide) (by decide) ?_
              refine g_iload_n rfl rfl ?_
              refine x_ireturn rfl rfl ?_
              exact ⟨rfl, (tp_R_head hR (fun k hk g1 g2 g3 => by unfold tp_tl at hk; rw [tp_pi_ne (by omega), tp_pi_ne (by omega), tp_pi_ne (by omega)]) (fun j hj => rfl) (fun q hq => ⟨tp_pi_ix (by omega), rfl, rfl⟩) ⟨by show 0 ≤ a; omega, by show a ≤ 600; omega, rfl⟩ (fun j g1 g2 => tp_R_tape hR j g1 (by have g2 : j < a := g2; omega)) ⟨(tp_R_fault hR).1, (tp_R_fault hR).2⟩)⟩
        · first
            | omega
            | refine g_iconst rfl ⟨by decide, by decide⟩ ?_
              refine x_ireturn rfl rfl ?_
              refine ⟨_, rfl, ?_⟩
              refine tp_ok_of mX12_end_ok rfl (Nat.le_refl _) ?_
              refine g_aload_n rfl rfl ?_
              refine g_iconst rfl ⟨by decide, by decide⟩ ?_
              refine g_puti rfl rfl (by decide) rfl rfl ?_
              refine g_iload_n rfl rfl ?_
              refine g_iconst rfl ⟨by decide, by decide⟩ ?_
              refine g_aload_n rfl rfl ?_
              refine x_getF (r := 203) hG rfl rfl (by decide) (Or.inr ⟨_, rfl⟩) rfl ?_
              refine g_iconst rfl ⟨by decide, by decide⟩ ?_
              refine x_iald (v := (μ.1 203 0)) rfl rfl (by decide) (by decide) (by decide) rfl ?_
              refine g_iS (as := [tI a, tI 0, tI (μ.1 203 0)]) mX12_in_ok rfl rfl rfl rfl rfl rfl rfl ?_
              refine g_iload_n rfl rfl ?_
              refine g_iload_n rfl rfl ?_
              refine g_icmp_lt (tgt := 14) rfl (by decide) (fun hx => absurd hx (by omega)) (fun _ => ?_)
              refine g_iload_n rfl rfl ?_
              refine g_iload_n rfl rfl ?_
              refine g_icmp_gt (tgt := 14) rfl (by decide) (fun _ => ?_) (fun hx => absurd hx (by omega))
              refine g_iconst rfl ⟨by decide, by decide⟩ ?_
              refine x_zreturn rfl rfl (Or.inl rfl) ?_
              intro _
              refine g_if_ne (tgt := 21) rfl (by decide) (fun hx => absurd hx (by omega)) (fun _ => ?_)
              refine g_iconst rfl ⟨by decide, by decide⟩ ?_
              refine x_ireturn rfl rfl ?_
              exact ⟨rfl, (tp_R_kp hR (tp_kp_pi (by decide) tp_kp_rf))⟩
set_option maxHeartbeats 4000000 in
set_option maxRecDepth 100000 in
theorem p_fact {G : tp_G} (hG : tp_Gf G = true) {a k b : Int} : tp_pair G mX11_fact mX12_fact [tI a, tI k, tI b] := by
  intro μ hR
  have hM := tp_R_many hR 3 (by decide) (by decide)
  rcases (show (a = 0 ∧ 0 < μ.1 5 3) ∨ (a = 1 ∧ 1 < μ.1 5 3) ∨ ((a < 0 ∨ μ.1 5 3 ≤ a) ∧ μ.1 5 3 ≤ 2) by omega) with ⟨rfl, hd⟩ | ⟨rfl, hd⟩ | hd
  · have hD : tp_Lg μ.1 34 (tp_gf μ 0) := tp_R_log hR 0 (by decide) hd
    have hD0 : tp_gf μ 0 0 = μ.1 210 0 := rfl
    have hDe := hD.1
    have hD1 := hD.2.1
    have hDv : ∀ i, 0 ≤ i → i < μ.1 34 2 → μ.1 35 i = μ.1 210 (1 + 2 * i) := fun i g1 g2 => (hD.2.2 i g1 (by omega)).1.trans (congrArg (μ.1 210) (by omega))
    have hDo : ∀ i, 0 ≤ i → i < μ.1 34 2 → μ.1 36 i = μ.1 210 (2 + 2 * i) := fun i g1 g2 => (hD.2.2 i g1 (by omega)).2.1.trans (congrArg (μ.1 210) (by omega))
    refine tp_ok_of mX11_fact_ok rfl (Nat.le_refl _) ?_
    refine g_aload_n rfl rfl ?_
    refine x_getF (r := 1) hG rfl rfl (by decide) (Or.inl ⟨_, rfl⟩) rfl ?_
    refine g_iconst rfl ⟨by decide, by decide⟩ ?_
    refine g_iload_n rfl rfl ?_
    refine g_cV (as := [tI 3, tI 0]) (s_rowOf30 hG hd) rfl rfl mX9_rowOf_ok rfl rfl rfl (by decide) rfl rfl rfl ?_
    rintro _ w9 ⟨rfl, hw9⟩ _
    have hw9 := hw9.symm
    subst hw9
    refine g_astore rfl rfl rfl ?_
    refine g_aload rfl rfl ?_
    refine g_ifnonnull (tgt := 19) rfl (by decide) (fun _ _ => ?_) (fun hx => by cases hx)
    refine g_iload_n rfl rfl ?_
    refine g_iconst rfl ⟨by decide, by decide⟩ ?_
    refine g_icmp_ne (tgt := 39) rfl (by decide) (fun h1 => ?_) (fun h1 => ?_)
    · first
        | omega
        | refine g_iload_n rfl rfl ?_
          refine g_if_lt (tgt := 52) rfl (by decide) (fun h2 => ?_) (fun h2 => ?_)
          · first
              | omega
              | refine g_bipush rfl ⟨by decide, by decide⟩ (by decide) ?_
                refine x_ireturn rfl rfl ?_
                refine ⟨_, rfl, ?_⟩
                refine tp_ok_of mX12_fact_ok rfl (Nat.le_refl _) ?_
                refine g_aload_n rfl rfl ?_
                refine g_iconst rfl ⟨by decide, by decide⟩ ?_
                refine g_puti rfl rfl (by decide) rfl rfl ?_
                refine g_aload_n rfl rfl ?_
                refine g_iload_n rfl rfl ?_
                refine g_puti rfl rfl (by decide) rfl rfl ?_
                refine g_aload_n rfl rfl ?_
                refine g_iconst rfl ⟨by decide, by decide⟩ ?_
                refine g_iload_n rfl rfl ?_
                refine g_iV (as := [tI 3, tI 0]) mX12_is_ok rfl rfl rfl rfl rfl rfl (by decide) rfl rfl rfl ?_
                refine g_iload_n rfl rfl ?_
                refine g_iconst rfl ⟨by decide, by decide⟩ ?_
                refine g_aload_n rfl rfl ?_
                refine x_getF (r := 206) hG rfl rfl (by decide) (Or.inr ⟨_, rfl⟩) rfl ?_
                refine g_iload_n rfl rfl ?_
                refine x_iald (v := (μ.1 206 3)) rfl rfl (by decide) (by decide) (by decide) rfl ?_
                refine g_iconst rfl ⟨by decide, by decide⟩ ?_
                refine x_isub (z := (μ.1 206 3) - 1) rfl (by omega) ⟨by omega, by omega⟩ ?_
                refine g_iS (as := [tI 0, tI 0, tI ((μ.1 206 3) - 1)]) mX12_in_ok rfl rfl rfl rfl rfl rfl rfl ?_
                refine g_iload_n rfl rfl ?_
                refine g_iload_n rfl rfl ?_
                refine g_icmp_lt (tgt := 14) rfl (by decide) (fun hx => absurd hx (by omega)) (fun _ => ?_)
                refine g_iload_n rfl rfl ?_
                refine g_iload_n rfl rfl ?_
                refine g_icmp_gt (tgt := 14) rfl (by decide) (fun hx => absurd hx (by omega)) (fun _ => ?_)
                refine g_iconst rfl ⟨by decide, by decide⟩ ?_
                refine g_goto (tgt := 15) rfl (by decide) ?_
                refine x_zreturn rfl rfl (Or.inr rfl) ?_
                intro _
                refine x_zreturn rfl rfl (Or.inr rfl) ?_
                intro _
                refine g_if_ne (tgt := 22) rfl (by decide) (fun _ => ?_) (fun hx => absurd hx (by omega))
                refine g_iload_n rfl rfl ?_
                refine g_iconst rfl ⟨by decide, by decide⟩ ?_
                refine g_icmp_ne (tgt := 41) rfl (by decide) (fun h3 => ?_) (fun h3 => ?_)
                · first
                    | omega
                    | refine g_iload_n rfl rfl ?_
                      refine g_iconst rfl ⟨by decide, by decide⟩ ?_
                      refine g_aload_n rfl rfl ?_
                      refine g_iV (as := []) mX12_facts_ok rfl rfl rfl rfl rfl rfl (by decide) rfl rfl rfl ?_
                      refine g_aload_n rfl rfl ?_
                      refine x_getF (r := 210) hG rfl rfl (by decide) (Or.inr ⟨_, rfl⟩) rfl ?_
                      refine g_bipush rfl ⟨by decide, by decide⟩ (by decide) ?_
                      refine g_aload_n rfl rfl ?_
                      refine x_geti (v := 0) rfl rfl (by decide) (Or.inl rfl) rfl ?_
                      refine x_imul (z := 0) rfl (by omega) ⟨by omega, by omega⟩ ?_
                      refine x_iald (v := (μ.1 210 0)) rfl rfl (by decide) (by decide) (by decide) rfl ?_
                      refine x_ireturn rfl rfl ?_
                      intro _
                      refine g_iconst rfl ⟨by decide, by decide⟩ ?_
                      refine x_isub (z := (μ.1 210 0) - 1) rfl (by omega) ⟨by omega, by omega⟩ ?_
                      refine g_iS (as := [tI k, tI 0, tI ((μ.1 210 0) - 1)]) mX12_in_ok rfl rfl rfl rfl rfl rfl rfl ?_
                      refine g_iload_n rfl rfl ?_
                      refine g_iload_n rfl rfl ?_
                      refine g_icmp_lt (tgt := 14) rfl (by decide) (fun _ => ?_) (fun hx => absurd hx (by omega))
                      refine g_iconst rfl ⟨by decide, by decide⟩ ?_
                      refine x_zreturn rfl rfl (Or.inl rfl) ?_
                      intro _
                      refine g_if_eq (tgt := 73) rfl (by decide) (fun _ => ?_) (fun hx => absurd hx (by omega))
                      refine g_bipush rfl ⟨by decide, by decide⟩ (by decide) ?_
                      refine x_ireturn rfl rfl ?_
                      exact ⟨(by first | rfl | (rw [hDe, hD0]) | exact congrArg (fun z => some (tI z)) ((congrArg (μ.1 210) (by omega)).trans (hDv _ (by omega) (by omega)).symm) | exact congrArg (fun z => some (tI z)) ((congrArg (μ.1 210) (by omega)).trans (hDo _ (by omega) (by omega)).symm)), (tp_R_kp hR (tp_kp_pi (by decide) (tp_kp_pi (by decide) tp_kp_rf)))⟩
                · first
                    | omega
                    | refine g_iload_n rfl rfl ?_
                      refine g_if_ne (tgt := 38) rfl (by decide) (fun h4 => ?_) (fun h4 => ?_)
                      · first
                          | omega
                          | refine g_bipush rfl ⟨by decide, by decide⟩ (by decide) ?_
                            refine x_ireturn rfl rfl ?_
                            exact ⟨(by first | rfl | (rw [hDe, hD0]) | exact congrArg (fun z => some (tI z)) ((congrArg (μ.1 210) (by omega)).trans (hDv _ (by omega) (by omega)).symm) | exact congrArg (fun z => some (tI z)) ((congrArg (μ.1 210) (by omega)).trans (hDo _ (by omega) (by omega)).symm)), (tp_R_kp hR (tp_kp_pi (by decide) (tp_kp_pi (by decide) tp_kp_rf)))⟩
                      · first
                          | omega
                          | refine g_aload_n rfl rfl ?_
                            refine g_iV (as := []) mX12_facts_ok rfl rfl rfl rfl rfl rfl (by decide) rfl rfl rfl ?_
                            refine g_aload_n rfl rfl ?_
                            refine x_getF (r := 210) hG rfl rfl (by decide) (Or.inr ⟨_, rfl⟩) rfl ?_
                            refine g_bipush rfl ⟨by decide, by decide⟩ (by decide) ?_
                            refine g_aload_n rfl rfl ?_
                            refine x_geti (v := 0) rfl rfl (by decide) (Or.inl rfl) rfl ?_
                            refine x_imul (z := 0) rfl (by omega) ⟨by omega, by omega⟩ ?_
                            refine x_iald (v := (μ.1 210 0)) rfl rfl (by decide) (by decide) (by decide) rfl ?_
                            refine x_ireturn rfl rfl ?_
                            intro _
                            refine g_goto (tgt := 40) rfl (by decide) ?_
                            refine x_ireturn rfl rfl ?_
                            exact ⟨(by first | rfl | (rw [hDe, hD0]) | exact congrArg (fun z => some (tI z)) ((congrArg (μ.1 210) (by omega)).trans (hDv _ (by omega) (by omega)).symm) | exact congrArg (fun z => some (tI z)) ((congrArg (μ.1 210) (by omega)).trans (hDo _ (by omega) (by omega)).symm)), (tp_R_kp hR (tp_kp_pi (by decide) (tp_kp_pi (by decide) tp_kp_rf)))⟩
          · first
              | omega
              | refine g_iload_n rfl rfl ?_
                refine g_aload rfl rfl ?_
                refine x_geti (v := (μ.1 34 2)) rfl rfl (by decide) (Or.inl rfl) rfl ?_
                refine g_icmp_lt (tgt := 55) rfl (by decide) (fun h5 => ?_) (fun h5 => ?_)
                · first
                    | omega
                    | refine g_iload_n rfl rfl ?_
                      refine g_if_ne (tgt := 66) rfl (by decide) (fun h6 => ?_) (fun h6 => ?_)
                      · first
                          | omega
                          | refine g_iload_n rfl rfl ?_
                            refine g_iconst rfl ⟨by decide, by decide⟩ ?_
                            refine g_icmp_ne (tgt := 80) rfl (by decide) (fun h7 => ?_) (fun h7 => ?_)
                            · first
                                | omega
                                | refine g_bipush rfl ⟨by decide, by decide⟩ (by decide) ?_
                                  refine x_ireturn rfl rfl ?_
                                  refine ⟨_, rfl, ?_⟩
                                  refine tp_ok_of mX12_fact_ok rfl (Nat.le_refl _) ?_
                                  refine g_aload_n rfl rfl ?_
                                  refine g_iconst rfl ⟨by decide, by decide⟩ ?_
                                  refine g_puti rfl rfl (by decide) rfl rfl ?_
                                  refine g_aload_n rfl rfl ?_
                                  refine g_iload_n rfl rfl ?_
                                  refine g_puti rfl rfl (by decide) rfl rfl ?_
                                  refine g_aload_n rfl rfl ?_
                                  refine g_iconst rfl ⟨by decide, by decide⟩ ?_
                                  refine g_iload_n rfl rfl ?_
                                  refine g_iV (as := [tI 3, tI 0]) mX12_is_ok rfl rfl rfl rfl rfl rfl (by decide) rfl rfl rfl ?_
                                  refine g_iload_n rfl rfl ?_
                                  refine g_iconst rfl ⟨by decide, by decide⟩ ?_
                                  refine g_aload_n rfl rfl ?_
                                  refine x_getF (r := 206) hG rfl rfl (by decide) (Or.inr ⟨_, rfl⟩) rfl ?_
                                  refine g_iload_n rfl rfl ?_
                                  refine x_iald (v := (μ.1 206 3)) rfl rfl (by decide) (by decide) (by decide) rfl ?_
                                  refine g_iconst rfl ⟨by decide, by decide⟩ ?_
                                  refine x_isub (z := (μ.1 206 3) - 1) rfl (by omega) ⟨by omega, by omega⟩ ?_
                                  refine g_iS (as := [tI 0, tI 0, tI ((μ.1 206 3) - 1)]) mX12_in_ok rfl rfl rfl rfl rfl rfl rfl ?_
                                  refine g_iload_n rfl rfl ?_
                                  refine g_iload_n rfl rfl ?_
                                  refine g_icmp_lt (tgt := 14) rfl (by decide) (fun hx => absurd hx (by omega)) (fun _ => ?_)
                                  refine g_iload_n rfl rfl ?_
                                  refine g_iload_n rfl rfl ?_
                                  refine g_icmp_gt (tgt := 14) rfl (by decide) (fun hx => absurd hx (by omega)) (fun _ => ?_)
                                  refine g_iconst rfl ⟨by decide, by decide⟩ ?_
                                  refine g_goto (tgt := 15) rfl (by decide) ?_
                                  refine x_zreturn rfl rfl (Or.inr rfl) ?_
                                  intro _
                                  refine x_zreturn rfl rfl (Or.inr rfl) ?_
                                  intro _
                                  refine g_if_ne (tgt := 22) rfl (by decide) (fun _ => ?_) (fun hx => absurd hx (by omega))
                                  refine g_iload_n rfl rfl ?_
                                  refine g_iconst rfl ⟨by decide, by decide⟩ ?_
                                  refine g_icmp_ne (tgt := 41) rfl (by decide) (fun _ => ?_) (fun hx => absurd hx (by omega))
                                  refine g_iload_n rfl rfl ?_
                                  refine g_iconst rfl ⟨by decide, by decide⟩ ?_
                                  refine g_aload_n rfl rfl ?_
                                  refine g_iV (as := []) mX12_facts_ok rfl rfl rfl rfl rfl rfl (by decide) rfl rfl rfl ?_
                                  refine g_aload_n rfl rfl ?_
                                  refine x_getF (r := 210) hG rfl rfl (by decide) (Or.inr ⟨_, rfl⟩) rfl ?_
                                  refine g_bipush rfl ⟨by decide, by decide⟩ (by decide) ?_
                                  refine g_aload_n rfl rfl ?_
                                  refine x_geti (v := 0) rfl rfl (by decide) (Or.inl rfl) rfl ?_
                                  refine x_imul (z := 0) rfl (by omega) ⟨by omega, by omega⟩ ?_
                                  refine x_iald (v := (μ.1 210 0)) rfl rfl (by decide) (by decide) (by decide) rfl ?_
                                  refine x_ireturn rfl rfl ?_
                                  intro _
                                  refine g_iconst rfl ⟨by decide, by decide⟩ ?_
                                  refine x_isub (z := (μ.1 210 0) - 1) rfl (by omega) ⟨by omega, by omega⟩ ?_
                                  refine g_iS (as := [tI k, tI 0, tI ((μ.1 210 0) - 1)]) mX12_in_ok rfl rfl rfl rfl rfl rfl rfl ?_
                                  refine g_iload_n rfl rfl ?_
                                  refine g_iload_n rfl rfl ?_
                                  refine g_icmp_lt (tgt := 14) rfl (by decide) (fun hx => absurd hx (by omega)) (fun _ => ?_)
                                  refine g_iload_n rfl rfl ?_
                                  refine g_iload_n rfl rfl ?_
                                  refine g_icmp_gt (tgt := 14) rfl (by decide) (fun hx => absurd hx (by omega)) (fun _ => ?_)
                                  refine g_iconst rfl ⟨by decide, by decide⟩ ?_
                                  refine g_goto (tgt := 15) rfl (by decide) ?_
                                  refine x_zreturn rfl rfl (Or.inr rfl) ?_
                                  intro _
                                  refine g_if_eq (tgt := 73) rfl (by decide) (fun hx => absurd hx (by omega)) (fun _ => ?_)
                                  refine g_iload_n rfl rfl ?_
                                  refine g_iconst rfl ⟨by decide, by decide⟩ ?_
                                  refine g_iconst rfl ⟨by decide, by decide⟩ ?_
                                  refine g_iS (as := [tI b, tI 0, tI 1]) mX12_in_ok rfl rfl rfl rfl rfl rfl rfl ?_
                                  refine g_iload_n rfl rfl ?_
                                  refine g_iload_n rfl rfl ?_
                                  refine g_icmp_lt (tgt := 14) rfl (by decide) (fun h8 => ?_) (fun h8 => ?_)
                                  · first
                                      | omega
                                      | refine g_iconst rfl ⟨by decide, by decide⟩ ?_
                                        refine x_zreturn rfl rfl (Or.inl rfl) ?_
                                        intro _
                                        refine g_if_eq (tgt := 73) rfl (by decide) (fun _ => ?_) (fun hx => absurd hx (by omega))
                                        refine g_bipush rfl ⟨by decide, by decide⟩ (by decide) ?_
                                        refine x_ireturn rfl rfl ?_
                                        exact ⟨(by first | rfl | (rw [hDe, hD0]) | exact congrArg (fun z => some (tI z)) ((congrArg (μ.1 210) (by omega)).trans (hDv _ (by omega) (by omega)).symm) | exact congrArg (fun z => some (tI z)) ((congrArg (μ.1 210) (by omega)).trans (hDo _ (by omega) (by omega)).symm)), (tp_R_kp hR (tp_kp_pi (by decide) (tp_kp_pi (by decide) tp_kp_rf)))⟩
                                  · first
                                      | omega
                                      | refine g_iload_n rfl rfl ?_
                                        refine g_iload_n rfl rfl ?_
                                        refine g_icmp_gt (tgt := 14) rfl (by decide) (fun h9 => ?_) (fun h9 => ?_)
                                        · first
                                            | omega
                                            | refine g_iconst rfl ⟨by decide, by decide⟩ ?_
                                              refine x_zreturn rfl rfl (Or.inl rfl) ?_
                                              intro _
                                              refine g_if_eq (tgt := 73) rfl (by decide) (fun _ => ?_) (fun hx => absurd hx (by omega))
                                              refine g_bipush rfl ⟨by decide, by decide⟩ (by decide) ?_
                                              refine x_ireturn rfl rfl ?_
                                              exact ⟨(by first | rfl | (rw [hDe, hD0]) | exact congrArg (fun z => some (tI z)) ((congrArg (μ.1 210) (by omega)).trans (hDv _ (by omega) (by omega)).symm) | exact congrArg (fun z => some (tI z)) ((congrArg (μ.1 210) (by omega)).trans (hDo _ (by omega) (by omega)).symm)), (tp_R_kp hR (tp_kp_pi (by decide) (tp_kp_pi (by decide) tp_kp_rf)))⟩
                                        · first
                                            | omega
                                            | refine g_iconst rfl ⟨by decide, by decide⟩ ?_
                                              refine g_goto (tgt := 15) rfl (by decide) ?_
                                              refine x_zreturn rfl rfl (Or.inr rfl) ?_
                                              intro _
                                              refine g_if_eq (tgt := 73) rfl (by decide) (fun hx => absurd hx (by omega)) (fun _ => ?_)
                                              refine g_aload_n rfl rfl ?_
                                              refine g_iload_n rfl rfl ?_
                                              refine g_iload_n rfl rfl ?_
                                              refine g_iV (as := [tI k, tI b]) mX12_factOf_ok rfl rfl rfl rfl rfl rfl (by decide) rfl rfl rfl ?_
                                              refine g_aload_n rfl rfl ?_
                                              refine x_getF (r := 210) hG rfl rfl (by decide) (Or.inr ⟨_, rfl⟩) rfl ?_
                                              refine g_bipush rfl ⟨by decide, by decide⟩ (by decide) ?_
                                              refine g_aload_n rfl rfl ?_
                                              refine x_geti (v := 0) rfl rfl (by decide) (Or.inl rfl) rfl ?_
                                              refine x_imul (z := 0) rfl (by omega) ⟨by omega, by omega⟩ ?_
                                              refine g_iconst rfl ⟨by decide, by decide⟩ ?_
                                              refine x_iadd (z := 1) rfl (by omega) ⟨by omega, by omega⟩ ?_
                                              refine g_iconst rfl ⟨by decide, by decide⟩ ?_
                                              refine g_iload_n rfl rfl ?_
                                              refine x_imul (z := 2 * k) rfl (by omega) ⟨by omega, by omega⟩ ?_
                                              refine x_iadd (z := 2 * k + 1) rfl (by omega) ⟨by omega, by omega⟩ ?_
                                              refine g_iload_n rfl rfl ?_
                                              refine x_iadd (z := 2 * k + b + 1) rfl (by omega) ⟨by omega, by omega⟩ ?_
                                              refine x_iald (v := (μ.1 210 (2 * k + b + 1))) rfl rfl (by decide) (by omega) (by omega) rfl ?_
                                              refine x_ireturn rfl rfl ?_
                                              intro _
                                              refine g_goto (tgt := 75) rfl (by decide) ?_
                                              refine x_ireturn rfl rfl ?_
                                              exact ⟨(by first | rfl | (rw [hDe, hD0]) | exact congrArg (fun z => some (tI z)) ((congrArg (μ.1 210) (by omega)).trans (hDv _ (by omega) (by omega)).symm) | exact congrArg (fun z => some (tI z)) ((congrArg (μ.1 210) (by omega)).trans (hDo _ (by omega) (by omega)).symm)), (tp_R_kp hR (tp_kp_pi (by decide) (tp_kp_pi (by decide) tp_kp_rf)))⟩
                            · first
                                | omega
                                | refine g_aload rfl rfl ?_
                                  refine g_iload_n rfl rfl ?_
                                  refine g_cV (as := [tI k]) (s_often hG rfl (by decide) (by omega) (by omega) (by show _ ≤ ((8 : Nat) : Int); omega)) rfl rfl mX6_often_ok rfl rfl rfl (by decide) rfl rfl rfl ?_
                                  rintro _ w9 ⟨rfl, hw9⟩ _
                                  have hw9 := hw9.symm
                                  subst hw9
                                  refine g_goto (tgt := 82) rfl (by decide) ?_
                                  refine x_ireturn rfl rfl ?_
                                  refine ⟨_, rfl, ?_⟩
                                  refine tp_ok_of mX12_fact_ok rfl (Nat.le_refl _) ?_
                                  refine g_aload_n rfl rfl ?_
                                  refine g_iconst rfl ⟨by decide, by decide⟩ ?_
                                  refine g_puti rfl rfl (by decide) rfl rfl ?_
                                  refine g_aload_n rfl rfl ?_
                                  refine g_iload_n rfl rfl ?_
                                  refine g_puti rfl rfl (by decide) rfl rfl ?_
                                  refine g_aload_n rfl rfl ?_
                                  refine g_iconst rfl ⟨by decide, by decide⟩ ?_
                                  refine g_iload_n rfl rfl ?_
                                  refine g_iV (as := [tI 3, tI 0]) mX12_is_ok rfl rfl rfl rfl rfl rfl (by decide) rfl rfl rfl ?_
                                  refine g_iload_n rfl rfl ?_
                                  refine g_iconst rfl ⟨by decide, by decide⟩ ?_
                                  refine g_aload_n rfl rfl ?_
                                  refine x_getF (r := 206) hG rfl rfl (by decide) (Or.inr ⟨_, rfl⟩) rfl ?_
                                  refine g_iload_n rfl rfl ?_
                                  refine x_iald (v := (μ.1 206 3)) rfl rfl (by decide) (by decide) (by decide) rfl ?_
                                  refine g_iconst rfl ⟨by decide, by decide⟩ ?_
                                  refine x_isub (z := (μ.1 206 3) - 1) rfl (by omega) ⟨by omega, by omega⟩ ?_
                                  refine g_iS (as := [tI 0, tI 0, tI ((μ.1 206 3) - 1)]) mX12_in_ok rfl rfl rfl rfl rfl rfl rfl ?_
                                  refine g_iload_n rfl rfl ?_
                                  refine g_iload_n rfl rfl ?_
                                  refine g_icmp_lt (tgt := 14) rfl (by decide) (fun hx => absurd hx (by omega)) (fun _ => ?_)
                                  refine g_iload_n rfl rfl ?_
                                  refine g_iload_n rfl rfl ?_
                                  refine g_icmp_gt (tgt := 14) rfl (by decide) (fun hx => absurd hx (by omega)) (fun _ => ?_)
                                  refine g_iconst rfl ⟨by decide, by decide⟩ ?_
                                  refine g_goto (tgt := 15) rfl (by decide) ?_
                                  refine x_zreturn rfl rfl (Or.inr rfl) ?_
                                  intro _
                                  refine x_zreturn rfl rfl (Or.inr rfl) ?_
                                  intro _
                                  refine g_if_ne (tgt := 22) rfl (by decide) (fun _ => ?_) (fun hx => absurd hx (by omega))
                                  refine g_iload_n rfl rfl ?_
                                  refine g_iconst rfl ⟨by decide, by decide⟩ ?_
                                  refine g_icmp_ne (tgt := 41) rfl (by decide) (fun _ => ?_) (fun hx => absurd hx (by omega))
                                  refine g_iload_n rfl rfl ?_
                                  refine g_iconst rfl ⟨by decide, by decide⟩ ?_
                                  refine g_aload_n rfl rfl ?_
                                  refine g_iV (as := []) mX12_facts_ok rfl rfl rfl rfl rfl rfl (by decide) rfl rfl rfl ?_
                                  refine g_aload_n rfl rfl ?_
                                  refine x_getF (r := 210) hG rfl rfl (by decide) (Or.inr ⟨_, rfl⟩) rfl ?_
                                  refine g_bipush rfl ⟨by decide, by decide⟩ (by decide) ?_
                                  refine g_aload_n rfl rfl ?_
                                  refine x_geti (v := 0) rfl rfl (by decide) (Or.inl rfl) rfl ?_
                                  refine x_imul (z := 0) rfl (by omega) ⟨by omega, by omega⟩ ?_
                                  refine x_iald (v := (μ.1 210 0)) rfl rfl (by decide) (by decide) (by decide) rfl ?_
                                  refine x_ireturn rfl rfl ?_
                                  intro _
                                  refine g_iconst rfl ⟨by decide, by decide⟩ ?_
                                  refine x_isub (z := (μ.1 210 0) - 1) rfl (by omega) ⟨by omega, by omega⟩ ?_
                                  refine g_iS (as := [tI k, tI 0, tI ((μ.1 210 0) - 1)]) mX12_in_ok rfl rfl rfl rfl rfl rfl rfl ?_
                                  refine g_iload_n rfl rfl ?_
                                  refine g_iload_n rfl rfl ?_
                                  refine g_icmp_lt (tgt := 14) rfl (by decide) (fun hx => absurd hx (by omega)) (fun _ => ?_)
                                  refine g_iload_n rfl rfl ?_
                                  refine g_iload_n rfl rfl ?_
                                  refine g_icmp_gt (tgt := 14) rfl (by decide) (fun hx => absurd hx (by omega)) (fun _ => ?_)
                                  refine g_iconst rfl ⟨by decide, by decide⟩ ?_
                                  refine g_goto (tgt := 15) rfl (by decide) ?_
                                  refine x_zreturn rfl rfl (Or.inr rfl) ?_
                                  intro _
                                  refine g_if_eq (tgt := 73) rfl (by decide) (fun hx => absurd hx (by omega)) (fun _ => ?_)
                                  refine g_iload_n rfl rfl ?_
                                  refine g_iconst rfl ⟨by decide, by decide⟩ ?_
                                  refine g_iconst rfl ⟨by decide, by decide⟩ ?_
                                  refine g_iS (as := [tI b, tI 0, tI 1]) mX12_in_ok rfl rfl rfl rfl rfl rfl rfl ?_
                                  refine g_iload_n rfl rfl ?_
                                  refine g_iload_n rfl rfl ?_
                                  refine g_icmp_lt (tgt := 14) rfl (by decide) (fun hx => absurd hx (by omega)) (fun _ => ?_)
                                  refine g_iload_n rfl rfl ?_
                                  refine g_iload_n rfl rfl ?_
                                  refine g_icmp_gt (tgt := 14) rfl (by decide) (fun hx => absurd hx (by omega)) (fun _ => ?_)
                                  refine g_iconst rfl ⟨by decide, by decide⟩ ?_
                                  refine g_goto (tgt := 15) rfl (by decide) ?_
                                  refine x_zreturn rfl rfl (Or.inr rfl) ?_
                                  intro _
                                  refine g_if_eq (tgt := 73) rfl (by decide) (fun hx => absurd hx (by omega)) (fun _ => ?_)
                                  refine g_aload_n rfl rfl ?_
                                  refine g_iload_n rfl rfl ?_
                                  refine g_iload_n rfl rfl ?_
                                  refine g_iV (as := [tI k, tI b]) mX12_factOf_ok rfl rfl rfl rfl rfl rfl (by decide) rfl rfl rfl ?_
                                  refine g_aload_n rfl rfl ?_
                                  refine x_getF (r := 210) hG rfl rfl (by decide) (Or.inr ⟨_, rfl⟩) rfl ?_
                                  refine g_bipush rfl ⟨by decide, by decide⟩ (by decide) ?_
                                  refine g_aload_n rfl rfl ?_
                                  refine x_geti (v := 0) rfl rfl (by decide) (Or.inl rfl) rfl ?_
                                  refine x_imul (z := 0) rfl (by omega) ⟨by omega, by omega⟩ ?_
                                  refine g_iconst rfl ⟨by decide, by decide⟩ ?_
                                  refine x_iadd (z := 1) rfl (by omega) ⟨by omega, by omega⟩ ?_
                                  refine g_iconst rfl ⟨by decide, by decide⟩ ?_
                                  refine g_iload_n rfl rfl ?_
                                  refine x_imul (z := 2 * k) rfl (by omega) ⟨by omega, by omega⟩ ?_
                                  refine x_iadd (z := 2 * k + 1) rfl (by omega) ⟨by omega, by omega⟩ ?_
                                  refine g_iload_n rfl rfl ?_
                                  refine x_iadd (z := 2 * k + b + 1) rfl (by omega) ⟨by omega, by omega⟩ ?_
                                  refine x_iald (v := (μ.1 210 (2 * k + b + 1))) rfl rfl (by decide) (by omega) (by omega) rfl ?_
                                  refine x_ireturn rfl rfl ?_
                                  intro _
                                  refine g_goto (tgt := 75) rfl (by decide) ?_
                                  refine x_ireturn rfl rfl ?_
                                  exact ⟨(by first | rfl | (rw [hDe, hD0]) | exact congrArg (fun z => some (tI z)) ((congrArg (μ.1 210) (by omega)).trans (hDv _ (by omega) (by omega)).symm) | exact congrArg (fun z => some (tI z)) ((congrArg (μ.1 210) (by omega)).trans (hDo _ (by omega) (by omega)).symm)), (tp_R_kp hR (tp_kp_pi (by decide) (tp_kp_pi (by decide) tp_kp_rf)))⟩
                      · first
                          | omega
                          | refine g_aload rfl rfl ?_
                            refine g_iload_n rfl rfl ?_
                            refine g_cV (as := [tI k]) (s_value hG rfl (by decide) (by omega) (by omega) (by show _ ≤ ((8 : Nat) : Int); omega)) rfl rfl mX6_value_ok rfl rfl rfl (by decide) rfl rfl rfl ?_
                            rintro _ w9 ⟨rfl, hw9⟩ _
                            have hw9 := hw9.symm
                            subst hw9
                            refine x_ireturn rfl rfl ?_
                            refine ⟨_, rfl, ?_⟩
                            refine tp_ok_of mX12_fact_ok rfl (Nat.le_refl _) ?_
                            refine g_aload_n rfl rfl ?_
                            refine g_iconst rfl ⟨by decide, by decide⟩ ?_
                            refine g_puti rfl rfl (by decide) rfl rfl ?_
                            refine g_aload_n rfl rfl ?_
                            refine g_iload_n rfl rfl ?_
                            refine g_puti rfl rfl (by decide) rfl rfl ?_
                            refine g_aload_n rfl rfl ?_
                            refine g_iconst rfl ⟨by decide, by decide⟩ ?_
                            refine g_iload_n rfl rfl ?_
                            refine g_iV (as := [tI 3, tI 0]) mX12_is_ok rfl rfl rfl rfl rfl rfl (by decide) rfl rfl rfl ?_
                            refine g_iload_n rfl rfl ?_
                            refine g_iconst rfl ⟨by decide, by decide⟩ ?_
                            refine g_aload_n rfl rfl ?_
                            refine x_getF (r := 206) hG rfl rfl (by decide) (Or.inr ⟨_, rfl⟩) rfl ?_
                            refine g_iload_n rfl rfl ?_
                            refine x_iald (v := (μ.1 206 3)) rfl rfl (by decide) (by decide) (by decide) rfl ?_
                            refine g_iconst rfl ⟨by decide, by decide⟩ ?_
                            refine x_isub (z := (μ.1 206 3) - 1) rfl (by omega) ⟨by omega, by omega⟩ ?_
                            refine g_iS (as := [tI 0, tI 0, tI ((μ.1 206 3) - 1)]) mX12_in_ok rfl rfl rfl rfl rfl rfl rfl ?_
                            refine g_iload_n rfl rfl ?_
                            refine g_iload_n rfl rfl ?_
                            refine g_icmp_lt (tgt := 14) rfl (by decide) (fun hx => absurd hx (by omega)) (fun _ => ?_)
                            refine g_iload_n rfl rfl ?_
                            refine g_iload_n rfl rfl ?_
                            refine g_icmp_gt (tgt := 14) rfl (by decide) (fun hx => absurd hx (by omega)) (fun _ => ?_)
                            refine g_iconst rfl ⟨by decide, by decide⟩ ?_
                            refine g_goto (tgt := 15) rfl (by decide) ?_
                            refine x_zreturn rfl rfl (Or.inr rfl) ?_
                            intro _
                            refine x_zreturn rfl rfl (Or.inr rfl) ?_
                            intro _
                            refine g_if_ne (tgt := 22) rfl (by decide) (fun _ => ?_) (fun hx => absurd hx (by omega))
                            refine g_iload_n rfl rfl ?_
                            refine g_iconst rfl ⟨by decide, by decide⟩ ?_
                            refine g_icmp_ne (tgt := 41) rfl (by decide) (fun _ => ?_) (fun hx => absurd hx (by omega))
                            refine g_iload_n rfl rfl ?_
                            refine g_iconst rfl ⟨by decide, by decide⟩ ?_
                            refine g_aload_n rfl rfl ?_
                            refine g_iV (as := []) mX12_facts_ok rfl rfl rfl rfl rfl rfl (by decide) rfl rfl rfl ?_
                            refine g_aload_n rfl rfl ?_
                            refine x_getF (r := 210) hG rfl rfl (by decide) (Or.inr ⟨_, rfl⟩) rfl ?_
                            refine g_bipush rfl ⟨by decide, by decide⟩ (by decide) ?_
                            refine g_aload_n rfl rfl ?_
                            refine x_geti (v := 0) rfl rfl (by decide) (Or.inl rfl) rfl ?_
                            refine x_imul (z := 0) rfl (by omega) ⟨by omega, by omega⟩ ?_
                            refine x_iald (v := (μ.1 210 0)) rfl rfl (by decide) (by decide) (by decide) rfl ?_
                            refine x_ireturn rfl rfl ?_
                            intro _
                            refine g_iconst rfl ⟨by decide, by decide⟩ ?_
                            refine x_isub (z := (μ.1 210 0) - 1) rfl (by omega) ⟨by omega, by omega⟩ ?_
                            refine g_iS (as := [tI k, tI 0, tI ((μ.1 210 0) - 1)]) mX12_in_ok rfl rfl rfl rfl rfl rfl rfl ?_
                            refine g_iload_n rfl rfl ?_
                            refine g_iload_n rfl rfl ?_
                            refine g_icmp_lt (tgt := 14) rfl (by decide) (fun hx => absurd hx (by omega)) (fun _ => ?_)
                            refine g_iload_n rfl rfl ?_
                            refine g_iload_n rfl rfl ?_
                            refine g_icmp_gt (tgt := 14) rfl (by decide) (fun hx => absurd hx (by omega)) (fun _ => ?_)
                            refine g_iconst rfl ⟨by decide, by decide⟩ ?_
                            refine g_goto (tgt := 15) rfl (by decide) ?_
                            refine x_zreturn rfl rfl (Or.inr rfl) ?_
                            intro _
                            refine g_if_eq (tgt := 73) rfl (by decide) (fun hx => absurd hx (by omega)) (fun _ => ?_)
                            refine g_iload_n rfl rfl ?_
                            refine g_iconst rfl ⟨by decide, by decide⟩ ?_
                            refine g_iconst rfl ⟨by decide, by decide⟩ ?_
                            refine g_iS (as := [tI b, tI 0, tI 1]) mX12_in_ok rfl rfl rfl rfl rfl rfl rfl ?_
                            refine g_iload_n rfl rfl ?_
                            refine g_iload_n rfl rfl ?_
                            refine g_icmp_lt (tgt := 14) rfl (by decide) (fun hx => absurd hx (by omega)) (fun _ => ?_)
                            refine g_iload_n rfl rfl ?_
                            refine g_iload_n rfl rfl ?_
                            refine g_icmp_gt (tgt := 14) rfl (by decide) (fun hx => absurd hx (by omega)) (fun _ => ?_)
                            refine g_iconst rfl ⟨by decide, by decide⟩ ?_
                            refine g_goto (tgt := 15) rfl (by decide) ?_
                            refine x_zreturn rfl rfl (Or.inr rfl) ?_
                            intro _
                            refine g_if_eq (tgt := 73) rfl (by decide) (fun hx => absurd hx (by omega)) (fun _ => ?_)
                            refine g_aload_n rfl rfl ?_
                            refine g_iload_n rfl rfl ?_
                            refine g_iload_n rfl rfl ?_
                            refine g_iV (as := [tI k, tI b]) mX12_factOf_ok rfl rfl rfl rfl rfl rfl (by decide) rfl rfl rfl ?_
                            refine g_aload_n rfl rfl ?_
                            refine x_getF (r := 210) hG rfl rfl (by decide) (Or.inr ⟨_, rfl⟩) rfl ?_
                            refine g_bipush rfl ⟨by decide, by decide⟩ (by decide) ?_
                            refine g_aload_n rfl rfl ?_
                            refine x_geti (v := 0) rfl rfl (by decide) (Or.inl rfl) rfl ?_
                            refine x_imul (z := 0) rfl (by omega) ⟨by omega, by omega⟩ ?_
                            refine g_iconst rfl ⟨by decide, by decide⟩ ?_
                            refine x_iadd (z := 1) rfl (by omega) ⟨by omega, by omega⟩ ?_
                            refine g_iconst rfl ⟨by decide, by decide⟩ ?_
                            refine g_iload_n rfl rfl ?_
                            refine x_imul (z := 2 * k) rfl (by omega) ⟨by omega, by omega⟩ ?_
                            refine x_iadd (z := 2 * k + 1) rfl (by omega) ⟨by omega, by omega⟩ ?_
                            refine g_iload_n rfl rfl ?_
                            refine x_iadd (z := 2 * k + b + 1) rfl (by omega) ⟨by omega, by omega⟩ ?_
                            refine x_iald (v := (μ.1 210 (2 * k + b + 1))) rfl rfl (by decide) (by omega) (by omega) rfl ?_
                            refine x_ireturn rfl rfl ?_
                            intro _
                            refine g_goto (tgt := 75) rfl (by decide) ?_
                            refine x_ireturn rfl rfl ?_
                            exact ⟨(by first | rfl | (rw [hDe, hD0]) | exact congrArg (fun z => some (tI z)) ((congrArg (μ.1 210) (by omega)).trans (hDv _ (by omega) (by omega)).symm) | exact congrArg (fun z => some (tI z)) ((congrArg (μ.1 210) (by omega)).trans (hDo _ (by omega) (by omega)).symm)), (tp_R_kp hR (tp_kp_pi (by decide) (tp_kp_pi (by decide) tp_kp_rf)))⟩
                · first
                    | omega
                    | refine g_bipush rfl ⟨by decide, by decide⟩ (by decide) ?_
                      refine x_ireturn rfl rfl ?_
                      refine ⟨_, rfl, ?_⟩
                      refine tp_ok_of mX12_fact_ok rfl (Nat.le_refl _) ?_
                      refine g_aload_n rfl rfl ?_
                      refine g_iconst rfl ⟨by decide, by decide⟩ ?_
                      refine g_puti rfl rfl (by decide) rfl rfl ?_
                      refine g_aload_n rfl rfl ?_
                      refine g_iload_n rfl rfl ?_
                      refine g_puti rfl rfl (by decide) rfl rfl ?_
                      refine g_aload_n rfl rfl ?_
                      refine g_iconst rfl ⟨by decide, by decide⟩ ?_
                      refine g_iload_n rfl rfl ?_
                      refine g_iV (as := [tI 3, tI 0]) mX12_is_ok rfl rfl rfl rfl rfl rfl (by decide) rfl rfl rfl ?_
                      refine g_iload_n rfl rfl ?_
                      refine g_iconst rfl ⟨by decide, by decide⟩ ?_
                      refine g_aload_n rfl rfl ?_
                      refine x_getF (r := 206) hG rfl rfl (by decide) (Or.inr ⟨_, rfl⟩) rfl ?_
                      refine g_iload_n rfl rfl ?_
                      refine x_iald (v := (μ.1 206 3)) rfl rfl (by decide) (by decide) (by decide) rfl ?_
                      refine g_iconst rfl ⟨by decide, by decide⟩ ?_
                      refine x_isub (z := (μ.1 206 3) - 1) rfl (by omega) ⟨by omega, by omega⟩ ?_
                      refine g_iS (as := [tI 0, tI 0, tI ((μ.1 206 3) - 1)]) mX12_in_ok rfl rfl rfl rfl rfl rfl rfl ?_
                      refine g_iload_n rfl rfl ?_
                      refine g_iload_n rfl rfl ?_
                      refine g_icmp_lt (tgt := 14) rfl (by decide) (fun hx => absurd hx (by omega)) (fun _ => ?_)
                      refine g_iload_n rfl rfl ?_
                      refine g_iload_n rfl rfl ?_
                      refine g_icmp_gt (tgt := 14) rfl (by decide) (fun hx => absurd hx (by omega)) (fun _ => ?_)
                      refine g_iconst rfl ⟨by decide, by decide⟩ ?_
                      refine g_goto (tgt := 15) rfl (by decide) ?_
                      refine x_zreturn rfl rfl (Or.inr rfl) ?_
                      intro _
                      refine x_zreturn rfl rfl (Or.inr rfl) ?_
                      intro _
                      refine g_if_ne (tgt := 22) rfl (by decide) (fun _ => ?_) (fun hx => absurd hx (by omega))
                      refine g_iload_n rfl rfl ?_
                      refine g_iconst rfl ⟨by decide, by decide⟩ ?_
                      refine g_icmp_ne (tgt := 41) rfl (by decide) (fun _ => ?_) (fun hx => absurd hx (by omega))
                      refine g_iload_n rfl rfl ?_
                      refine g_iconst rfl ⟨by decide, by decide⟩ ?_
                      refine g_aload_n rfl rfl ?_
                      refine g_iV (as := []) mX12_facts_ok rfl rfl rfl rfl rfl rfl (by decide) rfl rfl rfl ?_
                      refine g_aload_n rfl rfl ?_
                      refine x_getF (r := 210) hG rfl rfl (by decide) (Or.inr ⟨_, rfl⟩) rfl ?_
                      refine g_bipush rfl ⟨by decide, by decide⟩ (by decide) ?_
                      refine g_aload_n rfl rfl ?_
                      refine x_geti (v := 0) rfl rfl (by decide) (Or.inl rfl) rfl ?_
                      refine x_imul (z := 0) rfl (by omega) ⟨by omega, by omega⟩ ?_
                      refine x_iald (v := (μ.1 210 0)) rfl rfl (by decide) (by decide) (by decide) rfl ?_
                      refine x_ireturn rfl rfl ?_
                      intro _
                      refine g_iconst rfl ⟨by decide, by decide⟩ ?_
                      refine x_isub (z := (μ.1 210 0) - 1) rfl (by omega) ⟨by omega, by omega⟩ ?_
                      refine g_iS (as := [tI k, tI 0, tI ((μ.1 210 0) - 1)]) mX12_in_ok rfl rfl rfl rfl rfl rfl rfl ?_
                      refine g_iload_n rfl rfl ?_
                      refine g_iload_n rfl rfl ?_
                      refine g_icmp_lt (tgt := 14) rfl (by decide) (fun hx => absurd hx (by omega)) (fun _ => ?_)
                      refine g_iload_n rfl rfl ?_
                      refine g_iload_n rfl rfl ?_
                      refine g_icmp_gt (tgt := 14) rfl (by decide) (fun _ => ?_) (fun hx => absurd hx (by omega))
                      refine g_iconst rfl ⟨by decide, by decide⟩ ?_
                      refine x_zreturn rfl rfl (Or.inl rfl) ?_
                      intro _
                      refine g_if_eq (tgt := 73) rfl (by decide) (fun _ => ?_) (fun hx => absurd hx (by omega))
                      refine g_bipush rfl ⟨by decide, by decide⟩ (by decide) ?_
                      refine x_ireturn rfl rfl ?_
                      exact ⟨(by first | rfl | (rw [hDe, hD0]) | exact congrArg (fun z => some (tI z)) ((congrArg (μ.1 210) (by omega)).trans (hDv _ (by omega) (by omega)).symm) | exact congrArg (fun z => some (tI z)) ((congrArg (μ.1 210) (by omega)).trans (hDo _ (by omega) (by omega)).symm)), (tp_R_kp hR (tp_kp_pi (by decide) (tp_kp_pi (by decide) tp_kp_rf)))⟩
    · first
        | omega
        | refine g_iload_n rfl rfl ?_
          refine g_if_ne (tgt := 36) rfl (by decide) (fun h10 => ?_) (fun h10 => ?_)
          · first
              | omega
              | refine g_bipush rfl ⟨by decide, by decide⟩ (by decide) ?_
                refine x_ireturn rfl rfl ?_
                refine ⟨_, rfl, ?_⟩
                refine tp_ok_of mX12_fact_ok rfl (Nat.le_refl _) ?_
                refine g_aload_n rfl rfl ?_
                refine g_iconst rfl ⟨by decide, by decide⟩ ?_
                refine g_puti rfl rfl (by decide) rfl rfl ?_
                refine g_aload_n rfl rfl ?_
                refine g_iload_n rfl rfl ?_
                refine g_puti rfl rfl (by decide) rfl rfl ?_
                refine g_aload_n rfl rfl ?_
                refine g_iconst rfl ⟨by decide, by decide⟩ ?_
                refine g_iload_n rfl rfl ?_
                refine g_iV (as := [tI 3, tI 0]) mX12_is_ok rfl rfl rfl rfl rfl rfl (by decide) rfl rfl rfl ?_
                refine g_iload_n rfl rfl ?_
                refine g_iconst rfl ⟨by decide, by decide⟩ ?_
                refine g_aload_n rfl rfl ?_
                refine x_getF (r := 206) hG rfl rfl (by decide) (Or.inr ⟨_, rfl⟩) rfl ?_
                refine g_iload_n rfl rfl ?_
                refine x_iald (v := (μ.1 206 3)) rfl rfl (by decide) (by decide) (by decide) rfl ?_
                refine g_iconst rfl ⟨by decide, by decide⟩ ?_
                refine x_isub (z := (μ.1 206 3) - 1) rfl (by omega) ⟨by omega, by omega⟩ ?_
                refine g_iS (as := [tI 0, tI 0, tI ((μ.1 206 3) - 1)]) mX12_in_ok rfl rfl rfl rfl rfl rfl rfl ?_
                refine g_iload_n rfl rfl ?_
                refine g_iload_n rfl rfl ?_
                refine g_icmp_lt (tgt := 14) rfl (by decide) (fun hx => absurd hx (by omega)) (fun _ => ?_)
                refine g_iload_n rfl rfl ?_
                refine g_iload_n rfl rfl ?_
                refine g_icmp_gt (tgt := 14) rfl (by decide) (fun hx => absurd hx (by omega)) (fun _ => ?_)
                refine g_iconst rfl ⟨by decide, by decide⟩ ?_
                refine g_goto (tgt := 15) rfl (by decide) ?_
                refine x_zreturn rfl rfl (Or.inr rfl) ?_
                intro _
                refine x_zreturn rfl rfl (Or.inr rfl) ?_
                intro _
                refine g_if_ne (tgt := 22) rfl (by decide) (fun _ => ?_) (fun hx => absurd hx (by omega))
                refine g_iload_n rfl rfl ?_
                refine g_iconst rfl ⟨by decide, by decide⟩ ?_
                refine g_icmp_ne (tgt := 41) rfl (by decide) (fun hx => absurd hx (by omega)) (fun _ => ?_)
                refine g_iload_n rfl rfl ?_
                refine g_if_ne (tgt := 38) rfl (by decide) (fun h11 => ?_) (fun h11 => ?_)
                · first
                    | omega
                    | refine g_bipush rfl ⟨by decide, by decide⟩ (by decide) ?_
                      refine x_ireturn rfl rfl ?_
                      exact ⟨(by first | rfl | (rw [hDe, hD0]) | exact congrArg (fun z => some (tI z)) ((congrArg (μ.1 210) (by omega)).trans (hDv _ (by omega) (by omega)).symm) | exact congrArg (fun z => some (tI z)) ((congrArg (μ.1 210) (by omega)).trans (hDo _ (by omega) (by omega)).symm)), (tp_R_kp hR (tp_kp_pi (by decide) (tp_kp_pi (by decide) tp_kp_rf)))⟩
                · first
                    | omega
                    | refine g_aload_n rfl rfl ?_
                      refine g_iV (as := []) mX12_facts_ok rfl rfl rfl rfl rfl rfl (by decide) rfl rfl rfl ?_
                      refine g_aload_n rfl rfl ?_
                      refine x_getF (r := 210) hG rfl rfl (by decide) (Or.inr ⟨_, rfl⟩) rfl ?_
                      refine g_bipush rfl ⟨by decide, by decide⟩ (by decide) ?_
                      refine g_aload_n rfl rfl ?_
                      refine x_geti (v := 0) rfl rfl (by decide) (Or.inl rfl) rfl ?_
                      refine x_imul (z := 0) rfl (by omega) ⟨by omega, by omega⟩ ?_
                      refine x_iald (v := (μ.1 210 0)) rfl rfl (by decide) (by decide) (by decide) rfl ?_
                      refine x_ireturn rfl rfl ?_
                      intro _
                      refine g_goto (tgt := 40) rfl (by decide) ?_
                      refine x_ireturn rfl rfl ?_
                      exact ⟨(by first | rfl | (rw [hDe, hD0]) | exact congrArg (fun z => some (tI z)) ((congrArg (μ.1 210) (by omega)).trans (hDv _ (by omega) (by omega)).symm) | exact congrArg (fun z => some (tI z)) ((congrArg (μ.1 210) (by omega)).trans (hDo _ (by omega) (by omega)).symm)), (tp_R_kp hR (tp_kp_pi (by decide) (tp_kp_pi (by decide) tp_kp_rf)))⟩
          · first
              | omega
              | refine g_aload rfl rfl ?_
                refine x_geti (v := (μ.1 34 2)) rfl rfl (by decide) (Or.inl rfl) rfl ?_
                refine g_goto (tgt := 38) rfl (by decide) ?_
                refine x_ireturn rfl rfl ?_
                refine ⟨_, rfl, ?_⟩
                refine tp_ok_of mX12_fact_ok rfl (Nat.le_refl _) ?_
                refine g_aload_n rfl rfl ?_
                refine g_iconst rfl ⟨by decide, by decide⟩ ?_
                refine g_puti rfl rfl (by decide) rfl rfl ?_
                refine g_aload_n rfl rfl ?_
                refine g_iload_n rfl rfl ?_
                refine g_puti rfl rfl (by decide) rfl rfl ?_
                refine g_aload_n rfl rfl ?_
                refine g_iconst rfl ⟨by decide, by decide⟩ ?_
                refine g_iload_n rfl rfl ?_
                refine g_iV (as := [tI 3, tI 0]) mX12_is_ok rfl rfl rfl rfl rfl rfl (by decide) rfl rfl rfl ?_
                refine g_iload_n rfl rfl ?_
                refine g_iconst rfl ⟨by decide, by decide⟩ ?_
                refine g_aload_n rfl rfl ?_
                refine x_getF (r := 206) hG rfl rfl (by decide) (Or.inr ⟨_, rfl⟩) rfl ?_
                refine g_iload_n rfl rfl ?_
                refine x_iald (v := (μ.1 206 3)) rfl rfl (by decide) (by decide) (by decide) rfl ?_
                refine g_iconst rfl ⟨by decide, by decide⟩ ?_
                refine x_isub (z := (μ.1 206 3) - 1) rfl (by omega) ⟨by omega, by omega⟩ ?_
                refine g_iS (as := [tI 0, tI 0, tI ((μ.1 206 3) - 1)]) mX12_in_ok rfl rfl rfl rfl rfl rfl rfl ?_
                refine g_iload_n rfl rfl ?_
                refine g_iload_n rfl rfl ?_
                refine g_icmp_lt (tgt := 14) rfl (by decide) (fun hx => absurd hx (by omega)) (fun _ => ?_)
                refine g_iload_n rfl rfl ?_
                refine g_iload_n rfl rfl ?_
                refine g_icmp_gt (tgt := 14) rfl (by decide) (fun hx => absurd hx (by omega)) (fun _ => ?_)
                refine g_iconst rfl ⟨by decide, by decide⟩ ?_
                refine g_goto (tgt := 15) rfl (by decide) ?_
                refine x_zreturn rfl rfl (Or.inr rfl) ?_
                intro _
                refine x_zreturn rfl rfl (Or.inr rfl) ?_
                intro _
                refine g_if_ne (tgt := 22) rfl (by decide) (fun _ => ?_) (fun hx => absurd hx (by omega))
                refine g_iload_n rfl rfl ?_
                refine g_iconst rfl ⟨by decide, by decide⟩ ?_
                refine g_icmp_ne (tgt := 41) rfl (by decide) (fun hx => absurd hx (by omega)) (fun _ => ?_)
                refine g_iload_n rfl rfl ?_
                refine g_if_ne (tgt := 38) rfl (by decide) (fun hx => absurd hx (by omega)) (fun _ => ?_)
                refine g_aload_n rfl rfl ?_
                refine g_iV (as := []) mX12_facts_ok rfl rfl rfl rfl rfl rfl (by decide) rfl rfl rfl ?_
                refine g_aload_n rfl rfl ?_
                refine x_getF (r := 210) hG rfl rfl (by decide) (Or.inr ⟨_, rfl⟩) rfl ?_
                refine g_bipush rfl ⟨by decide, by decide⟩ (by decide) ?_
                refine g_aload_n rfl rfl ?_
                refine x_geti (v := 0) rfl rfl (by decide) (Or.inl rfl) rfl ?_
                refine x_imul (z := 0) rfl (by omega) ⟨by omega, by omega⟩ ?_
                refine x_iald (v := (μ.1 210 0)) rfl rfl (by decide) (by decide) (by decide) rfl ?_
                refine x_ireturn rfl rfl ?_
                intro _
                refine g_goto (tgt := 40) rfl (by decide) ?_
                refine x_ireturn rfl rfl ?_
                exact ⟨(by first | rfl | (rw [hDe, hD0]) | exact congrArg (fun z => some (tI z)) ((congrArg (μ.1 210) (by omega)).trans (hDv _ (by omega) (by omega)).symm) | exact congrArg (fun z => some (tI z)) ((congrArg (μ.1 210) (by omega)).trans (hDo _ (by omega) (by omega)).symm)), (tp_R_kp hR (tp_kp_pi (by decide) (tp_kp_pi (by decide) tp_kp_rf)))⟩
  · have hD : tp_Lg μ.1 37 (tp_gf μ 1) := tp_R_log hR 1 (by decide) hd
    have hD0 : tp_gf μ 1 0 = μ.1 210 17 := rfl
    have hDe := hD.1
    have hD1 := hD.2.1
    have hDv : ∀ i, 0 ≤ i → i < μ.1 37 2 → μ.1 38 i = μ.1 210 (18 + 2 * i) := fun i g1 g2 => (hD.2.2 i g1 (by omega)).1.trans (congrArg (μ.1 210) (by omega))
    have hDo : ∀ i, 0 ≤ i → i < μ.1 37 2 → μ.1 39 i = μ.1 210 (19 + 2 * i) := fun i g1 g2 => (hD.2.2 i g1 (by omega)).2.1.trans (congrArg (μ.1 210) (by omega))
    refine tp_ok_of mX11_fact_ok rfl (Nat.le_refl _) ?_
    refine g_aload_n rfl rfl ?_
    refine x_getF (r := 1) hG rfl rfl (by decide) (Or.inl ⟨_, rfl⟩) rfl ?_
    refine g_iconst rfl ⟨by decide, by decide⟩ ?_
    refine g_iload_n rfl rfl ?_
    refine g_cV (as := [tI 3, tI 1]) (s_rowOf31 hG hd) rfl rfl mX9_rowOf_ok rfl rfl rfl (by decide) rfl rfl rfl ?_
    rintro _ w9 ⟨rfl, hw9⟩ _
    have hw9 := hw9.symm
    subst hw9
    refine g_astore rfl rfl rfl ?_
    refine g_aload rfl rfl ?_
    refine g_ifnonnull (tgt := 19) rfl (by decide) (fun _ _ => ?_) (fun hx => by cases hx)
    refine g_iload_n rfl rfl ?_
    refine g_iconst rfl ⟨by decide, by decide⟩ ?_
    refine g_icmp_ne (tgt := 39) rfl (by decide) (fun h1 => ?_) (fun h1 => ?_)
    · first
        | omega
        | refine g_iload_n rfl rfl ?_
          refine g_if_lt (tgt := 52) rfl (by decide) (fun h2 => ?_) (fun h2 => ?_)
          · first
              | omega
              | refine g_bipush rfl ⟨by decide, by decide⟩ (by decide) ?_
                refine x_ireturn rfl rfl ?_
                refine ⟨_, rfl, ?_⟩
                refine tp_ok_of mX12_fact_ok rfl (Nat.le_refl _) ?_
                refine g_aload_n rfl rfl ?_
                refine g_iconst rfl ⟨by decide, by decide⟩ ?_
                refine g_puti rfl rfl (by decide) rfl rfl ?_
                refine g_aload_n rfl rfl ?_
                refine g_iload_n rfl rfl ?_
                refine g_puti rfl rfl (by decide) rfl rfl ?_
                refine g_aload_n rfl rfl ?_
                refine g_iconst rfl ⟨by decide, by decide⟩ ?_
                refine g_iload_n rfl rfl ?_
                refine g_iV (as := [tI 3, tI 1]) mX12_is_ok rfl rfl rfl rfl rfl rfl (by decide) rfl rfl rfl ?_
                refine g_iload_n rfl rfl ?_
                refine g_iconst rfl ⟨by decide, by decide⟩ ?_
                refine g_aload_n rfl rfl ?_
                refine x_getF (r := 206) hG rfl rfl (by decide) (Or.inr ⟨_, rfl⟩) rfl ?_
                refine g_iload_n rfl rfl ?_
                refine x_iald (v := (μ.1 206 3)) rfl rfl (by decide) (by decide) (by decide) rfl ?_
                refine g_iconst rfl ⟨by decide, by decide⟩ ?_
                refine x_isub (z := (μ.1 206 3) - 1) rfl (by omega) ⟨by omega, by omega⟩ ?_
                refine g_iS (as := [tI 1, tI 0, tI ((μ.1 206 3) - 1)]) mX12_in_ok rfl rfl rfl rfl rfl rfl rfl ?_
                refine g_iload_n rfl rfl ?_
                refine g_iload_n rfl rfl ?_
                refine g_icmp_lt (tgt := 14) rfl (by decide) (fun hx => absurd hx (by omega)) (fun _ => ?_)
                refine g_iload_n rfl rfl ?_
                refine g_iload_n rfl rfl ?_
                refine g_icmp_gt (tgt := 14) rfl (by decide) (fun hx => absurd hx (by omega)) (fun _ => ?_)
                refine g_iconst rfl ⟨by decide, by decide⟩ ?_
                refine g_goto (tgt := 15) rfl (by decide) ?_
                refine x_zreturn rfl rfl (Or.inr rfl) ?_
                intro _
                refine x_zreturn rfl rfl (Or.inr rfl) ?_
                intro _
                refine g_if_ne (tgt := 22) rfl (by decide) (fun _ => ?_) (fun hx => absurd hx (by omega))
                refine g_iload_n rfl rfl ?_
                refine g_iconst rfl ⟨by decide, by decide⟩ ?_
                refine g_icmp_ne (tgt := 41) rfl (by decide) (fun h3 => ?_) (fun h3 => ?_)
                · first
                    | omega
                    | refine g_iload_n rfl rfl ?_
                      refine g_iconst rfl ⟨by decide, by decide⟩ ?_
                      refine g_aload_n rfl rfl ?_
                      refine g_iV (as := []) mX12_facts_ok rfl rfl rfl rfl rfl rfl (by decide) rfl rfl rfl ?_
                      refine g_aload_n rfl rfl ?_
                      refine x_getF (r := 210) hG rfl rfl (by decide) (Or.inr ⟨_, rfl⟩) rfl ?_
                      refine g_bipush rfl ⟨by decide, by decide⟩ (by decide) ?_
                      refine g_aload_n rfl rfl ?_
                      refine x_geti (v := 1) rfl rfl (by decide) (Or.inl rfl) rfl ?_
                      refine x_imul (z := 17) rfl (by omega) ⟨by omega, by omega⟩ ?_
                      refine x_iald (v := (μ.1 210 17)) rfl rfl (by decide) (by decide) (by decide) rfl ?_
                      refine x_ireturn rfl rfl ?_
                      intro _
                      refine g_iconst rfl ⟨by decide, by decide⟩ ?_
                      refine x_isub (z := (μ.1 210 17) - 1) rfl (by omega) ⟨by omega, by omega⟩ ?_
                      refine g_iS (as := [tI k, tI 0, tI ((μ.1 210 17) - 1)]) mX12_in_ok rfl rfl rfl rfl rfl rfl rfl ?_
                      refine g_iload_n rfl rfl ?_
                      refine g_iload_n rfl rfl ?_
                      refine g_icmp_lt (tgt := 14) rfl (by decide) (fun _ => ?_) (fun hx => absurd hx (by omega))
                      refine g_iconst rfl ⟨by decide, by decide⟩ ?_
                      refine x_zreturn rfl rfl (Or.inl rfl) ?_
                      intro _
                      refine g_if_eq (tgt := 73) rfl (by decide) (fun _ => ?_) (fun hx => absurd hx (by omega))
                      refine g_bipush rfl ⟨by decide, by decide⟩ (by decide) ?_
                      refine x_ireturn rfl rfl ?_
                      exact ⟨(by first | rfl | (rw [hDe, hD0]) | exact congrArg (fun z => some (tI z)) ((congrArg (μ.1 210) (by omega)).trans (hDv _ (by omega) (by omega)).symm) | exact congrArg (fun z => some (tI z)) ((congrArg (μ.1 210) (by omega)).trans (hDo _ (by omega) (by omega)).symm)), (tp_R_kp hR (tp_kp_pi (by decide) (tp_kp_pi (by decide) tp_kp_rf)))⟩
                · first
                    | omega
                    | refine g_iload_n rfl rfl ?_
                      refine g_if_ne (tgt := 38) rfl (by decide) (fun h4 => ?_) (fun h4 => ?_)
                      · first
                          | omega
                          | refine g_bipush rfl ⟨by decide, by decide⟩ (by decide) ?_
                            refine x_ireturn rfl rfl ?_
                            exact ⟨(by first | rfl | (rw [hDe, hD0]) | exact congrArg (fun z => some (tI z)) ((congrArg (μ.1 210) (by omega)).trans (hDv _ (by omega) (by omega)).symm) | exact congrArg (fun z => some (tI z)) ((congrArg (μ.1 210) (by omega)).trans (hDo _ (by omega) (by omega)).symm)), (tp_R_kp hR (tp_kp_pi (by decide) (tp_kp_pi (by decide) tp_kp_rf)))⟩
                      · first
                          | omega
                          | refine g_aload_n rfl rfl ?_
                            refine g_iV (as := []) mX12_facts_ok rfl rfl rfl rfl rfl rfl (by decide) rfl rfl rfl ?_
                            refine g_aload_n rfl rfl ?_
                            refine x_getF (r := 210) hG rfl rfl (by decide) (Or.inr ⟨_, rfl⟩) rfl ?_
                            refine g_bipush rfl ⟨by decide, by decide⟩ (by decide) ?_
                            refine g_aload_n rfl rfl ?_
                            refine x_geti (v := 1) rfl rfl (by decide) (Or.inl rfl) rfl ?_
                            refine x_imul (z := 17) rfl (by omega) ⟨by omega, by omega⟩ ?_
                            refine x_iald (v := (μ.1 210 17)) rfl rfl (by decide) (by decide) (by decide) rfl ?_
                            refine x_ireturn rfl rfl ?_
                            intro _
                            refine g_goto (tgt := 40) rfl (by decide) ?_
                            refine x_ireturn rfl rfl ?_
                            exact ⟨(by first | rfl | (rw [hDe, hD0]) | exact congrArg (fun z => some (tI z)) ((congrArg (μ.1 210) (by omega)).trans (hDv _ (by omega) (by omega)).symm) | exact congrArg (fun z => some (tI z)) ((congrArg (μ.1 210) (by omega)).trans (hDo _ (by omega) (by omega)).symm)), (tp_R_kp hR (tp_kp_pi (by decide) (tp_kp_pi (by decide) tp_kp_rf)))⟩
          · first
              | omega
              | refine g_iload_n rfl rfl ?_
                refine g_aload rfl rfl ?_
                refine x_geti (v := (μ.1 37 2)) rfl rfl (by decide) (Or.inl rfl) rfl ?_
                refine g_icmp_lt (tgt := 55) rfl (by decide) (fun h5 => ?_) (fun h5 => ?_)
                · first
                    | omega
                    | refine g_iload_n rfl rfl ?_
                      refine g_if_ne (tgt := 66) rfl (by decide) (fun h6 => ?_) (fun h6 => ?_)
                      · first
                          | omega
                          | refine g_iload_n rfl rfl ?_
                            refine g_iconst rfl ⟨by decide, by decide⟩ ?_
                            refine g_icmp_ne (tgt := 80) rfl (by decide) (fun h7 => ?_) (fun h7 => ?_)
                            · first
                                | omega
                                | refine g_bipush rfl ⟨by decide, by decide⟩ (by decide) ?_
                                  refine x_ireturn rfl rfl ?_
                                  refine ⟨_, rfl, ?_⟩
                                  refine tp_ok_of mX12_fact_ok rfl (Nat.le_refl _) ?_
                                  refine g_aload_n rfl rfl ?_
                                  refine g_iconst rfl ⟨by decide, by decide⟩ ?_
                                  refine g_puti rfl rfl (by decide) rfl rfl ?_
                                  refine g_aload_n rfl rfl ?_
                                  refine g_iload_n rfl rfl ?_
                                  refine g_puti rfl rfl (by decide) rfl rfl ?_
                                  refine g_aload_n rfl rfl ?_
                                  refine g_iconst rfl ⟨by decide, by decide⟩ ?_
                                  refine g_iload_n rfl rfl ?_
                                  refine g_iV (as := [tI 3, tI 1]) mX12_is_ok rfl rfl rfl rfl rfl rfl (by decide) rfl rfl rfl ?_
                                  refine g_iload_n rfl rfl ?_
                                  refine g_iconst rfl ⟨by decide, by decide⟩ ?_
                                  refine g_aload_n rfl rfl ?_
                                  refine x_getF (r := 206) hG rfl rfl (by decide) (Or.inr ⟨_, rfl⟩) rfl ?_
                                  refine g_iload_n rfl rfl ?_
                                  refine x_iald (v := (μ.1 206 3)) rfl rfl (by decide) (by decide) (by decide) rfl ?_
                                  refine g_iconst rfl ⟨by decide, by decide⟩ ?_
                                  refine x_isub (z := (μ.1 206 3) - 1) rfl (by omega) ⟨by omega, by omega⟩ ?_
                                  refine g_iS (as := [tI 1, tI 0, tI ((μ.1 206 3) - 1)]) mX12_in_ok rfl rfl rfl rfl rfl rfl rfl ?_
                                  refine g_iload_n rfl rfl ?_
                                  refine g_iload_n rfl rfl ?_
                                  refine g_icmp_lt (tgt := 14) rfl (by decide) (fun hx => absurd hx (by omega)) (fun _ => ?_)
                                  refine g_iload_n rfl rfl ?_
                                  refine g_iload_n rfl rfl ?_
                                  refine g_icmp_gt (tgt := 14) rfl (by decide) (fun hx => absurd hx (by omega)) (fun _ => ?_)
                                  refine g_iconst rfl ⟨by decide, by decide⟩ ?_
                                  refine g_goto (tgt := 15) rfl (by decide) ?_
                                  refine x_zreturn rfl rfl (Or.inr rfl) ?_
                                  intro _
                                  refine x_zreturn rfl rfl (Or.inr rfl) ?_
                                  intro _
                                  refine g_if_ne (tgt := 22) rfl (by decide) (fun _ => ?_) (fun hx => absurd hx (by omega))
                                  refine g_iload_n rfl rfl ?_
                                  refine g_iconst rfl ⟨by decide, by decide⟩ ?_
                                  refine g_icmp_ne (tgt := 41) rfl (by decide) (fun _ => ?_) (fun hx => absurd hx (by omega))
                                  refine g_iload_n rfl rfl ?_
                                  refine g_iconst rfl ⟨by decide, by decide⟩ ?_
                                  refine g_aload_n rfl rfl ?_
                                  refine g_iV (as := []) mX12_facts_ok rfl rfl rfl rfl rfl rfl (by decide) rfl rfl rfl ?_
                                  refine g_aload_n rfl rfl ?_
                                  refine x_getF (r := 210) hG rfl rfl (by decide) (Or.inr ⟨_, rfl⟩) rfl ?_
                                  refine g_bipush rfl ⟨by decide, by decide⟩ (by decide) ?_
                                  refine g_aload_n rfl rfl ?_
                                  refine x_geti (v := 1) rfl rfl (by decide) (Or.inl rfl) rfl ?_
                                  refine x_imul (z := 17) rfl (by omega) ⟨by omega, by omega⟩ ?_
                                  refine x_iald (v := (μ.1 210 17)) rfl rfl (by decide) (by decide) (by decide) rfl ?_
                                  refine x_ireturn rfl rfl ?_
                                  intro _
                                  refine g_iconst rfl ⟨by decide, by decide⟩ ?_
                                  refine x_isub (z := (μ.1 210 17) - 1) rfl (by omega) ⟨by omega, by omega⟩ ?_
                                  refine g_iS (as := [tI k, tI 0, tI ((μ.1 210 17) - 1)]) mX12_in_ok rfl rfl rfl rfl rfl rfl rfl ?_
                                  refine g_iload_n rfl rfl ?_
                                  refine g_iload_n rfl rfl ?_
                                  refine g_icmp_lt (tgt := 14) rfl (by decide) (fun hx => absurd hx (by omega)) (fun _ => ?_)
                                  refine g_iload_n rfl rfl ?_
                                  refine g_iload_n rfl rfl ?_
                                  refine g_icmp_gt (tgt := 14) rfl (by decide) (fun hx => absurd hx (by omega)) (fun _ => ?_)
                                  refine g_iconst rfl ⟨by decide, by decide⟩ ?_
                                  refine g_goto (tgt := 15) rfl (by decide) ?_
                                  refine x_zreturn rfl rfl (Or.inr rfl) ?_
                                  intro _
                                  refine g_if_eq (tgt := 73) rfl (by decide) (fun hx => absurd hx (by omega)) (fun _ => ?_)
                                  refine g_iload_n rfl rfl ?_
                                  refine g_iconst rfl ⟨by decide, by decide⟩ ?_
                                  refine g_iconst rfl ⟨by decide, by decide⟩ ?_
                                  refine g_iS (as := [tI b, tI 0, tI 1]) mX12_in_ok rfl rfl rfl rfl rfl rfl rfl ?_
                                  refine g_iload_n rfl rfl ?_
                                  refine g_iload_n rfl rfl ?_
                                  refine g_icmp_lt (tgt := 14) rfl (by decide) (fun h8 => ?_) (fun h8 => ?_)
                                  · first
                                      | omega
                                      | refine g_iconst rfl ⟨by decide, by decide⟩ ?_
                                        refine x_zreturn rfl rfl (Or.inl rfl) ?_
                                        intro _
                                        refine g_if_eq (tgt := 73) rfl (by decide) (fun _ => ?_) (fun hx => absurd hx (by omega))
                                        refine g_bipush rfl ⟨by decide, by decide⟩ (by decide) ?_
                                        refine x_ireturn rfl rfl ?_
                                        exact ⟨(by first | rfl | (rw [hDe, hD0]) | exact congrArg (fun z => some (tI z)) ((congrArg (μ.1 210) (by omega)).trans (hDv _ (by omega) (by omega)).symm) | exact congrArg (fun z => some (tI z)) ((congrArg (μ.1 210) (by omega)).trans (hDo _ (by omega) (by omega)).symm)), (tp_R_kp hR (tp_kp_pi (by decide) (tp_kp_pi (by decide) tp_kp_rf)))⟩
                                  · first
                                      | omega
                                      | refine g_iload_n rfl rfl ?_
                                        refine g_iload_n rfl rfl ?_
                                        refine g_icmp_gt (tgt := 14) rfl (by decide) (fun h9 => ?_) (fun h9 => ?_)
                                        · first
                                            | omega
                                            | refine g_iconst rfl ⟨by decide, by decide⟩ ?_
                                              refine x_zreturn rfl rfl (Or.inl rfl) ?_
                                              intro _
                                              refine g_if_eq (tgt := 73) rfl (by decide) (fun _ => ?_) (fun hx => absurd hx (by omega))
                                              refine g_bipush rfl ⟨by decide, by decide⟩ (by decide) ?_
                                              refine x_ireturn rfl rfl ?_
                                              exact ⟨(by first | rfl | (rw [hDe, hD0]) | exact congrArg (fun z => some (tI z)) ((congrArg (μ.1 210) (by omega)).trans (hDv _ (by omega) (by omega)).symm) | exact congrArg (fun z => some (tI z)) ((congrArg (μ.1 210) (by omega)).trans (hDo _ (by omega) (by omega)).symm)), (tp_R_kp hR (tp_kp_pi (by decide) (tp_kp_pi (by decide) tp_kp_rf)))⟩
                                        · first
                                            | omega
                                            | refine g_iconst rfl ⟨by decide, by decide⟩ ?_
                                              refine g_goto (tgt := 15) rfl (by decide) ?_
                                              refine x_zreturn rfl rfl (Or.inr rfl) ?_
                                              intro _
                                              refine g_if_eq (tgt := 73) rfl (by decide) (fun hx => absurd hx (by omega)) (fun _ => ?_)
                                              refine g_aload_n rfl rfl ?_
                                              refine g_iload_n rfl rfl ?_
                                              refine g_iload_n rfl rfl ?_
                                              refine g_iV (as := [tI k, tI b]) mX12_factOf_ok rfl rfl rfl rfl rfl rfl (by decide) rfl rfl rfl ?_
                                              refine g_aload_n rfl rfl ?_
                                              refine x_getF (r := 210) hG rfl rfl (by decide) (Or.inr ⟨_, rfl⟩) rfl ?_
                                              refine g_bipush rfl ⟨by decide, by decide⟩ (by decide) ?_
                                              refine g_aload_n rfl rfl ?_
                                              refine x_geti (v := 1) rfl rfl (by decide) (Or.inl rfl) rfl ?_
                                              refine x_imul (z := 17) rfl (by omega) ⟨by omega, by omega⟩ ?_
                                              refine g_iconst rfl ⟨by decide, by decide⟩ ?_
                                              refine x_iadd (z := 18) rfl (by omega) ⟨by omega, by omega⟩ ?_
                                              refine g_iconst rfl ⟨by decide, by decide⟩ ?_
                                              refine g_iload_n rfl rfl ?_
                                              refine x_imul (z := 2 * k) rfl (by omega) ⟨by omega, by omega⟩ ?_
                                              refine x_iadd (z := 2 * k + 18) rfl (by omega) ⟨by omega, by omega⟩ ?_
                                              refine g_iload_n rfl rfl ?_
                                              refine x_iadd (z := 2 * k + b + 18) rfl (by omega) ⟨by omega, by omega⟩ ?_
                                              refine x_iald (v := (μ.1 210 (2 * k + b + 18))) rfl rfl (by decide) (by omega) (by omega) rfl ?_
                                              refine x_ireturn rfl rfl ?_
                                              intro _
                                              refine g_goto (tgt := 75) rfl (by decide) ?_
                                              refine x_ireturn rfl rfl ?_
                                              exact ⟨(by first | rfl | (rw [hDe, hD0]) | exact congrArg (fun z => some (tI z)) ((congrArg (μ.1 210) (by omega)).trans (hDv _ (by omega) (by omega)).symm) | exact congrArg (fun z => some (tI z)) ((congrArg (μ.1 210) (by omega)).trans (hDo _ (by omega) (by omega)).symm)), (tp_R_kp hR (tp_kp_pi (by decide) (tp_kp_pi (by decide) tp_kp_rf)))⟩
                            · first
                                | omega
                                | refine g_aload rfl rfl ?_
                                  refine g_iload_n rfl rfl ?_
                                  refine g_cV (as := [tI k]) (s_often hG rfl (by decide) (by omega) (by omega) (by show _ ≤ ((8 : Nat) : Int); omega)) rfl rfl mX6_often_ok rfl rfl rfl (by decide) rfl rfl rfl ?_
                                  rintro _ w9 ⟨rfl, hw9⟩ _
                                  have hw9 := hw9.symm
                                  subst hw9
                                  refine g_goto (tgt := 82) rfl (by decide) ?_
                                  refine x_ireturn rfl rfl ?_
                                  refine ⟨_, rfl, ?_⟩
                                  refine tp_ok_of mX12_fact_ok rfl (Nat.le_refl _) ?_
                                  refine g_aload_n rfl rfl ?_
                                  refine g_iconst rfl ⟨by decide, by decide⟩ ?_
                                  refine g_puti rfl rfl (by decide) rfl rfl ?_
                                  refine g_aload_n rfl rfl ?_
                                  refine g_iload_n rfl rfl ?_
                                  refine g_puti rfl rfl (by decide) rfl rfl ?_
                                  refine g_aload_n rfl rfl ?_
                                  refine g_iconst rfl ⟨by decide, by decide⟩ ?_
                                  refine g_iload_n rfl rfl ?_
                                  refine g_iV (as := [tI 3, tI 1]) mX12_is_ok rfl rfl rfl rfl rfl rfl (by decide) rfl rfl rfl ?_
                                  refine g_iload_n rfl rfl ?_
                                  refine g_iconst rfl ⟨by decide, by decide⟩ ?_
                                  refine g_aload_n rfl rfl ?_
                                  refine x_getF (r := 206) hG rfl rfl (by decide) (Or.inr ⟨_, rfl⟩) rfl ?_
                                  refine g_iload_n rfl rfl ?_
                                  refine x_iald (v := (μ.1 206 3)) rfl rfl (by decide) (by decide) (by decide) rfl ?_
                                  refine g_iconst rfl ⟨by decide, by decide⟩ ?_
                                  refine x_isub (z := (μ.1 206 3) - 1) rfl (by omega) ⟨by omega, by omega⟩ ?_
                                  refine g_iS (as := [tI 1, tI 0, tI ((μ.1 206 3) - 1)]) mX12_in_ok rfl rfl rfl rfl rfl rfl rfl ?_
                                  refine g_iload_n rfl rfl ?_
                                  refine g_iload_n rfl rfl ?_
                                  refine g_icmp_lt (tgt := 14) rfl (by decide) (fun hx => absurd hx (by omega)) (fun _ => ?_)
                                  refine g_iload_n rfl rfl ?_
                                  refine g_iload_n rfl rfl ?_
                                  refine g_icmp_gt (tgt := 14) rfl (by decide) (fun hx => absurd hx (by omega)) (fun _ => ?_)
                                  refine g_iconst rfl ⟨by decide, by decide⟩ ?_
                                  refine g_goto (tgt := 15) rfl (by decide) ?_
                                  refine x_zreturn rfl rfl (Or.inr rfl) ?_
                                  intro _
                                  refine x_zreturn rfl rfl (Or.inr rfl) ?_
                                  intro _
                                  refine g_if_ne (tgt := 22) rfl (by decide) (fun _ => ?_) (fun hx => absurd hx (by omega))
                                  refine g_iload_n rfl rfl ?_
                                  refine g_iconst rfl ⟨by decide, by decide⟩ ?_
                                  refine g_icmp_ne (tgt := 41) rfl (by decide) (fun _ => ?_) (fun hx => absurd hx (by omega))
                                  refine g_iload_n rfl rfl ?_
                                  refine g_iconst rfl ⟨by decide, by decide⟩ ?_
                                  refine g_aload_n rfl rfl ?_
                                  refine g_iV (as := []) mX12_facts_ok rfl rfl rfl rfl rfl rfl (by decide) rfl rfl rfl ?_
                                  refine g_aload_n rfl rfl ?_
                                  refine x_getF (r := 210) hG rfl rfl (by decide) (Or.inr ⟨_, rfl⟩) rfl ?_
                                  refine g_bipush rfl ⟨by decide, by decide⟩ (by decide) ?_
                                  refine g_aload_n rfl rfl ?_
                                  refine x_geti (v := 1) rfl rfl (by decide) (Or.inl rfl) rfl ?_
                                  refine x_imul (z := 17) rfl (by omega) ⟨by omega, by omega⟩ ?_
                                  refine x_iald (v := (μ.1 210 17)) rfl rfl (by decide) (by decide) (by decide) rfl ?_
                                  refine x_ireturn rfl rfl ?_
                                  intro _
                                  refine g_iconst rfl ⟨by decide, by decide⟩ ?_
                                  refine x_isub (z := (μ.1 210 17) - 1) rfl (by omega) ⟨by omega, by omega⟩ ?_
                                  refine g_iS (as := [tI k, tI 0, tI ((μ.1 210 17) - 1)]) mX12_in_ok rfl rfl rfl rfl rfl rfl rfl ?_
                                  refine g_iload_n rfl rfl ?_
                                  refine g_iload_n rfl rfl ?_
                                  refine g_icmp_lt (tgt := 14) rfl (by decide) (fun hx => absurd hx (by omega)) (fun _ => ?_)
                                  refine g_iload_n rfl rfl ?_
                                  refine g_iload_n rfl rfl ?_
                                  refine g_icmp_gt (tgt := 14) rfl (by decide) (fun hx => absurd hx (by omega)) (fun _ => ?_)
                                  refine g_iconst rfl ⟨by decide, by decide⟩ ?_
                                  refine g_goto (tgt := 15) rfl (by decide) ?_
                                  refine x_zreturn rfl rfl (Or.inr rfl) ?_
                                  intro _
                                  refine g_if_eq (tgt := 73) rfl (by decide) (fun hx => absurd hx (by omega)) (fun _ => ?_)
                                  refine g_iload_n rfl rfl ?_
                                  refine g_iconst rfl ⟨by decide, by decide⟩ ?_
                                  refine g_iconst rfl ⟨by decide, by decide⟩ ?_
                                  refine g_iS (as := [tI b, tI 0, tI 1]) mX12_in_ok rfl rfl rfl rfl rfl rfl rfl ?_
                                  refine g_iload_n rfl rfl ?_
                                  refine g_iload_n rfl rfl ?_
                                  refine g_icmp_lt (tgt := 14) rfl (by decide) (fun hx => absurd hx (by omega)) (fun _ => ?_)
                                  refine g_iload_n rfl rfl ?_
                                  refine g_iload_n rfl rfl ?_
                                  refine g_icmp_gt (tgt := 14) rfl (by decide) (fun hx => absurd hx (by omega)) (fun _ => ?_)
                                  refine g_iconst rfl ⟨by decide, by decide⟩ ?_
                                  refine g_goto (tgt := 15) rfl (by decide) ?_
                                  refine x_zreturn rfl rfl (Or.inr rfl) ?_
                                  intro _
                                  refine g_if_eq (tgt := 73) rfl (by decide) (fun hx => absurd hx (by omega)) (fun _ => ?_)
                                  refine g_aload_n rfl rfl ?_
                                  refine g_iload_n rfl rfl ?_
                                  refine g_iload_n rfl rfl ?_
                                  refine g_iV (as := [tI k, tI b]) mX12_factOf_ok rfl rfl rfl rfl rfl rfl (by decide) rfl rfl rfl ?_
                                  refine g_aload_n rfl rfl ?_
                                  refine x_getF (r := 210) hG rfl rfl (by decide) (Or.inr ⟨_, rfl⟩) rfl ?_
                                  refine g_bipush rfl ⟨by decide, by decide⟩ (by decide) ?_
                                  refine g_aload_n rfl rfl ?_
                                  refine x_geti (v := 1) rfl rfl (by decide) (Or.inl rfl) rfl ?_
                                  refine x_imul (z := 17) rfl (by omega) ⟨by omega, by omega⟩ ?_
                                  refine g_iconst rfl ⟨by decide, by decide⟩ ?_
                                  refine x_iadd (z := 18) rfl (by omega) ⟨by omega, by omega⟩ ?_
                                  refine g_iconst rfl ⟨by decide, by decide⟩ ?_
                                  refine g_iload_n rfl rfl ?_
                                  refine x_imul (z := 2 * k) rfl (by omega) ⟨by omega, by omega⟩ ?_
                                  refine x_iadd (z := 2 * k + 18) rfl (by omega) ⟨by omega, by omega⟩ ?_
                                  refine g_iload_n rfl rfl ?_
                                  refine x_iadd (z := 2 * k + b + 18) rfl (by omega) ⟨by omega, by omega⟩ ?_
                                  refine x_iald (v := (μ.1 210 (2 * k + b + 18))) rfl rfl (by decide) (by omega) (by omega) rfl ?_
                                  refine x_ireturn rfl rfl ?_
                                  intro _
                                  refine g_goto (tgt := 75) rfl (by decide) ?_
                                  refine x_ireturn rfl rfl ?_
                                  exact ⟨(by first | rfl | (rw [hDe, hD0]) | exact congrArg (fun z => some (tI z)) ((congrArg (μ.1 210) (by omega)).trans (hDv _ (by omega) (by omega)).symm) | exact congrArg (fun z => some (tI z)) ((congrArg (μ.1 210) (by omega)).trans (hDo _ (by omega) (by omega)).symm)), (tp_R_kp hR (tp_kp_pi (by decide) (tp_kp_pi (by decide) tp_kp_rf)))⟩
                      · first
                          | omega
                          | refine g_aload rfl rfl ?_
                            refine g_iload_n rfl rfl ?_
                            refine g_cV (as := [tI k]) (s_value hG rfl (by decide) (by omega) (by omega) (by show _ ≤ ((8 : Nat) : Int); omega)) rfl rfl mX6_value_ok rfl rfl rfl (by decide) rfl rfl rfl ?_
                            rintro _ w9 ⟨rfl, hw9⟩ _
                            have hw9 := hw9.symm
                            subst hw9
                            refine x_ireturn rfl rfl ?_
                            refine ⟨_, rfl, ?_⟩
                            refine tp_ok_of mX12_fact_ok rfl (Nat.le_refl _) ?_
                            refine g_aload_n rfl rfl ?_
                            refine g_iconst rfl ⟨by decide, by decide⟩ ?_
                            refine g_puti rfl rfl (by decide) rfl rfl ?_
                            refine g_aload_n rfl rfl ?_
                            refine g_iload_n rfl rfl ?_
                            refine g_puti rfl rfl (by decide) rfl rfl ?_
                            refine g_aload_n rfl rfl ?_
                            refine g_iconst rfl ⟨by decide, by decide⟩ ?_
                            refine g_iload_n rfl rfl ?_
                            refine g_iV (as := [tI 3, tI 1]) mX12_is_ok rfl rfl rfl rfl rfl rfl (by decide) rfl rfl rfl ?_
                            refine g_iload_n rfl rfl ?_
                            refine g_iconst rfl ⟨by decide, by decide⟩ ?_
                            refine g_aload_n rfl rfl ?_
                            refine x_getF (r := 206) hG rfl rfl (by decide) (Or.inr ⟨_, rfl⟩) rfl ?_
                            refine g_iload_n rfl rfl ?_
                            refine x_iald (v := (μ.1 206 3)) rfl rfl (by decide) (by decide) (by decide) rfl ?_
                            refine g_iconst rfl ⟨by decide, by decide⟩ ?_
                            refine x_isub (z := (μ.1 206 3) - 1) rfl (by omega) ⟨by omega, by omega⟩ ?_
                            refine g_iS (as := [tI 1, tI 0, tI ((μ.1 206 3) - 1)]) mX12_in_ok rfl rfl rfl rfl rfl rfl rfl ?_
                            refine g_iload_n rfl rfl ?_
                            refine g_iload_n rfl rfl ?_
                            refine g_icmp_lt (tgt := 14) rfl (by decide) (fun hx => absurd hx (by omega)) (fun _ => ?_)
                            refine g_iload_n rfl rfl ?_
                            refine g_iload_n rfl rfl ?_
                            refine g_icmp_gt (tgt := 14) rfl (by decide) (fun hx => absurd hx (by omega)) (fun _ => ?_)
                            refine g_iconst rfl ⟨by decide, by decide⟩ ?_
                            refine g_goto (tgt := 15) rfl (by decide) ?_
                            refine x_zreturn rfl rfl (Or.inr rfl) ?_
                            intro _
                            refine x_zreturn rfl rfl (Or.inr rfl) ?_
                            intro _
                            refine g_if_ne (tgt := 22) rfl (by decide) (fun _ => ?_) (fun hx => absurd hx (by omega))
                            refine g_iload_n rfl rfl ?_
                            refine g_iconst rfl ⟨by decide, by decide⟩ ?_
                            refine g_icmp_ne (tgt := 41) rfl (by decide) (fun _ => ?_) (fun hx => absurd hx (by omega))
                            refine g_iload_n rfl rfl ?_
                            refine g_iconst rfl ⟨by decide, by decide⟩ ?_
                            refine g_aload_n rfl rfl ?_
                            refine g_iV (as := []) mX12_facts_ok rfl rfl rfl rfl rfl rfl (by decide) rfl rfl rfl ?_
                            refine g_aload_n rfl rfl ?_
                            refine x_getF (r := 210) hG rfl rfl (by decide) (Or.inr ⟨_, rfl⟩) rfl ?_
                            refine g_bipush rfl ⟨by decide, by decide⟩ (by decide) ?_
                            refine g_aload_n rfl rfl ?_
                            refine x_geti (v := 1) rfl rfl (by decide) (Or.inl rfl) rfl ?_
                            refine x_imul (z := 17) rfl (by omega) ⟨by omega, by omega⟩ ?_
                            refine x_iald (v := (μ.1 210 17)) rfl rfl (by decide) (by decide) (by decide) rfl ?_
                            refine x_ireturn rfl rfl ?_
                            intro _
                            refine g_iconst rfl ⟨by decide, by decide⟩ ?_
                            refine x_isub (z := (μ.1 210 17) - 1) rfl (by omega) ⟨by omega, by omega⟩ ?_
                            refine g_iS (as := [tI k, tI 0, tI ((μ.1 210 17) - 1)]) mX12_in_ok rfl rfl rfl rfl rfl rfl rfl ?_
                            refine g_iload_n rfl rfl ?_
                            refine g_iload_n rfl rfl ?_
                            refine g_icmp_lt (tgt := 14) rfl (by decide) (fun hx => absurd hx (by omega)) (fun _ => ?_)
                            refine g_iload_n rfl rfl ?_
                            refine g_iload_n rfl rfl ?_
                            refine g_icmp_gt (tgt := 14) rfl (by decide) (fun hx => absurd hx (by omega)) (fun _ => ?_)
                            refine g_iconst rfl ⟨by decide, by decide⟩ ?_
                            refine g_goto (tgt := 15) rfl (by decide) ?_
                            refine x_zreturn rfl rfl (Or.inr rfl) ?_
                            intro _
                            refine g_if_eq (tgt := 73) rfl (by decide) (fun hx => absurd hx (by omega)) (fun _ => ?_)
                            refine g_iload_n rfl rfl ?_
                            refine g_iconst rfl ⟨by decide, by decide⟩ ?_
                            refine g_iconst rfl ⟨by decide, by decide⟩ ?_
                            refine g_iS (as := [tI b, tI 0, tI 1]) mX12_in_ok rfl rfl rfl rfl rfl rfl rfl ?_
                            refine g_iload_n rfl rfl ?_
                            refine g_iload_n rfl rfl ?_
                            refine g_icmp_lt (tgt := 14) rfl (by decide) (fun hx => absurd hx (by omega)) (fun _ => ?_)
                            refine g_iload_n rfl rfl ?_
                            refine g_iload_n rfl rfl ?_
                            refine g_icmp_gt (tgt := 14) rfl (by decide) (fun hx => absurd hx (by omega)) (fun _ => ?_)
                            refine g_iconst rfl ⟨by decide, by decide⟩ ?_
                            refine g_goto (tgt := 15) rfl (by decide) ?_
                            refine x_zreturn rfl rfl (Or.inr rfl) ?_
                            intro _
                            refine g_if_eq (tgt := 73) rfl (by decide) (fun hx => absurd hx (by omega)) (fun _ => ?_)
                            refine g_aload_n rfl rfl ?_
                            refine g_iload_n rfl rfl ?_
                            refine g_iload_n rfl rfl ?_
                            refine g_iV (as := [tI k, tI b]) mX12_factOf_ok rfl rfl rfl rfl rfl rfl (by decide) rfl rfl rfl ?_
                            refine g_aload_n rfl rfl ?_
                            refine x_getF (r := 210) hG rfl rfl (by decide) (Or.inr ⟨_, rfl⟩) rfl ?_
                            refine g_bipush rfl ⟨by decide, by decide⟩ (by decide) ?_
                            refine g_aload_n rfl rfl ?_
                            refine x_geti (v := 1) rfl rfl (by decide) (Or.inl rfl) rfl ?_
                            refine x_imul (z := 17) rfl (by omega) ⟨by omega, by omega⟩ ?_
                            refine g_iconst rfl ⟨by decide, by decide⟩ ?_
                            refine x_iadd (z := 18) rfl (by omega) ⟨by omega, by omega⟩ ?_
                            refine g_iconst rfl ⟨by decide, by decide⟩ ?_
                            refine g_iload_n rfl rfl ?_
                            refine x_imul (z := 2 * k) rfl (by omega) ⟨by omega, by omega⟩ ?_
                            refine x_iadd (z := 2 * k + 18) rfl (by omega) ⟨by omega, by omega⟩ ?_
                            refine g_iload_n rfl rfl ?_
                            refine x_iadd (z := 2 * k + b + 18) rfl (by omega) ⟨by omega, by omega⟩ ?_
                            refine x_iald (v := (μ.1 210 (2 * k + b + 18))) rfl rfl (by decide) (by omega) (by omega) rfl ?_
                            refine x_ireturn rfl rfl ?_
                            intro _
                            refine g_goto (tgt := 75) rfl (by decide) ?_
                            refine x_ireturn rfl rfl ?_
                            exact ⟨(by first | rfl | (rw [hDe, hD0]) | exact congrArg (fun z => some (tI z)) ((congrArg (μ.1 210) (by omega)).trans (hDv _ (by omega) (by omega)).symm) | exact congrArg (fun z => some (tI z)) ((congrArg (μ.1 210) (by omega)).trans (hDo _ (by omega) (by omega)).symm)), (tp_R_kp hR (tp_kp_pi (by decide) (tp_kp_pi (by decide) tp_kp_rf)))⟩
                · first
                    | omega
                    | refine g_bipush rfl ⟨by decide, by decide⟩ (by decide) ?_
                      refine x_ireturn rfl rfl ?_
                      refine ⟨_, rfl, ?_⟩
                      refine tp_ok_of mX12_fact_ok rfl (Nat.le_refl _) ?_
                      refine g_aload_n rfl rfl ?_
                      refine g_iconst rfl ⟨by decide, by decide⟩ ?_
                      refine g_puti rfl rfl (by decide) rfl rfl ?_
                      refine g_aload_n rfl rfl ?_
                      refine g_iload_n rfl rfl ?_
                      refine g_puti rfl rfl (by decide) rfl rfl ?_
                      refine g_aload_n rfl rfl ?_
                      refine g_iconst rfl ⟨by decide, by decide⟩ ?_
                      refine g_iload_n rfl rfl ?_
                      refine g_iV (as := [tI 3, tI 1]) mX12_is_ok rfl rfl rfl rfl rfl rfl (by decide) rfl rfl rfl ?_
                      refine g_iload_n rfl rfl ?_
                      refine g_iconst rfl ⟨by decide, by decide⟩ ?_
                      refine g_aload_n rfl rfl ?_
                      refine x_getF (r := 206) hG rfl rfl (by decide) (Or.inr ⟨_, rfl⟩) rfl ?_
                      refine g_iload_n rfl rfl ?_
                      refine x_iald (v := (μ.1 206 3)) rfl rfl (by decide) (by decide) (by decide) rfl ?_
                      refine g_iconst rfl ⟨by decide, by decide⟩ ?_
                      refine x_isub (z := (μ.1 206 3) - 1) rfl (by omega) ⟨by omega, by omega⟩ ?_
                      refine g_iS (as := [tI 1, tI 0, tI ((μ.1 206 3) - 1)]) mX12_in_ok rfl rfl rfl rfl rfl rfl rfl ?_
                      refine g_iload_n rfl rfl ?_
                      refine g_iload_n rfl rfl ?_
                      refine g_icmp_lt (tgt := 14) rfl (by decide) (fun hx => absurd hx (by omega)) (fun _ => ?_)
                      refine g_iload_n rfl rfl ?_
                      refine g_iload_n rfl rfl ?_
                      refine g_icmp_gt (tgt := 14) rfl (by decide) (fun hx => absurd hx (by omega)) (fun _ => ?_)
                      refine g_iconst rfl ⟨by decide, by decide⟩ ?_
                      refine g_goto (tgt := 15) rfl (by decide) ?_
                      refine x_zreturn rfl rfl (Or.inr rfl) ?_
                      intro _
                      refine x_zreturn rfl rfl (Or.inr rfl) ?_
                      intro _
                      refine g_if_ne (tgt := 22) rfl (by decide) (fun _ => ?_) (fun hx => absurd hx (by omega))
                      refine g_iload_n rfl rfl ?_
                      refine g_iconst rfl ⟨by decide, by decide⟩ ?_
                      refine g_icmp_ne (tgt := 41) rfl (by decide) (fun _ => ?_) (fun hx => absurd hx (by omega))
                      refine g_iload_n rfl rfl ?_
                      refine g_iconst rfl ⟨by decide, by decide⟩ ?_
                      refine g_aload_n rfl rfl ?_
                      refine g_iV (as := []) mX12_facts_ok rfl rfl rfl rfl rfl rfl (by decide) rfl rfl rfl ?_
                      refine g_aload_n rfl rfl ?_
                      refine x_getF (r := 210) hG rfl rfl (by decide) (Or.inr ⟨_, rfl⟩) rfl ?_
                      refine g_bipush rfl ⟨by decide, by decide⟩ (by decide) ?_
                      refine g_aload_n rfl rfl ?_
                      refine x_geti (v := 1) rfl rfl (by decide) (Or.inl rfl) rfl ?_
                      refine x_imul (z := 17) rfl (by omega) ⟨by omega, by omega⟩ ?_
                      refine x_iald (v := (μ.1 210 17)) rfl rfl (by decide) (by decide) (by decide) rfl ?_
                      refine x_ireturn rfl rfl ?_
                      intro _
                      refine g_iconst rfl ⟨by decide, by decide⟩ ?_
                      refine x_isub (z := (μ.1 210 17) - 1) rfl (by omega) ⟨by omega, by omega⟩ ?_
                      refine g_iS (as := [tI k, tI 0, tI ((μ.1 210 17) - 1)]) mX12_in_ok rfl rfl rfl rfl rfl rfl rfl ?_
                      refine g_iload_n rfl rfl ?_
                      refine g_iload_n rfl rfl ?_
                      refine g_icmp_lt (tgt := 14) rfl (by decide) (fun hx => absurd hx (by omega)) (fun _ => ?_)
                      refine g_iload_n rfl rfl ?_
                      refine g_iload_n rfl rfl ?_
                      refine g_icmp_gt (tgt := 14) rfl (by decide) (fun _ => ?_) (fun hx => absurd hx (by omega))
                      refine g_iconst rfl ⟨by decide, by decide⟩ ?_
                      refine x_zreturn rfl rfl (Or.inl rfl) ?_
                      intro _
                      refine g_if_eq (tgt := 73) rfl (by decide) (fun _ => ?_) (fun hx => absurd hx (by omega))
                      refine g_bipush rfl ⟨by decide, by decide⟩ (by decide) ?_
                      refine x_ireturn rfl rfl ?_
                      exact ⟨(by first | rfl | (rw [hDe, hD0]) | exact congrArg (fun z => some (tI z)) ((congrArg (μ.1 210) (by omega)).trans (hDv _ (by omega) (by omega)).symm) | exact congrArg (fun z => some (tI z)) ((congrArg (μ.1 210) (by omega)).trans (hDo _ (by omega) (by omega)).symm)), (tp_R_kp hR (tp_kp_pi (by decide) (tp_kp_pi (by decide) tp_kp_rf)))⟩
    · first
        | omega
        | refine g_iload_n rfl rfl ?_
          refine g_if_ne (tgt := 36) rfl (by decide) (fun h10 => ?_) (fun h10 => ?_)
          · first
              | omega
              | refine g_bipush rfl ⟨by decide, by decide⟩ (by decide) ?_
                refine x_ireturn rfl rfl ?_
                refine ⟨_, rfl, ?_⟩
                refine tp_ok_of mX12_fact_ok rfl (Nat.le_refl _) ?_
                refine g_aload_n rfl rfl ?_
                refine g_iconst rfl ⟨by decide, by decide⟩ ?_
                refine g_puti rfl rfl (by decide) rfl rfl ?_
                refine g_aload_n rfl rfl ?_
                refine g_iload_n rfl rfl ?_
                refine g_puti rfl rfl (by decide) rfl rfl ?_
                refine g_aload_n rfl rfl ?_
                refine g_iconst rfl ⟨by decide, by decide⟩ ?_
                refine g_iload_n rfl rfl ?_
                refine g_iV (as := [tI 3, tI 1]) mX12_is_ok rfl rfl rfl rfl rfl rfl (by decide) rfl rfl rfl ?_
                refine g_iload_n rfl rfl ?_
                refine g_iconst rfl ⟨by decide, by decide⟩ ?_
                refine g_aload_n rfl rfl ?_
                refine x_getF (r := 206) hG rfl rfl (by decide) (Or.inr ⟨_, rfl⟩) rfl ?_
                refine g_iload_n rfl rfl ?_
                refine x_iald (v := (μ.1 206 3)) rfl rfl (by decide) (by decide) (by decide) rfl ?_
                refine g_iconst rfl ⟨by decide, by decide⟩ ?_
                refine x_isub (z := (μ.1 206 3) - 1) rfl (by omega) ⟨by omega, by omega⟩ ?_
                refine g_iS (as := [tI 1, tI 0, tI ((μ.1 206 3) - 1)]) mX12_in_ok rfl rfl rfl rfl rfl rfl rfl ?_
                refine g_iload_n rfl rfl ?_
                refine g_iload_n rfl rfl ?_
                refine g_icmp_lt (tgt := 14) rfl (by decide) (fun hx => absurd hx (by omega)) (fun _ => ?_)
                refine g_iload_n rfl rfl ?_
                refine g_iload_n rfl rfl ?_
                refine g_icmp_gt (tgt := 14) rfl (by decide) (fun hx => absurd hx (by omega)) (fun _ => ?_)
                refine g_iconst rfl ⟨by decide, by decide⟩ ?_
                refine g_goto (tgt := 15) rfl (by decide) ?_
                refine x_zreturn rfl rfl (Or.inr rfl) ?_
                intro _
                refine x_zreturn rfl rfl (Or.inr rfl) ?_
                intro _
                refine g_if_ne (tgt := 22) rfl (by decide) (fun _ => ?_) (fun hx => absurd hx (by omega))
                refine g_iload_n rfl rfl ?_
                refine g_iconst rfl ⟨by decide, by decide⟩ ?_
                refine g_icmp_ne (tgt := 41) rfl (by decide) (fun hx => absurd hx (by omega)) (fun _ => ?_)
                refine g_iload_n rfl rfl ?_
                refine g_if_ne (tgt := 38) rfl (by decide) (fun h11 => ?_) (fun h11 => ?_)
                · first
                    | omega
                    | refine g_bipush rfl ⟨by decide, by decide⟩ (by decide) ?_
                      refine x_ireturn rfl rfl ?_
                      exact ⟨(by first | rfl | (rw [hDe, hD0]) | exact congrArg (fun z => some (tI z)) ((congrArg (μ.1 210) (by omega)).trans (hDv _ (by omega) (by omega)).symm) | exact congrArg (fun z => some (tI z)) ((congrArg (μ.1 210) (by omega)).trans (hDo _ (by omega) (by omega)).symm)), (tp_R_kp hR (tp_kp_pi (by decide) (tp_kp_pi (by decide) tp_kp_rf)))⟩
                · first
                    | omega
                    | refine g_aload_n rfl rfl ?_
                      refine g_iV (as := []) mX12_facts_ok rfl rfl rfl rfl rfl rfl (by decide) rfl rfl rfl ?_
                      refine g_aload_n rfl rfl ?_
                      refine x_getF (r := 210) hG rfl rfl (by decide) (Or.inr ⟨_, rfl⟩) rfl ?_
                      refine g_bipush rfl ⟨by decide, by decide⟩ (by decide) ?_
                      refine g_aload_n rfl rfl ?_
                      refine x_geti (v := 1) rfl rfl (by decide) (Or.inl rfl) rfl ?_
                      refine x_imul (z := 17) rfl (by omega) ⟨by omega, by omega⟩ ?_
                      refine x_iald (v := (μ.1 210 17)) rfl rfl (by decide) (by decide) (by decide) rfl ?_
                      refine x_ireturn rfl rfl ?_
                      intro _
                      refine g_goto (tgt := 40) rfl (by decide) ?_
                      refine x_ireturn rfl rfl ?_
                      exact ⟨(by first | rfl | (rw [hDe, hD0]) | exact congrArg (fun z => some (tI z)) ((congrArg (μ.1 210) (by omega)).trans (hDv _ (by omega) (by omega)).symm) | exact congrArg (fun z => some (tI z)) ((congrArg (μ.1 210) (by omega)).trans (hDo _ (by omega) (by omega)).symm)), (tp_R_kp hR (tp_kp_pi (by decide) (tp_kp_pi (by decide) tp_kp_rf)))⟩
          · first
              | omega
              | refine g_aload rfl rfl ?_
                refine x_geti (v := (μ.1 37 2)) rfl rfl (by decide) (Or.inl rfl) rfl ?_
                refine g_goto (tgt := 38) rfl (by decide) ?_
                refine x_ireturn rfl rfl ?_
                refine ⟨_, rfl, ?_⟩
                refine tp_ok_of mX12_fact_ok rfl (Nat.le_refl _) ?_
                refine g_aload_n rfl rfl ?_
                refine g_iconst rfl ⟨by decide, by decide⟩ ?_
                refine g_puti rfl rfl (by decide) rfl rfl ?_
                refine g_aload_n rfl rfl ?_
                refine g_iload_n rfl rfl ?_
                refine g_puti rfl rfl (by decide) rfl rfl ?_
                refine g_aload_n rfl rfl ?_
                refine g_iconst rfl ⟨by decide, by decide⟩ ?_
                refine g_iload_n rfl rfl ?_
                refine g_iV (as := [tI 3, tI 1]) mX12_is_ok rfl rfl rfl rfl rfl rfl (by decide) rfl rfl rfl ?_
                refine g_iload_n rfl rfl ?_
                refine g_iconst rfl ⟨by decide, by decide⟩ ?_
                refine g_aload_n rfl rfl ?_
                refine x_getF (r := 206) hG rfl rfl (by decide) (Or.inr ⟨_, rfl⟩) rfl ?_
                refine g_iload_n rfl rfl ?_
                refine x_iald (v := (μ.1 206 3)) rfl rfl (by decide) (by decide) (by decide) rfl ?_
                refine g_iconst rfl ⟨by decide, by decide⟩ ?_
                refine x_isub (z := (μ.1 206 3) - 1) rfl (by omega) ⟨by omega, by omega⟩ ?_
                refine g_iS (as := [tI 1, tI 0, tI ((μ.1 206 3) - 1)]) mX12_in_ok rfl rfl rfl rfl rfl rfl rfl ?_
                refine g_iload_n rfl rfl ?_
                refine g_iload_n rfl rfl ?_
                refine g_icmp_lt (tgt := 14) rfl (by decide) (fun hx => absurd hx (by omega)) (fun _ => ?_)
                refine g_iload_n rfl rfl ?_
                refine g_iload_n rfl rfl ?_
                refine g_icmp_gt (tgt := 14) rfl (by decide) (fun hx => absurd hx (by omega)) (fun _ => ?_)
                refine g_iconst rfl ⟨by decide, by decide⟩ ?_
                refine g_goto (tgt := 15) rfl (by decide) ?_
                refine x_zreturn rfl rfl (Or.inr rfl) ?_
                intro _
                refine x_zreturn rfl rfl (Or.inr rfl) ?_
                intro _
                refine g_if_ne (tgt := 22) rfl (by decide) (fun _ => ?_) (fun hx => absurd hx (by omega))
                refine g_iload_n rfl rfl ?_
                refine g_iconst rfl ⟨by decide, by decide⟩ ?_
                refine g_icmp_ne (tgt := 41) rfl (by decide) (fun hx => absurd hx (by omega)) (fun _ => ?_)
                refine g_iload_n rfl rfl ?_
                refine g_if_ne (tgt := 38) rfl (by decide) (fun hx => absurd hx (by omega)) (fun _ => ?_)
                refine g_aload_n rfl rfl ?_
                refine g_iV (as := []) mX12_facts_ok rfl rfl rfl rfl rfl rfl (by decide) rfl rfl rfl ?_
                refine g_aload_n rfl rfl ?_
                refine x_getF (r := 210) hG rfl rfl (by decide) (Or.inr ⟨_, rfl⟩) rfl ?_
                refine g_bipush rfl ⟨by decide, by decide⟩ (by decide) ?_
                refine g_aload_n rfl rfl ?_
                refine x_geti (v := 1) rfl rfl (by decide) (Or.inl rfl) rfl ?_
                refine x_imul (z := 17) rfl (by omega) ⟨by omega, by omega⟩ ?_
                refine x_iald (v := (μ.1 210 17)) rfl rfl (by decide) (by decide) (by decide) rfl ?_
                refine x_ireturn rfl rfl ?_
                intro _
                refine g_goto (tgt := 40) rfl (by decide) ?_
                refine x_ireturn rfl rfl ?_
                exact ⟨(by first | rfl | (rw [hDe, hD0]) | exact congrArg (fun z => some (tI z)) ((congrArg (μ.1 210) (by omega)).trans (hDv _ (by omega) (by omega)).symm) | exact congrArg (fun z => some (tI z)) ((congrArg (μ.1 210) (by omega)).trans (hDo _ (by omega) (by omega)).symm)), (tp_R_kp hR (tp_kp_pi (by decide) (tp_kp_pi (by decide) tp_kp_rf)))⟩
  · refine tp_ok_of mX11_fact_ok rfl (Nat.le_refl _) ?_
    refine g_aload_n rfl rfl ?_
    refine x_getF (r := 1) hG rfl rfl (by decide) (Or.inl ⟨_, rfl⟩) rfl ?_
    refine g_iconst rfl ⟨by decide, by decide⟩ ?_
    refine g_iload_n rfl rfl ?_
    refine g_cV (as := [tI 3, tI a]) (s_rowOf3o hG hd) rfl rfl mX9_rowOf_ok rfl rfl rfl (by decide) rfl rfl rfl ?_
    rintro _ w9 ⟨rfl, hw9⟩ _
    have hw9 := hw9.symm
    subst hw9
    refine g_astore rfl rfl rfl ?_
    refine g_aload rfl rfl ?_
    refine g_ifnonnull (tgt := 19) rfl (by decide) (fun _ hx => by cases hx) (fun _ => ?_)
    refine g_bipush rfl ⟨by decide, by decide⟩ (by decide) ?_
    refine x_ireturn rfl rfl ?_
    refine ⟨_, rfl, ?_⟩
    refine tp_ok_of mX12_fact_ok rfl (Nat.le_refl _) ?_
    refine g_aload_n rfl rfl ?_
    refine g_iconst rfl ⟨by decide, by decide⟩ ?_
    refine g_puti rfl rfl (by decide) rfl rfl ?_
    refine g_aload_n rfl rfl ?_
    refine g_iload_n rfl rfl ?_
    refine g_puti rfl rfl (by decide) rfl rfl ?_
    refine g_aload_n rfl rfl ?_
    refine g_iconst rfl ⟨by decide, by decide⟩ ?_
    refine g_iload_n rfl rfl ?_
    refine g_iV (as := [tI 3, tI a]) mX12_is_ok rfl rfl rfl rfl rfl rfl (by decide) rfl rfl rfl ?_
    refine g_iload_n rfl rfl ?_
    refine g_iconst rfl ⟨by decide, by decide⟩ ?_
    refine g_aload_n rfl rfl ?_
    refine x_getF (r := 206) hG rfl rfl (by decide) (Or.inr ⟨_, rfl⟩) rfl ?_
    refine g_iload_n rfl rfl ?_
    refine x_iald (v := (μ.1 206 3)) rfl rfl (by decide) (by decide) (by decide) rfl ?_
    refine g_iconst rfl ⟨by decide, by decide⟩ ?_
    refine x_isub (z := (μ.1 206 3) - 1) rfl (by omega) ⟨by omega, by omega⟩ ?_
    refine g_iS (as := [tI a, tI 0, tI ((μ.1 206 3) - 1)]) mX12_in_ok rfl rfl rfl rfl rfl rfl rfl ?_
    refine g_iload_n rfl rfl ?_
    refine g_iload_n rfl rfl ?_
    refine g_icmp_lt (tgt := 14) rfl (by decide) (fun h1 => ?_) (fun h1 => ?_)
    · first
        | omega
        | refine g_iconst rfl ⟨by decide, by decide⟩ ?_
          refine x_zreturn rfl rfl (Or.inl rfl) ?_
          intro _
          refine x_zreturn rfl rfl (Or.inl rfl) ?_
          intro _
          refine g_if_ne (tgt := 22) rfl (by decide) (fun hx => absurd hx (by omega)) (fun _ => ?_)
          refine g_bipush rfl ⟨by decide, by decide⟩ (by decide) ?_
          refine x_ireturn rfl rfl ?_
          exact ⟨rfl, (tp_R_kp hR (tp_kp_pi (by decide) (tp_kp_pi (by decide) tp_kp_rf)))⟩
    · first
        | omega
        | refine g_iload_n rfl rfl ?_
          refine g_iload_n rfl rfl ?_
          refine g_icmp_gt (tgt := 14) rfl (by decide) (fun h2 => ?_) (fun h2 => ?_)
          · first
              | omega
              | refine g_iconst rfl ⟨by decide, by decide⟩ ?_
                refine x_zreturn rfl rfl (Or.inl rfl) ?_
                intro _
                refine x_zreturn rfl rfl (Or.inl rfl) ?_
                intro _
                refine g_if_ne (tgt := 22) rfl (by decide) (fun hx => absurd hx (by omega)) (fun _ => ?_)
                refine g_bipush rfl ⟨by decide, by decide⟩ (by decide) ?_
                refine x_ireturn rfl rfl ?_
                exact ⟨rfl, (tp_R_kp hR (tp_kp_pi (by decide) (tp_kp_pi (by decide) tp_kp_rf)))⟩
          · first
              | omega
              | refine g_iconst rfl ⟨by decide, by decide⟩ ?_
                refine g_goto (tgt := 15) rfl (by decide) ?_
                refine x_zreturn rfl rfl (Or.inr rfl) ?_
                intro _
                refine x_zreturn rfl rfl (Or.inr rfl) ?_
                intro _
                refine g_if_ne (tgt := 22) rfl (by decide) (fun _ => ?_) (fun hx => absurd hx (by omega))
                refine g_iload_n rfl rfl ?_
                refine g_iconst rfl ⟨by decide, by decide⟩ ?_
                refine g_icmp_ne (tgt := 41) rfl (by decide) (fun h3 => ?_) (fun h3 => ?_)
                · first
                    | omega
                    | refine g_iload_n rfl rfl ?_
                      refine g_iconst rfl ⟨by decide, by decide⟩ ?_
                      refine g_aload_n rfl rfl ?_
                      refine g_iV (as := []) mX12_facts_ok rfl rfl rfl rfl rfl rfl (by decide) rfl rfl rfl ?_
                      refine g_aload_n rfl rfl ?_
                      refine x_getF (r := 210) hG rfl rfl (by decide) (Or.inr ⟨_, rfl⟩) rfl ?_
                      refine g_bipush rfl ⟨by decide, by decide⟩ (by decide) ?_
                      refine g_aload_n rfl rfl ?_
                      refine x_geti (v := a) rfl rfl (by decide) (Or.inl rfl) rfl ?_
                      refine x_imul (z := 17 * a) rfl (by omega) ⟨by omega, by omega⟩ ?_
                      refine x_iald (v := (μ.1 210 (17 * a))) rfl rfl (by decide) (by omega) (by omega) rfl ?_
                      refine x_ireturn rfl rfl ?_
                      intro _
                      refine g_iconst rfl ⟨by decide, by decide⟩ ?_
                      refine x_isub (z := (μ.1 210 (17 * a)) - 1) rfl (by omega) ⟨by omega, by omega⟩ ?_
                      refine g_iS (as := [tI k, tI 0, tI ((μ.1 210 (17 * a)) - 1)]) mX12_in_ok rfl rfl rfl rfl rfl rfl rfl ?_
                      refine g_iload_n rfl rfl ?_
                      refine g_iload_n rfl rfl ?_
                      refine g_icmp_lt (tgt := 14) rfl (by decide) (fun h4 => ?_) (fun h4 => ?_)
                      · first
                          | omega
                          | refine g_iconst rfl ⟨by decide, by decide⟩ ?_
                            refine x_zreturn rfl rfl (Or.inl rfl) ?_
                            intro _
                            refine g_if_eq (tgt := 73) rfl (by decide) (fun _ => ?_) (fun hx => absurd hx (by omega))
                            refine g_bipush rfl ⟨by decide, by decide⟩ (by decide) ?_
                            refine x_ireturn rfl rfl ?_
                            exact ⟨rfl, (tp_R_kp hR (tp_kp_pi (by decide) (tp_kp_pi (by decide) tp_kp_rf)))⟩
                      · first
                          | omega
                          | refine g_iload_n rfl rfl ?_
                            refine g_iload_n rfl rfl ?_
                            refine g_icmp_gt (tgt := 14) rfl (by decide) (fun h5 => ?_) (fun h5 => ?_)
                            · first
                                | omega
                                | refine g_iconst rfl ⟨by decide, by decide⟩ ?_
                                  refine x_zreturn rfl rfl (Or.inl rfl) ?_
                                  intro _
                                  refine g_if_eq (tgt := 73) rfl (by decide) (fun _ => ?_) (fun hx => absurd hx (by omega))
                                  refine g_bipush rfl ⟨by decide, by decide⟩ (by decide) ?_
                                  refine x_ireturn rfl rfl ?_
                                  exact ⟨rfl, (tp_R_kp hR (tp_kp_pi (by decide) (tp_kp_pi (by decide) tp_kp_rf)))⟩
                            · first
                                | omega
                                | refine g_iconst rfl ⟨by decide, by decide⟩ ?_
                                  refine g_goto (tgt := 15) rfl (by decide) ?_
                                  refine x_zreturn rfl rfl (Or.inr rfl) ?_
                                  intro _
                                  refine g_if_eq (tgt := 73) rfl (by decide) (fun hx => absurd hx (by omega)) (fun _ => ?_)
                                  refine g_iload_n rfl rfl ?_
                                  refine g_iconst rfl ⟨by decide, by decide⟩ ?_
                                  refine g_iconst rfl ⟨by decide, by decide⟩ ?_
                                  refine g_iS (as := [tI b, tI 0, tI 1]) mX12_in_ok rfl rfl rfl rfl rfl rfl rfl ?_
                                  refine g_iload_n rfl rfl ?_
                                  refine g_iload_n rfl rfl ?_
                                  refine g_icmp_lt (tgt := 14) rfl (by decide) (fun h6 => ?_) (fun h6 => ?_)
                                  · first
                                      | omega
                                      | refine g_iconst rfl ⟨by decide, by decide⟩ ?_
                                        refine x_zreturn rfl rfl (Or.inl rfl) ?_
                                        intro _
                                        refine g_if_eq (tgt := 73) rfl (by decide) (fun _ => ?_) (fun hx => absurd hx (by omega))
                                        refine g_bipush rfl ⟨by decide, by decide⟩ (by decide) ?_
                                        refine x_ireturn rfl rfl ?_
                                        exact ⟨rfl, (tp_R_kp hR (tp_kp_pi (by decide) (tp_kp_pi (by decide) tp_kp_rf)))⟩
                                  · first
                                      | omega
                                      | refine g_iload_n rfl rfl ?_
                                        refine g_iload_n rfl rfl ?_
                                        refine g_icmp_gt (tgt := 14) rfl (by decide) (fun h7 => ?_) (fun h7 => ?_)
                                        · first
                                            | omega
                                            | refine g_iconst rfl ⟨by decide, by decide⟩ ?_
                                              refine x_zreturn rfl rfl (Or.inl rfl) ?_
                                              intro _
                                              refine g_if_eq (tgt := 73) rfl (by decide) (fun _ => ?_) (fun hx => absurd hx (by omega))
                                              refine g_bipush rfl ⟨by decide, by decide⟩ (by decide) ?_
                                              refine x_ireturn rfl rfl ?_
                                              exact ⟨rfl, (tp_R_kp hR (tp_kp_pi (by decide) (tp_kp_pi (by decide) tp_kp_rf)))⟩
                                        · first
                                            | omega
                                            | refine g_iconst rfl ⟨by decide, by decide⟩ ?_
                                              refine g_goto (tgt := 15) rfl (by decide) ?_
                                              refine x_zreturn rfl rfl (Or.inr rfl) ?_
                                              intro _
                                              refine g_if_eq (tgt := 73) rfl (by decide) (fun hx => absurd hx (by omega)) (fun _ => ?_)
                                              refine g_aload_n rfl rfl ?_
                                              refine g_iload_n rfl rfl ?_
                                              refine g_iload_n rfl rfl ?_
                                              refine g_iV (as := [tI k, tI b]) mX12_factOf_ok rfl rfl rfl rfl rfl rfl (by decide) rfl rfl rfl ?_
                                              refine g_aload_n rfl rfl ?_
                                              refine x_getF (r := 210) hG rfl rfl (by decide) (Or.inr ⟨_, rfl⟩) rfl ?_
                                              refine g_bipush rfl ⟨by decide, by decide⟩ (by decide) ?_
                                              refine g_aload_n rfl rfl ?_
                                              refine x_geti (v := a) rfl rfl (by decide) (Or.inl rfl) rfl ?_
                                              refine x_imul (z := 17 * a) rfl (by omega) ⟨by omega, by omega⟩ ?_
                                              refine g_iconst rfl ⟨by decide, by decide⟩ ?_
                                              refine x_iadd (z := 17 * a + 1) rfl (by omega) ⟨by omega, by omega⟩ ?_
                                              refine g_iconst rfl ⟨by decide, by decide⟩ ?_
                                              refine g_iload_n rfl rfl ?_
                                              refine x_imul (z := 2 * k) rfl (by omega) ⟨by omega, by omega⟩ ?_
                                              refine x_iadd (z := 17 * a + 2 * k + 1) rfl (by omega) ⟨by omega, by omega⟩ ?_
                                              refine g_iload_n rfl rfl ?_
                                              refine x_iadd (z := 17 * a + 2 * k + b + 1) rfl (by omega) ⟨by omega, by omega⟩ ?_
                                              refine x_iald (v := (μ.1 210 (17 * a + 2 * k + b + 1))) rfl rfl (by decide) (by omega) (by omega) rfl ?_
                                              refine x_ireturn rfl rfl ?_
                                              intro _
                                              refine g_goto (tgt := 75) rfl (by decide) ?_
                                              refine x_ireturn rfl rfl ?_
                                              exact ⟨rfl, (tp_R_kp hR (tp_kp_pi (by decide) (tp_kp_pi (by decide) tp_kp_rf)))⟩
                · first
                    | omega
                    | refine g_iload_n rfl rfl ?_
                      refine g_if_ne (tgt := 38) rfl (by decide) (fun h8 => ?_) (fun h8 => ?_)
                      · first
                          | omega
                          | refine g_bipush rfl ⟨by decide, by decide⟩ (by decide) ?_
                            refine x_ireturn rfl rfl ?_
                            exact ⟨rfl, (tp_R_kp hR (tp_kp_pi (by decide) (tp_kp_pi (by decide) tp_kp_rf)))⟩
                      · first
                          | omega
                          | refine g_aload_n rfl rfl ?_
                            refine g_iV (as := []) mX12_facts_ok rfl rfl rfl rfl rfl rfl (by decide) rfl rfl rfl ?_
                            refine g_aload_n rfl rfl ?_
                            refine x_getF (r := 210) hG rfl rfl (by decide) (Or.inr ⟨_, rfl⟩) rfl ?_
                            refine g_bipush rfl ⟨by decide, by decide⟩ (by decide) ?_
                            refine g_aload_n rfl rfl ?_
                            refine x_geti (v := a) rfl rfl (by decide) (Or.inl rfl) rfl ?_
                            refine x_imul (z := 17 * a) rfl (by omega) ⟨by omega, by omega⟩ ?_
                            refine x_iald (v := (μ.1 210 (17 * a))) rfl rfl (by decide) (by omega) (by omega) rfl ?_
                            refine x_ireturn rfl rfl ?_
                            intro _
                            refine g_goto (tgt := 40) rfl (by decide) ?_
                            refine x_ireturn rfl rfl ?_
                            exact ⟨rfl, (tp_R_kp hR (tp_kp_pi (by decide) (tp_kp_pi (by decide) tp_kp_rf)))⟩
set_option maxHeartbeats 4000000 in
set_option maxRecDepth 100000 in
theorem p_code {G : tp_G} (hG : tp_Gf G = true) {a k : Int} (hk : tp_r32 k) : tp_pair G mX11_code mX12_code [tI a, tI k] := by
  intro μ hR
  obtain ⟨hk1, hk2⟩ := hk
  have hM := tp_R_many hR 0 (by decide) (by decide)
  rcases (show (a = 0 ∧ 0 < μ.1 5 0) ∨ (a = 1 ∧ 1 < μ.1 5 0) ∨ ((a < 0 ∨ μ.1 5 0 ≤ a) ∧ μ.1 5 0 ≤ 2) by omega) with ⟨rfl, hd⟩ | ⟨rfl, hd⟩ | hd
  · have hC := tp_R_code hR 0 (by decide) hd
    have hCs : μ.1 6 4 = μ.1 207 0 := hC.1
    have hCw := hC.2.2.2.1
    have hCz : tp_cf μ ((0 : Nat) : Int) 0 = μ.1 207 0 := rfl
    have hCk : ∀ i, 0 ≤ i → i < μ.1 6 4 → μ.1 7 i = μ.1 207 (9 + i) := fun i g1 g2 => (hC.2.1 i g1 (by omega)).1.trans (congrArg (μ.1 207) (by omega))
    have hCt : ∀ i, 0 ≤ i → i < μ.1 6 4 → μ.1 8 i = μ.1 207 (49 + i) := fun i g1 g2 => (hC.2.1 i g1 (by omega)).2.1.trans (congrArg (μ.1 207) (by omega))
    have hCm : ∀ i, 0 ≤ i → i < μ.1 6 4 → μ.1 9 i = μ.1 207 (89 + i) := fun i g1 g2 => (hC.2.1 i g1 (by omega)).2.2.trans (congrArg (μ.1 207) (by omega))
    have hCr : ∀ i, 0 ≤ i → i < 8 → μ.1 10 i = μ.1 207 (1 + i) := fun i g1 g2 => (hC.2.2.1 i g1 g2).trans (congrArg (μ.1 207) (by omega))
    refine tp_ok_of mX11_code_ok rfl (Nat.le_refl _) ?_
    refine g_aload_n rfl rfl ?_
    refine x_getF (r := 1) hG rfl rfl (by decide) (Or.inl ⟨_, rfl⟩) rfl ?_
    refine g_iload_n rfl rfl ?_
    refine g_cV (as := [tI 0]) (s_codeOf0 hG hd) rfl rfl mX9_codeOf_ok rfl rfl rfl (by decide) rfl rfl rfl ?_
    rintro _ w9 ⟨rfl, hw9⟩ _
    have hw9 := hw9.symm
    subst hw9
    refine g_astore_n rfl rfl rfl ?_
    refine g_aload_n rfl rfl ?_
    refine g_ifnonnull (tgt := 18) rfl (by decide) (fun _ _ => ?_) (fun hx => by cases hx)
    refine g_aload_n rfl rfl ?_
    refine g_iload_n rfl rfl ?_
    refine g_iV (as := [tI k]) mX0_tell_ok rfl rfl rfl rfl rfl rfl (by decide) rfl rfl rfl ?_
    refine g_iload_n rfl rfl ?_
    refine g_if_ne (tgt := 9) rfl (by decide) (fun h1 => ?_) (fun h1 => ?_)
    · first
        | omega
        | refine g_iload_n rfl rfl ?_
          refine g_iconst rfl ⟨by decide, by decide⟩ ?_
          refine g_icmp_lt (tgt := 28) rfl (by decide) (fun h2 => ?_) (fun h2 => ?_)
          · first
              | omega
              | refine g_iload_n rfl rfl ?_
                refine g_bipush rfl ⟨by decide, by decide⟩ (by decide) ?_
                refine g_icmp_lt (tgt := 52) rfl (by decide) (fun _ => ?_) (fun hx => absurd hx (by omega))
                refine g_bipush rfl ⟨by decide, by decide⟩ (by decide) ?_
                refine x_ireturn rfl rfl ?_
                intro _
                refine x_ireturn rfl rfl ?_
                refine ⟨_, rfl, ?_⟩
                refine tp_ok_of mX12_code_ok rfl (Nat.le_refl _) ?_
                refine g_aload_n rfl rfl ?_
                refine g_iconst rfl ⟨by decide, by decide⟩ ?_
                refine g_puti rfl rfl (by decide) rfl rfl ?_
                refine g_aload_n rfl rfl ?_
                refine g_iload_n rfl rfl ?_
                refine g_iV (as := [tI 0]) mX12_hasCode_ok rfl rfl rfl rfl rfl rfl (by decide) rfl rfl rfl ?_
                refine g_aload_n rfl rfl ?_
                refine g_iload_n rfl rfl ?_
                refine g_puti rfl rfl (by decide) rfl rfl ?_
                refine g_aload_n rfl rfl ?_
                refine g_iconst rfl ⟨by decide, by decide⟩ ?_
                refine g_iload_n rfl rfl ?_
                refine g_iV (as := [tI 0, tI 0]) mX12_is_ok rfl rfl rfl rfl rfl rfl (by decide) rfl rfl rfl ?_
                refine g_iload_n rfl rfl ?_
                refine g_iconst rfl ⟨by decide, by decide⟩ ?_
                refine g_aload_n rfl rfl ?_
                refine x_getF (r := 206) hG rfl rfl (by decide) (Or.inr ⟨_, rfl⟩) rfl ?_
                refine g_iload_n rfl rfl ?_
                refine x_iald (v := (μ.1 206 0)) rfl rfl (by decide) (by decide) (by decide) rfl ?_
                refine g_iconst rfl ⟨by decide, by decide⟩ ?_
                refine x_isub (z := (μ.1 206 0) - 1) rfl (by omega) ⟨by omega, by omega⟩ ?_
                refine g_iS (as := [tI 0, tI 0, tI ((μ.1 206 0) - 1)]) mX12_in_ok rfl rfl rfl rfl rfl rfl rfl ?_
                refine g_iload_n rfl rfl ?_
                refine g_iload_n rfl rfl ?_
                refine g_icmp_lt (tgt := 14) rfl (by decide) (fun hx => absurd hx (by omega)) (fun _ => ?_)
                refine g_iload_n rfl rfl ?_
                refine g_iload_n rfl rfl ?_
                refine g_icmp_gt (tgt := 14) rfl (by decide) (fun hx => absurd hx (by omega)) (fun _ => ?_)
                refine g_iconst rfl ⟨by decide, by decide⟩ ?_
                refine g_goto (tgt := 15) rfl (by decide) ?_
                refine x_zreturn rfl rfl (Or.inr rfl) ?_
                intro _
                refine x_zreturn rfl rfl (Or.inr rfl) ?_
                intro _
                refine g_if_ne (tgt := 16) rfl (by decide) (fun _ => ?_) (fun hx => absurd hx (by omega))
                refine g_aload_n rfl rfl ?_
                refine g_aload_n rfl rfl ?_
                refine g_iconst rfl ⟨by decide, by decide⟩ ?_
                refine g_iV (as := [tI 0]) mX12_of_ok rfl rfl rfl rfl rfl rfl (by decide) rfl rfl rfl ?_
                refine g_aload_n rfl rfl ?_
                refine x_getF (r := 207) hG rfl rfl (by decide) (Or.inr ⟨_, rfl⟩) rfl ?_
                refine g_sipush rfl ⟨by decide, by decide⟩ (by decide) ?_
                refine g_aload_n rfl rfl ?_
                refine x_geti (v := 0) rfl rfl (by decide) (Or.inl rfl) rfl ?_
                refine x_imul (z := 0) rfl (by omega) ⟨by omega, by omega⟩ ?_
                refine g_iload_n rfl rfl ?_
                refine x_iadd (z := 0) rfl (by omega) ⟨by omega, by omega⟩ ?_
                refine x_iald (v := (μ.1 207 0)) rfl rfl (by decide) (by decide) (by decide) rfl ?_
                refine x_ireturn rfl rfl ?_
                intro _
                refine g_puti rfl rfl (by decide) rfl rfl ?_
                refine g_iconst rfl ⟨by decide, by decide⟩ ?_
                refine x_zreturn rfl rfl (Or.inr rfl) ?_
                intro _
                refine g_if_eq (tgt := 17) rfl (by decide) (fun hx => absurd hx (by omega)) (fun _ => ?_)
                refine g_iload_n rfl rfl ?_
                refine g_if_ge (tgt := 20) rfl (by decide) (fun h3 => ?_) (fun h3 => ?_)
                · first
                    | omega
                    | refine g_iload_n rfl rfl ?_
                      refine g_bipush rfl ⟨by decide, by decide⟩ (by decide) ?_
                      refine g_icmp_gt (tgt := 32) rfl (by decide) (fun hx => absurd hx (by omega)) (fun _ => ?_)
                      refine g_aload_n rfl rfl ?_
                      refine g_iload_n rfl rfl ?_
                      refine g_iV (as := [tI k]) mX12_of_ok rfl rfl rfl rfl rfl rfl (by decide) rfl rfl rfl ?_
                      refine g_aload_n rfl rfl ?_
                      refine x_getF (r := 207) hG rfl rfl (by decide) (Or.inr ⟨_, rfl⟩) rfl ?_
                      refine g_sipush rfl ⟨by decide, by decide⟩ (by decide) ?_
                      refine g_aload_n rfl rfl ?_
                      refine x_geti (v := 0) rfl rfl (by decide) (Or.inl rfl) rfl ?_
                      refine x_imul (z := 0) rfl (by omega) ⟨by omega, by omega⟩ ?_
                      refine g_iload_n rfl rfl ?_
                      refine x_iadd (z := k) rfl (by omega) ⟨by omega, by omega⟩ ?_
                      refine x_iald (v := (μ.1 207 k)) rfl rfl (by decide) (by omega) (by omega) rfl ?_
                      refine x_ireturn rfl rfl ?_
                      intro _
                      refine x_ireturn rfl rfl ?_
                      exact ⟨(by first | rfl | exact congrArg (fun z => some (tI z)) ((congrArg (μ.1 207) (by omega)).trans hCs.symm) | exact congrArg (fun z => some (tI z)) ((congrArg (μ.1 207) (by omega)).trans (hCr _ (by omega) (by omega)).symm) | exact congrArg (fun z => some (tI z)) ((congrArg (μ.1 207) (by omega)).trans (hCk _ (by omega) (by omega)).symm) | exact congrArg (fun z => some (tI z)) ((congrArg (μ.1 207) (by omega)).trans (hCt _ (by omega) (by omega)).symm) | exact congrArg (fun z => some (tI z)) ((congrArg (μ.1 207) (by omega)).trans (hCm _ (by omega) (by omega)).symm)), (tp_R_kp hR (tp_kp_pi (by decide) (tp_kp_pi (by decide) (tp_kp_pi (by decide) tp_kp_rf))))⟩
                · first
                    | omega
                    | refine g_bipush rfl ⟨by decide, by decide⟩ (by decide) ?_
                      refine x_ireturn rfl rfl ?_
                      exact ⟨(by first | rfl | exact congrArg (fun z => some (tI z)) ((congrArg (μ.1 207) (by omega)).trans hCs.symm) | exact congrArg (fun z => some (tI z)) ((congrArg (μ.1 207) (by omega)).trans (hCr _ (by omega) (by omega)).symm) | exact congrArg (fun z => some (tI z)) ((congrArg (μ.1 207) (by omega)).trans (hCk _ (by omega) (by omega)).symm) | exact congrArg (fun z => some (tI z)) ((congrArg (μ.1 207) (by omega)).trans (hCt _ (by omega) (by omega)).symm) | exact congrArg (fun z => some (tI z)) ((congrArg (μ.1 207) (by omega)).trans (hCm _ (by omega) (by omega)).symm)), (tp_R_kp hR (tp_kp_pi (by decide) (tp_kp_pi (by decide) (tp_kp_pi (by decide) tp_kp_rf))))⟩
          · first
              | omega
              | refine g_iload_n rfl rfl ?_
                refine g_bipush rfl ⟨by decide, by decide⟩ (by decide) ?_
                refine g_icmp_gt (tgt := 28) rfl (by decide) (fun h4 => ?_) (fun h4 => ?_)
                · first
                    | omega
                    | refine g_iload_n rfl rfl ?_
                      refine g_bipush rfl ⟨by decide, by decide⟩ (by decide) ?_
                      refine g_icmp_lt (tgt := 52) rfl (by decide) (fun h5 => ?_) (fun h5 => ?_)
                      · first
                          | omega
                          | refine g_bipush rfl ⟨by decide, by decide⟩ (by decide) ?_
                            refine x_ireturn rfl rfl ?_
                            intro _
                            refine x_ireturn rfl rfl ?_
                            refine ⟨_, rfl, ?_⟩
                            refine tp_ok_of mX12_code_ok rfl (Nat.le_refl _) ?_
                            refine g_aload_n rfl rfl ?_
                            refine g_iconst rfl ⟨by decide, by decide⟩ ?_
                            refine g_puti rfl rfl (by decide) rfl rfl ?_
                            refine g_aload_n rfl rfl ?_
                            refine g_iload_n rfl rfl ?_
                            refine g_iV (as := [tI 0]) mX12_hasCode_ok rfl rfl rfl rfl rfl rfl (by decide) rfl rfl rfl ?_
                            refine g_aload_n rfl rfl ?_
                            refine g_iload_n rfl rfl ?_
                            refine g_puti rfl rfl (by decide) rfl rfl ?_
                            refine g_aload_n rfl rfl ?_
                            refine g_iconst rfl ⟨by decide, by decide⟩ ?_
                            refine g_iload_n rfl rfl ?_
                            refine g_iV (as := [tI 0, tI 0]) mX12_is_ok rfl rfl rfl rfl rfl rfl (by decide) rfl rfl rfl ?_
                            refine g_iload_n rfl rfl ?_
                            refine g_iconst rfl ⟨by decide, by decide⟩ ?_
                            refine g_aload_n rfl rfl ?_
                            refine x_getF (r := 206) hG rfl rfl (by decide) (Or.inr ⟨_, rfl⟩) rfl ?_
                            refine g_iload_n rfl rfl ?_
                            refine x_iald (v := (μ.1 206 0)) rfl rfl (by decide) (by decide) (by decide) rfl ?_
                            refine g_iconst rfl ⟨by decide, by decide⟩ ?_
                            refine x_isub (z := (μ.1 206 0) - 1) rfl (by omega) ⟨by omega, by omega⟩ ?_
                            refine g_iS (as := [tI 0, tI 0, tI ((μ.1 206 0) - 1)]) mX12_in_ok rfl rfl rfl rfl rfl rfl rfl ?_
                            refine g_iload_n rfl rfl ?_
                            refine g_iload_n rfl rfl ?_
                            refine g_icmp_lt (tgt := 14) rfl (by decide) (fun hx => absurd hx (by omega)) (fun _ => ?_)
                            refine g_iload_n rfl rfl ?_
                            refine g_iload_n rfl rfl ?_
                            refine g_icmp_gt (tgt := 14) rfl (by decide) (fun hx => absurd hx (by omega)) (fun _ => ?_)
                            refine g_iconst rfl ⟨by decide, by decide⟩ ?_
                            refine g_goto (tgt := 15) rfl (by decide) ?_
                            refine x_zreturn rfl rfl (Or.inr rfl) ?_
                            intro _
                            refine x_zreturn rfl rfl (Or.inr rfl) ?_
                            intro _
                            refine g_if_ne (tgt := 16) rfl (by decide) (fun _ => ?_) (fun hx => absurd hx (by omega))
                            refine g_aload_n rfl rfl ?_
                            refine g_aload_n rfl rfl ?_
                            refine g_iconst rfl ⟨by decide, by decide⟩ ?_
                            refine g_iV (as := [tI 0]) mX12_of_ok rfl rfl rfl rfl rfl rfl (by decide) rfl rfl rfl ?_
                            refine g_aload_n rfl rfl ?_
                            refine x_getF (r := 207) hG rfl rfl (by decide) (Or.inr ⟨_, rfl⟩) rfl ?_
                            refine g_sipush rfl ⟨by decide, by decide⟩ (by decide) ?_
                            refine g_aload_n rfl rfl ?_
                            refine x_geti (v := 0) rfl rfl (by decide) (Or.inl rfl) rfl ?_
                            refine x_imul (z := 0) rfl (by omega) ⟨by omega, by omega⟩ ?_
                            refine g_iload_n rfl rfl ?_
                            refine x_iadd (z := 0) rfl (by omega) ⟨by omega, by omega⟩ ?_
                            refine x_iald (v := (μ.1 207 0)) rfl rfl (by decide) (by decide) (by decide) rfl ?_
                            refine x_ireturn rfl rfl ?_
                            intro _
                            refine g_puti rfl rfl (by decide) rfl rfl ?_
                            refine g_iconst rfl ⟨by decide, by decide⟩ ?_
                            refine x_zreturn rfl rfl (Or.inr rfl) ?_
                            intro _
                            refine g_if_eq (tgt := 17) rfl (by decide) (fun hx => absurd hx (by omega)) (fun _ => ?_)
                            refine g_iload_n rfl rfl ?_
                            refine g_if_ge (tgt := 20) rfl (by decide) (fun _ => ?_) (fun hx => absurd hx (by omega))
                            refine g_iload_n rfl rfl ?_
                            refine g_bipush rfl ⟨by decide, by decide⟩ (by decide) ?_
                            refine g_icmp_gt (tgt := 32) rfl (by decide) (fun _ => ?_) (fun hx => absurd hx (by omega))
                            refine g_iload_n rfl rfl ?_
                            refine g_bipush rfl ⟨by decide, by decide⟩ (by decide) ?_
                            refine x_irem rfl (by omega) (by omega) ?_
                            refine g_istore_n rfl rfl rfl ?_
                            refine g_iload_n rfl rfl ?_
                            refine g_bipush rfl ⟨by decide, by decide⟩ (by decide) ?_
                            refine g_sipush rfl ⟨by decide, by decide⟩ (by decide) ?_
                            refine g_iS (as := [tI k, tI 100, tI 399]) mX12_in_ok rfl rfl rfl rfl rfl rfl rfl ?_
                            refine g_iload_n rfl rfl ?_
                            refine g_iload_n rfl rfl ?_
                            refine g_icmp_lt (tgt := 14) rfl (by decide) (fun _ => ?_) (fun hx => absurd hx (by omega))
                            refine g_iconst rfl ⟨by decide, by decide⟩ ?_
                            refine x_zreturn rfl rfl (Or.inl rfl) ?_
                            intro _
                            refine g_if_eq (tgt := 57) rfl (by decide) (fun _ => ?_) (fun hx => absurd hx (by omega))
                            refine g_bipush rfl ⟨by decide, by decide⟩ (by decide) ?_
                            refine x_ireturn rfl rfl ?_
                            exact ⟨(by first | rfl | exact congrArg (fun z => some (tI z)) ((congrArg (μ.1 207) (by omega)).trans hCs.symm) | exact congrArg (fun z => some (tI z)) ((congrArg (μ.1 207) (by omega)).trans (hCr _ (by omega) (by omega)).symm) | exact congrArg (fun z => some (tI z)) ((congrArg (μ.1 207) (by omega)).trans (hCk _ (by omega) (by omega)).symm) | exact congrArg (fun z => some (tI z)) ((congrArg (μ.1 207) (by omega)).trans (hCt _ (by omega) (by omega)).symm) | exact congrArg (fun z => some (tI z)) ((congrArg (μ.1 207) (by omega)).trans (hCm _ (by omega) (by omega)).symm)), (tp_R_kp hR (tp_kp_pi (by decide) (tp_kp_pi (by decide) (tp_kp_pi (by decide) tp_kp_rf))))⟩
                      · first
                          | omega
                          | refine g_iload_n rfl rfl ?_
                            refine g_sipush rfl ⟨by decide, by decide⟩ (by decide) ?_
                            refine g_icmp_ge (tgt := 52) rfl (by decide) (fun h6 => ?_) (fun h6 => ?_)
                            · first
                                | omega
                                | refine g_bipush rfl ⟨by decide, by decide⟩ (by decide) ?_
                                  refine x_ireturn rfl rfl ?_
                                  intro _
                                  refine x_ireturn rfl rfl ?_
                                  refine ⟨_, rfl, ?_⟩
                                  refine tp_ok_of mX12_code_ok rfl (Nat.le_refl _) ?_
                                  refine g_aload_n rfl rfl ?_
                                  refine g_iconst rfl ⟨by decide, by decide⟩ ?_
                                  refine g_puti rfl rfl (by decide) rfl rfl ?_
                                  refine g_aload_n rfl rfl ?_
                                  refine g_iload_n rfl rfl ?_
                                  refine g_iV (as := [tI 0]) mX12_hasCode_ok rfl rfl rfl rfl rfl rfl (by decide) rfl rfl rfl ?_
                                  refine g_aload_n rfl rfl ?_
                                  refine g_iload_n rfl rfl ?_
                                  refine g_puti rfl rfl (by decide) rfl rfl ?_
                                  refine g_aload_n rfl rfl ?_
                                  refine g_iconst rfl ⟨by decide, by decide⟩ ?_
                                  refine g_iload_n rfl rfl ?_
                                  refine g_iV (as := [tI 0, tI 0]) mX12_is_ok rfl rfl rfl rfl rfl rfl (by decide) rfl rfl rfl ?_
                                  refine g_iload_n rfl rfl ?_
                                  refine g_iconst rfl ⟨by decide, by decide⟩ ?_
                                  refine g_aload_n rfl rfl ?_
                                  refine x_getF (r := 206) hG rfl rfl (by decide) (Or.inr ⟨_, rfl⟩) rfl ?_
                                  refine g_iload_n rfl rfl ?_
                                  refine x_iald (v := (μ.1 206 0)) rfl rfl (by decide) (by decide) (by decide) rfl ?_
                                  refine g_iconst rfl ⟨by decide, by decide⟩ ?_
                                  refine x_isub (z := (μ.1 206 0) - 1) rfl (by omega) ⟨by omega, by omega⟩ ?_
                                  refine g_iS (as := [tI 0, tI 0, tI ((μ.1 206 0) - 1)]) mX12_in_ok rfl rfl rfl rfl rfl rfl rfl ?_
                                  refine g_iload_n rfl rfl ?_
                                  refine g_iload_n rfl rfl ?_
                                  refine g_icmp_lt (tgt := 14) rfl (by decide) (fun hx => absurd hx (by omega)) (fun _ => ?_)
                                  refine g_iload_n rfl rfl ?_
                                  refine g_iload_n rfl rfl ?_
                                  refine g_icmp_gt (tgt := 14) rfl (by decide) (fun hx => absurd hx (by omega)) (fun _ => ?_)
                                  refine g_iconst rfl ⟨by decide, by decide⟩ ?_
                                  refine g_goto (tgt := 15) rfl (by decide) ?_
                                  refine x_zreturn rfl rfl (Or.inr rfl) ?_
                                  intro _
                                  refine x_zreturn rfl rfl (Or.inr rfl) ?_
                                  intro _
                                  refine g_if_ne (tgt := 16) rfl (by decide) (fun _ => ?_) (fun hx => absurd hx (by omega))
                                  refine g_aload_n rfl rfl ?_
                                  refine g_aload_n rfl rfl ?_
                                  refine g_iconst rfl ⟨by decide, by decide⟩ ?_
                                  refine g_iV (as := [tI 0]) mX12_of_ok rfl rfl rfl rfl rfl rfl (by decide) rfl rfl rfl ?_
                                  refine g_aload_n rfl rfl ?_
                                  refine x_getF (r := 207) hG rfl rfl (by decide) (Or.inr ⟨_, rfl⟩) rfl ?_
                                  refine g_sipush rfl ⟨by decide, by decide⟩ (by decide) ?_
                                  refine g_aload_n rfl rfl ?_
                                  refine x_geti (v := 0) rfl rfl (by decide) (Or.inl rfl) rfl ?_
                                  refine x_imul (z := 0) rfl (by omega) ⟨by omega, by omega⟩ ?_
                                  refine g_iload_n rfl rfl ?_
                                  refine x_iadd (z := 0) rfl (by omega) ⟨by omega, by omega⟩ ?_
                                  refine x_iald (v := (μ.1 207 0)) rfl rfl (by decide) (by decide) (by decide) rfl ?_
                                  refine x_ireturn rfl rfl ?_
                                  intro _
                                  refine g_puti rfl rfl (by decide) rfl rfl ?_
                                  refine g_iconst rfl ⟨by decide, by decide⟩ ?_
                                  refine x_zreturn rfl rfl (Or.inr rfl) ?_
                                  intro _
                                  refine g_if_eq (tgt := 17) rfl (by decide) (fun hx => absurd hx (by omega)) (fun _ => ?_)
                                  refine g_iload_n rfl rfl ?_
                                  refine g_if_ge (tgt := 20) rfl (by decide) (fun _ => ?_) (fun hx => absurd hx (by omega))
                                  refine g_iload_n rfl rfl ?_
                                  refine g_bipush rfl ⟨by decide, by decide⟩ (by decide) ?_
                                  refine g_icmp_gt (tgt := 32) rfl (by decide) (fun _ => ?_) (fun hx => absurd hx (by omega))
                                  refine g_iload_n rfl rfl ?_
                                  refine g_bipush rfl ⟨by decide, by decide⟩ (by decide) ?_
                                  refine x_irem rfl (by omega) (by omega) ?_
                                  refine g_istore_n rfl rfl rfl ?_
                                  refine g_iload_n rfl rfl ?_
                                  refine g_bipush rfl ⟨by decide, by decide⟩ (by decide) ?_
                                  refine g_sipush rfl ⟨by decide, by decide⟩ (by decide) ?_
                                  refine g_iS (as := [tI k, tI 100, tI 399]) mX12_in_ok rfl rfl rfl rfl rfl rfl rfl ?_
                                  refine g_iload_n rfl rfl ?_
                                  refine g_iload_n rfl rfl ?_
                                  refine g_icmp_lt (tgt := 14) rfl (by decide) (fun hx => absurd hx (by omega)) (fun _ => ?_)
                                  refine g_iload_n rfl rfl ?_
                                  refine g_iload_n rfl rfl ?_
                                  refine g_icmp_gt (tgt := 14) rfl (by decide) (fun _ => ?_) (fun hx => absurd hx (by omega))
                                  refine g_iconst rfl ⟨by decide, by decide⟩ ?_
                                  refine x_zreturn rfl rfl (Or.inl rfl) ?_
                                  intro _
                                  refine g_if_eq (tgt := 57) rfl (by decide) (fun _ => ?_) (fun hx => absurd hx (by omega))
                                  refine g_bipush rfl ⟨by decide, by decide⟩ (by decide) ?_
                                  refine x_ireturn rfl rfl ?_
                                  exact ⟨(by first | rfl | exact congrArg (fun z => some (tI z)) ((congrArg (μ.1 207) (by omega)).trans hCs.symm) | exact congrArg (fun z => some (tI z)) ((congrArg (μ.1 207) (by omega)).trans (hCr _ (by omega) (by omega)).symm) | exact congrArg (fun z => some (tI z)) ((congrArg (μ.1 207) (by omega)).trans (hCk _ (by omega) (by omega)).symm) | exact congrArg (fun z => some (tI z)) ((congrArg (μ.1 207) (by omega)).trans (hCt _ (by omega) (by omega)).symm) | exact congrArg (fun z => some (tI z)) ((congrArg (μ.1 207) (by omega)).trans (hCm _ (by omega) (by omega)).symm)), (tp_R_kp hR (tp_kp_pi (by decide) (tp_kp_pi (by decide) (tp_kp_pi (by decide) tp_kp_rf))))⟩
                            · first
                                | omega
                                | refine g_aload_n rfl rfl ?_
                                  refine g_iload_n rfl rfl ?_
                                  refine g_bipush rfl ⟨by decide, by decide⟩ (by decide) ?_
                                  refine x_irem rfl (by omega) (by omega) ?_
                                  refine g_iV (as := [tI (k % 100)]) mX0_has_ok rfl rfl rfl rfl rfl rfl (by decide) rfl rfl rfl ?_
                                  refine g_iload_n rfl rfl ?_
                                  refine g_if_lt (tgt := 22) rfl (by decide) (fun hx => absurd hx (by omega)) (fun _ => ?_)
                                  refine g_iload_n rfl rfl ?_
                                  refine g_aload_n rfl rfl ?_
                                  refine x_geti (v := (μ.1 6 4)) rfl rfl (by decide) (Or.inl rfl) rfl ?_
                                  refine g_icmp_ge (tgt := 22) rfl (by decide) (fun h7 => ?_) (fun h7 => ?_)
                                  · first
                                      | omega
                                      | refine g_iconst rfl ⟨by decide, by decide⟩ ?_
                                        refine x_zreturn rfl rfl (Or.inl rfl) ?_
                                        intro _
                                        refine g_if_ne (tgt := 55) rfl (by decide) (fun hx => absurd hx (by omega)) (fun _ => ?_)
                                        refine g_bipush rfl ⟨by decide, by decide⟩ (by decide) ?_
                                        refine x_ireturn rfl rfl ?_
                                        intro _
                                        refine x_ireturn rfl rfl ?_
                                        refine ⟨_, rfl, ?_⟩
                                        refine tp_ok_of mX12_code_ok rfl (Nat.le_refl _) ?_
                                        refine g_aload_n rfl rfl ?_
                                        refine g_iconst rfl ⟨by decide, by decide⟩ ?_
                                        refine g_puti rfl rfl (by decide) rfl rfl ?_
                                        refine g_aload_n rfl rfl ?_
                                        refine g_iload_n rfl rfl ?_
                                        refine g_iV (as := [tI 0]) mX12_hasCode_ok rfl rfl rfl rfl rfl rfl (by decide) rfl rfl rfl ?_
                                        refine g_aload_n rfl rfl ?_
                                        refine g_iload_n rfl rfl ?_
                                        refine g_puti rfl rfl (by decide) rfl rfl ?_
                                        refine g_aload_n rfl rfl ?_
                                        refine g_iconst rfl ⟨by decide, by decide⟩ ?_
                                        refine g_iload_n rfl rfl ?_
                                        refine g_iV (as := [tI 0, tI 0]) mX12_is_ok rfl rfl rfl rfl rfl rfl (by decide) rfl rfl rfl ?_
                                        refine g_iload_n rfl rfl ?_
                                        refine g_iconst rfl ⟨by decide, by decide⟩ ?_
                                        refine g_aload_n rfl rfl ?_
                                        refine x_getF (r := 206) hG rfl rfl (by decide) (Or.inr ⟨_, rfl⟩) rfl ?_
                                        refine g_iload_n rfl rfl ?_
                                        refine x_iald (v := (μ.1 206 0)) rfl rfl (by decide) (by decide) (by decide) rfl ?_
                                        refine g_iconst rfl ⟨by decide, by decide⟩ ?_
                                        refine x_isub (z := (μ.1 206 0) - 1) rfl (by omega) ⟨by omega, by omega⟩ ?_
                                        refine g_iS (as := [tI 0, tI 0, tI ((μ.1 206 0) - 1)]) mX12_in_ok rfl rfl rfl rfl rfl rfl rfl ?_
                                        refine g_iload_n rfl rfl ?_
                                        refine g_iload_n rfl rfl ?_
                                        refine g_icmp_lt (tgt := 14) rfl (by decide) (fun hx => absurd hx (by omega)) (fun _ => ?_)
                                        refine g_iload_n rfl rfl ?_
                                        refine g_iload_n rfl rfl ?_
                                        refine g_icmp_gt (tgt := 14) rfl (by decide) (fun hx => absurd hx (by omega)) (fun _ => ?_)
                                        refine g_iconst rfl ⟨by decide, by decide⟩ ?_
                                        refine g_goto (tgt := 15) rfl (by decide) ?_
                                        refine x_zreturn rfl rfl (Or.inr rfl) ?_
                                        intro _
                                        refine x_zreturn rfl rfl (Or.inr rfl) ?_
                                        intro _
                                        refine g_if_ne (tgt := 16) rfl (by decide) (fun _ => ?_) (fun hx => absurd hx (by omega))
                                        refine g_aload_n rfl rfl ?_
                                        refine g_aload_n rfl rfl ?_
                                        refine g_iconst rfl ⟨by decide, by decide⟩ ?_
                                        refine g_iV (as := [tI 0]) mX12_of_ok rfl rfl rfl rfl rfl rfl (by decide) rfl rfl rfl ?_
                                        refine g_aload_n rfl rfl ?_
                                        refine x_getF (r := 207) hG rfl rfl (by decide) (Or.inr ⟨_, rfl⟩) rfl ?_
                                        refine g_sipush rfl ⟨by decide, by decide⟩ (by decide) ?_
                                        refine g_aload_n rfl rfl ?_
                                        refine x_geti (v := 0) rfl rfl (by decide) (Or.inl rfl) rfl ?_
                                        refine x_imul (z := 0) rfl (by omega) ⟨by omega, by omega⟩ ?_
                                        refine g_iload_n rfl rfl ?_
                                        refine x_iadd (z := 0) rfl (by omega) ⟨by omega, by omega⟩ ?_
                                        refine x_iald (v := (μ.1 207 0)) rfl rfl (by decide) (by decide) (by decide) rfl ?_
                                        refine x_ireturn rfl rfl ?_
                                        intro _
                                        refine g_puti rfl rfl (by decide) rfl rfl ?_
                                        refine g_iconst rfl ⟨by decide, by decide⟩ ?_
                                        refine x_zreturn rfl rfl (Or.inr rfl) ?_
                                        intro _
                                        refine g_if_eq (tgt := 17) rfl (by decide) (fun hx => absurd hx (by omega)) (fun _ => ?_)
                                        refine g_iload_n rfl rfl ?_
                                        refine g_if_ge (tgt := 20) rfl (by decide) (fun _ => ?_) (fun hx => absurd hx (by omega))
                                        refine g_iload_n rfl rfl ?_
                                        refine g_bipush rfl ⟨by decide, by decide⟩ (by decide) ?_
                                        refine g_icmp_gt (tgt := 32) rfl (by decide) (fun _ => ?_) (fun hx => absurd hx (by omega))
                                        refine g_iload_n rfl rfl ?_
                                        refine g_bipush rfl ⟨by decide, by decide⟩ (by decide) ?_
                                        refine x_irem rfl (by omega) (by omega) ?_
                                        refine g_istore_n rfl rfl rfl ?_
                                        refine g_iload_n rfl rfl ?_
                                        refine g_bipush rfl ⟨by decide, by decide⟩ (by decide) ?_
                                        refine g_sipush rfl ⟨by decide, by decide⟩ (by decide) ?_
                                        refine g_iS (as := [tI k, tI 100, tI 399]) mX12_in_ok rfl rfl rfl rfl rfl rfl rfl ?_
                                        refine g_iload_n rfl rfl ?_
                                        refine g_iload_n rfl rfl ?_
                                        refine g_icmp_lt (tgt := 14) rfl (by decide) (fun hx => absurd hx (by omega)) (fun _ => ?_)
                                        refine g_iload_n rfl rfl ?_
                                        refine g_iload_n rfl rfl ?_
                                        refine g_icmp_gt (tgt := 14) rfl (by decide) (fun hx => absurd hx (by omega)) (fun _ => ?_)
                                        refine g_iconst rfl ⟨by decide, by decide⟩ ?_
                                        refine g_goto (tgt := 15) rfl (by decide) ?_
                                        refine x_zreturn rfl rfl (Or.inr rfl) ?_
                                        intro _
                                        refine g_if_eq (tgt := 57) rfl (by decide) (fun hx => absurd hx (by omega)) (fun _ => ?_)
                                        refine g_aload_n rfl rfl ?_
                                        refine g_iload_n rfl rfl ?_
                                        refine g_iV (as := [tI (k % 100)]) mX12_isAddress_ok rfl rfl rfl rfl rfl rfl (by decide) rfl rfl rfl ?_
                                        refine g_iload_n rfl rfl ?_
                                        refine g_iconst rfl ⟨by decide, by decide⟩ ?_
                                        refine g_aload_n rfl rfl ?_
                                        refine x_geti (v := (μ.1 207 0)) rfl rfl (by decide) (Or.inl rfl) rfl ?_
                                        refine g_iconst rfl ⟨by decide, by decide⟩ ?_
                                        refine x_isub (z := (μ.1 207 0) - 1) rfl (by omega) ⟨by omega, by omega⟩ ?_
                                        refine g_iS (as := [tI (k % 100), tI 0, tI ((μ.1 207 0) - 1)]) mX12_in_ok rfl rfl rfl rfl rfl rfl rfl ?_
                                        refine g_iload_n rfl rfl ?_
                                        refine g_iload_n rfl rfl ?_
                                        refine g_icmp_lt (tgt := 14) rfl (by decide) (fun hx => absurd hx (by omega)) (fun _ => ?_)
                                        refine g_iload_n rfl rfl ?_
                                        refine g_iload_n rfl rfl ?_
                                        refine g_icmp_gt (tgt := 14) rfl (by decide) (fun _ => ?_) (fun hx => absurd hx (by omega))
                                        refine g_iconst rfl ⟨by decide, by decide⟩ ?_
                                        refine x_zreturn rfl rfl (Or.inl rfl) ?_
                                        intro _
                                        refine x_zreturn rfl rfl (Or.inl rfl) ?_
                                        intro _
                                        refine g_if_ne (tgt := 60) rfl (by decide) (fun hx => absurd hx (by omega)) (fun _ => ?_)
                                        refine g_bipush rfl ⟨by decide, by decide⟩ (by decide) ?_
                                        refine x_ireturn rfl rfl ?_
                                        exact ⟨(by first | rfl | exact congrArg (fun z => some (tI z)) ((congrArg (μ.1 207) (by omega)).trans hCs.symm) | exact congrArg (fun z => some (tI z)) ((congrArg (μ.1 207) (by omega)).trans (hCr _ (by omega) (by omega)).symm) | exact congrArg (fun z => some (tI z)) ((congrArg (μ.1 207) (by omega)).trans (hCk _ (by omega) (by omega)).symm) | exact congrArg (fun z => some (tI z)) ((congrArg (μ.1 207) (by omega)).trans (hCt _ (by omega) (by omega)).symm) | exact congrArg (fun z => some (tI z)) ((congrArg (μ.1 207) (by omega)).trans (hCm _ (by omega) (by omega)).symm)), (tp_R_kp hR (tp_kp_pi (by decide) (tp_kp_pi (by decide) (tp_kp_pi (by decide) tp_kp_rf))))⟩
                                  · first
                                      | omega
                                      | refine g_iload_n rfl rfl ?_
                                        refine g_bipush rfl ⟨by decide, by decide⟩ (by decide) ?_
                                        refine g_icmp_ge (tgt := 22) rfl (by decide) (fun hx => absurd hx (by omega)) (fun _ => ?_)
                                        refine g_iconst rfl ⟨by decide, by decide⟩ ?_
                                        refine g_goto (tgt := 23) rfl (by decide) ?_
                                        refine x_zreturn rfl rfl (Or.inr rfl) ?_
                                        intro _
                                        refine g_if_ne (tgt := 55) rfl (by decide) (fun _ => ?_) (fun hx => absurd hx (by omega))
                                        refine g_iload_n rfl rfl ?_
                                        refine g_bipush rfl ⟨by decide, by decide⟩ (by decide) ?_
                                        refine x_irem rfl (by omega) (by omega) ?_
                                        refine g_istore_n rfl rfl rfl ?_
                                        refine g_iload_n rfl rfl ?_
                                        refine g_sipush rfl ⟨by decide, by decide⟩ (by decide) ?_
                                        refine g_icmp_ge (tgt := 73) rfl (by decide) (fun h8 => ?_) (fun h8 => ?_)
                                        · first
                                            | omega
                                            | refine g_iload_n rfl rfl ?_
                                              refine g_sipush rfl ⟨by decide, by decide⟩ (by decide) ?_
                                              refine g_icmp_ge (tgt := 88) rfl (by decide) (fun h9 => ?_) (fun h9 => ?_)
                                              · first
                                                  | omega
                                                  | refine g_aload_n rfl rfl ?_
                                                    refine x_getF (r := 9) hG rfl rfl (by decide) (Or.inr ⟨_, rfl⟩) rfl ?_
                                                    refine g_iload_n rfl rfl ?_
                                                    refine x_iald (v := (μ.1 9 (k % 100))) rfl rfl (by decide) (by omega) (by omega) rfl ?_
                                                    refine x_ireturn rfl rfl ?_
                                                    intro _
                                                    refine x_ireturn rfl rfl ?_
                                                    refine ⟨_, rfl, ?_⟩
                                                    refine tp_ok_of mX12_code_ok rfl (Nat.le_refl _) ?_
                                                    refine g_aload_n rfl rfl ?_
                                                    refine g_iconst rfl ⟨by decide, by decide⟩ ?_
                                                    refine g_puti rfl rfl (by decide) rfl rfl ?_
                                                    refine g_aload_n rfl rfl ?_
                                                    refine g_iload_n rfl rfl ?_
                                                    refine g_iV (as := [tI 0]) mX12_hasCode_ok rfl rfl rfl rfl rfl rfl (by decide) rfl rfl rfl ?_
                                                    refine g_aload_n rfl rfl ?_
                                                    refine g_iload_n rfl rfl ?_
                                                    refine g_puti rfl rfl (by decide) rfl rfl ?_
                                                    refine g_aload_n rfl rfl ?_
                                                    refine g_iconst rfl ⟨by decide, by decide⟩ ?_
                                                    refine g_iload_n rfl rfl ?_
                                                    refine g_iV (as := [tI 0, tI 0]) mX12_is_ok rfl rfl rfl rfl rfl rfl (by decide) rfl rfl rfl ?_
                                                    refine g_iload_n rfl rfl ?_
                                                    refine g_iconst rfl ⟨by decide, by decide⟩ ?_
                                                    refine g_aload_n rfl rfl ?_
                                                    refine x_getF (r := 206) hG rfl rfl (by decide) (Or.inr ⟨_, rfl⟩) rfl ?_
                                                    refine g_iload_n rfl rfl ?_
                                                    refine x_iald (v := (μ.1 206 0)) rfl rfl (by decide) (by decide) (by decide) rfl ?_
                                                    refine g_iconst rfl ⟨by decide, by decide⟩ ?_
                                                    refine x_isub (z := (μ.1 206 0) - 1) rfl (by omega) ⟨by omega, by omega⟩ ?_
                                                    refine g_iS (as := [tI 0, tI 0, tI ((μ.1 206 0) - 1)]) mX12_in_ok rfl rfl rfl rfl rfl rfl rfl ?_
                                                    refine g_iload_n rfl rfl ?_
                                                    refine g_iload_n rfl rfl ?_
                                                    refine g_icmp_lt (tgt := 14) rfl (by decide) (fun hx => absurd hx (by omega)) (fun _ => ?_)
                                                    refine g_iload_n rfl rfl ?_
                                                    refine g_iload_n rfl rfl ?_
                                                    refine g_icmp_gt (tgt := 14) rfl (by decide) (fun hx => absurd hx (by omega)) (fun _ => ?_)
                                                    refine g_iconst rfl ⟨by decide, by decide⟩ ?_
                                                    refine g_goto (tgt := 15) rfl (by decide) ?_
                                                    refine x_zreturn rfl rfl (Or.inr rfl) ?_
                                                    intro _
                                                    refine x_zreturn rfl rfl (Or.inr rfl) ?_
                                                    intro _
                                                    refine g_if_ne (tgt := 16) rfl (by decide) (fun _ => ?_) (fun hx => absurd hx (by omega))
                                                    refine g_aload_n rfl rfl ?_
                                                    refine g_aload_n rfl rfl ?_
                                                    refine g_iconst rfl ⟨by decide, by decide⟩ ?_
                                                    refine g_iV (as := [tI 0]) mX12_of_ok rfl rfl rfl rfl rfl rfl (by decide) rfl rfl rfl ?_
                                                    refine g_aload_n rfl rfl ?_
                                                    refine x_getF (r := 207) hG rfl rfl (by decide) (Or.inr ⟨_, rfl⟩) rfl ?_
                                                    refine g_sipush rfl ⟨by decide, by decide⟩ (by decide) ?_
                                                    refine g_aload_n rfl rfl ?_
                                                    refine x_geti (v := 0) rfl rfl (by decide) (Or.inl rfl) rfl ?_
                                                    refine x_imul (z := 0) rfl (by omega) ⟨by omega, by omega⟩ ?_
                                                    refine g_iload_n rfl rfl ?_
                                                    refine x_iadd (z := 0) rfl (by omega) ⟨by omega, by omega⟩ ?_
                                                    refine x_iald (v := (μ.1 207 0)) rfl rfl (by decide) (by decide) (by decide) rfl ?_
                                                    refine x_ireturn rfl rfl ?_
                                                    intro _
                                                    refine g_puti rfl rfl (by decide) rfl rfl ?_
                                                    refine g_iconst rfl ⟨by decide, by decide⟩ ?_
                                                    refine x_zreturn rfl rfl (Or.inr rfl) ?_
                                                    intro _
                                                    refine g_if_eq (tgt := 17) rfl (by decide) (fun hx => absurd hx (by omega)) (fun _ => ?_)
                                                    refine g_iload_n rfl rfl ?_
                                                    refine g_if_ge (tgt := 20) rfl (by decide) (fun _ => ?_) (fun hx => absurd hx (by omega))
                                                    refine g_iload_n rfl rfl ?_
                                                    refine g_bipush rfl ⟨by decide, by decide⟩ (by decide) ?_
                                                    refine g_icmp_gt (tgt := 32) rfl (by decide) (fun _ => ?_) (fun hx => absurd hx (by omega))
                                                    refine g_iload_n rfl rfl ?_
                                                    refine g_bipush rfl ⟨by decide, by decide⟩ (by decide) ?_
                                                    refine x_irem rfl (by omega) (by omega) ?_
                                                    refine g_istore_n rfl rfl rfl ?_
                                                    refine g_iload_n rfl rfl ?_
                                                    refine g_bipush rfl ⟨by decide, by decide⟩ (by decide) ?_
                                                    refine g_sipush rfl ⟨by decide, by decide⟩ (by decide) ?_
                                                    refine g_iS (as := [tI k, tI 100, tI 399]) mX12_in_ok rfl rfl rfl rfl rfl rfl rfl ?_
                                                    refine g_iload_n rfl rfl ?_
                                                    refine g_iload_n rfl rfl ?_
                                                    refine g_icmp_lt (tgt := 14) rfl (by decide) (fun hx => absurd hx (by omega)) (fun _ => ?_)
                                                    refine g_iload_n rfl rfl ?_
                                                    refine g_iload_n rfl rfl ?_
                                                    refine g_icmp_gt (tgt := 14) rfl (by decide) (fun hx => absurd hx (by omega)) (fun _ => ?_)
                                                    refine g_iconst rfl ⟨by decide, by decide⟩ ?_
                                                    refine g_goto (tgt := 15) rfl (by decide) ?_
                                                    refine x_zreturn rfl rfl (Or.inr rfl) ?_
                                                    intro _
                                                    refine g_if_eq (tgt := 57) rfl (by decide) (fun hx => absurd hx (by omega)) (fun _ => ?_)
                                                    refine g_aload_n rfl rfl ?_
                                                    refine g_iload_n rfl rfl ?_
                                                    refine g_iV (as := [tI (k % 100)]) mX12_isAddress_ok rfl rfl rfl rfl rfl rfl (by decide) rfl rfl rfl ?_
                                                    refine g_iload_n rfl rfl ?_
                                                    refine g_iconst rfl ⟨by decide, by decide⟩ ?_
                                                    refine g_aload_n rfl rfl ?_
                                                    refine x_geti (v := (μ.1 207 0)) rfl rfl (by decide) (Or.inl rfl) rfl ?_
                                                    refine g_iconst rfl ⟨by decide, by decide⟩ ?_
                                                    refine x_isub (z := (μ.1 207 0) - 1) rfl (by omega) ⟨by omega, by omega⟩ ?_
                                                    refine g_iS (as := [tI (k % 100), tI 0, tI ((μ.1 207 0) - 1)]) mX12_in_ok rfl rfl rfl rfl rfl rfl rfl ?_
                                                    refine g_iload_n rfl rfl ?_
                                                    refine g_iload_n rfl rfl ?_
                                                    refine g_icmp_lt (tgt := 14) rfl (by decide) (fun hx => absurd hx (by omega)) (fun _ => ?_)
                                                    refine g_iload_n rfl rfl ?_
                                                    refine g_iload_n rfl rfl ?_
                                                    refine g_icmp_gt (tgt := 14) rfl (by decide) (fun hx => absurd hx (by omega)) (fun _ => ?_)
                                                    refine g_iconst rfl ⟨by decide, by decide⟩ ?_
                                                    refine g_goto (tgt := 15) rfl (by decide) ?_
                                                    refine x_zreturn rfl rfl (Or.inr rfl) ?_
                                                    intro _
                                                    refine x_zreturn rfl rfl (Or.inr rfl) ?_
                                                    intro _
                                                    refine g_if_ne (tgt := 60) rfl (by decide) (fun _ => ?_) (fun hx => absurd hx (by omega))
                                                    refine g_aload_n rfl rfl ?_
                                                    refine g_iload_n rfl rfl ?_
                                                    refine g_sipush rfl ⟨by decide, by decide⟩ (by decide) ?_
                                                    refine g_icmp_ge (tgt := 73) rfl (by decide) (fun _ => ?_) (fun hx => absurd hx (by omega))
                                                    refine g_iload_n rfl rfl ?_
                                                    refine g_sipush rfl ⟨by decide, by decide⟩ (by decide) ?_
                                                    refine g_icmp_ge (tgt := 85) rfl (by decide) (fun _ => ?_) (fun hx => absurd hx (by omega))
                                                    refine g_bipush rfl ⟨by decide, by decide⟩ (by decide) ?_
                                                    refine g_iload_n rfl rfl ?_
                                                    refine x_iadd (z := (k % 100) + 89) rfl (by omega) ⟨by omega, by omega⟩ ?_
                                                    refine g_iV (as := [tI ((k % 100) + 89)]) mX12_of_ok rfl rfl rfl rfl rfl rfl (by decide) rfl rfl rfl ?_
                                                    refine g_aload_n rfl rfl ?_
                                                    refine x_getF (r := 207) hG rfl rfl (by decide) (Or.inr ⟨_, rfl⟩) rfl ?_
                                                    refine g_sipush rfl ⟨by decide, by decide⟩ (by decide) ?_
                                                    refine g_aload_n rfl rfl ?_
                                                    refine x_geti (v := 0) rfl rfl (by decide) (Or.inl rfl) rfl ?_
                                                    refine x_imul (z := 0) rfl (by omega) ⟨by omega, by omega⟩ ?_
                                                    refine g_iload_n rfl rfl ?_
                                                    refine x_iadd (z := (k % 100) + 89) rfl (by omega) ⟨by omega, by omega⟩ ?_
                                                    refine x_iald (v := (μ.1 207 ((k % 100) + 89))) rfl rfl (by decide) (by omega) (by omega) rfl ?_
                                                    refine x_ireturn rfl rfl ?_
                                                    intro _
                                                    refine x_ireturn rfl rfl ?_
                                                    exact ⟨(by first | rfl | exact congrArg (fun z => some (tI z)) ((congrArg (μ.1 207) (by omega)).trans hCs.symm) | exact congrArg (fun z => some (tI z)) ((congrArg (μ.1 207) (by omega)).trans (hCr _ (by omega) (by omega)).symm) | exact congrArg (fun z => some (tI z)) ((congrArg (μ.1 207) (by omega)).trans (hCk _ (by omega) (by omega)).symm) | exact congrArg (fun z => some (tI z)) ((congrArg (μ.1 207) (by omega)).trans (hCt _ (by omega) (by omega)).symm) | exact congrArg (fun z => some (tI z)) ((congrArg (μ.1 207) (by omega)).trans (hCm _ (by omega) (by omega)).symm)), (tp_R_kp hR (tp_kp_pi (by decide) (tp_kp_pi (by decide) (tp_kp_pi (by decide) tp_kp_rf))))⟩
                                              · first
                                                  | omega
                                                  | refine g_aload_n rfl rfl ?_
                                                    refine g_iload_n rfl rfl ?_
                                                    refine g_iV (as := [tI (k % 100)]) mX0_targetAt_ok rfl rfl rfl rfl rfl rfl (by decide) rfl rfl rfl ?_
                                                    refine g_aload_n rfl rfl ?_
                                                    refine g_iload_n rfl rfl ?_
                                                    refine g_iV (as := [tI (k % 100)]) mX0_has_ok rfl rfl rfl rfl rfl rfl (by decide) rfl rfl rfl ?_
                                                    refine g_iload_n rfl rfl ?_
                                                    refine g_if_lt (tgt := 22) rfl (by decide) (fun hx => absurd hx (by omega)) (fun _ => ?_)
                                                    refine g_iload_n rfl rfl ?_
                                                    refine g_aload_n rfl rfl ?_
                                                    refine x_geti (v := (μ.1 6 4)) rfl rfl (by decide) (Or.inl rfl) rfl ?_
                                                    refine g_icmp_ge (tgt := 22) rfl (by decide) (fun hx => absurd hx (by omega)) (fun _ => ?_)
                                                    refine g_iload_n rfl rfl ?_
                                                    refine g_bipush rfl ⟨by decide, by decide⟩ (by decide) ?_
                                                    refine g_icmp_ge (tgt := 22) rfl (by decide) (fun hx => absurd hx (by omega)) (fun _ => ?_)
                                                    refine g_iconst rfl ⟨by decide, by decide⟩ ?_
                                                    refine g_goto (tgt := 23) rfl (by decide) ?_
                                                    refine x_zreturn rfl rfl (Or.inr rfl) ?_
                                                    intro _
                                                    refine g_if_eq (tgt := 17) rfl (by decide) (fun hx => absurd hx (by omega)) (fun _ => ?_)
                                                    refine g_aload_n rfl rfl ?_
                                                    refine x_getF (r := 8) hG rfl rfl (by decide) (Or.inr ⟨_, rfl⟩) rfl ?_
                                                    refine g_iload_n rfl rfl ?_
                                                    refine x_iald (v := (μ.1 8 (k % 100))) rfl rfl (by decide) (by omega) (by omega) rfl ?_
                                                    refine g_goto (tgt := 18) rfl (by decide) ?_
                                                    refine x_ireturn rfl rfl ?_
                                                    intro _
                                                    refine g_goto (tgt := 94) rfl (by decide) ?_
                                                    refine x_ireturn rfl rfl ?_
                                                    intro _
                                                    refine x_ireturn rfl rfl ?_
                                                    refine ⟨_, rfl, ?_⟩
                                                    refine tp_ok_of mX12_code_ok rfl (Nat.le_refl _) ?_
                                                    refine g_aload_n rfl rfl ?_
                                                    refine g_iconst rfl ⟨by decide, by decide⟩ ?_
                                                    refine g_puti rfl rfl (by decide) rfl rfl ?_
                                                    refine g_aload_n rfl rfl ?_
                                                    refine g_iload_n rfl rfl ?_
                                                    refine g_iV (as := [tI 0]) mX12_hasCode_ok rfl rfl rfl rfl rfl rfl (by decide) rfl rfl rfl ?_
                                                    refine g_aload_n rfl rfl ?_
                                                    refine g_iload_n rfl rfl ?_
                                                    refine g_puti rfl rfl (by decide) rfl rfl ?_
                                                    refine g_aload_n rfl rfl ?_
                                                    refine g_iconst rfl ⟨by decide, by decide⟩ ?_
                                                    refine g_iload_n rfl rfl ?_
                                                    refine g_iV (as := [tI 0, tI 0]) mX12_is_ok rfl rfl rfl rfl rfl rfl (by decide) rfl rfl rfl ?_
                                                    refine g_iload_n rfl rfl ?_
                                                    refine g_iconst rfl ⟨by decide, by decide⟩ ?_
                                                    refine g_aload_n rfl rfl ?_
                                                    refine x_getF (r := 206) hG rfl rfl (by decide) (Or.inr ⟨_, rfl⟩) rfl ?_
                                                    refine g_iload_n rfl rfl ?_
                                                    refine x_iald (v := (μ.1 206 0)) rfl rfl (by decide) (by decide) (by decide) rfl ?_
                                                    refine g_iconst rfl ⟨by decide, by decide⟩ ?_
                                                    refine x_isub (z := (μ.1 206 0) - 1) rfl (by omega) ⟨by omega, by omega⟩ ?_
                                                    refine g_iS (as := [tI 0, tI 0, tI ((μ.1 206 0) - 1)]) mX12_in_ok rfl rfl rfl rfl rfl rfl rfl ?_
                                                    refine g_iload_n rfl rfl ?_
                                                    refine g_iload_n rfl rfl ?_
                                                    refine g_icmp_lt (tgt := 14) rfl (by decide) (fun hx => absurd hx (by omega)) (fun _ => ?_)
                                                    refine g_iload_n rfl rfl ?_
                                                    refine g_iload_n rfl rfl ?_
                                                    refine g_icmp_gt (tgt := 14) rfl (by decide) (fun hx => absurd hx (by omega)) (fun _ => ?_)
                                                    refine g_iconst rfl ⟨by decide, by decide⟩ ?_
                                                    refine g_goto (tgt := 15) rfl (by decide) ?_
                                                    refine x_zreturn rfl rfl (Or.inr rfl) ?_
                                                    intro _
                                                    refine x_zreturn rfl rfl (Or.inr rfl) ?_
                                                    intro _
                                                    refine g_if_ne (tgt := 16) rfl (by decide) (fun _ => ?_) (fun hx => absurd hx (by omega))
                                                    refine g_aload_n rfl rfl ?_
                                                    refine g_aload_n rfl rfl ?_
                                                    refine g_iconst rfl ⟨by decide, by decide⟩ ?_
                                                    refine g_iV (as := [tI 0]) mX12_of_ok rfl rfl rfl rfl rfl rfl (by decide) rfl rfl rfl ?_
                                                    refine g_aload_n rfl rfl ?_
                                                    refine x_getF (r := 207) hG rfl rfl (by decide) (Or.inr ⟨_, rfl⟩) rfl ?_
                                                    refine g_sipush rfl ⟨by decide, by decide⟩ (by decide) ?_
                                                    refine g_aload_n rfl rfl ?_
                                                    refine x_geti (v := 0) rfl rfl (by decide) (Or.inl rfl) rfl ?_
                                                    refine x_imul (z := 0) rfl (by omega) ⟨by omega, by omega⟩ ?_
                                                    refine g_iload_n rfl rfl ?_
                                                    refine x_iadd (z := 0) rfl (by omega) ⟨by omega, by omega⟩ ?_
                                                    refine x_iald (v := (μ.1 207 0)) rfl rfl (by decide) (by decide) (by decide) rfl ?_
                                                    refine x_ireturn rfl rfl ?_
                                                    intro _
                                                    refine g_puti rfl rfl (by decide) rfl rfl ?_
                                                    refine g_iconst rfl ⟨by decide, by decide⟩ ?_
                                                    refine x_zreturn rfl rfl (Or.inr rfl) ?_
                                                    intro _
                                                    refine g_if_eq (tgt := 17) rfl (by decide) (fun hx => absurd hx (by omega)) (fun _ => ?_)
                                                    refine g_iload_n rfl rfl ?_
                                                    refine g_if_ge (tgt := 20) rfl (by decide) (fun _ => ?_) (fun hx => absurd hx (by omega))
                                                    refine g_iload_n rfl rfl ?_
                                                    refine g_bipush rfl ⟨by decide, by decide⟩ (by decide) ?_
                                                    refine g_icmp_gt (tgt := 32) rfl (by decide) (fun _ => ?_) (fun hx => absurd hx (by omega))
                                                    refine g_iload_n rfl rfl ?_
                                                    refine g_bipush rfl ⟨by decide, by decide⟩ (by decide) ?_
                                                    refine x_irem rfl (by omega) (by omega) ?_
                                                    refine g_istore_n rfl rfl rfl ?_
                                                    refine g_iload_n rfl rfl ?_
                                                    refine g_bipush rfl ⟨by decide, by decide⟩ (by decide) ?_
                                                    refine g_sipush rfl ⟨by decide, by decide⟩ (by decide) ?_
                                                    refine g_iS (as := [tI k, tI 100, tI 399]) mX12_in_ok rfl rfl rfl rfl rfl rfl rfl ?_
                                                    refine g_iload_n rfl rfl ?_
                                                    refine g_iload_n rfl rfl ?_
                                                    refine g_icmp_lt (tgt := 14) rfl (by decide) (fun hx => absurd hx (by omega)) (fun _ => ?_)
                                                    refine g_iload_n rfl rfl ?_
                                                    refine g_iload_n rfl rfl ?_
                                                    refine g_icmp_gt (tgt := 14) rfl (by decide) (fun hx => absurd hx (by omega)) (fun _ => ?_)
                                                    refine g_iconst rfl ⟨by decide, by decide⟩ ?_
                                                    refine g_goto (tgt := 15) rfl (by decide) ?_
                                                    refine x_zreturn rfl rfl (Or.inr rfl) ?_
                                                    intro _
                                                    refine g_if_eq (tgt := 57) rfl (by decide) (fun hx => absurd hx (by omega)) (fun _ => ?_)
                                                    refine g_aload_n rfl rfl ?_
                                                    refine g_iload_n rfl rfl ?_
                                                    refine g_iV (as := [tI (k % 100)]) mX12_isAddress_ok rfl rfl rfl rfl rfl rfl (by decide) rfl rfl rfl ?_
                                                    refine g_iload_n rfl rfl ?_
                                                    refine g_iconst rfl ⟨by decide, by decide⟩ ?_
                                                    refine g_aload_n rfl rfl ?_
                                                    refine x_geti (v := (μ.1 207 0)) rfl rfl (by decide) (Or.inl rfl) rfl ?_
                                                    refine g_iconst rfl ⟨by decide, by decide⟩ ?_
                                                    refine x_isub (z := (μ.1 207 0) - 1) rfl (by omega) ⟨by omega, by omega⟩ ?_
                                                    refine g_iS (as := [tI (k % 100), tI 0, tI ((μ.1 207 0) - 1)]) mX12_in_ok rfl rfl rfl rfl rfl rfl rfl ?_
                                                    refine g_iload_n rfl rfl ?_
                                                    refine g_iload_n rfl rfl ?_
                                                    refine g_icmp_lt (tgt := 14) rfl (by decide) (fun hx => absurd hx (by omega)) (fun _ => ?_)
                                                    refine g_iload_n rfl rfl ?_
                                                    refine g_iload_n rfl rfl ?_
                                                    refine g_icmp_gt (tgt := 14) rfl (by decide) (fun hx => absurd hx (by omega)) (fun _ => ?_)
                                                    refine g_iconst rfl ⟨by decide, by decide⟩ ?_
                                                    refine g_goto (tgt := 15) rfl (by decide) ?_
                                                    refine x_zreturn rfl rfl (Or.inr rfl) ?_
                                                    intro _
                                                    refine x_zreturn rfl rfl (Or.inr rfl) ?_
                                                    intro _
                                                    refine g_if_ne (tgt := 60) rfl (by decide) (fun _ => ?_) (fun hx => absurd hx (by omega))
                                                    refine g_aload_n rfl rfl ?_
                                                    refine g_iload_n rfl rfl ?_
                                                    refine g_sipush rfl ⟨by decide, by decide⟩ (by decide) ?_
                                                    refine g_icmp_ge (tgt := 73) rfl (by decide) (fun _ => ?_) (fun hx => absurd hx (by omega))
                                                    refine g_iload_n rfl rfl ?_
                                                    refine g_sipush rfl ⟨by decide, by decide⟩ (by decide) ?_
                                                    refine g_icmp_ge (tgt := 85) rfl (by decide) (fun hx => absurd hx (by omega)) (fun _ => ?_)
                                                    refine g_bipush rfl ⟨by decide, by decide⟩ (by decide) ?_
                                                    refine g_goto (tgt := 87) rfl (by decide) ?_
                                                    refine g_iload_n rfl rfl ?_
                                                    refine x_iadd (z := (k % 100) + 49) rfl (by omega) ⟨by omega, by omega⟩ ?_
                                                    refine g_iV (as := [tI ((k % 100) + 49)]) mX12_of_ok rfl rfl rfl rfl rfl rfl (by decide) rfl rfl rfl ?_
                                                    refine g_aload_n rfl rfl ?_
                                                    refine x_getF (r := 207) hG rfl rfl (by decide) (Or.inr ⟨_, rfl⟩) rfl ?_
                                                    refine g_sipush rfl ⟨by decide, by decide⟩ (by decide) ?_
                                                    refine g_aload_n rfl rfl ?_
                                                    refine x_geti (v := 0) rfl rfl (by decide) (Or.inl rfl) rfl ?_
                                                    refine x_imul (z := 0) rfl (by omega) ⟨by omega, by omega⟩ ?_
                                                    refine g_iload_n rfl rfl ?_
                                                    refine x_iadd (z := (k % 100) + 49) rfl (by omega) ⟨by omega, by omega⟩ ?_
                                                    refine x_iald (v := (μ.1 207 ((k % 100) + 49))) rfl rfl (by decide) (by omega) (by omega) rfl ?_
                                                    refine x_ireturn rfl rfl ?_
                                                    intro _
                                                    refine x_ireturn rfl rfl ?_
                                                    exact ⟨(by first | rfl | exact congrArg (fun z => some (tI z)) ((congrArg (μ.1 207) (by omega)).trans hCs.symm) | exact congrArg (fun z => some (tI z)) ((congrArg (μ.1 207) (by omega)).trans (hCr _ (by omega) (by omega)).symm) | exact congrArg (fun z => some (tI z)) ((congrArg (μ.1 207) (by omega)).trans (hCk _ (by omega) (by omega)).symm) | exact congrArg (fun z => some (tI z)) ((congrArg (μ.1 207) (by omega)).trans (hCt _ (by omega) (by omega)).symm) | exact congrArg (fun z => some (tI z)) ((congrArg (μ.1 207) (by omega)).trans (hCm _ (by omega) (by omega)).symm)), (tp_R_kp hR (tp_kp_pi (by decide) (tp_kp_pi (by decide) (tp_kp_pi (by decide) tp_kp_rf))))⟩
                                        · first
                                            | omega
                                            | refine g_aload_n rfl rfl ?_
                                              refine g_iload_n rfl rfl ?_
                                              refine g_iV (as := [tI (k % 100)]) mX0_kindAt_ok rfl rfl rfl rfl rfl rfl (by decide) rfl rfl rfl ?_
                                              refine g_aload_n rfl rfl ?_
                                              refine g_iload_n rfl rfl ?_
                                              refine g_iV (as := [tI (k % 100)]) mX0_has_ok rfl rfl rfl rfl rfl rfl (by decide) rfl rfl rfl ?_
                                              refine g_iload_n rfl rfl ?_
                                              refine g_if_lt (tgt := 22) rfl (by decide) (fun hx => absurd hx (by omega)) (fun _ => ?_)
                                              refine g_iload_n rfl rfl ?_
                                              refine g_aload_n rfl rfl ?_
                                              refine x_geti (v := (μ.1 6 4)) rfl rfl (by decide) (Or.inl rfl) rfl ?_
                                              refine g_icmp_ge (tgt := 22) rfl (by decide) (fun hx => absurd hx (by omega)) (fun _ => ?_)
                                              refine g_iload_n rfl rfl ?_
                                              refine g_bipush rfl ⟨by decide, by decide⟩ (by decide) ?_
                                              refine g_icmp_ge (tgt := 22) rfl (by decide) (fun hx => absurd hx (by omega)) (fun _ => ?_)
                                              refine g_iconst rfl ⟨by decide, by decide⟩ ?_
                                              refine g_goto (tgt := 23) rfl (by decide) ?_
                                              refine x_zreturn rfl rfl (Or.inr rfl) ?_
                                              intro _
                                              refine g_if_eq (tgt := 17) rfl (by decide) (fun hx => absurd hx (by omega)) (fun _ => ?_)
                                              refine g_aload_n rfl rfl ?_
                                              refine x_getF (r := 7) hG rfl rfl (by decide) (Or.inr ⟨_, rfl⟩) rfl ?_
                                              refine g_iload_n rfl rfl ?_
                                              refine x_iald (v := (μ.1 7 (k % 100))) rfl rfl (by decide) (by omega) (by omega) rfl ?_
                                              refine g_goto (tgt := 18) rfl (by decide) ?_
                                              refine x_ireturn rfl rfl ?_
                                              intro _
                                              refine x_ireturn rfl rfl ?_
                                              intro _
                                              refine x_ireturn rfl rfl ?_
                                              refine ⟨_, rfl, ?_⟩
                                              refine tp_ok_of mX12_code_ok rfl (Nat.le_refl _) ?_
                                              refine g_aload_n rfl rfl ?_
                                              refine g_iconst rfl ⟨by decide, by decide⟩ ?_
                                              refine g_puti rfl rfl (by decide) rfl rfl ?_
                                              refine g_aload_n rfl rfl ?_
                                              refine g_iload_n rfl rfl ?_
                                              refine g_iV (as := [tI 0]) mX12_hasCode_ok rfl rfl rfl rfl rfl rfl (by decide) rfl rfl rfl ?_
                                              refine g_aload_n rfl rfl ?_
                                              refine g_iload_n rfl rfl ?_
                                              refine g_puti rfl rfl (by decide) rfl rfl ?_
                                              refine g_aload_n rfl rfl ?_
                                              refine g_iconst rfl ⟨by decide, by decide⟩ ?_
                                              refine g_iload_n rfl rfl ?_
                                              refine g_iV (as := [tI 0, tI 0]) mX12_is_ok rfl rfl rfl rfl rfl rfl (by decide) rfl rfl rfl ?_
                                              refine g_iload_n rfl rfl ?_
                                              refine g_iconst rfl ⟨by decide, by decide⟩ ?_
                                              refine g_aload_n rfl rfl ?_
                                              refine x_getF (r := 206) hG rfl rfl (by decide) (Or.inr ⟨_, rfl⟩) rfl ?_
                                              refine g_iload_n rfl rfl ?_
                                              refine x_iald (v := (μ.1 206 0)) rfl rfl (by decide) (by decide) (by decide) rfl ?_
                                              refine g_iconst rfl ⟨by decide, by decide⟩ ?_
                                              refine x_isub (z := (μ.1 206 0) - 1) rfl (by omega) ⟨by omega, by omega⟩ ?_
                                              refine g_iS (as := [tI 0, tI 0, tI ((μ.1 206 0) - 1)]) mX12_in_ok rfl rfl rfl rfl rfl rfl rfl ?_
                                              refine g_iload_n rfl rfl ?_
                                              refine g_iload_n rfl rfl ?_
                                              refine g_icmp_lt (tgt := 14) rfl (by decide) (fun hx => absurd hx (by omega)) (fun _ => ?_)
                                              refine g_iload_n rfl rfl ?_
                                              refine g_iload_n rfl rfl ?_
                                              refine g_icmp_gt (tgt := 14) rfl (by decide) (fun hx => absurd hx (by omega)) (fun _ => ?_)
                                              refine g_iconst rfl ⟨by decide, by decide⟩ ?_
                                              refine g_goto (tgt := 15) rfl (by decide) ?_
                                              refine x_zreturn rfl rfl (Or.inr rfl) ?_
                                              intro _
                                              refine x_zreturn rfl rfl (Or.inr rfl) ?_
                                              intro _
                                              refine g_if_ne (tgt := 16) rfl (by decide) (fun _ => ?_) (fun hx => absurd hx (by omega))
                                              refine g_aload_n rfl rfl ?_
                                              refine g_aload_n rfl rfl ?_
                                              refine g_iconst rfl ⟨by decide, by decide⟩ ?_
                                              refine g_iV (as := [tI 0]) mX12_of_ok rfl rfl rfl rfl rfl rfl (by decide) rfl rfl rfl ?_
                                              refine g_aload_n rfl rfl ?_
                                              refine x_getF (r := 207) hG rfl rfl (by decide) (Or.inr ⟨_, rfl⟩) rfl ?_
                                              refine g_sipush rfl ⟨by decide, by decide⟩ (by decide) ?_
                                              refine g_aload_n rfl rfl ?_
                                              refine x_geti (v := 0) rfl rfl (by decide) (Or.inl rfl) rfl ?_
                                              refine x_imul (z := 0) rfl (by omega) ⟨by omega, by omega⟩ ?_
                                              refine g_iload_n rfl rfl ?_
                                              refine x_iadd (z := 0) rfl (by omega) ⟨by omega, by omega⟩ ?_
                                              refine x_iald (v := (μ.1 207 0)) rfl rfl (by decide) (by decide) (by decide) rfl ?_
                                              refine x_ireturn rfl rfl ?_
                                              intro _
                                              refine g_puti rfl rfl (by decide) rfl rfl ?_
                                              refine g_iconst rfl ⟨by decide, by decide⟩ ?_
                                              refine x_zreturn rfl rfl (Or.inr rfl) ?_
                                              intro _
                                              refine g_if_eq (tgt := 17) rfl (by decide) (fun hx => absurd hx (by omega)) (fun _ => ?_)
                                              refine g_iload_n rfl rfl ?_
                                              refine g_if_ge (tgt := 20) rfl (by decide) (fun _ => ?_) (fun hx => absurd hx (by omega))
                                              refine g_iload_n rfl rfl ?_
                                              refine g_bipush rfl ⟨by decide, by decide⟩ (by decide) ?_
                                              refine g_icmp_gt (tgt := 32) rfl (by decide) (fun _ => ?_) (fun hx => absurd hx (by omega))
                                              refine g_iload_n rfl rfl ?_
                                              refine g_bipush rfl ⟨by decide, by decide⟩ (by decide) ?_
                                              refine x_irem rfl (by omega) (by omega) ?_
                                              refine g_istore_n rfl rfl rfl ?_
                                              refine g_iload_n rfl rfl ?_
                                              refine g_bipush rfl ⟨by decide, by decide⟩ (by decide) ?_
                                              refine g_sipush rfl ⟨by decide, by decide⟩ (by decide) ?_
                                              refine g_iS (as := [tI k, tI 100, tI 399]) mX12_in_ok rfl rfl rfl rfl rfl rfl rfl ?_
                                              refine g_iload_n rfl rfl ?_
                                              refine g_iload_n rfl rfl ?_
                                              refine g_icmp_lt (tgt := 14) rfl (by decide) (fun hx => absurd hx (by omega)) (fun _ => ?_)
                                              refine g_iload_n rfl rfl ?_
                                              refine g_iload_n rfl rfl ?_
                                              refine g_icmp_gt (tgt := 14) rfl (by decide) (fun hx => absurd hx (by omega)) (fun _ => ?_)
                                              refine g_iconst rfl ⟨by decide, by decide⟩ ?_
                                              refine g_goto (tgt := 15) rfl (by decide) ?_
                                              refine x_zreturn rfl rfl (Or.inr rfl) ?_
                                              intro _
                                              refine g_if_eq (tgt := 57) rfl (by decide) (fun hx => absurd hx (by omega)) (fun _ => ?_)
                                              refine g_aload_n rfl rfl ?_
                                              refine g_iload_n rfl rfl ?_
                                              refine g_iV (as := [tI (k % 100)]) mX12_isAddress_ok rfl rfl rfl rfl rfl rfl (by decide) rfl rfl rfl ?_
                                              refine g_iload_n rfl rfl ?_
                                              refine g_iconst rfl ⟨by decide, by decide⟩ ?_
                                              refine g_aload_n rfl rfl ?_
                                              refine x_geti (v := (μ.1 207 0)) rfl rfl (by decide) (Or.inl rfl) rfl ?_
                                              refine g_iconst rfl ⟨by decide, by decide⟩ ?_
                                              refine x_isub (z := (μ.1 207 0) - 1) rfl (by omega) ⟨by omega, by omega⟩ ?_
                                              refine g_iS (as := [tI (k % 100), tI 0, tI ((μ.1 207 0) - 1)]) mX12_in_ok rfl rfl rfl rfl rfl rfl rfl ?_
                                              refine g_iload_n rfl rfl ?_
                                              refine g_iload_n rfl rfl ?_
                                              refine g_icmp_lt (tgt := 14) rfl (by decide) (fun hx => absurd hx (by omega)) (fun _ => ?_)
                                              refine g_iload_n rfl rfl ?_
                                              refine g_iload_n rfl rfl ?_
                                              refine g_icmp_gt (tgt := 14) rfl (by decide) (fun hx => absurd hx (by omega)) (fun _ => ?_)
                                              refine g_iconst rfl ⟨by decide, by decide⟩ ?_
                                              refine g_goto (tgt := 15) rfl (by decide) ?_
                                              refine x_zreturn rfl rfl (Or.inr rfl) ?_
                                              intro _
                                              refine x_zreturn rfl rfl (Or.inr rfl) ?_
                                              intro _
                                              refine g_if_ne (tgt := 60) rfl (by decide) (fun _ => ?_) (fun hx => absurd hx (by omega))
                                              refine g_aload_n rfl rfl ?_
                                              refine g_iload_n rfl rfl ?_
                                              refine g_sipush rfl ⟨by decide, by decide⟩ (by decide) ?_
                                              refine g_icmp_ge (tgt := 73) rfl (by decide) (fun hx => absurd hx (by omega)) (fun _ => ?_)
                                              refine g_bipush rfl ⟨by decide, by decide⟩ (by decide) ?_
                                              refine g_goto (tgt := 87) rfl (by decide) ?_
                                              refine g_iload_n rfl rfl ?_
                                              refine x_iadd (z := (k % 100) + 9) rfl (by omega) ⟨by omega, by omega⟩ ?_
                                              refine g_iV (as := [tI ((k % 100) + 9)]) mX12_of_ok rfl rfl rfl rfl rfl rfl (by decide) rfl rfl rfl ?_
                                              refine g_aload_n rfl rfl ?_
                                              refine x_getF (r := 207) hG rfl rfl (by decide) (Or.inr ⟨_, rfl⟩) rfl ?_
                                              refine g_sipush rfl ⟨by decide, by decide⟩ (by decide) ?_
                                              refine g_aload_n rfl rfl ?_
                                              refine x_geti (v := 0) rfl rfl (by decide) (Or.inl rfl) rfl ?_
                                              refine x_imul (z := 0) rfl (by omega) ⟨by omega, by omega⟩ ?_
                                              refine g_iload_n rfl rfl ?_
                                              refine x_iadd (z := (k % 100) + 9) rfl (by omega) ⟨by omega, by omega⟩ ?_
                                              refine x_iald (v := (μ.1 207 ((k % 100) + 9))) rfl rfl (by decide) (by omega) (by omega) rfl ?_
                                              refine x_ireturn rfl rfl ?_
                                              intro _
                                              refine x_ireturn rfl rfl ?_
                                              exact ⟨(by first | rfl | exact congrArg (fun z => some (tI z)) ((congrArg (μ.1 207) (by omega)).trans hCs.symm) | exact congrArg (fun z => some (tI z)) ((congrArg (μ.1 207) (by omega)).trans (hCr _ (by omega) (by omega)).symm) | exact congrArg (fun z => some (tI z)) ((congrArg (μ.1 207) (by omega)).trans (hCk _ (by omega) (by omega)).symm) | exact congrArg (fun z => some (tI z)) ((congrArg (μ.1 207) (by omega)).trans (hCt _ (by omega) (by omega)).symm) | exact congrArg (fun z => some (tI z)) ((congrArg (μ.1 207) (by omega)).trans (hCm _ (by omega) (by omega)).symm)), (tp_R_kp hR (tp_kp_pi (by decide) (tp_kp_pi (by decide) (tp_kp_pi (by decide) tp_kp_rf))))⟩
                · first
                    | omega
                    | refine g_aload_n rfl rfl ?_
                      refine g_iload_n rfl rfl ?_
                      refine g_iconst rfl ⟨by decide, by decide⟩ ?_
                      refine x_isub (z := k - 1) rfl (by omega) ⟨by omega, by omega⟩ ?_
                      refine g_iV (as := [tI (k - 1)]) mX0_rule_ok rfl rfl rfl rfl rfl rfl (by decide) rfl rfl rfl ?_
                      refine g_iload_n rfl rfl ?_
                      refine g_if_lt (tgt := 10) rfl (by decide) (fun hx => absurd hx (by omega)) (fun _ => ?_)
                      refine g_iload_n rfl rfl ?_
                      refine g_bipush rfl ⟨by decide, by decide⟩ (by decide) ?_
                      refine g_icmp_lt (tgt := 14) rfl (by decide) (fun _ => ?_) (fun hx => absurd hx (by omega))
                      refine g_aload_n rfl rfl ?_
                      refine x_getF (r := 10) hG rfl rfl (by decide) (Or.inr ⟨_, rfl⟩) rfl ?_
                      refine g_iload_n rfl rfl ?_
                      refine x_iald (v := (μ.1 10 (k - 1))) rfl rfl (by decide) (by omega) (by omega) rfl ?_
                      refine x_ireturn rfl rfl ?_
                      intro _
                      refine x_ireturn rfl rfl ?_
                      intro _
                      refine x_ireturn rfl rfl ?_
                      refine ⟨_, rfl, ?_⟩
                      refine tp_ok_of mX12_code_ok rfl (Nat.le_refl _) ?_
                      refine g_aload_n rfl rfl ?_
                      refine g_iconst rfl ⟨by decide, by decide⟩ ?_
                      refine g_puti rfl rfl (by decide) rfl rfl ?_
                      refine g_aload_n rfl rfl ?_
                      refine g_iload_n rfl rfl ?_
                      refine g_iV (as := [tI 0]) mX12_hasCode_ok rfl rfl rfl rfl rfl rfl (by decide) rfl rfl rfl ?_
                      refine g_aload_n rfl rfl ?_
                      refine g_iload_n rfl rfl ?_
                      refine g_puti rfl rfl (by decide) rfl rfl ?_
                      refine g_aload_n rfl rfl ?_
                      refine g_iconst rfl ⟨by decide, by decide⟩ ?_
                      refine g_iload_n rfl rfl ?_
                      refine g_iV (as := [tI 0, tI 0]) mX12_is_ok rfl rfl rfl rfl rfl rfl (by decide) rfl rfl rfl ?_
                      refine g_iload_n rfl rfl ?_
                      refine g_iconst rfl ⟨by decide, by decide⟩ ?_
                      refine g_aload_n rfl rfl ?_
                      refine x_getF (r := 206) hG rfl rfl (by decide) (Or.inr ⟨_, rfl⟩) rfl ?_
                      refine g_iload_n rfl rfl ?_
                      refine x_iald (v := (μ.1 206 0)) rfl rfl (by decide) (by decide) (by decide) rfl ?_
                      refine g_iconst rfl ⟨by decide, by decide⟩ ?_
                      refine x_isub (z := (μ.1 206 0) - 1) rfl (by omega) ⟨by omega, by omega⟩ ?_
                      refine g_iS (as := [tI 0, tI 0, tI ((μ.1 206 0) - 1)]) mX12_in_ok rfl rfl rfl rfl rfl rfl rfl ?_
                      refine g_iload_n rfl rfl ?_
                      refine g_iload_n rfl rfl ?_
                      refine g_icmp_lt (tgt := 14) rfl (by decide) (fun hx => absurd hx (by omega)) (fun _ => ?_)
                      refine g_iload_n rfl rfl ?_
                      refine g_iload_n rfl rfl ?_
                      refine g_icmp_gt (tgt := 14) rfl (by decide) (fun hx => absurd hx (by omega)) (fun _ => ?_)
                      refine g_iconst rfl ⟨by decide, by decide⟩ ?_
                      refine g_goto (tgt := 15) rfl (by decide) ?_
                      refine x_zreturn rfl rfl (Or.inr rfl) ?_
                      intro _
                      refine x_zreturn rfl rfl (Or.inr rfl) ?_
                      intro _
                      refine g_if_ne (tgt := 16) rfl (by decide) (fun _ => ?_) (fun hx => absurd hx (by omega))
                      refine g_aload_n rfl rfl ?_
                      refine g_aload_n rfl rfl ?_
                      refine g_iconst rfl ⟨by decide, by decide⟩ ?_
                      refine g_iV (as := [tI 0]) mX12_of_ok rfl rfl rfl rfl rfl rfl (by decide) rfl rfl rfl ?_
                      refine g_aload_n rfl rfl ?_
                      refine x_getF (r := 207) hG rfl rfl (by decide) (Or.inr ⟨_, rfl⟩) rfl ?_
                      refine g_sipush rfl ⟨by decide, by decide⟩ (by decide) ?_
                      refine g_aload_n rfl rfl ?_
                      refine x_geti (v := 0) rfl rfl (by decide) (Or.inl rfl) rfl ?_
                      refine x_imul (z := 0) rfl (by omega) ⟨by omega, by omega⟩ ?_
                      refine g_iload_n rfl rfl ?_
                      refine x_iadd (z := 0) rfl (by omega) ⟨by omega, by omega⟩ ?_
                      refine x_iald (v := (μ.1 207 0)) rfl rfl (by decide) (by decide) (by decide) rfl ?_
                      refine x_ireturn rfl rfl ?_
                      intro _
                      refine g_puti rfl rfl (by decide) rfl rfl ?_
                      refine g_iconst rfl ⟨by decide, by decide⟩ ?_
                      refine x_zreturn rfl rfl (Or.inr rfl) ?_
                      intro _
                      refine g_if_eq (tgt := 17) rfl (by decide) (fun hx => absurd hx (by omega)) (fun _ => ?_)
                      refine g_iload_n rfl rfl ?_
                      refine g_if_ge (tgt := 20) rfl (by decide) (fun _ => ?_) (fun hx => absurd hx (by omega))
                      refine g_iload_n rfl rfl ?_
                      refine g_bipush rfl ⟨by decide, by decide⟩ (by decide) ?_
                      refine g_icmp_gt (tgt := 32) rfl (by decide) (fun hx => absurd hx (by omega)) (fun _ => ?_)
                      refine g_aload_n rfl rfl ?_
                      refine g_iload_n rfl rfl ?_
                      refine g_iV (as := [tI k]) mX12_of_ok rfl rfl rfl rfl rfl rfl (by decide) rfl rfl rfl ?_
                      refine g_aload_n rfl rfl ?_
                      refine x_getF (r := 207) hG rfl rfl (by decide) (Or.inr ⟨_, rfl⟩) rfl ?_
                      refine g_sipush rfl ⟨by decide, by decide⟩ (by decide) ?_
                      refine g_aload_n rfl rfl ?_
                      refine x_geti (v := 0) rfl rfl (by decide) (Or.inl rfl) rfl ?_
                      refine x_imul (z := 0) rfl (by omega) ⟨by omega, by omega⟩ ?_
                      refine g_iload_n rfl rfl ?_
                      refine x_iadd (z := k) rfl (by omega) ⟨by omega, by omega⟩ ?_
                      refine x_iald (v := (μ.1 207 k)) rfl rfl (by decide) (by omega) (by omega) rfl ?_
                      refine x_ireturn rfl rfl ?_
                      intro _
                      refine x_ireturn rfl rfl ?_
                      exact ⟨(by first | rfl | exact congrArg (fun z => some (tI z)) ((congrArg (μ.1 207) (by omega)).trans hCs.symm) | exact congrArg (fun z => some (tI z)) ((congrArg (μ.1 207) (by omega)).trans (hCr _ (by omega) (by omega)).symm) | exact congrArg (fun z => some (tI z)) ((congrArg (μ.1 207) (by omega)).trans (hCk _ (by omega) (by omega)).symm) | exact congrArg (fun z => some (tI z)) ((congrArg (μ.1 207) (by omega)).trans (hCt _ (by omega) (by omega)).symm) | exact congrArg (fun z => some (tI z)) ((congrArg (μ.1 207) (by omega)).trans (hCm _ (by omega) (by omega)).symm)), (tp_R_kp hR (tp_kp_pi (by decide) (tp_kp_pi (by decide) (tp_kp_pi (by decide) tp_kp_rf))))⟩
    · first
        | omega
        | refine g_aload_n rfl rfl ?_
          refine x_geti (v := (μ.1 6 4)) rfl rfl (by decide) (Or.inl rfl) rfl ?_
          refine x_ireturn rfl rfl ?_
          intro _
          refine x_ireturn rfl rfl ?_
          refine ⟨_, rfl, ?_⟩
          refine tp_ok_of mX12_code_ok rfl (Nat.le_refl _) ?_
          refine g_aload_n rfl rfl ?_
          refine g_iconst rfl ⟨by decide, by decide⟩ ?_
          refine g_puti rfl rfl (by decide) rfl rfl ?_
          refine g_aload_n rfl rfl ?_
          refine g_iload_n rfl rfl ?_
          refine g_iV (as := [tI 0]) mX12_hasCode_ok rfl rfl rfl rfl rfl rfl (by decide) rfl rfl rfl ?_
          refine g_aload_n rfl rfl ?_
          refine g_iload_n rfl rfl ?_
          refine g_puti rfl rfl (by decide) rfl rfl ?_
          refine g_aload_n rfl rfl ?_
          refine g_iconst rfl ⟨by decide, by decide⟩ ?_
          refine g_iload_n rfl rfl ?_
          refine g_iV (as := [tI 0, tI 0]) mX12_is_ok rfl rfl rfl rfl rfl rfl (by decide) rfl rfl rfl ?_
          refine g_iload_n rfl rfl ?_
          refine g_iconst rfl ⟨by decide, by decide⟩ ?_
          refine g_aload_n rfl rfl ?_
          refine x_getF (r := 206) hG rfl rfl (by decide) (Or.inr ⟨_, rfl⟩) rfl ?_
          refine g_iload_n rfl rfl ?_
          refine x_iald (v := (μ.1 206 0)) rfl rfl (by decide) (by decide) (by decide) rfl ?_
          refine g_iconst rfl ⟨by decide, by decide⟩ ?_
          refine x_isub (z := (μ.1 206 0) - 1) rfl (by omega) ⟨by omega, by omega⟩ ?_
          refine g_iS (as := [tI 0, tI 0, tI ((μ.1 206 0) - 1)]) mX12_in_ok rfl rfl rfl rfl rfl rfl rfl ?_
          refine g_iload_n rfl rfl ?_
          refine g_iload_n rfl rfl ?_
          refine g_icmp_lt (tgt := 14) rfl (by decide) (fun hx => absurd hx (by omega)) (fun _ => ?_)
          refine g_iload_n rfl rfl ?_
          refine g_iload_n rfl rfl ?_
          refine g_icmp_gt (tgt := 14) rfl (by decide) (fun hx => absurd hx (by omega)) (fun _ => ?_)
          refine g_iconst rfl ⟨by decide, by decide⟩ ?_
          refine g_goto (tgt := 15) rfl (by decide) ?_
          refine x_zreturn rfl rfl (Or.inr rfl) ?_
          intro _
          refine x_zreturn rfl rfl (Or.inr rfl) ?_
          intro _
          refine g_if_ne (tgt := 16) rfl (by decide) (fun _ => ?_) (fun hx => absurd hx (by omega))
          refine g_aload_n rfl rfl ?_
          refine g_aload_n rfl rfl ?_
          refine g_iconst rfl ⟨by decide, by decide⟩ ?_
          refine g_iV (as := [tI 0]) mX12_of_ok rfl rfl rfl rfl rfl rfl (by decide) rfl rfl rfl ?_
          refine g_aload_n rfl rfl ?_
          refine x_getF (r := 207) hG rfl rfl (by decide) (Or.inr ⟨_, rfl⟩) rfl ?_
          refine g_sipush rfl ⟨by decide, by decide⟩ (by decide) ?_
          refine g_aload_n rfl rfl ?_
          refine x_geti (v := 0) rfl rfl (by decide) (Or.inl rfl) rfl ?_
          refine x_imul (z := 0) rfl (by omega) ⟨by omega, by omega⟩ ?_
          refine g_iload_n rfl rfl ?_
          refine x_iadd (z := 0) rfl (by omega) ⟨by omega, by omega⟩ ?_
          refine x_iald (v := (μ.1 207 0)) rfl rfl (by decide) (by decide) (by decide) rfl ?_
          refine x_ireturn rfl rfl ?_
          intro _
          refine g_puti rfl rfl (by decide) rfl rfl ?_
          refine g_iconst rfl ⟨by decide, by decide⟩ ?_
          refine x_zreturn rfl rfl (Or.inr rfl) ?_
          intro _
          refine g_if_eq (tgt := 17) rfl (by decide) (fun hx => absurd hx (by omega)) (fun _ => ?_)
          refine g_iload_n rfl rfl ?_
          refine g_if_ge (tgt := 20) rfl (by decide) (fun _ => ?_) (fun hx => absurd hx (by omega))
          refine g_iload_n rfl rfl ?_
          refine g_bipush rfl ⟨by decide, by decide⟩ (by decide) ?_
          refine g_icmp_gt (tgt := 32) rfl (by decide) (fun hx => absurd hx (by omega)) (fun _ => ?_)
          refine g_aload_n rfl rfl ?_
          refine g_iload_n rfl rfl ?_
          refine g_iV (as := [tI k]) mX12_of_ok rfl rfl rfl rfl rfl rfl (by decide) rfl rfl rfl ?_
          refine g_aload_n rfl rfl ?_
          refine x_getF (r := 207) hG rfl rfl (by decide) (Or.inr ⟨_, rfl⟩) rfl ?_
          refine g_sipush rfl ⟨by decide, by decide⟩ (by decide) ?_
          refine g_aload_n rfl rfl ?_
          refine x_geti (v := 0) rfl rfl (by decide) (Or.inl rfl) rfl ?_
          refine x_imul (z := 0) rfl (by omega) ⟨by omega, by omega⟩ ?_
          refine g_iload_n rfl rfl ?_
          refine x_iadd (z := k) rfl (by omega) ⟨by omega, by omega⟩ ?_
          refine x_iald (v := (μ.1 207 k)) rfl rfl (by decide) (by omega) (by omega) rfl ?_
          refine x_ireturn rfl rfl ?_
          intro _
          refine x_ireturn rfl rfl ?_
          exact ⟨(by first | rfl | exact congrArg (fun z => some (tI z)) ((congrArg (μ.1 207) (by omega)).trans hCs.symm) | exact congrArg (fun z => some (tI z)) ((congrArg (μ.1 207) (by omega)).trans (hCr _ (by omega) (by omega)).symm) | exact congrArg (fun z => some (tI z)) ((congrArg (μ.1 207) (by omega)).trans (hCk _ (by omega) (by omega)).symm) | exact congrArg (fun z => some (tI z)) ((congrArg (μ.1 207) (by omega)).trans (hCt _ (by omega) (by omega)).symm) | exact congrArg (fun z => some (tI z)) ((congrArg (μ.1 207) (by omega)).trans (hCm _ (by omega) (by omega)).symm)), (tp_R_kp hR (tp_kp_pi (by decide) (tp_kp_pi (by decide) (tp_kp_pi (by decide) tp_kp_rf))))⟩
  · have hC := tp_R_code hR 1 (by decide) hd
    have hCs : μ.1 11 4 = μ.1 207 129 := hC.1
    have hCw := hC.2.2.2.1
    have hCz : tp_cf μ ((1 : Nat) : Int) 0 = μ.1 207 129 := rfl
    have hCk : ∀ i, 0 ≤ i → i < μ.1 11 4 → μ.1 12 i = μ.1 207 (138 + i) := fun i g1 g2 => (hC.2.1 i g1 (by omega)).1.trans (congrArg (μ.1 207) (by omega))
    have hCt : ∀ i, 0 ≤ i → i < μ.1 11 4 → μ.1 13 i = μ.1 207 (178 + i) := fun i g1 g2 => (hC.2.1 i g1 (by omega)).2.1.trans (congrArg (μ.1 207) (by omega))
    have hCm : ∀ i, 0 ≤ i → i < μ.1 11 4 → μ.1 14 i = μ.1 207 (218 + i) := fun i g1 g2 => (hC.2.1 i g1 (by omega)).2.2.trans (congrArg (μ.1 207) (by omega))
    have hCr : ∀ i, 0 ≤ i → i < 8 → μ.1 15 i = μ.1 207 (130 + i) := fun i g1 g2 => (hC.2.2.1 i g1 g2).trans (congrArg (μ.1 207) (by omega))
    refine tp_ok_of mX11_code_ok rfl (Nat.le_refl _) ?_
    refine g_aload_n rfl rfl ?_
    refine x_getF (r := 1) hG rfl rfl (by decide) (Or.inl ⟨_, rfl⟩) rfl ?_
    refine g_iload_n rfl rfl ?_
    refine g_cV (as := [tI 1]) (s_codeOf1 hG hd) rfl rfl mX9_codeOf_ok rfl rfl rfl (by decide) rfl rfl rfl ?_
    rintro _ w9 ⟨rfl, hw9⟩ _
    have hw9 := hw9.symm
    subst hw9
    refine g_astore_n rfl rfl rfl ?_
    refine g_aload_n rfl rfl ?_
    refine g_ifnonnull (tgt := 18) rfl (by decide) (fun _ _ => ?_) (fun hx => by cases hx)
    refine g_aload_n rfl rfl ?_
    refine g_iload_n rfl rfl ?_
    refine g_iV (as := [tI k]) mX0_tell_ok rfl rfl rfl rfl rfl rfl (by decide) rfl rfl rfl ?_
    refine g_iload_n rfl rfl ?_
    refine g_if_ne (tgt := 9) rfl (by decide) (fun h1 => ?_) (fun h1 => ?_)
    · first
        | omega
        | refine g_iload_n rfl rfl ?_
          refine g_iconst rfl ⟨by decide, by decide⟩ ?_
          refine g_icmp_lt (tgt := 28) rfl (by decide) (fun h2 => ?_) (fun h2 => ?_)
          · first
              | omega
              | refine g_iload_n rfl rfl ?_
                refine g_bipush rfl ⟨by decide, by decide⟩ (by decide) ?_
                refine g_icmp_lt (tgt := 52) rfl (by decide) (fun _ => ?_) (fun hx => absurd hx (by omega))
                refine g_bipush rfl ⟨by decide, by decide⟩ (by decide) ?_
                refine x_ireturn rfl rfl ?_
                intro _
                refine x_ireturn rfl rfl ?_
                refine ⟨_, rfl, ?_⟩
                refine tp_ok_of mX12_code_ok rfl (Nat.le_refl _) ?_
                refine g_aload_n rfl rfl ?_
                refine g_iconst rfl ⟨by decide, by decide⟩ ?_
                refine g_puti rfl rfl (by decide) rfl rfl ?_
                refine g_aload_n rfl rfl ?_
                refine g_iload_n rfl rfl ?_
                refine g_iV (as := [tI 1]) mX12_hasCode_ok rfl rfl rfl rfl rfl rfl (by decide) rfl rfl rfl ?_
                refine g_aload_n rfl rfl ?_
                refine g_iload_n rfl rfl ?_
                refine g_puti rfl rfl (by decide) rfl rfl ?_
                refine g_aload_n rfl rfl ?_
                refine g_iconst rfl ⟨by decide, by decide⟩ ?_
                refine g_iload_n rfl rfl ?_
                refine g_iV (as := [tI 0, tI 1]) mX12_is_ok rfl rfl rfl rfl rfl rfl (by decide) rfl rfl rfl ?_
                refine g_iload_n rfl rfl ?_
                refine g_iconst rfl ⟨by decide, by decide⟩ ?_
                refine g_aload_n rfl rfl ?_
                refine x_getF (r := 206) hG rfl rfl (by decide) (Or.inr ⟨_, rfl⟩) rfl ?_
                refine g_iload_n rfl rfl ?_
                refine x_iald (v := (μ.1 206 0)) rfl rfl (by decide) (by decide) (by decide) rfl ?_
                refine g_iconst rfl ⟨by decide, by decide⟩ ?_
                refine x_isub (z := (μ.1 206 0) - 1) rfl (by omega) ⟨by omega, by omega⟩ ?_
                refine g_iS (as := [tI 1, tI 0, tI ((μ.1 206 0) - 1)]) mX12_in_ok rfl rfl rfl rfl rfl rfl rfl ?_
                refine g_iload_n rfl rfl ?_
                refine g_iload_n rfl rfl ?_
                refine g_icmp_lt (tgt := 14) rfl (by decide) (fun hx => absurd hx (by omega)) (fun _ => ?_)
                refine g_iload_n rfl rfl ?_
                refine g_iload_n rfl rfl ?_
                refine g_icmp_gt (tgt := 14) rfl (by decide) (fun hx => absurd hx (by omega)) (fun _ => ?_)
                refine g_iconst rfl ⟨by decide, by decide⟩ ?_
                refine g_goto (tgt := 15) rfl (by decide) ?_
                refine x_zreturn rfl rfl (Or.inr rfl) ?_
                intro _
                refine x_zreturn rfl rfl (Or.inr rfl) ?_
                intro _
                refine g_if_ne (tgt := 16) rfl (by decide) (fun _ => ?_) (fun hx => absurd hx (by omega))
                refine g_aload_n rfl rfl ?_
                refine g_aload_n rfl rfl ?_
                refine g_iconst rfl ⟨by decide, by decide⟩ ?_
                refine g_iV (as := [tI 0]) mX12_of_ok rfl rfl rfl rfl rfl rfl (by decide) rfl rfl rfl ?_
                refine g_aload_n rfl rfl ?_
                refine x_getF (r := 207) hG rfl rfl (by decide) (Or.inr ⟨_, rfl⟩) rfl ?_
                refine g_sipush rfl ⟨by decide, by decide⟩ (by decide) ?_
                refine g_aload_n rfl rfl ?_
                refine x_geti (v := 1) rfl rfl (by decide) (Or.inl rfl) rfl ?_
                refine x_imul (z := 129) rfl (by omega) ⟨by omega, by omega⟩ ?_
                refine g_iload_n rfl rfl ?_
                refine x_iadd (z := 129) rfl (by omega) ⟨by omega, by omega⟩ ?_
                refine x_iald (v := (μ.1 207 129)) rfl rfl (by decide) (by decide) (by decide) rfl ?_
                refine x_ireturn rfl rfl ?_
                intro _
                refine g_puti rfl rfl (by decide) rfl rfl ?_
                refine g_iconst rfl ⟨by decide, by decide⟩ ?_
                refine x_zreturn rfl rfl (Or.inr rfl) ?_
                intro _
                refine g_if_eq (tgt := 17) rfl (by decide) (fun hx => absurd hx (by omega)) (fun _ => ?_)
                refine g_iload_n rfl rfl ?_
                refine g_if_ge (tgt := 20) rfl (by decide) (fun h3 => ?_) (fun h3 => ?_)
                · first
                    | omega
                    | refine g_iload_n rfl rfl ?_
                      refine g_bipush rfl ⟨by decide, by decide⟩ (by decide) ?_
                      refine g_icmp_gt (tgt := 32) rfl (by decide) (fun hx => absurd hx (by omega)) (fun _ => ?_)
                      refine g_aload_n rfl rfl ?_
                      refine g_iload_n rfl rfl ?_
                      refine g_iV (as := [tI k]) mX12_of_ok rfl rfl rfl rfl rfl rfl (by decide) rfl rfl rfl ?_
                      refine g_aload_n rfl rfl ?_
                      refine x_getF (r := 207) hG rfl rfl (by decide) (Or.inr ⟨_, rfl⟩) rfl ?_
                      refine g_sipush rfl ⟨by decide, by decide⟩ (by decide) ?_
                      refine g_aload_n rfl rfl ?_
                      refine x_geti (v := 1) rfl rfl (by decide) (Or.inl rfl) rfl ?_
                      refine x_imul (z := 129) rfl (by omega) ⟨by omega, by omega⟩ ?_
                      refine g_iload_n rfl rfl ?_
                      refine x_iadd (z := k + 129) rfl (by omega) ⟨by omega, by omega⟩ ?_
                      refine x_iald (v := (μ.1 207 (k + 129))) rfl rfl (by decide) (by omega) (by omega) rfl ?_
                      refine x_ireturn rfl rfl ?_
                      intro _
                      refine x_ireturn rfl rfl ?_
                      exact ⟨(by first | rfl | exact congrArg (fun z => some (tI z)) ((congrArg (μ.1 207) (by omega)).trans hCs.symm) | exact congrArg (fun z => some (tI z)) ((congrArg (μ.1 207) (by omega)).trans (hCr _ (by omega) (by omega)).symm) | exact congrArg (fun z => some (tI z)) ((congrArg (μ.1 207) (by omega)).trans (hCk _ (by omega) (by omega)).symm) | exact congrArg (fun z => some (tI z)) ((congrArg (μ.1 207) (by omega)).trans (hCt _ (by omega) (by omega)).symm) | exact congrArg (fun z => some (tI z)) ((congrArg (μ.1 207) (by omega)).trans (hCm _ (by omega) (by omega)).symm)), (tp_R_kp hR (tp_kp_pi (by decide) (tp_kp_pi (by decide) (tp_kp_pi (by decide) tp_kp_rf))))⟩
                · first
                    | omega
                    | refine g_bipush rfl ⟨by decide, by decide⟩ (by decide) ?_
                      refine x_ireturn rfl rfl ?_
                      exact ⟨(by first | rfl | exact congrArg (fun z => some (tI z)) ((congrArg (μ.1 207) (by omega)).trans hCs.symm) | exact congrArg (fun z => some (tI z)) ((congrArg (μ.1 207) (by omega)).trans (hCr _ (by omega) (by omega)).symm) | exact congrArg (fun z => some (tI z)) ((congrArg (μ.1 207) (by omega)).trans (hCk _ (by omega) (by omega)).symm) | exact congrArg (fun z => some (tI z)) ((congrArg (μ.1 207) (by omega)).trans (hCt _ (by omega) (by omega)).symm) | exact congrArg (fun z => some (tI z)) ((congrArg (μ.1 207) (by omega)).trans (hCm _ (by omega) (by omega)).symm)), (tp_R_kp hR (tp_kp_pi (by decide) (tp_kp_pi (by decide) (tp_kp_pi (by decide) tp_kp_rf))))⟩
          · first
              | omega
              | refine g_iload_n rfl rfl ?_
                refine g_bipush rfl ⟨by decide, by decide⟩ (by decide) ?_
                refine g_icmp_gt (tgt := 28) rfl (by decide) (fun h4 => ?_) (fun h4 => ?_)
                · first
                    | omega
                    | refine g_iload_n rfl rfl ?_
                      refine g_bipush rfl ⟨by decide, by decide⟩ (by decide) ?_
                      refine g_icmp_lt (tgt := 52) rfl (by decide) (fun h5 => ?_) (fun h5 => ?_)
                      · first
                          | omega
                          | refine g_bipush rfl ⟨by decide, by decide⟩ (by decide) ?_
                            refine x_ireturn rfl rfl ?_
                            intro _
                            refine x_ireturn rfl rfl ?_
                            refine ⟨_, rfl, ?_⟩
                            refine tp_ok_of mX12_code_ok rfl (Nat.le_refl _) ?_
                            refine g_aload_n rfl rfl ?_
                            refine g_iconst rfl ⟨by decide, by decide⟩ ?_
                            refine g_puti rfl rfl (by decide) rfl rfl ?_
                            refine g_aload_n rfl rfl ?_
                            refine g_iload_n rfl rfl ?_
                            refine g_iV (as := [tI 1]) mX12_hasCode_ok rfl rfl rfl rfl rfl rfl (by decide) rfl rfl rfl ?_
                            refine g_aload_n rfl rfl ?_
                            refine g_iload_n rfl rfl ?_
                            refine g_puti rfl rfl (by decide) rfl rfl ?_
                            refine g_aload_n rfl rfl ?_
                            refine g_iconst rfl ⟨by decide, by decide⟩ ?_
                            refine g_iload_n rfl rfl ?_
                            refine g_iV (as := [tI 0, tI 1]) mX12_is_ok rfl rfl rfl rfl rfl rfl (by decide) rfl rfl rfl ?_
                            refine g_iload_n rfl rfl ?_
                            refine g_iconst rfl ⟨by decide, by decide⟩ ?_
                            refine g_aload_n rfl rfl ?_
                            refine x_getF (r := 206) hG rfl rfl (by decide) (Or.inr ⟨_, rfl⟩) rfl ?_
                            refine g_iload_n rfl rfl ?_
                            refine x_iald (v := (μ.1 206 0)) rfl rfl (by decide) (by decide) (by decide) rfl ?_
                            refine g_iconst rfl ⟨by decide, by decide⟩ ?_
                            refine x_isub (z := (μ.1 206 0) - 1) rfl (by omega) ⟨by omega, by omega⟩ ?_
                            refine g_iS (as := [tI 1, tI 0, tI ((μ.1 206 0) - 1)]) mX12_in_ok rfl rfl rfl rfl rfl rfl rfl ?_
                            refine g_iload_n rfl rfl ?_
                            refine g_iload_n rfl rfl ?_
                            refine g_icmp_lt (tgt := 14) rfl (by decide) (fun hx => absurd hx (by omega)) (fun _ => ?_)
                            refine g_iload_n rfl rfl ?_
                            refine g_iload_n rfl rfl ?_
                            refine g_icmp_gt (tgt := 14) rfl (by decide) (fun hx => absurd hx (by omega)) (fun _ => ?_)
                            refine g_iconst rfl ⟨by decide, by decide⟩ ?_
                            refine g_goto (tgt := 15) rfl (by decide) ?_
                            refine x_zreturn rfl rfl (Or.inr rfl) ?_
                            intro _
                            refine x_zreturn rfl rfl (Or.inr rfl) ?_
                            intro _
                            refine g_if_ne (tgt := 16) rfl (by decide) (fun _ => ?_) (fun hx => absurd hx (by omega))
                            refine g_aload_n rfl rfl ?_
                            refine g_aload_n rfl rfl ?_
                            refine g_iconst rfl ⟨by decide, by decide⟩ ?_
                            refine g_iV (as := [tI 0]) mX12_of_ok rfl rfl rfl rfl rfl rfl (by decide) rfl rfl rfl ?_
                            refine g_aload_n rfl rfl ?_
                            refine x_getF (r := 207) hG rfl rfl (by decide) (Or.inr ⟨_, rfl⟩) rfl ?_
                            refine g_sipush rfl ⟨by decide, by decide⟩ (by decide) ?_
                            refine g_aload_n rfl rfl ?_
                            refine x_geti (v := 1) rfl rfl (by decide) (Or.inl rfl) rfl ?_
                            refine x_imul (z := 129) rfl (by omega) ⟨by omega, by omega⟩ ?_
                            refine g_iload_n rfl rfl ?_
                            refine x_iadd (z := 129) rfl (by omega) ⟨by omega, by omega⟩ ?_
                            refine x_iald (v := (μ.1 207 129)) rfl rfl (by decide) (by decide) (by decide) rfl ?_
                            refine x_ireturn rfl rfl ?_
                            intro _
                            refine g_puti rfl rfl (by decide) rfl rfl ?_
                            refine g_iconst rfl ⟨by decide, by decide⟩ ?_
                            refine x_zreturn rfl rfl (Or.inr rfl) ?_
                            intro _
                            refine g_if_eq (tgt := 17) rfl (by decide) (fun hx => absurd hx (by omega)) (fun _ => ?_)
                            refine g_iload_n rfl rfl ?_
                            refine g_if_ge (tgt := 20) rfl (by decide) (fun _ => ?_) (fun hx => absurd hx (by omega))
                            refine g_iload_n rfl rfl ?_
                            refine g_bipush rfl ⟨by decide, by decide⟩ (by decide) ?_
                            refine g_icmp_gt (tgt := 32) rfl (by decide) (fun _ => ?_) (fun hx => absurd hx (by omega))
                            refine g_iload_n rfl rfl ?_
                            refine g_bipush rfl ⟨by decide, by decide⟩ (by decide) ?_
                            refine x_irem rfl (by omega) (by omega) ?_
                            refine g_istore_n rfl rfl rfl ?_
                            refine g_iload_n rfl rfl ?_
                            refine g_bipush rfl ⟨by decide, by decide⟩ (by decide) ?_
                            refine g_sipush rfl ⟨by decide, by decide⟩ (by decide) ?_
                            refine g_iS (as := [tI k, tI 100, tI 399]) mX12_in_ok rfl rfl rfl rfl rfl rfl rfl ?_
                            refine g_iload_n rfl rfl ?_
                            refine g_iload_n rfl rfl ?_
                            refine g_icmp_lt (tgt := 14) rfl (by decide) (fun _ => ?_) (fun hx => absurd hx (by omega))
                            refine g_iconst rfl ⟨by decide, by decide⟩ ?_
                            refine x_zreturn rfl rfl (Or.inl rfl) ?_
                            intro _
                            refine g_if_eq (tgt := 57) rfl (by decide) (fun _ => ?_) (fun hx => absurd hx (by omega))
                            refine g_bipush rfl ⟨by decide, by decide⟩ (by decide) ?_
                            refine x_ireturn rfl rfl ?_
                            exact ⟨(by first | rfl | exact congrArg (fun z => some (tI z)) ((congrArg (μ.1 207) (by omega)).trans hCs.symm) | exact congrArg (fun z => some (tI z)) ((congrArg (μ.1 207) (by omega)).trans (hCr _ (by omega) (by omega)).symm) | exact congrArg (fun z => some (tI z)) ((congrArg (μ.1 207) (by omega)).trans (hCk _ (by omega) (by omega)).symm) | exact congrArg (fun z => some (tI z)) ((congrArg (μ.1 207) (by omega)).trans (hCt _ (by omega) (by omega)).symm) | exact congrArg (fun z => some (tI z)) ((congrArg (μ.1 207) (by omega)).trans (hCm _ (by omega) (by omega)).symm)), (tp_R_kp hR (tp_kp_pi (by decide) (tp_kp_pi (by decide) (tp_kp_pi (by decide) tp_kp_rf))))⟩
                      · first
                          | omega
                          | refine g_iload_n rfl rfl ?_
                            refine g_sipush rfl ⟨by decide, by decide⟩ (by decide) ?_
                            refine g_icmp_ge (tgt := 52) rfl (by decide) (fun h6 => ?_) (fun h6 => ?_)
                            · first
                                | omega
                                | refine g_bipush rfl ⟨by decide, by decide⟩ (by decide) ?_
                                  refine x_ireturn rfl rfl ?_
                                  intro _
                                  refine x_ireturn rfl rfl ?_
                                  refine ⟨_, rfl, ?_⟩
                                  refine tp_ok_of mX12_code_ok rfl (Nat.le_refl _) ?_
                                  refine g_aload_n rfl rfl ?_
                                  refine g_iconst rfl ⟨by decide, by decide⟩ ?_
                                  refine g_puti rfl rfl (by decide) rfl rfl ?_
                                  refine g_aload_n rfl rfl ?_
                                  refine g_iload_n rfl rfl ?_
                                  refine g_iV (as := [tI 1]) mX12_hasCode_ok rfl rfl rfl rfl rfl rfl (by decide) rfl rfl rfl ?_
                                  refine g_aload_n rfl rfl ?_
                                  refine g_iload_n rfl rfl ?_
                                  refine g_puti rfl rfl (by decide) rfl rfl ?_
                                  refine g_aload_n rfl rfl ?_
                                  refine g_iconst rfl ⟨by decide, by decide⟩ ?_
                                  refine g_iload_n rfl rfl ?_
                                  refine g_iV (as := [tI 0, tI 1]) mX12_is_ok rfl rfl rfl rfl rfl rfl (by decide) rfl rfl rfl ?_
                                  refine g_iload_n rfl rfl ?_
                                  refine g_iconst rfl ⟨by decide, by decide⟩ ?_
                                  refine g_aload_n rfl rfl ?_
                                  refine x_getF (r := 206) hG rfl rfl (by decide) (Or.inr ⟨_, rfl⟩) rfl ?_
                                  refine g_iload_n rfl rfl ?_
                                  refine x_iald (v := (μ.1 206 0)) rfl rfl (by decide) (by decide) (by decide) rfl ?_
                                  refine g_iconst rfl ⟨by decide, by decide⟩ ?_
                                  refine x_isub (z := (μ.1 206 0) - 1) rfl (by omega) ⟨by omega, by omega⟩ ?_
                                  refine g_iS (as := [tI 1, tI 0, tI ((μ.1 206 0) - 1)]) mX12_in_ok rfl rfl rfl rfl rfl rfl rfl ?_
                                  refine g_iload_n rfl rfl ?_
                                  refine g_iload_n rfl rfl ?_
                                  refine g_icmp_lt (tgt := 14) rfl (by decide) (fun hx => absurd hx (by omega)) (fun _ => ?_)
                                  refine g_iload_n rfl rfl ?_
                                  refine g_iload_n rfl rfl ?_
                                  refine g_icmp_gt (tgt := 14) rfl (by decide) (fun hx => absurd hx (by omega)) (fun _ => ?_)
                                  refine g_iconst rfl ⟨by decide, by decide⟩ ?_
                                  refine g_goto (tgt := 15) rfl (by decide) ?_
                                  refine x_zreturn rfl rfl (Or.inr rfl) ?_
                                  intro _
                                  refine x_zreturn rfl rfl (Or.inr rfl) ?_
                                  intro _
                                  refine g_if_ne (tgt := 16) rfl (by decide) (fun _ => ?_) (fun hx => absurd hx (by omega))
                                  refine g_aload_n rfl rfl ?_
                                  refine g_aload_n rfl rfl ?_
                                  refine g_iconst rfl ⟨by decide, by decide⟩ ?_
                                  refine g_iV (as := [tI 0]) mX12_of_ok rfl rfl rfl rfl rfl rfl (by decide) rfl rfl rfl ?_
                                  refine g_aload_n rfl rfl ?_
                                  refine x_getF (r := 207) hG rfl rfl (by decide) (Or.inr ⟨_, rfl⟩) rfl ?_
                                  refine g_sipush rfl ⟨by decide, by decide⟩ (by decide) ?_
                                  refine g_aload_n rfl rfl ?_
                                  refine x_geti (v := 1) rfl rfl (by decide) (Or.inl rfl) rfl ?_
                                  refine x_imul (z := 129) rfl (by omega) ⟨by omega, by omega⟩ ?_
                                  refine g_iload_n rfl rfl ?_
                                  refine x_iadd (z := 129) rfl (by omega) ⟨by omega, by omega⟩ ?_
                                  refine x_iald (v := (μ.1 207 129)) rfl rfl (by decide) (by decide) (by decide) rfl ?_
                                  refine x_ireturn rfl rfl ?_
                                  intro _
                                  refine g_puti rfl rfl (by decide) rfl rfl ?_
                                  refine g_iconst rfl ⟨by decide, by decide⟩ ?_
                                  refine x_zreturn rfl rfl (Or.inr rfl) ?_
                                  intro _
                                  refine g_if_eq (tgt := 17) rfl (by decide) (fun hx => absurd hx (by omega)) (fun _ => ?_)
                                  refine g_iload_n rfl rfl ?_
                                  refine g_if_ge (tgt := 20) rfl (by decide) (fun _ => ?_) (fun hx => absurd hx (by omega))
                                  refine g_iload_n rfl rfl ?_
                                  refine g_bipush rfl ⟨by decide, by decide⟩ (by decide) ?_
                                  refine g_icmp_gt (tgt := 32) rfl (by decide) (fun _ => ?_) (fun hx => absurd hx (by omega))
                                  refine g_iload_n rfl rfl ?_
                                  refine g_bipush rfl ⟨by decide, by decide⟩ (by decide) ?_
                                  refine x_irem rfl (by omega) (by omega) ?_
                                  refine g_istore_n rfl rfl rfl ?_
                                  refine g_iload_n rfl rfl ?_
                                  refine g_bipush rfl ⟨by decide, by decide⟩ (by decide) ?_
                                  refine g_sipush rfl ⟨by decide, by decide⟩ (by decide) ?_
                                  refine g_iS (as := [tI k, tI 100, tI 399]) mX12_in_ok rfl rfl rfl rfl rfl rfl rfl ?_
                                  refine g_iload_n rfl rfl ?_
                                  refine g_iload_n rfl rfl ?_
                                  refine g_icmp_lt (tgt := 14) rfl (by decide) (fun hx => absurd hx (by omega)) (fun _ => ?_)
                                  refine g_iload_n rfl rfl ?_
                                  refine g_iload_n rfl rfl ?_
                                  refine g_icmp_gt (tgt := 14) rfl (by decide) (fun _ => ?_) (fun hx => absurd hx (by omega))
                                  refine g_iconst rfl ⟨by decide, by decide⟩ ?_
                                  refine x_zreturn rfl rfl (Or.inl rfl) ?_
                                  intro _
                                  refine g_if_eq (tgt := 57) rfl (by decide) (fun _ => ?_) (fun hx => absurd hx (by omega))
                                  refine g_bipush rfl ⟨by decide, by decide⟩ (by decide) ?_
                                  refine x_ireturn rfl rfl ?_
                                  exact ⟨(by first | rfl | exact congrArg (fun z => some (tI z)) ((congrArg (μ.1 207) (by omega)).trans hCs.symm) | exact congrArg (fun z => some (tI z)) ((congrArg (μ.1 207) (by omega)).trans (hCr _ (by omega) (by omega)).symm) | exact congrArg (fun z => some (tI z)) ((congrArg (μ.1 207) (by omega)).trans (hCk _ (by omega) (by omega)).symm) | exact congrArg (fun z => some (tI z)) ((congrArg (μ.1 207) (by omega)).trans (hCt _ (by omega) (by omega)).symm) | exact congrArg (fun z => some (tI z)) ((congrArg (μ.1 207) (by omega)).trans (hCm _ (by omega) (by omega)).symm)), (tp_R_kp hR (tp_kp_pi (by decide) (tp_kp_pi (by decide) (tp_kp_pi (by decide) tp_kp_rf))))⟩
                            · first
                                | omega
                                | refine g_aload_n rfl rfl ?_
                                  refine g_iload_n rfl rfl ?_
                                  refine g_bipush rfl ⟨by decide, by decide⟩ (by decide) ?_
                                  refine x_irem rfl (by omega) (by omega) ?_
                                  refine g_iV (as := [tI (k % 100)]) mX0_has_ok rfl rfl rfl rfl rfl rfl (by decide) rfl rfl rfl ?_
                                  refine g_iload_n rfl rfl ?_
                                  refine g_if_lt (tgt := 22) rfl (by decide) (fun hx => absurd hx (by omega)) (fun _ => ?_)
                                  refine g_iload_n rfl rfl ?_
                                  refine g_aload_n rfl rfl ?_
                                  refine x_geti (v := (μ.1 11 4)) rfl rfl (by decide) (Or.inl rfl) rfl ?_
                                  refine g_icmp_ge (tgt := 22) rfl (by decide) (fun h7 => ?_) (fun h7 => ?_)
                                  · first
                                      | omega
                                      | refine g_iconst rfl ⟨by decide, by decide⟩ ?_
                                        refine x_zreturn rfl rfl (Or.inl rfl) ?_
                                        intro _
                                        refine g_if_ne (tgt := 55) rfl (by decide) (fun hx => absurd hx (by omega)) (fun _ => ?_)
                                        refine g_bipush rfl ⟨by decide, by decide⟩ (by decide) ?_
                                        refine x_ireturn rfl rfl ?_
                                        intro _
                                        refine x_ireturn rfl rfl ?_
                                        refine ⟨_, rfl, ?_⟩
                                        refine tp_ok_of mX12_code_ok rfl (Nat.le_refl _) ?_
                                        refine g_aload_n rfl rfl ?_
                                        refine g_iconst rfl ⟨by decide, by decide⟩ ?_
                                        refine g_puti rfl rfl (by decide) rfl rfl ?_
                                        refine g_aload_n rfl rfl ?_
                                        refine g_iload_n rfl rfl ?_
                                        refine g_iV (as := [tI 1]) mX12_hasCode_ok rfl rfl rfl rfl rfl rfl (by decide) rfl rfl rfl ?_
                                        refine g_aload_n rfl rfl ?_
                                        refine g_iload_n rfl rfl ?_
                                        refine g_puti rfl rfl (by decide) rfl rfl ?_
                                        refine g_aload_n rfl rfl ?_
                                        refine g_iconst rfl ⟨by decide, by decide⟩ ?_
                                        refine g_iload_n rfl rfl ?_
                                        refine g_iV (as := [tI 0, tI 1]) mX12_is_ok rfl rfl rfl rfl rfl rfl (by decide) rfl rfl rfl ?_
                                        refine g_iload_n rfl rfl ?_
                                        refine g_iconst rfl ⟨by decide, by decide⟩ ?_
                                        refine g_aload_n rfl rfl ?_
                                        refine x_getF (r := 206) hG rfl rfl (by decide) (Or.inr ⟨_, rfl⟩) rfl ?_
                                        refine g_iload_n rfl rfl ?_
                                        refine x_iald (v := (μ.1 206 0)) rfl rfl (by decide) (by decide) (by decide) rfl ?_
                                        refine g_iconst rfl ⟨by decide, by decide⟩ ?_
                                        refine x_isub (z := (μ.1 206 0) - 1) rfl (by omega) ⟨by omega, by omega⟩ ?_
                                        refine g_iS (as := [tI 1, tI 0, tI ((μ.1 206 0) - 1)]) mX12_in_ok rfl rfl rfl rfl rfl rfl rfl ?_
                                        refine g_iload_n rfl rfl ?_
                                        refine g_iload_n rfl rfl ?_
                                        refine g_icmp_lt (tgt := 14) rfl (by decide) (fun hx => absurd hx (by omega)) (fun _ => ?_)
                                        refine g_iload_n rfl rfl ?_
                                        refine g_iload_n rfl rfl ?_
                                        refine g_icmp_gt (tgt := 14) rfl (by decide) (fun hx => absurd hx (by omega)) (fun _ => ?_)
                                        refine g_iconst rfl ⟨by decide, by decide⟩ ?_
                                        refine g_goto (tgt := 15) rfl (by decide) ?_
                                        refine x_zreturn rfl rfl (Or.inr rfl) ?_
                                        intro _
                                        refine x_zreturn rfl rfl (Or.inr rfl) ?_
                                        intro _
                                        refine g_if_ne (tgt := 16) rfl (by decide) (fun _ => ?_) (fun hx => absurd hx (by omega))
                                        refine g_aload_n rfl rfl ?_
                                        refine g_aload_n rfl rfl ?_
                                        refine g_iconst rfl ⟨by decide, by decide⟩ ?_
                                        refine g_iV (as := [tI 0]) mX12_of_ok rfl rfl rfl rfl rfl rfl (by decide) rfl rfl rfl ?_
                                        refine g_aload_n rfl rfl ?_
                                        refine x_getF (r := 207) hG rfl rfl (by decide) (Or.inr ⟨_, rfl⟩) rfl ?_
                                        refine g_sipush rfl ⟨by decide, by decide⟩ (by decide) ?_
                                        refine g_aload_n rfl rfl ?_
                                        refine x_geti (v := 1) rfl rfl (by decide) (Or.inl rfl) rfl ?_
                                        refine x_imul (z := 129) rfl (by omega) ⟨by omega, by omega⟩ ?_
                                        refine g_iload_n rfl rfl ?_
                                        refine x_iadd (z := 129) rfl (by omega) ⟨by omega, by omega⟩ ?_
                                        refine x_iald (v := (μ.1 207 129)) rfl rfl (by decide) (by decide) (by decide) rfl ?_
                                        refine x_ireturn rfl rfl ?_
                                        intro _
                                        refine g_puti rfl rfl (by decide) rfl rfl ?_
                                        refine g_iconst rfl ⟨by decide, by decide⟩ ?_
                                        refine x_zreturn rfl rfl (Or.inr rfl) ?_
                                        intro _
                                        refine g_if_eq (tgt := 17) rfl (by decide) (fun hx => absurd hx (by omega)) (fun _ => ?_)
                                        refine g_iload_n rfl rfl ?_
                                        refine g_if_ge (tgt := 20) rfl (by decide) (fun _ => ?_) (fun hx => absurd hx (by omega))
                                        refine g_iload_n rfl rfl ?_
                                        refine g_bipush rfl ⟨by decide, by decide⟩ (by decide) ?_
                                        refine g_icmp_gt (tgt := 32) rfl (by decide) (fun _ => ?_) (fun hx => absurd hx (by omega))
                                        refine g_iload_n rfl rfl ?_
                                        refine g_bipush rfl ⟨by decide, by decide⟩ (by decide) ?_
                                        refine x_irem rfl (by omega) (by omega) ?_
                                        refine g_istore_n rfl rfl rfl ?_
                                        refine g_iload_n rfl rfl ?_
                                        refine g_bipush rfl ⟨by decide, by decide⟩ (by decide) ?_
                                        refine g_sipush rfl ⟨by decide, by decide⟩ (by decide) ?_
                                        refine g_iS (as := [tI k, tI 100, tI 399]) mX12_in_ok rfl rfl rfl rfl rfl rfl rfl ?_
                                        refine g_iload_n rfl rfl ?_
                                        refine g_iload_n rfl rfl ?_
                                        refine g_icmp_lt (tgt := 14) rfl (by decide) (fun hx => absurd hx (by omega)) (fun _ => ?_)
                                        refine g_iload_n rfl rfl ?_
                                        refine g_iload_n rfl rfl ?_
                                        refine g_icmp_gt (tgt := 14) rfl (by decide) (fun hx => absurd hx (by omega)) (fun _ => ?_)
                                        refine g_iconst rfl ⟨by decide, by decide⟩ ?_
                                        refine g_goto (tgt := 15) rfl (by decide) ?_
                                        refine x_zreturn rfl rfl (Or.inr rfl) ?_
                                        intro _
                                        refine g_if_eq (tgt := 57) rfl (by decide) (fun hx => absurd hx (by omega)) (fun _ => ?_)
                                        refine g_aload_n rfl rfl ?_
                                        refine g_iload_n rfl rfl ?_
                                        refine g_iV (as := [tI (k % 100)]) mX12_isAddress_ok rfl rfl rfl rfl rfl rfl (by decide) rfl rfl rfl ?_
                                        refine g_iload_n rfl rfl ?_
                                        refine g_iconst rfl ⟨by decide, by decide⟩ ?_
                                        refine g_aload_n rfl rfl ?_
                                        refine x_geti (v := (μ.1 207 129)) rfl rfl (by decide) (Or.inl rfl) rfl ?_
                                        refine g_iconst rfl ⟨by decide, by decide⟩ ?_
                                        refine x_isub (z := (μ.1 207 129) - 1) rfl (by omega) ⟨by omega, by omega⟩ ?_
                                        refine g_iS (as := [tI (k % 100), tI 0, tI ((μ.1 207 129) - 1)]) mX12_in_ok rfl rfl rfl rfl rfl rfl rfl ?_
                                        refine g_iload_n rfl rfl ?_
                                        refine g_iload_n rfl rfl ?_
                                        refine g_icmp_lt (tgt := 14) rfl (by decide) (fun hx => absurd hx (by omega)) (fun _ => ?_)
                                        refine g_iload_n rfl rfl ?_
                                        refine g_iload_n rfl rfl ?_
                                        refine g_icmp_gt (tgt := 14) rfl (by decide) (fun _ => ?_) (fun hx => absurd hx (by omega))
                                        refine g_iconst rfl ⟨by decide, by decide⟩ ?_
                                        refine x_zreturn rfl rfl (Or.inl rfl) ?_
                                        intro _
                                        refine x_zreturn rfl rfl (Or.inl rfl) ?_
                                        intro _
                                        refine g_if_ne (tgt := 60) rfl (by decide) (fun hx => absurd hx (by omega)) (fun _ => ?_)
                                        refine g_bipush rfl ⟨by decide, by decide⟩ (by decide) ?_
                                        refine x_ireturn rfl rfl ?_
                                        exact ⟨(by first | rfl | exact congrArg (fun z => some (tI z)) ((congrArg (μ.1 207) (by omega)).trans hCs.symm) | exact congrArg (fun z => some (tI z)) ((congrArg (μ.1 207) (by omega)).trans (hCr _ (by omega) (by omega)).symm) | exact congrArg (fun z => some (tI z)) ((congrArg (μ.1 207) (by omega)).trans (hCk _ (by omega) (by omega)).symm) | exact congrArg (fun z => some (tI z)) ((congrArg (μ.1 207) (by omega)).trans (hCt _ (by omega) (by omega)).symm) | exact congrArg (fun z => some (tI z)) ((congrArg (μ.1 207) (by omega)).trans (hCm _ (by omega) (by omega)).symm)), (tp_R_kp hR (tp_kp_pi (by decide) (tp_kp_pi (by decide) (tp_kp_pi (by decide) tp_kp_rf))))⟩
                                  · first
                                      | omega
                                      | refine g_iload_n rfl rfl ?_
                                        refine g_bipush rfl ⟨by decide, by decide⟩ (by decide) ?_
                                        refine g_icmp_ge (tgt := 22) rfl (by decide) (fun hx => absurd hx (by omega)) (fun _ => ?_)
                                        refine g_iconst rfl ⟨by decide, by decide⟩ ?_
                                        refine g_goto (tgt := 23) rfl (by decide) ?_
                                        refine x_zreturn rfl rfl (Or.inr rfl) ?_
                                        intro _
                                        refine g_if_ne (tgt := 55) rfl (by decide) (fun _ => ?_) (fun hx => absurd hx (by omega))
                                        refine g_iload_n rfl rfl ?_
                                        refine g_bipush rfl ⟨by decide, by decide⟩ (by decide) ?_
                                        refine x_irem rfl (by omega) (by omega) ?_
                                        refine g_istore_n rfl rfl rfl ?_
                                        refine g_iload_n rfl rfl ?_
                                        refine g_sipush rfl ⟨by decide, by decide⟩ (by decide) ?_
                                        refine g_icmp_ge (tgt := 73) rfl (by decide) (fun h8 => ?_) (fun h8 => ?_)
                                        · first
                                            | omega
                                            | refine g_iload_n rfl rfl ?_
                                              refine g_sipush rfl ⟨by decide, by decide⟩ (by decide) ?_
                                              refine g_icmp_ge (tgt := 88) rfl (by decide) (fun h9 => ?_) (fun h9 => ?_)
                                              · first
                                                  | omega
                                                  | refine g_aload_n rfl rfl ?_
                                                    refine x_getF (r := 14) hG rfl rfl (by decide) (Or.inr ⟨_, rfl⟩) rfl ?_
                                                    refine g_iload_n rfl rfl ?_
                                                    refine x_iald (v := (μ.1 14 (k % 100))) rfl rfl (by decide) (by omega) (by omega) rfl ?_
                                                    refine x_ireturn rfl rfl ?_
                                                    intro _
                                                    refine x_ireturn rfl rfl ?_
                                                    refine ⟨_, rfl, ?_⟩
                                                    refine tp_ok_of mX12_code_ok rfl (Nat.le_refl _) ?_
                                                    refine g_aload_n rfl rfl ?_
                                                    refine g_iconst rfl ⟨by decide, by decide⟩ ?_
                                                    refine g_puti rfl rfl (by decide) rfl rfl ?_
                                                    refine g_aload_n rfl rfl ?_
                                                    refine g_iload_n rfl rfl ?_
                                                    refine g_iV (as := [tI 1]) mX12_hasCode_ok rfl rfl rfl rfl rfl rfl (by decide) rfl rfl rfl ?_
                                                    refine g_aload_n rfl rfl ?_
                                                    refine g_iload_n rfl rfl ?_
                                                    refine g_puti rfl rfl (by decide) rfl rfl ?_
                                                    refine g_aload_n rfl rfl ?_
                                                    refine g_iconst rfl ⟨by decide, by decide⟩ ?_
                                                    refine g_iload_n rfl rfl ?_
                                                    refine g_iV (as := [tI 0, tI 1]) mX12_is_ok rfl rfl rfl rfl rfl rfl (by decide) rfl rfl rfl ?_
                                                    refine g_iload_n rfl rfl ?_
                                                    refine g_iconst rfl ⟨by decide, by decide⟩ ?_
                                                    refine g_aload_n rfl rfl ?_
                                                    refine x_getF (r := 206) hG rfl rfl (by decide) (Or.inr ⟨_, rfl⟩) rfl ?_
                                                    refine g_iload_n rfl rfl ?_
                                                    refine x_iald (v := (μ.1 206 0)) rfl rfl (by decide) (by decide) (by decide) rfl ?_
                                                    refine g_iconst rfl ⟨by decide, by decide⟩ ?_
                                                    refine x_isub (z := (μ.1 206 0) - 1) rfl (by omega) ⟨by omega, by omega⟩ ?_
                                                    refine g_iS (as := [tI 1, tI 0, tI ((μ.1 206 0) - 1)]) mX12_in_ok rfl rfl rfl rfl rfl rfl rfl ?_
                                                    refine g_iload_n rfl rfl ?_
                                                    refine g_iload_n rfl rfl ?_
                                                    refine g_icmp_lt (tgt := 14) rfl (by decide) (fun hx => absurd hx (by omega)) (fun _ => ?_)
                                                    refine g_iload_n rfl rfl ?_
                                                    refine g_iload_n rfl rfl ?_
                                                    refine g_icmp_gt (tgt := 14) rfl (by decide) (fun hx => absurd hx (by omega)) (fun _ => ?_)
                                                    refine g_iconst rfl ⟨by decide, by decide⟩ ?_
                                                    refine g_goto (tgt := 15) rfl (by decide) ?_
                                                    refine x_zreturn rfl rfl (Or.inr rfl) ?_
                                                    intro _
                                                    refine x_zreturn rfl rfl (Or.inr rfl) ?_
                                                    intro _
                                                    refine g_if_ne (tgt := 16) rfl (by decide) (fun _ => ?_) (fun hx => absurd hx (by omega))
                                                    refine g_aload_n rfl rfl ?_
                                                    refine g_aload_n rfl rfl ?_
                                                    refine g_iconst rfl ⟨by decide, by decide⟩ ?_
                                                    refine g_iV (as := [tI 0]) mX12_of_ok rfl rfl rfl rfl rfl rfl (by decide) rfl rfl rfl ?_
                                                    refine g_aload_n rfl rfl ?_
                                                    refine x_getF (r := 207) hG rfl rfl (by decide) (Or.inr ⟨_, rfl⟩) rfl ?_
                                                    refine g_sipush rfl ⟨by decide, by decide⟩ (by decide) ?_
                                                    refine g_aload_n rfl rfl ?_
                                                    refine x_geti (v := 1) rfl rfl (by decide) (Or.inl rfl) rfl ?_
                                                    refine x_imul (z := 129) rfl (by omega) ⟨by omega, by omega⟩ ?_
                                                    refine g_iload_n rfl rfl ?_
                                                    refine x_iadd (z := 129) rfl (by omega) ⟨by omega, by omega⟩ ?_
                                                    refine x_iald (v := (μ.1 207 129)) rfl rfl (by decide) (by decide) (by decide) rfl ?_
                                                    refine x_ireturn rfl rfl ?_
                                                    intro _
                                                    refine g_puti rfl rfl (by decide) rfl rfl ?_
                                                    refine g_iconst rfl ⟨by decide, by decide⟩ ?_
                                                    refine x_zreturn rfl rfl (Or.inr rfl) ?_
                                                    intro _
                                                    refine g_if_eq (tgt := 17) rfl (by decide) (fun hx => absurd hx (by omega)) (fun _ => ?_)
                                                    refine g_iload_n rfl rfl ?_
                                                    refine g_if_ge (tgt := 20) rfl (by decide) (fun _ => ?_) (fun hx => absurd hx (by omega))
                                                    refine g_iload_n rfl rfl ?_
                                                    refine g_bipush rfl ⟨by decide, by decide⟩ (by decide) ?_
                                                    refine g_icmp_gt (tgt := 32) rfl (by decide) (fun _ => ?_) (fun hx => absurd hx (by omega))
                                                    refine g_iload_n rfl rfl ?_
                                                    refine g_bipush rfl ⟨by decide, by decide⟩ (by decide) ?_
                                                    refine x_irem rfl (by omega) (by omega) ?_
                                                    refine g_istore_n rfl rfl rfl ?_
                                                    refine g_iload_n rfl rfl ?_
                                                    refine g_bipush rfl ⟨by decide, by decide⟩ (by decide) ?_
                                                    refine g_sipush rfl ⟨by decide, by decide⟩ (by decide) ?_
                                                    refine g_iS (as := [tI k, tI 100, tI 399]) mX12_in_ok rfl rfl rfl rfl rfl rfl rfl ?_
                                                    refine g_iload_n rfl rfl ?_
                                                    refine g_iload_n rfl rfl ?_
                                                    refine g_icmp_lt (tgt := 14) rfl (by decide) (fun hx => absurd hx (by omega)) (fun _ => ?_)
                                                    refine g_iload_n rfl rfl ?_
                                                    refine g_iload_n rfl rfl ?_
                                                    refine g_icmp_gt (tgt := 14) rfl (by decide) (fun hx => absurd hx (by omega)) (fun _ => ?_)
                                                    refine g_iconst rfl ⟨by decide, by decide⟩ ?_
                                                    refine g_goto (tgt := 15) rfl (by decide) ?_
                                                    refine x_zreturn rfl rfl (Or.inr rfl) ?_
                                                    intro _
                                                    refine g_if_eq (tgt := 57) rfl (by decide) (fun hx => absurd hx (by omega)) (fun _ => ?_)
                                                    refine g_aload_n rfl rfl ?_
                                                    refine g_iload_n rfl rfl ?_
                                                    refine g_iV (as := [tI (k % 100)]) mX12_isAddress_ok rfl rfl rfl rfl rfl rfl (by decide) rfl rfl rfl ?_
                                                    refine g_iload_n rfl rfl ?_
                                                    refine g_iconst rfl ⟨by decide, by decide⟩ ?_
                                                    refine g_aload_n rfl rfl ?_
                                                    refine x_geti (v := (μ.1 207 129)) rfl rfl (by decide) (Or.inl rfl) rfl ?_
                                                    refine g_iconst rfl ⟨by decide, by decide⟩ ?_
                                                    refine x_isub (z := (μ.1 207 129) - 1) rfl (by omega) ⟨by omega, by omega⟩ ?_
                                                    refine g_iS (as := [tI (k % 100), tI 0, tI ((μ.1 207 129) - 1)]) mX12_in_ok rfl rfl rfl rfl rfl rfl rfl ?_
                                                    refine g_iload_n rfl rfl ?_
                                                    refine g_iload_n rfl rfl ?_
                                                    refine g_icmp_lt (tgt := 14) rfl (by decide) (fun hx => absurd hx (by omega)) (fun _ => ?_)
                                                    refine g_iload_n rfl rfl ?_
                                                    refine g_iload_n rfl rfl ?_
                                                    refine g_icmp_gt (tgt := 14) rfl (by decide) (fun hx => absurd hx (by omega)) (fun _ => ?_)
                                                    refine g_iconst rfl ⟨by decide, by decide⟩ ?_
                                                    refine g_goto (tgt := 15) rfl (by decide) ?_
                                                    refine x_zreturn rfl rfl (Or.inr rfl) ?_
                                                    intro _
                                                    refine x_zreturn rfl rfl (Or.inr rfl) ?_
                                                    intro _
                                                    refine g_if_ne (tgt := 60) rfl (by decide) (fun _ => ?_) (fun hx => absurd hx (by omega))
                                                    refine g_aload_n rfl rfl ?_
                                                    refine g_iload_n rfl rfl ?_
                                                    refine g_sipush rfl ⟨by decide, by decide⟩ (by decide) ?_
                                                    refine g_icmp_ge (tgt := 73) rfl (by decide) (fun _ => ?_) (fun hx => absurd hx (by omega))
                                                    refine g_iload_n rfl rfl ?_
                                                    refine g_sipush rfl ⟨by decide, by decide⟩ (by decide) ?_
                                                    refine g_icmp_ge (tgt := 85) rfl (by decide) (fun _ => ?_) (fun hx => absurd hx (by omega))
                                                    refine g_bipush rfl ⟨by decide, by decide⟩ (by decide) ?_
                                                    refine g_iload_n rfl rfl ?_
                                                    refine x_iadd (z := (k % 100) + 89) rfl (by omega) ⟨by omega, by omega⟩ ?_
                                                    refine g_iV (as := [tI ((k % 100) + 89)]) mX12_of_ok rfl rfl rfl rfl rfl rfl (by decide) rfl rfl rfl ?_
                                                    refine g_aload_n rfl rfl ?_
                                                    refine x_getF (r := 207) hG rfl rfl (by decide) (Or.inr ⟨_, rfl⟩) rfl ?_
                                                    refine g_sipush rfl ⟨by decide, by decide⟩ (by decide) ?_
                                                    refine g_aload_n rfl rfl ?_
                                                    refine x_geti (v := 1) rfl rfl (by decide) (Or.inl rfl) rfl ?_
                                                    refine x_imul (z := 129) rfl (by omega) ⟨by omega, by omega⟩ ?_
                                                    refine g_iload_n rfl rfl ?_
                                                    refine x_iadd (z := (k % 100) + 218) rfl (by omega) ⟨by omega, by omega⟩ ?_
                                                    refine x_iald (v := (μ.1 207 ((k % 100) + 218))) rfl rfl (by decide) (by omega) (by omega) rfl ?_
                                                    refine x_ireturn rfl rfl ?_
                                                    intro _
                                                    refine x_ireturn rfl rfl ?_
                                                    exact ⟨(by first | rfl | exact congrArg (fun z => some (tI z)) ((congrArg (μ.1 207) (by omega)).trans hCs.symm) | exact congrArg (fun z => some (tI z)) ((congrArg (μ.1 207) (by omega)).trans (hCr _ (by omega) (by omega)).symm) | exact congrArg (fun z => some (tI z)) ((congrArg (μ.1 207) (by omega)).trans (hCk _ (by omega) (by omega)).symm) | exact congrArg (fun z => some (tI z)) ((congrArg (μ.1 207) (by omega)).trans (hCt _ (by omega) (by omega)).symm) | exact congrArg (fun z => some (tI z)) ((congrArg (μ.1 207) (by omega)).trans (hCm _ (by omega) (by omega)).symm)), (tp_R_kp hR (tp_kp_pi (by decide) (tp_kp_pi (by decide) (tp_kp_pi (by decide) tp_kp_rf))))⟩
                                              · first
                                                  | omega
                                                  | refine g_aload_n rfl rfl ?_
                                                    refine g_iload_n rfl rfl ?_
                                                    refine g_iV (as := [tI (k % 100)]) mX0_targetAt_ok rfl rfl rfl rfl rfl rfl (by decide) rfl rfl rfl ?_
                                                    refine g_aload_n rfl rfl ?_
                                                    refine g_iload_n rfl rfl ?_
                                                    refine g_iV (as := [tI (k % 100)]) mX0_has_ok rfl rfl rfl rfl rfl rfl (by decide) rfl rfl rfl ?_
                                                    refine g_iload_n rfl rfl ?_
                                                    refine g_if_lt (tgt := 22) rfl (by decide) (fun hx => absurd hx (by omega)) (fun _ => ?_)
                                                    refine g_iload_n rfl rfl ?_
                                                    refine g_aload_n rfl rfl ?_
                                                    refine x_geti (v := (μ.1 11 4)) rfl rfl (by decide) (Or.inl rfl) rfl ?_
                                                    refine g_icmp_ge (tgt := 22) rfl (by decide) (fun hx => absurd hx (by omega)) (fun _ => ?_)
                                                    refine g_iload_n rfl rfl ?_
                                                    refine g_bipush rfl ⟨by decide, by decide⟩ (by decide) ?_
                                                    refine g_icmp_ge (tgt := 22) rfl (by decide) (fun hx => absurd hx (by omega)) (fun _ => ?_)
                                                    refine g_iconst rfl ⟨by decide, by decide⟩ ?_
                                                    refine g_goto (tgt := 23) rfl (by decide) ?_
                                                    refine x_zreturn rfl rfl (Or.inr rfl) ?_
                                                    intro _
                                                    refine g_if_eq (tgt := 17) rfl (by decide) (fun hx => absurd hx (by omega)) (fun _ => ?_)
                                                    refine g_aload_n rfl rfl ?_
                                                    refine x_getF (r := 13) hG rfl rfl (by decide) (Or.inr ⟨_, rfl⟩) rfl ?_
                                                    refine g_iload_n rfl rfl ?_
                                                    refine x_iald (v := (μ.1 13 (k % 100))) rfl rfl (by decide) (by omega) (by omega) rfl ?_
                                                    refine g_goto (tgt := 18) rfl (by decide) ?_
                                                    refine x_ireturn rfl rfl ?_
                                                    intro _
                                                    refine g_goto (tgt := 94) rfl (by decide) ?_
                                                    refine x_ireturn rfl rfl ?_
                                                    intro _
                                                    refine x_ireturn rfl rfl ?_
                                                    refine ⟨_, rfl, ?_⟩
                                                    refine tp_ok_of mX12_code_ok rfl (Nat.le_refl _) ?_
                                                    refine g_aload_n rfl rfl ?_
                                                    refine g_iconst rfl ⟨by decide, by decide⟩ ?_
                                                    refine g_puti rfl rfl (by decide) rfl rfl ?_
                                                    refine g_aload_n rfl rfl ?_
                                                    refine g_iload_n rfl rfl ?_
                                                    refine g_iV (as := [tI 1]) mX12_hasCode_ok rfl rfl rfl rfl rfl rfl (by decide) rfl rfl rfl ?_
                                                    refine g_aload_n rfl rfl ?_
                                                    refine g_iload_n rfl rfl ?_
                                                    refine g_puti rfl rfl (by decide) rfl rfl ?_
                                                    refine g_aload_n rfl rfl ?_
                                                    refine g_iconst rfl ⟨by decide, by decide⟩ ?_
                                                    refine g_iload_n rfl rfl ?_
                                                    refine g_iV (as := [tI 0, tI 1]) mX12_is_ok rfl rfl rfl rfl rfl rfl (by decide) rfl rfl rfl ?_
                                                    refine g_iload_n rfl rfl ?_
                                                    refine g_iconst rfl ⟨by decide, by decide⟩ ?_
                                                    refine g_aload_n rfl rfl ?_
                                                    refine x_getF (r := 206) hG rfl rfl (by decide) (Or.inr ⟨_, rfl⟩) rfl ?_
                                                    refine g_iload_n rfl rfl ?_
                                                    refine x_iald (v := (μ.1 206 0)) rfl rfl (by decide) (by decide) (by decide) rfl ?_
                                                    refine g_iconst rfl ⟨by decide, by decide⟩ ?_
                                                    refine x_isub (z := (μ.1 206 0) - 1) rfl (by omega) ⟨by omega, by omega⟩ ?_
                                                    refine g_iS (as := [tI 1, tI 0, tI ((μ.1 206 0) - 1)]) mX12_in_ok rfl rfl rfl rfl rfl rfl rfl ?_
                                                    refine g_iload_n rfl rfl ?_
                                                    refine g_iload_n rfl rfl ?_
                                                    refine g_icmp_lt (tgt := 14) rfl (by decide) (fun hx => absurd hx (by omega)) (fun _ => ?_)
                                                    refine g_iload_n rfl rfl ?_
                                                    refine g_iload_n rfl rfl ?_
                                                    refine g_icmp_gt (tgt := 14) rfl (by decide) (fun hx => absurd hx (by omega)) (fun _ => ?_)
                                                    refine g_iconst rfl ⟨by decide, by decide⟩ ?_
                                                    refine g_goto (tgt := 15) rfl (by decide) ?_
                                                    refine x_zreturn rfl rfl (Or.inr rfl) ?_
                                                    intro _
                                                    refine x_zreturn rfl rfl (Or.inr rfl) ?_
                                                    intro _
                                                    refine g_if_ne (tgt := 16) rfl (by decide) (fun _ => ?_) (fun hx => absurd hx (by omega))
                                                    refine g_aload_n rfl rfl ?_
                                                    refine g_aload_n rfl rfl ?_
                                                    refine g_iconst rfl ⟨by decide, by decide⟩ ?_
                                                    refine g_iV (as := [tI 0]) mX12_of_ok rfl rfl rfl rfl rfl rfl (by decide) rfl rfl rfl ?_
                                                    refine g_aload_n rfl rfl ?_
                                                    refine x_getF (r := 207) hG rfl rfl (by decide) (Or.inr ⟨_, rfl⟩) rfl ?_
                                                    refine g_sipush rfl ⟨by decide, by decide⟩ (by decide) ?_
                                                    refine g_aload_n rfl rfl ?_
                                                    refine x_geti (v := 1) rfl rfl (by decide) (Or.inl rfl) rfl ?_
                                                    refine x_imul (z := 129) rfl (by omega) ⟨by omega, by omega⟩ ?_
                                                    refine g_iload_n rfl rfl ?_
                                                    refine x_iadd (z := 129) rfl (by omega) ⟨by omega, by omega⟩ ?_
                                                    refine x_iald (v := (μ.1 207 129)) rfl rfl (by decide) (by decide) (by decide) rfl ?_
                                                    refine x_ireturn rfl rfl ?_
                                                    intro _
                                                    refine g_puti rfl rfl (by decide) rfl rfl ?_
                                                    refine g_iconst rfl ⟨by decide, by decide⟩ ?_
                                                    refine x_zreturn rfl rfl (Or.inr rfl) ?_
                                                    intro _
                                                    refine g_if_eq (tgt := 17) rfl (by decide) (fun hx => absurd hx (by omega)) (fun _ => ?_)
                                                    refine g_iload_n rfl rfl ?_
                                                    refine g_if_ge (tgt := 20) rfl (by decide) (fun _ => ?_) (fun hx => absurd hx (by omega))
                                                    refine g_iload_n rfl rfl ?_
                                                    refine g_bipush rfl ⟨by decide, by decide⟩ (by decide) ?_
                                                    refine g_icmp_gt (tgt := 32) rfl (by decide) (fun _ => ?_) (fun hx => absurd hx (by omega))
                                                    refine g_iload_n rfl rfl ?_
                                                    refine g_bipush rfl ⟨by decide, by decide⟩ (by decide) ?_
                                                    refine x_irem rfl (by omega) (by omega) ?_
                                                    refine g_istore_n rfl rfl rfl ?_
                                                    refine g_iload_n rfl rfl ?_
                                                    refine g_bipush rfl ⟨by decide, by decide⟩ (by decide) ?_
                                                    refine g_sipush rfl ⟨by decide, by decide⟩ (by decide) ?_
                                                    refine g_iS (as := [tI k, tI 100, tI 399]) mX12_in_ok rfl rfl rfl rfl rfl rfl rfl ?_
                                                    refine g_iload_n rfl rfl ?_
                                                    refine g_iload_n rfl rfl ?_
                                                    refine g_icmp_lt (tgt := 14) rfl (by decide) (fun hx => absurd hx (by omega)) (fun _ => ?_)
                                                    refine g_iload_n rfl rfl ?_
                                                    refine g_iload_n rfl rfl ?_
                                                    refine g_icmp_gt (tgt := 14) rfl (by decide) (fun hx => absurd hx (by omega)) (fun _ => ?_)
                                                    refine g_iconst rfl ⟨by decide, by decide⟩ ?_
                                                    refine g_goto (tgt := 15) rfl (by decide) ?_
                                                    refine x_zreturn rfl rfl (Or.inr rfl) ?_
                                                    intro _
                                                    refine g_if_eq (tgt := 57) rfl (by decide) (fun hx => absurd hx (by omega)) (fun _ => ?_)
                                                    refine g_aload_n rfl rfl ?_
                                                    refine g_iload_n rfl rfl ?_
                                                    refine g_iV (as := [tI (k % 100)]) mX12_isAddress_ok rfl rfl rfl rfl rfl rfl (by decide) rfl rfl rfl ?_
                                                    refine g_iload_n rfl rfl ?_
                                                    refine g_iconst rfl ⟨by decide, by decide⟩ ?_
                                                    refine g_aload_n rfl rfl ?_
                                                    refine x_geti (v := (μ.1 207 129)) rfl rfl (by decide) (Or.inl rfl) rfl ?_
                                                    refine g_iconst rfl ⟨by decide, by decide⟩ ?_
                                                    refine x_isub (z := (μ.1 207 129) - 1) rfl (by omega) ⟨by omega, by omega⟩ ?_
                                                    refine g_iS (as := [tI (k % 100), tI 0, tI ((μ.1 207 129) - 1)]) mX12_in_ok rfl rfl rfl rfl rfl rfl rfl ?_
                                                    refine g_iload_n rfl rfl ?_
                                                    refine g_iload_n rfl rfl ?_
                                                    refine g_icmp_lt (tgt := 14) rfl (by decide) (fun hx => absurd hx (by omega)) (fun _ => ?_)
                                                    refine g_iload_n rfl rfl ?_
                                                    refine g_iload_n rfl rfl ?_
                                                    refine g_icmp_gt (tgt := 14) rfl (by decide) (fun hx => absurd hx (by omega)) (fun _ => ?_)
                                                    refine g_iconst rfl ⟨by decide, by decide⟩ ?_
                                                    refine g_goto (tgt := 15) rfl (by decide) ?_
                                                    refine x_zreturn rfl rfl (Or.inr rfl) ?_
                                                    intro _
                                                    refine x_zreturn rfl rfl (Or.inr rfl) ?_
                                                    intro _
                                                    refine g_if_ne (tgt := 60) rfl (by decide) (fun _ => ?_) (fun hx => absurd hx (by omega))
                                                    refine g_aload_n rfl rfl ?_
                                                    refine g_iload_n rfl rfl ?_
                                                    refine g_sipush rfl ⟨by decide, by decide⟩ (by decide) ?_
                                                    refine g_icmp_ge (tgt := 73) rfl (by decide) (fun _ => ?_) (fun hx => absurd hx (by omega))
                                                    refine g_iload_n rfl rfl ?_
                                                    refine g_sipush rfl ⟨by decide, by decide⟩ (by decide) ?_
                                                    refine g_icmp_ge (tgt := 85) rfl (by decide) (fun hx => absurd hx (by omega)) (fun _ => ?_)
                                                    refine g_bipush rfl ⟨by decide, by decide⟩ (by decide) ?_
                                                    refine g_goto (tgt := 87) rfl (by decide) ?_
                                                    refine g_iload_n rfl rfl ?_
                                                    refine x_iadd (z := (k % 100) + 49) rfl (by omega) ⟨by omega, by omega⟩ ?_
                                                    refine g_iV (as := [tI ((k % 100) + 49)]) mX12_of_ok rfl rfl rfl rfl rfl rfl (by decide) rfl rfl rfl ?_
                                                    refine g_aload_n rfl rfl ?_
                                                    refine x_getF (r := 207) hG rfl rfl (by decide) (Or.inr ⟨_, rfl⟩) rfl ?_
                                                    refine g_sipush rfl ⟨by decide, by decide⟩ (by decide) ?_
                                                    refine g_aload_n rfl rfl ?_
                                                    refine x_geti (v := 1) rfl rfl (by decide) (Or.inl rfl) rfl ?_
                                                    refine x_imul (z := 129) rfl (by omega) ⟨by omega, by omega⟩ ?_
                                                    refine g_iload_n rfl rfl ?_
                                                    refine x_iadd (z := (k % 100) + 178) rfl (by omega) ⟨by omega, by omega⟩ ?_
                                                    refine x_iald (v := (μ.1 207 ((k % 100) + 178))) rfl rfl (by decide) (by omega) (by omega) rfl ?_
                                                    refine x_ireturn rfl rfl ?_
                                                    intro _
                                                    refine x_ireturn rfl rfl ?_
                                                    exact ⟨(by first | rfl | exact congrArg (fun z => some (tI z)) ((congrArg (μ.1 207) (by omega)).trans hCs.symm) | exact congrArg (fun z => some (tI z)) ((congrArg (μ.1 207) (by omega)).trans (hCr _ (by omega) (by omega)).symm) | exact congrArg (fun z => some (tI z)) ((congrArg (μ.1 207) (by omega)).trans (hCk _ (by omega) (by omega)).symm) | exact congrArg (fun z => some (tI z)) ((congrArg (μ.1 207) (by omega)).trans (hCt _ (by omega) (by omega)).symm) | exact congrArg (fun z => some (tI z)) ((congrArg (μ.1 207) (by omega)).trans (hCm _ (by omega) (by omega)).symm)), (tp_R_kp hR (tp_kp_pi (by decide) (tp_kp_pi (by decide) (tp_kp_pi (by decide) tp_kp_rf))))⟩
                                        · first
                                            | omega
                                            | refine g_aload_n rfl rfl ?_
                                              refine g_iload_n rfl rfl ?_
                                              refine g_iV (as := [tI (k % 100)]) mX0_kindAt_ok rfl rfl rfl rfl rfl rfl (by decide) rfl rfl rfl ?_
                                              refine g_aload_n rfl rfl ?_
                                              refine g_iload_n rfl rfl ?_
                                              refine g_iV (as := [tI (k % 100)]) mX0_has_ok rfl rfl rfl rfl rfl rfl (by decide) rfl rfl rfl ?_
                                              refine g_iload_n rfl rfl ?_
                                              refine g_if_lt (tgt := 22) rfl (by decide) (fun hx => absurd hx (by omega)) (fun _ => ?_)
                                              refine g_iload_n rfl rfl ?_
                                              refine g_aload_n rfl rfl ?_
                                              refine x_geti (v := (μ.1 11 4)) rfl rfl (by decide) (Or.inl rfl) rfl ?_
                                              refine g_icmp_ge (tgt := 22) rfl (by decide) (fun hx => absurd hx (by omega)) (fun _ => ?_)
                                              refine g_iload_n rfl rfl ?_
                                              refine g_bipush rfl ⟨by decide, by decide⟩ (by decide) ?_
                                              refine g_icmp_ge (tgt := 22) rfl (by decide) (fun hx => absurd hx (by omega)) (fun _ => ?_)
                                              refine g_iconst rfl ⟨by decide, by decide⟩ ?_
                                              refine g_goto (tgt := 23) rfl (by decide) ?_
                                              refine x_zreturn rfl rfl (Or.inr rfl) ?_
                                              intro _
                                              refine g_if_eq (tgt := 17) rfl (by decide) (fun hx => absurd hx (by omega)) (fun _ => ?_)
                                              refine g_aload_n rfl rfl ?_
                                              refine x_getF (r := 12) hG rfl rfl (by decide) (Or.inr ⟨_, rfl⟩) rfl ?_
                                              refine g_iload_n rfl rfl ?_
                                              refine x_iald (v := (μ.1 12 (k % 100))) rfl rfl (by decide) (by omega) (by omega) rfl ?_
                                              refine g_goto (tgt := 18) rfl (by decide) ?_
                                              refine x_ireturn rfl rfl ?_
                                              intro _
                                              refine x_ireturn rfl rfl ?_
                                              intro _
                                              refine x_ireturn rfl rfl ?_
                                              refine ⟨_, rfl, ?_⟩
                                              refine tp_ok_of mX12_code_ok rfl (Nat.le_refl _) ?_
                                              refine g_aload_n rfl rfl ?_
                                              refine g_iconst rfl ⟨by decide, by decide⟩ ?_
                                              refine g_puti rfl rfl (by decide) rfl rfl ?_
                                              refine g_aload_n rfl rfl ?_
                                              refine g_iload_n rfl rfl ?_
                                              refine g_iV (as := [tI 1]) mX12_hasCode_ok rfl rfl rfl rfl rfl rfl (by decide) rfl rfl rfl ?_
                                              refine g_aload_n rfl rfl ?_
                                              refine g_iload_n rfl rfl ?_
                                              refine g_puti rfl rfl (by decide) rfl rfl ?_
                                              refine g_aload_n rfl rfl ?_
                                              refine g_iconst rfl ⟨by decide, by decide⟩ ?_
                                              refine g_iload_n rfl rfl ?_
                                              refine g_iV (as := [tI 0, tI 1]) mX12_is_ok rfl rfl rfl rfl rfl rfl (by decide) rfl rfl rfl ?_
                                              refine g_iload_n rfl rfl ?_
                                              refine g_iconst rfl ⟨by decide, by decide⟩ ?_
                                              refine g_aload_n rfl rfl ?_
                                              refine x_getF (r := 206) hG rfl rfl (by decide) (Or.inr ⟨_, rfl⟩) rfl ?_
                                              refine g_iload_n rfl rfl ?_
                                              refine x_iald (v := (μ.1 206 0)) rfl rfl (by decide) (by decide) (by decide) rfl ?_
                                              refine g_iconst rfl ⟨by decide, by decide⟩ ?_
                                              refine x_isub (z := (μ.1 206 0) - 1) rfl (by omega) ⟨by omega, by omega⟩ ?_
                                              refine g_iS (as := [tI 1, tI 0, tI ((μ.1 206 0) - 1)]) mX12_in_ok rfl rfl rfl rfl rfl rfl rfl ?_
                                              refine g_iload_n rfl rfl ?_
                                              refine g_iload_n rfl rfl ?_
                                              refine g_icmp_lt (tgt := 14) rfl (by decide) (fun hx => absurd hx (by omega)) (fun _ => ?_)
                                              refine g_iload_n rfl rfl ?_
                                              refine g_iload_n rfl rfl ?_
                                              refine g_icmp_gt (tgt := 14) rfl (by decide) (fun hx => absurd hx (by omega)) (fun _ => ?_)
                                              refine g_iconst rfl ⟨by decide, by decide⟩ ?_
                                              refine g_goto (tgt := 15) rfl (by decide) ?_
                                              refine x_zreturn rfl rfl (Or.inr rfl) ?_
                                              intro _
                                              refine x_zreturn rfl rfl (Or.inr rfl) ?_
                                              intro _
                                              refine g_if_ne (tgt := 16) rfl (by decide) (fun _ => ?_) (fun hx => absurd hx (by omega))
                                              refine g_aload_n rfl rfl ?_
                                              refine g_aload_n rfl rfl ?_
                                              refine g_iconst rfl ⟨by decide, by decide⟩ ?_
                                              refine g_iV (as := [tI 0]) mX12_of_ok rfl rfl rfl rfl rfl rfl (by decide) rfl rfl rfl ?_
                                              refine g_aload_n rfl rfl ?_
                                              refine x_getF (r := 207) hG rfl rfl (by decide) (Or.inr ⟨_, rfl⟩) rfl ?_
                                              refine g_sipush rfl ⟨by decide, by decide⟩ (by decide) ?_
                                              refine g_aload_n rfl rfl ?_
                                              refine x_geti (v := 1) rfl rfl (by decide) (Or.inl rfl) rfl ?_
                                              refine x_imul (z := 129) rfl (by omega) ⟨by omega, by omega⟩ ?_
                                              refine g_iload_n rfl rfl ?_
                                              refine x_iadd (z := 129) rfl (by omega) ⟨by omega, by omega⟩ ?_
                                              refine x_iald (v := (μ.1 207 129)) rfl rfl (by decide) (by decide) (by decide) rfl ?_
                                              refine x_ireturn rfl rfl ?_
                                              intro _
                                              refine g_puti rfl rfl (by decide) rfl rfl ?_
                                              refine g_iconst rfl ⟨by decide, by decide⟩ ?_
                                              refine x_zreturn rfl rfl (Or.inr rfl) ?_
                                              intro _
                                              refine g_if_eq (tgt := 17) rfl (by decide) (fun hx => absurd hx (by omega)) (fun _ => ?_)
                                              refine g_iload_n rfl rfl ?_
                                              refine g_if_ge (tgt := 20) rfl (by decide) (fun _ => ?_) (fun hx => absurd hx (by omega))
                                              refine g_iload_n rfl rfl ?_
                                              refine g_bipush rfl ⟨by decide, by decide⟩ (by decide) ?_
                                              refine g_icmp_gt (tgt := 32) rfl (by decide) (fun _ => ?_) (fun hx => absurd hx (by omega))
                                              refine g_iload_n rfl rfl ?_
                                              refine g_bipush rfl ⟨by decide, by decide⟩ (by decide) ?_
                                              refine x_irem rfl (by omega) (by omega) ?_
                                              refine g_istore_n rfl rfl rfl ?_
                                              refine g_iload_n rfl rfl ?_
                                              refine g_bipush rfl ⟨by decide, by decide⟩ (by decide) ?_
                                              refine g_sipush rfl ⟨by decide, by decide⟩ (by decide) ?_
                                              refine g_iS (as := [tI k, tI 100, tI 399]) mX12_in_ok rfl rfl rfl rfl rfl rfl rfl ?_
                                              refine g_iload_n rfl rfl ?_
                                              refine g_iload_n rfl rfl ?_
                                              refine g_icmp_lt (tgt := 14) rfl (by decide) (fun hx => absurd hx (by omega)) (fun _ => ?_)
                                              refine g_iload_n rfl rfl ?_
                                              refine g_iload_n rfl rfl ?_
                                              refine g_icmp_gt (tgt := 14) rfl (by decide) (fun hx => absurd hx (by omega)) (fun _ => ?_)
                                              refine g_iconst rfl ⟨by decide, by decide⟩ ?_
                                              refine g_goto (tgt := 15) rfl (by decide) ?_
                                              refine x_zreturn rfl rfl (Or.inr rfl) ?_
                                              intro _
                                              refine g_if_eq (tgt := 57) rfl (by decide) (fun hx => absurd hx (by omega)) (fun _ => ?_)
                                              refine g_aload_n rfl rfl ?_
                                              refine g_iload_n rfl rfl ?_
                                              refine g_iV (as := [tI (k % 100)]) mX12_isAddress_ok rfl rfl rfl rfl rfl rfl (by decide) rfl rfl rfl ?_
                                              refine g_iload_n rfl rfl ?_
                                              refine g_iconst rfl ⟨by decide, by decide⟩ ?_
                                              refine g_aload_n rfl rfl ?_
                                              refine x_geti (v := (μ.1 207 129)) rfl rfl (by decide) (Or.inl rfl) rfl ?_
                                              refine g_iconst rfl ⟨by decide, by decide⟩ ?_
                                              refine x_isub (z := (μ.1 207 129) - 1) rfl (by omega) ⟨by omega, by omega⟩ ?_
                                              refine g_iS (as := [tI (k % 100), tI 0, tI ((μ.1 207 129) - 1)]) mX12_in_ok rfl rfl rfl rfl rfl rfl rfl ?_
                                              refine g_iload_n rfl rfl ?_
                                              refine g_iload_n rfl rfl ?_
                                              refine g_icmp_lt (tgt := 14) rfl (by decide) (fun hx => absurd hx (by omega)) (fun _ => ?_)
                                              refine g_iload_n rfl rfl ?_
                                              refine g_iload_n rfl rfl ?_
                                              refine g_icmp_gt (tgt := 14) rfl (by decide) (fun hx => absurd hx (by omega)) (fun _ => ?_)
                                              refine g_iconst rfl ⟨by decide, by decide⟩ ?_
                                              refine g_goto (tgt := 15) rfl (by decide) ?_
                                              refine x_zreturn rfl rfl (Or.inr rfl) ?_
                                              intro _
                                              refine x_zreturn rfl rfl (Or.inr rfl) ?_
                                              intro _
                                              refine g_if_ne (tgt := 60) rfl (by decide) (fun _ => ?_) (fun hx => absurd hx (by omega))
                                              refine g_aload_n rfl rfl ?_
                                              refine g_iload_n rfl rfl ?_
                                              refine g_sipush rfl ⟨by decide, by decide⟩ (by decide) ?_
                                              refine g_icmp_ge (tgt := 73) rfl (by decide) (fun hx => absurd hx (by omega)) (fun _ => ?_)
                                              refine g_bipush rfl ⟨by decide, by decide⟩ (by decide) ?_
                                              refine g_goto (tgt := 87) rfl (by decide) ?_
                                              refine g_iload_n rfl rfl ?_
                                              refine x_iadd (z := (k % 100) + 9) rfl (by omega) ⟨by omega, by omega⟩ ?_
                                              refine g_iV (as := [tI ((k % 100) + 9)]) mX12_of_ok rfl rfl rfl rfl rfl rfl (by decide) rfl rfl rfl ?_
                                              refine g_aload_n rfl rfl ?_
                                              refine x_getF (r := 207) hG rfl rfl (by decide) (Or.inr ⟨_, rfl⟩) rfl ?_
                                              refine g_sipush rfl ⟨by decide, by decide⟩ (by decide) ?_
                                              refine g_aload_n rfl rfl ?_
                                              refine x_geti (v := 1) rfl rfl (by decide) (Or.inl rfl) rfl ?_
                                              refine x_imul (z := 129) rfl (by omega) ⟨by omega, by omega⟩ ?_
                                              refine g_iload_n rfl rfl ?_
                                              refine x_iadd (z := (k % 100) + 138) rfl (by omega) ⟨by omega, by omega⟩ ?_
                                              refine x_iald (v := (μ.1 207 ((k % 100) + 138))) rfl rfl (by decide) (by omega) (by omega) rfl ?_
                                              refine x_ireturn rfl rfl ?_
                                              intro _
                                              refine x_ireturn rfl rfl ?_
                                              exact ⟨(by first | rfl | exact congrArg (fun z => some (tI z)) ((congrArg (μ.1 207) (by omega)).trans hCs.symm) | exact congrArg (fun z => some (tI z)) ((congrArg (μ.1 207) (by omega)).trans (hCr _ (by omega) (by omega)).symm) | exact congrArg (fun z => some (tI z)) ((congrArg (μ.1 207) (by omega)).trans (hCk _ (by omega) (by omega)).symm) | exact congrArg (fun z => some (tI z)) ((congrArg (μ.1 207) (by omega)).trans (hCt _ (by omega) (by omega)).symm) | exact congrArg (fun z => some (tI z)) ((congrArg (μ.1 207) (by omega)).trans (hCm _ (by omega) (by omega)).symm)), (tp_R_kp hR (tp_kp_pi (by decide) (tp_kp_pi (by decide) (tp_kp_pi (by decide) tp_kp_rf))))⟩
                · first
                    | omega
                    | refine g_aload_n rfl rfl ?_
                      refine g_iload_n rfl rfl ?_
                      refine g_iconst rfl ⟨by decide, by decide⟩ ?_
                      refine x_isub (z := k - 1) rfl (by omega) ⟨by omega, by omega⟩ ?_
                      refine g_iV (as := [tI (k - 1)]) mX0_rule_ok rfl rfl rfl rfl rfl rfl (by decide) rfl rfl rfl ?_
                      refine g_iload_n rfl rfl ?_
                      refine g_if_lt (tgt := 10) rfl (by decide) (fun hx => absurd hx (by omega)) (fun _ => ?_)
                      refine g_iload_n rfl rfl ?_
                      refine g_bipush rfl ⟨by decide, by decide⟩ (by decide) ?_
                      refine g_icmp_lt (tgt := 14) rfl (by decide) (fun _ => ?_) (fun hx => absurd hx (by omega))
                      refine g_aload_n rfl rfl ?_
                      refine x_getF (r := 15) hG rfl rfl (by decide) (Or.inr ⟨_, rfl⟩) rfl ?_
                      refine g_iload_n rfl rfl ?_
                      refine x_iald (v := (μ.1 15 (k - 1))) rfl rfl (by decide) (by omega) (by omega) rfl ?_
                      refine x_ireturn rfl rfl ?_
                      intro _
                      refine x_ireturn rfl rfl ?_
                      intro _
                      refine x_ireturn rfl rfl ?_
                      refine ⟨_, rfl, ?_⟩
                      refine tp_ok_of mX12_code_ok rfl (Nat.le_refl _) ?_
                      refine g_aload_n rfl rfl ?_
                      refine g_iconst rfl ⟨by decide, by decide⟩ ?_
                      refine g_puti rfl rfl (by decide) rfl rfl ?_
                      refine g_aload_n rfl rfl ?_
                      refine g_iload_n rfl rfl ?_
                      refine g_iV (as := [tI 1]) mX12_hasCode_ok rfl rfl rfl rfl rfl rfl (by decide) rfl rfl rfl ?_
                      refine g_aload_n rfl rfl ?_
                      refine g_iload_n rfl rfl ?_
                      refine g_puti rfl rfl (by decide) rfl rfl ?_
                      refine g_aload_n rfl rfl ?_
                      refine g_iconst rfl ⟨by decide, by decide⟩ ?_
                      refine g_iload_n rfl rfl ?_
                      refine g_iV (as := [tI 0, tI 1]) mX12_is_ok rfl rfl rfl rfl rfl rfl (by decide) rfl rfl rfl ?_
                      refine g_iload_n rfl rfl ?_
                      refine g_iconst rfl ⟨by decide, by decide⟩ ?_
                      refine g_aload_n rfl rfl ?_
                      refine x_getF (r := 206) hG rfl rfl (by decide) (Or.inr ⟨_, rfl⟩) rfl ?_
                      refine g_iload_n rfl rfl ?_
                      refine x_iald (v := (μ.1 206 0)) rfl rfl (by decide) (by decide) (by decide) rfl ?_
                      refine g_iconst rfl ⟨by decide, by decide⟩ ?_
                      refine x_isub (z := (μ.1 206 0) - 1) rfl (by omega) ⟨by omega, by omega⟩ ?_
                      refine g_iS (as := [tI 1, tI 0, tI ((μ.1 206 0) - 1)]) mX12_in_ok rfl rfl rfl rfl rfl rfl rfl ?_
                      refine g_iload_n rfl rfl ?_
                      refine g_iload_n rfl rfl ?_
                      refine g_icmp_lt (tgt := 14) rfl (by decide) (fun hx => absurd hx (by omega)) (fun _ => ?_)
                      refine g_iload_n rfl rfl ?_
                      refine g_iload_n rfl rfl ?_
                      refine g_icmp_gt (tgt := 14) rfl (by decide) (fun hx => absurd hx (by omega)) (fun _ => ?_)
                      refine g_iconst rfl ⟨by decide, by decide⟩ ?_
                      refine g_goto (tgt := 15) rfl (by decide) ?_
                      refine x_zreturn rfl rfl (Or.inr rfl) ?_
                      intro _
                      refine x_zreturn rfl rfl (Or.inr rfl) ?_
                      intro _
                      refine g_if_ne (tgt := 16) rfl (by decide) (fun _ => ?_) (fun hx => absurd hx (by omega))
                      refine g_aload_n rfl rfl ?_
                      refine g_aload_n rfl rfl ?_
                      refine g_iconst rfl ⟨by decide, by decide⟩ ?_
                      refine g_iV (as := [tI 0]) mX12_of_ok rfl rfl rfl rfl rfl rfl (by decide) rfl rfl rfl ?_
                      refine g_aload_n rfl rfl ?_
                      refine x_getF (r := 207) hG rfl rfl (by decide) (Or.inr ⟨_, rfl⟩) rfl ?_
                      refine g_sipush rfl ⟨by decide, by decide⟩ (by decide) ?_
                      refine g_aload_n rfl rfl ?_
                      refine x_geti (v := 1) rfl rfl (by decide) (Or.inl rfl) rfl ?_
                      refine x_imul (z := 129) rfl (by omega) ⟨by omega, by omega⟩ ?_
                      refine g_iload_n rfl rfl ?_
                      refine x_iadd (z := 129) rfl (by omega) ⟨by omega, by omega⟩ ?_
                      refine x_iald (v := (μ.1 207 129)) rfl rfl (by decide) (by decide) (by decide) rfl ?_
                      refine x_ireturn rfl rfl ?_
                      intro _
                      refine g_puti rfl rfl (by decide) rfl rfl ?_
                      refine g_iconst rfl ⟨by decide, by decide⟩ ?_
                      refine x_zreturn rfl rfl (Or.inr rfl) ?_
                      intro _
                      refine g_if_eq (tgt := 17) rfl (by decide) (fun hx => absurd hx (by omega)) (fun _ => ?_)
                      refine g_iload_n rfl rfl ?_
                      refine g_if_ge (tgt := 20) rfl (by decide) (fun _ => ?_) (fun hx => absurd hx (by omega))
                      refine g_iload_n rfl rfl ?_
                      refine g_bipush rfl ⟨by decide, by decide⟩ (by decide) ?_
                      refine g_icmp_gt (tgt := 32) rfl (by decide) (fun hx => absurd hx (by omega)) (fun _ => ?_)
                      refine g_aload_n rfl rfl ?_
                      refine g_iload_n rfl rfl ?_
                      refine g_iV (as := [tI k]) mX12_of_ok rfl rfl rfl rfl rfl rfl (by decide) rfl rfl rfl ?_
                      refine g_aload_n rfl rfl ?_
                      refine x_getF (r := 207) hG rfl rfl (by decide) (Or.inr ⟨_, rfl⟩) rfl ?_
                      refine g_sipush rfl ⟨by decide, by decide⟩ (by decide) ?_
                      refine g_aload_n rfl rfl ?_
                      refine x_geti (v := 1) rfl rfl (by decide) (Or.inl rfl) rfl ?_
                      refine x_imul (z := 129) rfl (by omega) ⟨by omega, by omega⟩ ?_
                      refine g_iload_n rfl rfl ?_
                      refine x_iadd (z := k + 129) rfl (by omega) ⟨by omega, by omega⟩ ?_
                      refine x_iald (v := (μ.1 207 (k + 129))) rfl rfl (by decide) (by omega) (by omega) rfl ?_
                      refine x_ireturn rfl rfl ?_
                      intro _
                      refine x_ireturn rfl rfl ?_
                      exact ⟨(by first | rfl | exact congrArg (fun z => some (tI z)) ((congrArg (μ.1 207) (by omega)).trans hCs.symm) | exact congrArg (fun z => some (tI z)) ((congrArg (μ.1 207) (by omega)).trans (hCr _ (by omega) (by omega)).symm) | exact congrArg (fun z => some (tI z)) ((congrArg (μ.1 207) (by omega)).trans (hCk _ (by omega) (by omega)).symm) | exact congrArg (fun z => some (tI z)) ((congrArg (μ.1 207) (by omega)).trans (hCt _ (by omega) (by omega)).symm) | exact congrArg (fun z => some (tI z)) ((congrArg (μ.1 207) (by omega)).trans (hCm _ (by omega) (by omega)).symm)), (tp_R_kp hR (tp_kp_pi (by decide) (tp_kp_pi (by decide) (tp_kp_pi (by decide) tp_kp_rf))))⟩
    · first
        | omega
        | refine g_aload_n rfl rfl ?_
          refine x_geti (v := (μ.1 11 4)) rfl rfl (by decide) (Or.inl rfl) rfl ?_
          refine x_ireturn rfl rfl ?_
          intro _
          refine x_ireturn rfl rfl ?_
          refine ⟨_, rfl, ?_⟩
          refine tp_ok_of mX12_code_ok rfl (Nat.le_refl _) ?_
          refine g_aload_n rfl rfl ?_
          refine g_iconst rfl ⟨by decide, by decide⟩ ?_
          refine g_puti rfl rfl (by decide) rfl rfl ?_
          refine g_aload_n rfl rfl ?_
          refine g_iload_n rfl rfl ?_
          refine g_iV (as := [tI 1]) mX12_hasCode_ok rfl rfl rfl rfl rfl rfl (by decide) rfl rfl rfl ?_
          refine g_aload_n rfl rfl ?_
          refine g_iload_n rfl rfl ?_
          refine g_puti rfl rfl (by decide) rfl rfl ?_
          refine g_aload_n rfl rfl ?_
          refine g_iconst rfl ⟨by decide, by decide⟩ ?_
          refine g_iload_n rfl rfl ?_
          refine g_iV (as := [tI 0, tI 1]) mX12_is_ok rfl rfl rfl rfl rfl rfl (by decide) rfl rfl rfl ?_
          refine g_iload_n rfl rfl ?_
          refine g_iconst rfl ⟨by decide, by decide⟩ ?_
          refine g_aload_n rfl rfl ?_
          refine x_getF (r := 206) hG rfl rfl (by decide) (Or.inr ⟨_, rfl⟩) rfl ?_
          refine g_iload_n rfl rfl ?_
          refine x_iald (v := (μ.1 206 0)) rfl rfl (by decide) (by decide) (by decide) rfl ?_
          refine g_iconst rfl ⟨by decide, by decide⟩ ?_
          refine x_isub (z := (μ.1 206 0) - 1) rfl (by omega) ⟨by omega, by omega⟩ ?_
          refine g_iS (as := [tI 1, tI 0, tI ((μ.1 206 0) - 1)]) mX12_in_ok rfl rfl rfl rfl rfl rfl rfl ?_
          refine g_iload_n rfl rfl ?_
          refine g_iload_n rfl rfl ?_
          refine g_icmp_lt (tgt := 14) rfl (by decide) (fun hx => absurd hx (by omega)) (fun _ => ?_)
          refine g_iload_n rfl rfl ?_
          refine g_iload_n rfl rfl ?_
          refine g_icmp_gt (tgt := 14) rfl (by decide) (fun hx => absurd hx (by omega)) (fun _ => ?_)
          refine g_iconst rfl ⟨by decide, by decide⟩ ?_
          refine g_goto (tgt := 15) rfl (by decide) ?_
          refine x_zreturn rfl rfl (Or.inr rfl) ?_
          intro _
          refine x_zreturn rfl rfl (Or.inr rfl) ?_
          intro _
          refine g_if_ne (tgt := 16) rfl (by decide) (fun _ => ?_) (fun hx => absurd hx (by omega))
          refine g_aload_n rfl rfl ?_
          refine g_aload_n rfl rfl ?_
          refine g_iconst rfl ⟨by decide, by decide⟩ ?_
          refine g_iV (as := [tI 0]) mX12_of_ok rfl rfl rfl rfl rfl rfl (by decide) rfl rfl rfl ?_
          refine g_aload_n rfl rfl ?_
          refine x_getF (r := 207) hG rfl rfl (by decide) (Or.inr ⟨_, rfl⟩) rfl ?_
          refine g_sipush rfl ⟨by decide, by decide⟩ (by decide) ?_
          refine g_aload_n rfl rfl ?_
          refine x_geti (v := 1) rfl rfl (by decide) (Or.inl rfl) rfl ?_
          refine x_imul (z := 129) rfl (by omega) ⟨by omega, by omega⟩ ?_
          refine g_iload_n rfl rfl ?_
          refine x_iadd (z := 129) rfl (by omega) ⟨by omega, by omega⟩ ?_
          refine x_iald (v := (μ.1 207 129)) rfl rfl (by decide) (by decide) (by decide) rfl ?_
          refine x_ireturn rfl rfl ?_
          intro _
          refine g_puti rfl rfl (by decide) rfl rfl ?_
          refine g_iconst rfl ⟨by decide, by decide⟩ ?_
          refine x_zreturn rfl rfl (Or.inr rfl) ?_
          intro _
          refine g_if_eq (tgt := 17) rfl (by decide) (fun hx => absurd hx (by omega)) (fun _ => ?_)
          refine g_iload_n rfl rfl ?_
          refine g_if_ge (tgt := 20) rfl (by decide) (fun _ => ?_) (fun hx => absurd hx (by omega))
          refine g_iload_n rfl rfl ?_
          refine g_bipush rfl ⟨by decide, by decide⟩ (by decide) ?_
          refine g_icmp_gt (tgt := 32) rfl (by decide) (fun hx => absurd hx (by omega)) (fun _ => ?_)
          refine g_aload_n rfl rfl ?_
          refine g_iload_n rfl rfl ?_
          refine g_iV (as := [tI k]) mX12_of_ok rfl rfl rfl rfl rfl rfl (by decide) rfl rfl rfl ?_
          refine g_aload_n rfl rfl ?_
          refine x_getF (r := 207) hG rfl rfl (by decide) (Or.inr ⟨_, rfl⟩) rfl ?_
          refine g_sipush rfl ⟨by decide, by decide⟩ (by decide) ?_
          refine g_aload_n rfl rfl ?_
          refine x_geti (v := 1) rfl rfl (by decide) (Or.inl rfl) rfl ?_
          refine x_imul (z := 129) rfl (by omega) ⟨by omega, by omega⟩ ?_
          refine g_iload_n rfl rfl ?_
          refine x_iadd (z := k + 129) rfl (by omega) ⟨by omega, by omega⟩ ?_
          refine x_iald (v := (μ.1 207 (k + 129))) rfl rfl (by decide) (by omega) (by omega) rfl ?_
          refine x_ireturn rfl rfl ?_
          intro _
          refine x_ireturn rfl rfl ?_
          exact ⟨(by first | rfl | exact congrArg (fun z => some (tI z)) ((congrArg (μ.1 207) (by omega)).trans hCs.symm) | exact congrArg (fun z => some (tI z)) ((congrArg (μ.1 207) (by omega)).trans (hCr _ (by omega) (by omega)).symm) | exact congrArg (fun z => some (tI z)) ((congrArg (μ.1 207) (by omega)).trans (hCk _ (by omega) (by omega)).symm) | exact congrArg (fun z => some (tI z)) ((congrArg (μ.1 207) (by omega)).trans (hCt _ (by omega) (by omega)).symm) | exact congrArg (fun z => some (tI z)) ((congrArg (μ.1 207) (by omega)).trans (hCm _ (by omega) (by omega)).symm)), (tp_R_kp hR (tp_kp_pi (by decide) (tp_kp_pi (by decide) (tp_kp_pi (by decide) tp_kp_rf))))⟩
  · refine tp_ok_of mX11_code_ok rfl (Nat.le_refl _) ?_
    refine g_aload_n rfl rfl ?_
    refine x_getF (r := 1) hG rfl rfl (by decide) (Or.inl ⟨_, rfl⟩) rfl ?_
    refine g_iload_n rfl rfl ?_
    refine g_cV (as := [tI a]) (s_codeOfo hG hd) rfl rfl mX9_codeOf_ok rfl rfl rfl (by decide) rfl rfl rfl ?_
    rintro _ w9 ⟨rfl, hw9⟩ _
    have hw9 := hw9.symm
    subst hw9
    refine g_astore_n rfl rfl rfl ?_
    refine g_aload_n rfl rfl ?_
    refine g_ifnonnull (tgt := 18) rfl (by decide) (fun _ hx => by cases hx) (fun _ => ?_)
    refine g_bipush rfl ⟨by decide, by decide⟩ (by decide) ?_
    refine g_goto (tgt := 23) rfl (by decide) ?_
    refine x_ireturn rfl rfl ?_
    refine ⟨_, rfl, ?_⟩
    refine tp_ok_of mX12_code_ok rfl (Nat.le_refl _) ?_
    refine g_aload_n rfl rfl ?_
    refine g_iconst rfl ⟨by decide, by decide⟩ ?_
    refine g_puti rfl rfl (by decide) rfl rfl ?_
    refine g_aload_n rfl rfl ?_
    refine g_iload_n rfl rfl ?_
    refine g_iV (as := [tI a]) mX12_hasCode_ok rfl rfl rfl rfl rfl rfl (by decide) rfl rfl rfl ?_
    refine g_aload_n rfl rfl ?_
    refine g_iload_n rfl rfl ?_
    refine g_puti rfl rfl (by decide) rfl rfl ?_
    refine g_aload_n rfl rfl ?_
    refine g_iconst rfl ⟨by decide, by decide⟩ ?_
    refine g_iload_n rfl rfl ?_
    refine g_iV (as := [tI 0, tI a]) mX12_is_ok rfl rfl rfl rfl rfl rfl (by decide) rfl rfl rfl ?_
    refine g_iload_n rfl rfl ?_
    refine g_iconst rfl ⟨by decide, by decide⟩ ?_
    refine g_aload_n rfl rfl ?_
    refine x_getF (r := 206) hG rfl rfl (by decide) (Or.inr ⟨_, rfl⟩) rfl ?_
    refine g_iload_n rfl rfl ?_
    refine x_iald (v := (μ.1 206 0)) rfl rfl (by decide) (by decide) (by decide) rfl ?_
    refine g_iconst rfl ⟨by decide, by decide⟩ ?_
    refine x_isub (z := (μ.1 206 0) - 1) rfl (by omega) ⟨by omega, by omega⟩ ?_
    refine g_iS (as := [tI a, tI 0, tI ((μ.1 206 0) - 1)]) mX12_in_ok rfl rfl rfl rfl rfl rfl rfl ?_
    refine g_iload_n rfl rfl ?_
    refine g_iload_n rfl rfl ?_
    refine g_icmp_lt (tgt := 14) rfl (by decide) (fun h1 => ?_) (fun h1 => ?_)
    · first
        | omega
        | refine g_iconst rfl ⟨by decide, by decide⟩ ?_
          refine x_zreturn rfl rfl (Or.inl rfl) ?_
          intro _
          refine x_zreturn rfl rfl (Or.inl rfl) ?_
          intro _
          refine g_if_ne (tgt := 16) rfl (by decide) (fun hx => absurd hx (by omega)) (fun _ => ?_)
          refine g_iconst rfl ⟨by decide, by decide⟩ ?_
          refine x_zreturn rfl rfl (Or.inl rfl) ?_
          intro _
          refine g_if_eq (tgt := 17) rfl (by decide) (fun _ => ?_) (fun hx => absurd hx (by omega))
          refine g_bipush rfl ⟨by decide, by decide⟩ (by decide) ?_
          refine x_ireturn rfl rfl ?_
          exact ⟨rfl, (tp_R_kp hR (tp_kp_pi (by decide) (tp_kp_pi (by decide) tp_kp_rf)))⟩
    · first
        | omega
        | refine g_iload_n rfl rfl ?_
          refine g_iload_n rfl rfl ?_
          refine g_icmp_gt (tgt := 14) rfl (by decide) (fun h2 => ?_) (fun h2 => ?_)
          · first
              | omega
              | refine g_iconst rfl ⟨by decide, by decide⟩ ?_
                refine x_zreturn rfl rfl (Or.inl rfl) ?_
                intro _
                refine x_zreturn rfl rfl (Or.inl rfl) ?_
                intro _
                refine g_if_ne (tgt := 16) rfl (by decide) (fun hx => absurd hx (by omega)) (fun _ => ?_)
                refine g_iconst rfl ⟨by decide, by decide⟩ ?_
                refine x_zreturn rfl rfl (Or.inl rfl) ?_
                intro _
                refine g_if_eq (tgt := 17) rfl (by decide) (fun _ => ?_) (fun hx => absurd hx (by omega))
                refine g_bipush rfl ⟨by decide, by decide⟩ (by decide) ?_
                refine x_ireturn rfl rfl ?_
                exact ⟨rfl, (tp_R_kp hR (tp_kp_pi (by decide) (tp_kp_pi (by decide) tp_kp_rf)))⟩
          · first
              | omega
              | refine g_iconst rfl ⟨by decide, by decide⟩ ?_
                refine g_goto (tgt := 15) rfl (by decide) ?_
                refine x_zreturn rfl rfl (Or.inr rfl) ?_
                intro _
                refine x_zreturn rfl rfl (Or.inr rfl) ?_
                intro _
                refine g_if_ne (tgt := 16) rfl (by decide) (fun _ => ?_) (fun hx => absurd hx (by omega))
                refine g_aload_n rfl rfl ?_
                refine g_aload_n rfl rfl ?_
                refine g_iconst rfl ⟨by decide, by decide⟩ ?_
                refine g_iV (as := [tI 0]) mX12_of_ok rfl rfl rfl rfl rfl rfl (by decide) rfl rfl rfl ?_
                refine g_aload_n rfl rfl ?_
                refine x_getF (r := 207) hG rfl rfl (by decide) (Or.inr ⟨_, rfl⟩) rfl ?_
                refine g_sipush rfl ⟨by decide, by decide⟩ (by decide) ?_
                refine g_aload_n rfl rfl ?_
                refine x_geti (v := a) rfl rfl (by decide) (Or.inl rfl) rfl ?_
                refine x_imul (z := 129 * a) rfl (by omega) ⟨by omega, by omega⟩ ?_
                refine g_iload_n rfl rfl ?_
                refine x_iadd (z := 129 * a) rfl (by omega) ⟨by omega, by omega⟩ ?_
                refine x_iald (v := (μ.1 207 (129 * a))) rfl rfl (by decide) (by omega) (by omega) rfl ?_
                refine x_ireturn rfl rfl ?_
                intro _
                refine g_puti rfl rfl (by decide) rfl rfl ?_
                refine g_iconst rfl ⟨by decide, by decide⟩ ?_
                refine x_zreturn rfl rfl (Or.inr rfl) ?_
                intro _
                refine g_if_eq (tgt := 17) rfl (by decide) (fun hx => absurd hx (by omega)) (fun _ => ?_)
                refine g_iload_n rfl rfl ?_
                refine g_if_ge (tgt := 20) rfl (by decide) (fun h3 => ?_) (fun h3 => ?_)
                · first
                    | omega
                    | refine g_iload_n rfl rfl ?_
                      refine g_bipush rfl ⟨by decide, by decide⟩ (by decide) ?_
                      refine g_icmp_gt (tgt := 32) rfl (by decide) (fun h4 => ?_) (fun h4 => ?_)
                      · first
                          | omega
                          | refine g_iload_n rfl rfl ?_
                            refine g_bipush rfl ⟨by decide, by decide⟩ (by decide) ?_
                            refine x_irem rfl (by omega) (by omega) ?_
                            refine g_istore_n rfl rfl rfl ?_
                            refine g_iload_n rfl rfl ?_
                            refine g_bipush rfl ⟨by decide, by decide⟩ (by decide) ?_
                            refine g_sipush rfl ⟨by decide, by decide⟩ (by decide) ?_
                            refine g_iS (as := [tI k, tI 100, tI 399]) mX12_in_ok rfl rfl rfl rfl rfl rfl rfl ?_
                            refine g_iload_n rfl rfl ?_
                            refine g_iload_n rfl rfl ?_
                            refine g_icmp_lt (tgt := 14) rfl (by decide) (fun h5 => ?_) (fun h5 => ?_)
                            · first
                                | omega
                                | refine g_iconst rfl ⟨by decide, by decide⟩ ?_
                                  refine x_zreturn rfl rfl (Or.inl rfl) ?_
                                  intro _
                                  refine g_if_eq (tgt := 57) rfl (by decide) (fun _ => ?_) (fun hx => absurd hx (by omega))
                                  refine g_bipush rfl ⟨by decide, by decide⟩ (by decide) ?_
                                  refine x_ireturn rfl rfl ?_
                                  exact ⟨rfl, (tp_R_kp hR (tp_kp_pi (by decide) (tp_kp_pi (by decide) (tp_kp_pi (by decide) tp_kp_rf))))⟩
                            · first
                                | omega
                                | refine g_iload_n rfl rfl ?_
                                  refine g_iload_n rfl rfl ?_
                                  refine g_icmp_gt (tgt := 14) rfl (by decide) (fun h6 => ?_) (fun h6 => ?_)
                                  · first
                                      | omega
                                      | refine g_iconst rfl ⟨by decide, by decide⟩ ?_
                                        refine x_zreturn rfl rfl (Or.inl rfl) ?_
                                        intro _
                                        refine g_if_eq (tgt := 57) rfl (by decide) (fun _ => ?_) (fun hx => absurd hx (by omega))
                                        refine g_bipush rfl ⟨by decide, by decide⟩ (by decide) ?_
                                        refine x_ireturn rfl rfl ?_
                                        exact ⟨rfl, (tp_R_kp hR (tp_kp_pi (by decide) (tp_kp_pi (by decide) (tp_kp_pi (by decide) tp_kp_rf))))⟩
                                  · first
                                      | omega
                                      | refine g_iconst rfl ⟨by decide, by decide⟩ ?_
                                        refine g_goto (tgt := 15) rfl (by decide) ?_
                                        refine x_zreturn rfl rfl (Or.inr rfl) ?_
                                        intro _
                                        refine g_if_eq (tgt := 57) rfl (by decide) (fun hx => absurd hx (by omega)) (fun _ => ?_)
                                        refine g_aload_n rfl rfl ?_
                                        refine g_iload_n rfl rfl ?_
                                        refine g_iV (as := [tI (k % 100)]) mX12_isAddress_ok rfl rfl rfl rfl rfl rfl (by decide) rfl rfl rfl ?_
                                        refine g_iload_n rfl rfl ?_
                                        refine g_iconst rfl ⟨by decide, by decide⟩ ?_
                                        refine g_aload_n rfl rfl ?_
                                        refine x_geti (v := (μ.1 207 (129 * a))) rfl rfl (by decide) (Or.inl rfl) rfl ?_
                                        refine g_iconst rfl ⟨by decide, by decide⟩ ?_
                                        refine x_isub (z := (μ.1 207 (129 * a)) - 1) rfl (by omega) ⟨by omega, by omega⟩ ?_
                                        refine g_iS (as := [tI (k % 100), tI 0, tI ((μ.1 207 (129 * a)) - 1)]) mX12_in_ok rfl rfl rfl rfl rfl rfl rfl ?_
                                        refine g_iload_n rfl rfl ?_
                                        refine g_iload_n rfl rfl ?_
                                        refine g_icmp_lt (tgt := 14) rfl (by decide) (fun hx => absurd hx (by omega)) (fun _ => ?_)
                                        refine g_iload_n rfl rfl ?_
                                        refine g_iload_n rfl rfl ?_
                                        refine g_icmp_gt (tgt := 14) rfl (by decide) (fun h7 => ?_) (fun h7 => ?_)
                                        · first
                                            | omega
                                            | refine g_iconst rfl ⟨by decide, by decide⟩ ?_
                                              refine x_zreturn rfl rfl (Or.inl rfl) ?_
                                              intro _
                                              refine x_zreturn rfl rfl (Or.inl rfl) ?_
                                              intro _
                                              refine g_if_ne (tgt := 60) rfl (by decide) (fun hx => absurd hx (by omega)) (fun _ => ?_)
                                              refine g_bipush rfl ⟨by decide, by decide⟩ (by decide) ?_
                                              refine x_ireturn rfl rfl ?_
                                              exact ⟨rfl, (tp_R_kp hR (tp_kp_pi (by decide) (tp_kp_pi (by decide) (tp_kp_pi (by decide) tp_kp_rf))))⟩
                                        · first
                                            | omega
                                            | refine g_iconst rfl ⟨by decide, by decide⟩ ?_
                                              refine g_goto (tgt := 15) rfl (by decide) ?_
                                              refine x_zreturn rfl rfl (Or.inr rfl) ?_
                                              intro _
                                              refine x_zreturn rfl rfl (Or.inr rfl) ?_
                                              intro _
                                              refine g_if_ne (tgt := 60) rfl (by decide) (fun _ => ?_) (fun hx => absurd hx (by omega))
                                              refine g_aload_n rfl rfl ?_
                                              refine g_iload_n rfl rfl ?_
                                              refine g_sipush rfl ⟨by decide, by decide⟩ (by decide) ?_
                                              refine g_icmp_ge (tgt := 73) rfl (by decide) (fun h8 => ?_) (fun h8 => ?_)
                                              · first
                                                  | omega
                                                  | refine g_iload_n rfl rfl ?_
                                                    refine g_sipush rfl ⟨by decide, by decide⟩ (by decide) ?_
                                                    refine g_icmp_ge (tgt := 85) rfl (by decide) (fun h9 => ?_) (fun h9 => ?_)
                                                    · first
                                                        | omega
                                                        | refine g_bipush rfl ⟨by decide, by decide⟩ (by decide) ?_
                                                          refine g_iload_n rfl rfl ?_
                                                          refine x_iadd (z := (k % 100) + 89) rfl (by omega) ⟨by omega, by omega⟩ ?_
                                                          refine g_iV (as := [tI ((k % 100) + 89)]) mX12_of_ok rfl rfl rfl rfl rfl rfl (by decide) rfl rfl rfl ?_
                                                          refine g_aload_n rfl rfl ?_
                                                          refine x_getF (r := 207) hG rfl rfl (by decide) (Or.inr ⟨_, rfl⟩) rfl ?_
                                                          refine g_sipush rfl ⟨by decide, by decide⟩ (by decide) ?_
                                                          refine g_aload_n rfl rfl ?_
                                                          refine x_geti (v := a) rfl rfl (by decide) (Or.inl rfl) rfl ?_
                                                          refine x_imul (z := 129 * a) rfl (by omega) ⟨by omega, by omega⟩ ?_
                                                          refine g_iload_n rfl rfl ?_
                                                          refine x_iadd (z := 129 * a + (k % 100) + 89) rfl (by omega) ⟨by omega, by omega⟩ ?_
                                                          refine x_iald (v := (μ.1 207 (129 * a + (k % 100) + 89))) rfl rfl (by decide) (by omega) (by omega) rfl ?_
                                                          refine x_ireturn rfl rfl ?_
                                                          intro _
                                                          refine x_ireturn rfl rfl ?_
                                                          exact ⟨rfl, (tp_R_kp hR (tp_kp_pi (by decide) (tp_kp_pi (by decide) (tp_kp_pi (by decide) tp_kp_rf))))⟩
                                                    · first
                                                        | omega
                                                        | refine g_bipush rfl ⟨by decide, by decide⟩ (by decide) ?_
                                                          refine g_goto (tgt := 87) rfl (by decide) ?_
                                                          refine g_iload_n rfl rfl ?_
                                                          refine x_iadd (z := (k % 100) + 49) rfl (by omega) ⟨by omega, by omega⟩ ?_
                                                          refine g_iV (as := [tI ((k % 100) + 49)]) mX12_of_ok rfl rfl rfl rfl rfl rfl (by decide) rfl rfl rfl ?_
                                                          refine g_aload_n rfl rfl ?_
                                                          refine x_getF (r := 207) hG rfl rfl (by decide) (Or.inr ⟨_, rfl⟩) rfl ?_
                                                          refine g_sipush rfl ⟨by decide, by decide⟩ (by decide) ?_
                                                          refine g_aload_n rfl rfl ?_
                                                          refine x_geti (v := a) rfl rfl (by decide) (Or.inl rfl) rfl ?_
                                                          refine x_imul (z := 129 * a) rfl (by omega) ⟨by omega, by omega⟩ ?_
                                                          refine g_iload_n rfl rfl ?_
                                                          refine x_iadd (z := 129 * a + (k % 100) + 49) rfl (by omega) ⟨by omega, by omega⟩ ?_
                                                          refine x_iald (v := (μ.1 207 (129 * a + (k % 100) + 49))) rfl rfl (by decide) (by omega) (by omega) rfl ?_
                                                          refine x_ireturn rfl rfl ?_
                                                          intro _
                                                          refine x_ireturn rfl rfl ?_
                                                          exact ⟨rfl, (tp_R_kp hR (tp_kp_pi (by decide) (tp_kp_pi (by decide) (tp_kp_pi (by decide) tp_kp_rf))))⟩
                                              · first
                                                  | omega
                                                  | refine g_bipush rfl ⟨by decide, by decide⟩ (by decide) ?_
                                                    refine g_goto (tgt := 87) rfl (by decide) ?_
                                                    refine g_iload_n rfl rfl ?_
                                                    refine x_iadd (z := (k % 100) + 9) rfl (by omega) ⟨by omega, by omega⟩ ?_
                                                    refine g_iV (as := [tI ((k % 100) + 9)]) mX12_of_ok rfl rfl rfl rfl rfl rfl (by decide) rfl rfl rfl ?_
                                                    refine g_aload_n rfl rfl ?_
                                                    refine x_getF (r := 207) hG rfl rfl (by decide) (Or.inr ⟨_, rfl⟩) rfl ?_
                                                    refine g_sipush rfl ⟨by decide, by decide⟩ (by decide) ?_
                                                    refine g_aload_n rfl rfl ?_
                                                    refine x_geti (v := a) rfl rfl (by decide) (Or.inl rfl) rfl ?_
                                                    refine x_imul (z := 129 * a) rfl (by omega) ⟨by omega, by omega⟩ ?_
                                                    refine g_iload_n rfl rfl ?_
                                                    refine x_iadd (z := 129 * a + (k % 100) + 9) rfl (by omega) ⟨by omega, by omega⟩ ?_
                                                    refine x_iald (v := (μ.1 207 (129 * a + (k % 100) + 9))) rfl rfl (by decide) (by omega) (by omega) rfl ?_
                                                    refine x_ireturn rfl rfl ?_
                                                    intro _
                                                    refine x_ireturn rfl rfl ?_
                                                    exact ⟨rfl, (tp_R_kp hR (tp_kp_pi (by decide) (tp_kp_pi (by decide) (tp_kp_pi (by decide) tp_kp_rf))))⟩
                      · first
                          | omega
                          | refine g_aload_n rfl rfl ?_
                            refine g_iload_n rfl rfl ?_
                            refine g_iV (as := [tI k]) mX12_of_ok rfl rfl rfl rfl rfl rfl (by decide) rfl rfl rfl ?_
                            refine g_aload_n rfl rfl ?_
                            refine x_getF (r := 207) hG rfl rfl (by decide) (Or.inr ⟨_, rfl⟩) rfl ?_
                            refine g_sipush rfl ⟨by decide, by decide⟩ (by decide) ?_
                            refine g_aload_n rfl rfl ?_
                            refine x_geti (v := a) rfl rfl (by decide) (Or.inl rfl) rfl ?_
                            refine x_imul (z := 129 * a) rfl (by omega) ⟨by omega, by omega⟩ ?_
                            refine g_iload_n rfl rfl ?_
                            refine x_iadd (z := 129 * a + k) rfl (by omega) ⟨by omega, by omega⟩ ?_
                            refine x_iald (v := (μ.1 207 (129 * a + k))) rfl rfl (by decide) (by omega) (by omega) rfl ?_
                            refine x_ireturn rfl rfl ?_
                            intro _
                            refine x_ireturn rfl rfl ?_
                            exact ⟨rfl, (tp_R_kp hR (tp_kp_pi (by decide) (tp_kp_pi (by decide) (tp_kp_pi (by decide) tp_kp_rf))))⟩
                · first
                    | omega
                    | refine g_bipush rfl ⟨by decide, by decide⟩ (by decide) ?_
                      refine x_ireturn rfl rfl ?_
                      exact ⟨rfl, (tp_R_kp hR (tp_kp_pi (by decide) (tp_kp_pi (by decide) (tp_kp_pi (by decide) tp_kp_rf))))⟩
