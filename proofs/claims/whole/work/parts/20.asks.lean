set_option maxHeartbeats 4000000 in
set_option maxRecDepth 100000 in
theorem s_codeOf0 {G : tp_G} {μ : tp_M} (hG : tp_Gf G = true) (h : 0 < μ.1 5 0) : tp_k G mX9_codeOf [tR (some 1), tI 0] μ (fun r μ' => r = some (tR (some 6)) ∧ μ' = μ) := by
  refine tp_ok_of mX9_codeOf_ok rfl (Nat.le_refl _) ?_
  refine g_iload_n rfl rfl ?_
  refine g_if_lt (tgt := 19) rfl (by decide) (fun hx => absurd hx (by omega)) (fun _ => ?_)
  refine g_iload_n rfl rfl ?_
  refine g_aload_n rfl rfl ?_
  refine x_getF (r := 5) hG rfl rfl (by decide) (Or.inr ⟨_, rfl⟩) rfl ?_
  refine g_iconst rfl ⟨by decide, by decide⟩ ?_
  refine x_iald (v := (μ.1 5 0)) rfl rfl (by decide) (by decide) (by decide) rfl ?_
  refine g_icmp_ge (tgt := 19) rfl (by decide) (fun h1 => ?_) (fun h1 => ?_)
  · first
      | omega
      | refine g_null rfl ?_
        refine g_goto (tgt := 29) rfl (by decide) ?_
        refine x_areturn rfl rfl ?_
        exact ⟨rfl, rfl⟩
  · first
      | omega
      | refine g_iload_n rfl rfl ?_
        refine g_iconst rfl ⟨by decide, by decide⟩ ?_
        refine g_icmp_lt (tgt := 23) rfl (by decide) (fun _ => ?_) (fun hx => absurd hx (by omega))
        refine g_aload_n rfl rfl ?_
        refine x_getF (r := 3) hG rfl rfl (by decide) (Or.inr ⟨_, rfl⟩) rfl ?_
        refine g_iload_n rfl rfl ?_
        refine x_aald (t0 := 4) (r := 6) hG rfl rfl rfl (by decide) (by decide) (by decide) rfl ?_
        refine x_areturn rfl rfl ?_
        exact ⟨rfl, rfl⟩
set_option maxHeartbeats 4000000 in
set_option maxRecDepth 100000 in
theorem s_codeOf1 {G : tp_G} {μ : tp_M} (hG : tp_Gf G = true) (h : 1 < μ.1 5 0) : tp_k G mX9_codeOf [tR (some 1), tI 1] μ (fun r μ' => r = some (tR (some 11)) ∧ μ' = μ) := by
  refine tp_ok_of mX9_codeOf_ok rfl (Nat.le_refl _) ?_
  refine g_iload_n rfl rfl ?_
  refine g_if_lt (tgt := 19) rfl (by decide) (fun hx => absurd hx (by omega)) (fun _ => ?_)
  refine g_iload_n rfl rfl ?_
  refine g_aload_n rfl rfl ?_
  refine x_getF (r := 5) hG rfl rfl (by decide) (Or.inr ⟨_, rfl⟩) rfl ?_
  refine g_iconst rfl ⟨by decide, by decide⟩ ?_
  refine x_iald (v := (μ.1 5 0)) rfl rfl (by decide) (by decide) (by decide) rfl ?_
  refine g_icmp_ge (tgt := 19) rfl (by decide) (fun h1 => ?_) (fun h1 => ?_)
  · first
      | omega
      | refine g_null rfl ?_
        refine g_goto (tgt := 29) rfl (by decide) ?_
        refine x_areturn rfl rfl ?_
        exact ⟨rfl, rfl⟩
  · first
      | omega
      | refine g_iload_n rfl rfl ?_
        refine g_iconst rfl ⟨by decide, by decide⟩ ?_
        refine g_icmp_lt (tgt := 23) rfl (by decide) (fun _ => ?_) (fun hx => absurd hx (by omega))
        refine g_aload_n rfl rfl ?_
        refine x_getF (r := 3) hG rfl rfl (by decide) (Or.inr ⟨_, rfl⟩) rfl ?_
        refine g_iload_n rfl rfl ?_
        refine x_aald (t0 := 4) (r := 11) hG rfl rfl rfl (by decide) (by decide) (by decide) rfl ?_
        refine x_areturn rfl rfl ?_
        exact ⟨rfl, rfl⟩
set_option maxHeartbeats 4000000 in
set_option maxRecDepth 100000 in
theorem s_codeOfo {G : tp_G} {μ : tp_M} (hG : tp_Gf G = true) {k : Int} (h : (k < 0 ∨ μ.1 5 0 ≤ k) ∧ μ.1 5 0 ≤ 2) : tp_k G mX9_codeOf [tR (some 1), tI k] μ (fun r μ' => r = some (tR none) ∧ μ' = μ) := by
  refine tp_ok_of mX9_codeOf_ok rfl (Nat.le_refl _) ?_
  refine g_iload_n rfl rfl ?_
  refine g_if_lt (tgt := 19) rfl (by decide) (fun h1 => ?_) (fun h1 => ?_)
  · first
      | omega
      | refine g_null rfl ?_
        refine g_goto (tgt := 29) rfl (by decide) ?_
        refine x_areturn rfl rfl ?_
        exact ⟨rfl, rfl⟩
  · first
      | omega
      | refine g_iload_n rfl rfl ?_
        refine g_aload_n rfl rfl ?_
        refine x_getF (r := 5) hG rfl rfl (by decide) (Or.inr ⟨_, rfl⟩) rfl ?_
        refine g_iconst rfl ⟨by decide, by decide⟩ ?_
        refine x_iald (v := (μ.1 5 0)) rfl rfl (by decide) (by decide) (by decide) rfl ?_
        refine g_icmp_ge (tgt := 19) rfl (by decide) (fun h2 => ?_) (fun h2 => ?_)
        · first
            | omega
            | refine g_null rfl ?_
              refine g_goto (tgt := 29) rfl (by decide) ?_
              refine x_areturn rfl rfl ?_
              exact ⟨rfl, rfl⟩
        · first
            | omega
            | refine g_iload_n rfl rfl ?_
              refine g_iconst rfl ⟨by decide, by decide⟩ ?_
              refine g_icmp_lt (tgt := 23) rfl (by decide) (fun h3 => ?_) (fun h3 => ?_)
              · first
                  | omega
                  | refine g_aload_n rfl rfl ?_
                    refine x_getF (r := 3) hG rfl rfl (by decide) (Or.inr ⟨_, rfl⟩) rfl ?_
                    refine g_iload_n rfl rfl ?_
                    refine x_aald (t0 := 4) (r := 6) hG rfl rfl rfl (by decide) (by omega) (by omega) rfl ?_
                    refine x_areturn rfl rfl ?_
                    exact ⟨rfl, rfl⟩
              · first
                  | omega
                  | refine g_null rfl ?_
                    refine g_goto (tgt := 29) rfl (by decide) ?_
                    refine x_areturn rfl rfl ?_
                    exact ⟨rfl, rfl⟩
set_option maxHeartbeats 4000000 in
set_option maxRecDepth 100000 in
theorem s_rowOf10 {G : tp_G} {μ : tp_M} (hG : tp_Gf G = true) (h : 0 < μ.1 5 1) : tp_k G mX9_rowOf [tR (some 1), tI 1, tI 0] μ (fun r μ' => r = some (tR (some 22)) ∧ μ' = μ) := by
  refine tp_ok_of mX9_rowOf_ok rfl (Nat.le_refl _) ?_
  refine g_iload_n rfl rfl ?_
  refine g_if_le (tgt := 28) rfl (by decide) (fun hx => absurd hx (by omega)) (fun _ => ?_)
  refine g_iload_n rfl rfl ?_
  refine g_iconst rfl ⟨by decide, by decide⟩ ?_
  refine g_icmp_ge (tgt := 28) rfl (by decide) (fun hx => absurd hx (by omega)) (fun _ => ?_)
  refine g_iload_n rfl rfl ?_
  refine g_if_lt (tgt := 28) rfl (by decide) (fun hx => absurd hx (by omega)) (fun _ => ?_)
  refine g_iload_n rfl rfl ?_
  refine g_aload_n rfl rfl ?_
  refine x_getF (r := 5) hG rfl rfl (by decide) (Or.inr ⟨_, rfl⟩) rfl ?_
  refine g_iload_n rfl rfl ?_
  refine x_iald (v := (μ.1 5 1)) rfl rfl (by decide) (by decide) (by decide) rfl ?_
  refine g_icmp_ge (tgt := 28) rfl (by decide) (fun h1 => ?_) (fun h1 => ?_)
  · first
      | omega
      | refine g_null rfl ?_
        refine x_areturn rfl rfl ?_
        exact ⟨rfl, rfl⟩
  · first
      | omega
      | refine g_iload_n rfl rfl ?_
        refine g_iconst rfl ⟨by decide, by decide⟩ ?_
        refine g_icmp_lt (tgt := 30) rfl (by decide) (fun _ => ?_) (fun hx => absurd hx (by omega))
        refine g_aload_n rfl rfl ?_
        refine x_getF (r := 4) hG rfl rfl (by decide) (Or.inr ⟨_, rfl⟩) rfl ?_
        refine g_iload_n rfl rfl ?_
        refine g_iconst rfl ⟨by decide, by decide⟩ ?_
        refine x_imul (z := 2) rfl (by omega) ⟨by omega, by omega⟩ ?_
        refine g_iload_n rfl rfl ?_
        refine x_iadd (z := 2) rfl (by omega) ⟨by omega, by omega⟩ ?_
        refine x_aald (t0 := 5) (r := 22) hG rfl rfl rfl (by decide) (by decide) (by decide) rfl ?_
        refine x_areturn rfl rfl ?_
        exact ⟨rfl, rfl⟩
set_option maxHeartbeats 4000000 in
set_option maxRecDepth 100000 in
theorem s_rowOf11 {G : tp_G} {μ : tp_M} (hG : tp_Gf G = true) (h : 1 < μ.1 5 1) : tp_k G mX9_rowOf [tR (some 1), tI 1, tI 1] μ (fun r μ' => r = some (tR (some 25)) ∧ μ' = μ) := by
  refine tp_ok_of mX9_rowOf_ok rfl (Nat.le_refl _) ?_
  refine g_iload_n rfl rfl ?_
  refine g_if_le (tgt := 28) rfl (by decide) (fun hx => absurd hx (by omega)) (fun _ => ?_)
  refine g_iload_n rfl rfl ?_
  refine g_iconst rfl ⟨by decide, by decide⟩ ?_
  refine g_icmp_ge (tgt := 28) rfl (by decide) (fun hx => absurd hx (by omega)) (fun _ => ?_)
  refine g_iload_n rfl rfl ?_
  refine g_if_lt (tgt := 28) rfl (by decide) (fun hx => absurd hx (by omega)) (fun _ => ?_)
  refine g_iload_n rfl rfl ?_
  refine g_aload_n rfl rfl ?_
  refine x_getF (r := 5) hG rfl rfl (by decide) (Or.inr ⟨_, rfl⟩) rfl ?_
  refine g_iload_n rfl rfl ?_
  refine x_iald (v := (μ.1 5 1)) rfl rfl (by decide) (by decide) (by decide) rfl ?_
  refine g_icmp_ge (tgt := 28) rfl (by decide) (fun h1 => ?_) (fun h1 => ?_)
  · first
      | omega
      | refine g_null rfl ?_
        refine x_areturn rfl rfl ?_
        exact ⟨rfl, rfl⟩
  · first
      | omega
      | refine g_iload_n rfl rfl ?_
        refine g_iconst rfl ⟨by decide, by decide⟩ ?_
        refine g_icmp_lt (tgt := 30) rfl (by decide) (fun _ => ?_) (fun hx => absurd hx (by omega))
        refine g_aload_n rfl rfl ?_
        refine x_getF (r := 4) hG rfl rfl (by decide) (Or.inr ⟨_, rfl⟩) rfl ?_
        refine g_iload_n rfl rfl ?_
        refine g_iconst rfl ⟨by decide, by decide⟩ ?_
        refine x_imul (z := 2) rfl (by omega) ⟨by omega, by omega⟩ ?_
        refine g_iload_n rfl rfl ?_
        refine x_iadd (z := 3) rfl (by omega) ⟨by omega, by omega⟩ ?_
        refine x_aald (t0 := 5) (r := 25) hG rfl rfl rfl (by decide) (by decide) (by decide) rfl ?_
        refine x_areturn rfl rfl ?_
        exact ⟨rfl, rfl⟩
set_option maxHeartbeats 4000000 in
set_option maxRecDepth 100000 in
theorem s_rowOf1o {G : tp_G} {μ : tp_M} (hG : tp_Gf G = true) {k : Int} (h : (k < 0 ∨ μ.1 5 1 ≤ k) ∧ μ.1 5 1 ≤ 2) : tp_k G mX9_rowOf [tR (some 1), tI 1, tI k] μ (fun r μ' => r = some (tR none) ∧ μ' = μ) := by
  refine tp_ok_of mX9_rowOf_ok rfl (Nat.le_refl _) ?_
  refine g_iload_n rfl rfl ?_
  refine g_if_le (tgt := 28) rfl (by decide) (fun hx => absurd hx (by omega)) (fun _ => ?_)
  refine g_iload_n rfl rfl ?_
  refine g_iconst rfl ⟨by decide, by decide⟩ ?_
  refine g_icmp_ge (tgt := 28) rfl (by decide) (fun hx => absurd hx (by omega)) (fun _ => ?_)
  refine g_iload_n rfl rfl ?_
  refine g_if_lt (tgt := 28) rfl (by decide) (fun h1 => ?_) (fun h1 => ?_)
  · first
      | omega
      | refine g_null rfl ?_
        refine x_areturn rfl rfl ?_
        exact ⟨rfl, rfl⟩
  · first
      | omega
      | refine g_iload_n rfl rfl ?_
        refine g_aload_n rfl rfl ?_
        refine x_getF (r := 5) hG rfl rfl (by decide) (Or.inr ⟨_, rfl⟩) rfl ?_
        refine g_iload_n rfl rfl ?_
        refine x_iald (v := (μ.1 5 1)) rfl rfl (by decide) (by decide) (by decide) rfl ?_
        refine g_icmp_ge (tgt := 28) rfl (by decide) (fun h2 => ?_) (fun h2 => ?_)
        · first
            | omega
            | refine g_null rfl ?_
              refine x_areturn rfl rfl ?_
              exact ⟨rfl, rfl⟩
        · first
            | omega
            | refine g_iload_n rfl rfl ?_
              refine g_iconst rfl ⟨by decide, by decide⟩ ?_
              refine g_icmp_lt (tgt := 30) rfl (by decide) (fun h3 => ?_) (fun h3 => ?_)
              · first
                  | omega
                  | refine g_aload_n rfl rfl ?_
                    refine x_getF (r := 4) hG rfl rfl (by decide) (Or.inr ⟨_, rfl⟩) rfl ?_
                    refine g_iload_n rfl rfl ?_
                    refine g_iconst rfl ⟨by decide, by decide⟩ ?_
                    refine x_imul (z := 2) rfl (by omega) ⟨by omega, by omega⟩ ?_
                    refine g_iload_n rfl rfl ?_
                    refine x_iadd (z := k + 2) rfl (by omega) ⟨by omega, by omega⟩ ?_
                    refine x_aald (t0 := 5) (r := 16) hG rfl rfl rfl (by decide) (by omega) (by omega) rfl ?_
                    refine x_areturn rfl rfl ?_
                    exact ⟨rfl, rfl⟩
              · first
                  | omega
                  | refine g_null rfl ?_
                    refine x_areturn rfl rfl ?_
                    exact ⟨rfl, rfl⟩
set_option maxHeartbeats 4000000 in
set_option maxRecDepth 100000 in
theorem s_rowOf20 {G : tp_G} {μ : tp_M} (hG : tp_Gf G = true) (h : 0 < μ.1 5 2) : tp_k G mX9_rowOf [tR (some 1), tI 2, tI 0] μ (fun r μ' => r = some (tR (some 28)) ∧ μ' = μ) := by
  refine tp_ok_of mX9_rowOf_ok rfl (Nat.le_refl _) ?_
  refine g_iload_n rfl rfl ?_
  refine g_if_le (tgt := 28) rfl (by decide) (fun hx => absurd hx (by omega)) (fun _ => ?_)
  refine g_iload_n rfl rfl ?_
  refine g_iconst rfl ⟨by decide, by decide⟩ ?_
  refine g_icmp_ge (tgt := 28) rfl (by decide) (fun hx => absurd hx (by omega)) (fun _ => ?_)
  refine g_iload_n rfl rfl ?_
  refine g_if_lt (tgt := 28) rfl (by decide) (fun hx => absurd hx (by omega)) (fun _ => ?_)
  refine g_iload_n rfl rfl ?_
  refine g_aload_n rfl rfl ?_
  refine x_getF (r := 5) hG rfl rfl (by decide) (Or.inr ⟨_, rfl⟩) rfl ?_
  refine g_iload_n rfl rfl ?_
  refine x_iald (v := (μ.1 5 2)) rfl rfl (by decide) (by decide) (by decide) rfl ?_
  refine g_icmp_ge (tgt := 28) rfl (by decide) (fun h1 => ?_) (fun h1 => ?_)
  · first
      | omega
      | refine g_null rfl ?_
        refine x_areturn rfl rfl ?_
        exact ⟨rfl, rfl⟩
  · first
      | omega
      | refine g_iload_n rfl rfl ?_
        refine g_iconst rfl ⟨by decide, by decide⟩ ?_
        refine g_icmp_lt (tgt := 30) rfl (by decide) (fun _ => ?_) (fun hx => absurd hx (by omega))
        refine g_aload_n rfl rfl ?_
        refine x_getF (r := 4) hG rfl rfl (by decide) (Or.inr ⟨_, rfl⟩) rfl ?_
        refine g_iload_n rfl rfl ?_
        refine g_iconst rfl ⟨by decide, by decide⟩ ?_
        refine x_imul (z := 4) rfl (by omega) ⟨by omega, by omega⟩ ?_
        refine g_iload_n rfl rfl ?_
        refine x_iadd (z := 4) rfl (by omega) ⟨by omega, by omega⟩ ?_
        refine x_aald (t0 := 5) (r := 28) hG rfl rfl rfl (by decide) (by decide) (by decide) rfl ?_
        refine x_areturn rfl rfl ?_
        exact ⟨rfl, rfl⟩
set_option maxHeartbeats 4000000 in
set_option maxRecDepth 100000 in
theorem s_rowOf21 {G : tp_G} {μ : tp_M} (hG : tp_Gf G = true) (h : 1 < μ.1 5 2) : tp_k G mX9_rowOf [tR (some 1), tI 2, tI 1] μ (fun r μ' => r = some (tR (some 31)) ∧ μ' = μ) := by
  refine tp_ok_of mX9_rowOf_ok rfl (Nat.le_refl _) ?_
  refine g_iload_n rfl rfl ?_
  refine g_if_le (tgt := 28) rfl (by decide) (fun hx => absurd hx (by omega)) (fun _ => ?_)
  refine g_iload_n rfl rfl ?_
  refine g_iconst rfl ⟨by decide, by decide⟩ ?_
  refine g_icmp_ge (tgt := 28) rfl (by decide) (fun hx => absurd hx (by omega)) (fun _ => ?_)
  refine g_iload_n rfl rfl ?_
  refine g_if_lt (tgt := 28) rfl (by decide) (fun hx => absurd hx (by omega)) (fun _ => ?_)
  refine g_iload_n rfl rfl ?_
  refine g_aload_n rfl rfl ?_
  refine x_getF (r := 5) hG rfl rfl (by decide) (Or.inr ⟨_, rfl⟩) rfl ?_
  refine g_iload_n rfl rfl ?_
  refine x_iald (v := (μ.1 5 2)) rfl rfl (by decide) (by decide) (by decide) rfl ?_
  refine g_icmp_ge (tgt := 28) rfl (by decide) (fun h1 => ?_) (fun h1 => ?_)
  · first
      | omega
      | refine g_null rfl ?_
        refine x_areturn rfl rfl ?_
        exact ⟨rfl, rfl⟩
  · first
      | omega
      | refine g_iload_n rfl rfl ?_
        refine g_iconst rfl ⟨by decide, by decide⟩ ?_
        refine g_icmp_lt (tgt := 30) rfl (by decide) (fun _ => ?_) (fun hx => absurd hx (by omega))
        refine g_aload_n rfl rfl ?_
        refine x_getF (r := 4) hG rfl rfl (by decide) (Or.inr ⟨_, rfl⟩) rfl ?_
        refine g_iload_n rfl rfl ?_
        refine g_iconst rfl ⟨by decide, by decide⟩ ?_
        refine x_imul (z := 4) rfl (by omega) ⟨by omega, by omega⟩ ?_
        refine g_iload_n rfl rfl ?_
        refine x_iadd (z := 5) rfl (by omega) ⟨by omega, by omega⟩ ?_
        refine x_aald (t0 := 5) (r := 31) hG rfl rfl rfl (by decide) (by decide) (by decide) rfl ?_
        refine x_areturn rfl rfl ?_
        exact ⟨rfl, rfl⟩
set_option maxHeartbeats 4000000 in
set_option maxRecDepth 100000 in
theorem s_rowOf2o {G : tp_G} {μ : tp_M} (hG : tp_Gf G = true) {k : Int} (h : (k < 0 ∨ μ.1 5 2 ≤ k) ∧ μ.1 5 2 ≤ 2) : tp_k G mX9_rowOf [tR (some 1), tI 2, tI k] μ (fun r μ' => r = some (tR none) ∧ μ' = μ) := by
  refine tp_ok_of mX9_rowOf_ok rfl (Nat.le_refl _) ?_
  refine g_iload_n rfl rfl ?_
  refine g_if_le (tgt := 28) rfl (by decide) (fun hx => absurd hx (by omega)) (fun _ => ?_)
  refine g_iload_n rfl rfl ?_
  refine g_iconst rfl ⟨by decide, by decide⟩ ?_
  refine g_icmp_ge (tgt := 28) rfl (by decide) (fun hx => absurd hx (by omega)) (fun _ => ?_)
  refine g_iload_n rfl rfl ?_
  refine g_if_lt (tgt := 28) rfl (by decide) (fun h1 => ?_) (fun h1 => ?_)
  · first
      | omega
      | refine g_null rfl ?_
        refine x_areturn rfl rfl ?_
        exact ⟨rfl, rfl⟩
  · first
      | omega
      | refine g_iload_n rfl rfl ?_
        refine g_aload_n rfl rfl ?_
        refine x_getF (r := 5) hG rfl rfl (by decide) (Or.inr ⟨_, rfl⟩) rfl ?_
        refine g_iload_n rfl rfl ?_
        refine x_iald (v := (μ.1 5 2)) rfl rfl (by decide) (by decide) (by decide) rfl ?_
        refine g_icmp_ge (tgt := 28) rfl (by decide) (fun h2 => ?_) (fun h2 => ?_)
        · first
            | omega
            | refine g_null rfl ?_
              refine x_areturn rfl rfl ?_
              exact ⟨rfl, rfl⟩
        · first
            | omega
            | refine g_iload_n rfl rfl ?_
              refine g_iconst rfl ⟨by decide, by decide⟩ ?_
              refine g_icmp_lt (tgt := 30) rfl (by decide) (fun h3 => ?_) (fun h3 => ?_)
              · first
                  | omega
                  | refine g_aload_n rfl rfl ?_
                    refine x_getF (r := 4) hG rfl rfl (by decide) (Or.inr ⟨_, rfl⟩) rfl ?_
                    refine g_iload_n rfl rfl ?_
                    refine g_iconst rfl ⟨by decide, by decide⟩ ?_
                    refine x_imul (z := 4) rfl (by omega) ⟨by omega, by omega⟩ ?_
                    refine g_iload_n rfl rfl ?_
                    refine x_iadd (z := k + 4) rfl (by omega) ⟨by omega, by omega⟩ ?_
                    refine x_aald (t0 := 5) (r := 16) hG rfl rfl rfl (by decide) (by omega) (by omega) rfl ?_
                    refine x_areturn rfl rfl ?_
                    exact ⟨rfl, rfl⟩
              · first
                  | omega
                  | refine g_null rfl ?_
                    refine x_areturn rfl rfl ?_
                    exact ⟨rfl, rfl⟩
set_option maxHeartbeats 4000000 in
set_option maxRecDepth 100000 in
theorem s_rowOf30 {G : tp_G} {μ : tp_M} (hG : tp_Gf G = true) (h : 0 < μ.1 5 3) : tp_k G mX9_rowOf [tR (some 1), tI 3, tI 0] μ (fun r μ' => r = some (tR (some 34)) ∧ μ' = μ) := by
  refine tp_ok_of mX9_rowOf_ok rfl (Nat.le_refl _) ?_
  refine g_iload_n rfl rfl ?_
  refine g_if_le (tgt := 28) rfl (by decide) (fun hx => absurd hx (by omega)) (fun _ => ?_)
  refine g_iload_n rfl rfl ?_
  refine g_iconst rfl ⟨by decide, by decide⟩ ?_
  refine g_icmp_ge (tgt := 28) rfl (by decide) (fun hx => absurd hx (by omega)) (fun _ => ?_)
  refine g_iload_n rfl rfl ?_
  refine g_if_lt (tgt := 28) rfl (by decide) (fun hx => absurd hx (by omega)) (fun _ => ?_)
  refine g_iload_n rfl rfl ?_
  refine g_aload_n rfl rfl ?_
  refine x_getF (r := 5) hG rfl rfl (by decide) (Or.inr ⟨_, rfl⟩) rfl ?_
  refine g_iload_n rfl rfl ?_
  refine x_iald (v := (μ.1 5 3)) rfl rfl (by decide) (by decide) (by decide) rfl ?_
  refine g_icmp_ge (tgt := 28) rfl (by decide) (fun h1 => ?_) (fun h1 => ?_)
  · first
      | omega
      | refine g_null rfl ?_
        refine x_areturn rfl rfl ?_
        exact ⟨rfl, rfl⟩
  · first
      | omega
      | refine g_iload_n rfl rfl ?_
        refine g_iconst rfl ⟨by decide, by decide⟩ ?_
        refine g_icmp_lt (tgt := 30) rfl (by decide) (fun _ => ?_) (fun hx => absurd hx (by omega))
        refine g_aload_n rfl rfl ?_
        refine x_getF (r := 4) hG rfl rfl (by decide) (Or.inr ⟨_, rfl⟩) rfl ?_
        refine g_iload_n rfl rfl ?_
        refine g_iconst rfl ⟨by decide, by decide⟩ ?_
        refine x_imul (z := 6) rfl (by omega) ⟨by omega, by omega⟩ ?_
        refine g_iload_n rfl rfl ?_
        refine x_iadd (z := 6) rfl (by omega) ⟨by omega, by omega⟩ ?_
        refine x_aald (t0 := 5) (r := 34) hG rfl rfl rfl (by decide) (by decide) (by decide) rfl ?_
        refine x_areturn rfl rfl ?_
        exact ⟨rfl, rfl⟩
set_option maxHeartbeats 4000000 in
set_option maxRecDepth 100000 in
theorem s_rowOf31 {G : tp_G} {μ : tp_M} (hG : tp_Gf G = true) (h : 1 < μ.1 5 3) : tp_k G mX9_rowOf [tR (some 1), tI 3, tI 1] μ (fun r μ' => r = some (tR (some 37)) ∧ μ' = μ) := by
  refine tp_ok_of mX9_rowOf_ok rfl (Nat.le_refl _) ?_
  refine g_iload_n rfl rfl ?_
  refine g_if_le (tgt := 28) rfl (by decide) (fun hx => absurd hx (by omega)) (fun _ => ?_)
  refine g_iload_n rfl rfl ?_
  refine g_iconst rfl ⟨by decide, by decide⟩ ?_
  refine g_icmp_ge (tgt := 28) rfl (by decide) (fun hx => absurd hx (by omega)) (fun _ => ?_)
  refine g_iload_n rfl rfl ?_
  refine g_if_lt (tgt := 28) rfl (by decide) (fun hx => absurd hx (by omega)) (fun _ => ?_)
  refine g_iload_n rfl rfl ?_
  refine g_aload_n rfl rfl ?_
  refine x_getF (r := 5) hG rfl rfl (by decide) (Or.inr ⟨_, rfl⟩) rfl ?_
  refine g_iload_n rfl rfl ?_
  refine x_iald (v := (μ.1 5 3)) rfl rfl (by decide) (by decide) (by decide) rfl ?_
  refine g_icmp_ge (tgt := 28) rfl (by decide) (fun h1 => ?_) (fun h1 => ?_)
  · first
      | omega
      | refine g_null rfl ?_
        refine x_areturn rfl rfl ?_
        exact ⟨rfl, rfl⟩
  · first
      | omega
      | refine g_iload_n rfl rfl ?_
        refine g_iconst rfl ⟨by decide, by decide⟩ ?_
        refine g_icmp_lt (tgt := 30) rfl (by decide) (fun _ => ?_) (fun hx => absurd hx (by omega))
        refine g_aload_n rfl rfl ?_
        refine x_getF (r := 4) hG rfl rfl (by decide) (Or.inr ⟨_, rfl⟩) rfl ?_
        refine g_iload_n rfl rfl ?_
        refine g_iconst rfl ⟨by decide, by decide⟩ ?_
        refine x_imul (z := 6) rfl (by omega) ⟨by omega, by omega⟩ ?_
        refine g_iload_n rfl rfl ?_
        refine x_iadd (z := 7) rfl (by omega) ⟨by omega, by omega⟩ ?_
        refine x_aald (t0 := 5) (r := 37) hG rfl rfl rfl (by decide) (by decide) (by decide) rfl ?_
        refine x_areturn rfl rfl ?_
        exact ⟨rfl, rfl⟩
set_option maxHeartbeats 4000000 in
set_option maxRecDepth 100000 in
theorem s_rowOf3o {G : tp_G} {μ : tp_M} (hG : tp_Gf G = true) {k : Int} (h : (k < 0 ∨ μ.1 5 3 ≤ k) ∧ μ.1 5 3 ≤ 2) : tp_k G mX9_rowOf [tR (some 1), tI 3, tI k] μ (fun r μ' => r = some (tR none) ∧ μ' = μ) := by
  refine tp_ok_of mX9_rowOf_ok rfl (Nat.le_refl _) ?_
  refine g_iload_n rfl rfl ?_
  refine g_if_le (tgt := 28) rfl (by decide) (fun hx => absurd hx (by omega)) (fun _ => ?_)
  refine g_iload_n rfl rfl ?_
  refine g_iconst rfl ⟨by decide, by decide⟩ ?_
  refine g_icmp_ge (tgt := 28) rfl (by decide) (fun hx => absurd hx (by omega)) (fun _ => ?_)
  refine g_iload_n rfl rfl ?_
  refine g_if_lt (tgt := 28) rfl (by decide) (fun h1 => ?_) (fun h1 => ?_)
  · first
      | omega
      | refine g_null rfl ?_
        refine x_areturn rfl rfl ?_
        exact ⟨rfl, rfl⟩
  · first
      | omega
      | refine g_iload_n rfl rfl ?_
        refine g_aload_n rfl rfl ?_
        refine x_getF (r := 5) hG rfl rfl (by decide) (Or.inr ⟨_, rfl⟩) rfl ?_
        refine g_iload_n rfl rfl ?_
        refine x_iald (v := (μ.1 5 3)) rfl rfl (by decide) (by decide) (by decide) rfl ?_
        refine g_icmp_ge (tgt := 28) rfl (by decide) (fun h2 => ?_) (fun h2 => ?_)
        · first
            | omega
            | refine g_null rfl ?_
              refine x_areturn rfl rfl ?_
              exact ⟨rfl, rfl⟩
        · first
            | omega
            | refine g_iload_n rfl rfl ?_
              refine g_iconst rfl ⟨by decide, by decide⟩ ?_
              refine g_icmp_lt (tgt := 30) rfl (by decide) (fun h3 => ?_) (fun h3 => ?_)
              · first
                  | omega
                  | refine g_aload_n rfl rfl ?_
                    refine x_getF (r := 4) hG rfl rfl (by decide) (Or.inr ⟨_, rfl⟩) rfl ?_
                    refine g_iload_n rfl rfl ?_
                    refine g_iconst rfl ⟨by decide, by decide⟩ ?_
                    refine x_imul (z := 6) rfl (by omega) ⟨by omega, by omega⟩ ?_
                    refine g_iload_n rfl rfl ?_
                    refine x_iadd (z := k + 6) rfl (by omega) ⟨by omega, by omega⟩ ?_
                    refine x_aald (t0 := 5) (r := 16) hG rfl rfl rfl (by decide) (by omega) (by omega) rfl ?_
                    refine x_areturn rfl rfl ?_
                    exact ⟨rfl, rfl⟩
              · first
                  | omega
                  | refine g_null rfl ?_
                    refine x_areturn rfl rfl ?_
                    exact ⟨rfl, rfl⟩
set_option maxHeartbeats 4000000 in
set_option maxRecDepth 100000 in
theorem p_count {G : tp_G} (hG : tp_Gf G = true) {a : Int} : tp_pair G mX11_count mX12_count [tI a] := by
  intro μ hR
  refine tp_ok_of mX11_count_ok rfl (Nat.le_refl _) ?_
  refine g_iload_n rfl rfl ?_
  refine g_if_lt (tgt := 9) rfl (by decide) (fun h1 => ?_) (fun h1 => ?_)
  · first
      | omega
      | refine g_bipush rfl ⟨by decide, by decide⟩ (by decide) ?_
        refine g_goto (tgt := 22) rfl (by decide) ?_
        refine x_ireturn rfl rfl ?_
        refine ⟨_, rfl, ?_⟩
        refine tp_ok_of mX12_count_ok rfl (Nat.le_refl _) ?_
        refine g_aload_n rfl rfl ?_
        refine g_iconst rfl ⟨by decide, by decide⟩ ?_
        refine g_puti rfl rfl (by decide) rfl rfl ?_
        refine g_iload_n rfl rfl ?_
        refine g_iconst rfl ⟨by decide, by decide⟩ ?_
        refine g_iconst rfl ⟨by decide, by decide⟩ ?_
        refine g_iS (as := [tI a, tI 0, tI 3]) mX12_in_ok rfl rfl rfl rfl rfl rfl rfl ?_
        refine g_iload_n rfl rfl ?_
        refine g_iload_n rfl rfl ?_
        refine g_icmp_lt (tgt := 14) rfl (by decide) (fun _ => ?_) (fun hx => absurd hx (by omega))
        refine g_iconst rfl ⟨by decide, by decide⟩ ?_
        refine x_zreturn rfl rfl (Or.inl rfl) ?_
        intro _
        refine g_if_eq (tgt := 23) rfl (by decide) (fun _ => ?_) (fun hx => absurd hx (by omega))
        refine g_bipush rfl ⟨by decide, by decide⟩ (by decide) ?_
        refine x_ireturn rfl rfl ?_
        exact ⟨(by first | rfl | rw [(tp_R_many hR a (by omega) (by omega)).1]), (tp_R_kp hR (tp_kp_pi (by decide) tp_kp_rf))⟩
  · first
      | omega
      | refine g_iload_n rfl rfl ?_
        refine g_iconst rfl ⟨by decide, by decide⟩ ?_
        refine g_icmp_lt (tgt := 14) rfl (by decide) (fun h2 => ?_) (fun h2 => ?_)
        · first
            | omega
            | refine g_aload_n rfl rfl ?_
              refine x_getF (r := 1) hG rfl rfl (by decide) (Or.inl ⟨_, rfl⟩) rfl ?_
              refine g_iload_n rfl rfl ?_
              refine g_iV (as := [tI a]) mX9_sizeOf_ok rfl rfl rfl rfl rfl rfl (by decide) rfl rfl rfl ?_
              refine g_iload_n rfl rfl ?_
              refine g_if_lt (tgt := 9) rfl (by decide) (fun hx => absurd hx (by omega)) (fun _ => ?_)
              refine g_iload_n rfl rfl ?_
              refine g_iconst rfl ⟨by decide, by decide⟩ ?_
              refine g_icmp_lt (tgt := 13) rfl (by decide) (fun _ => ?_) (fun hx => absurd hx (by omega))
              refine g_aload_n rfl rfl ?_
              refine x_getF (r := 5) hG rfl rfl (by decide) (Or.inr ⟨_, rfl⟩) rfl ?_
              refine g_iload_n rfl rfl ?_
              refine x_iald (v := (μ.1 5 a)) rfl rfl (by decide) (by omega) (by omega) rfl ?_
              refine x_ireturn rfl rfl ?_
              intro _
              refine x_ireturn rfl rfl ?_
              refine ⟨_, rfl, ?_⟩
              refine tp_ok_of mX12_count_ok rfl (Nat.le_refl _) ?_
              refine g_aload_n rfl rfl ?_
              refine g_iconst rfl ⟨by decide, by decide⟩ ?_
              refine g_puti rfl rfl (by decide) rfl rfl ?_
              refine g_iload_n rfl rfl ?_
              refine g_iconst rfl ⟨by decide, by decide⟩ ?_
              refine g_iconst rfl ⟨by decide, by decide⟩ ?_
              refine g_iS (as := [tI a, tI 0, tI 3]) mX12_in_ok rfl rfl rfl rfl rfl rfl rfl ?_
              refine g_iload_n rfl rfl ?_
              refine g_iload_n rfl rfl ?_
              refine g_icmp_lt (tgt := 14) rfl (by decide) (fun hx => absurd hx (by omega)) (fun _ => ?_)
              refine g_iload_n rfl rfl ?_
              refine g_iload_n rfl rfl ?_
              refine g_icmp_gt (tgt := 14) rfl (by decide) (fun hx => absurd hx (by omega)) (fun _ => ?_)
              refine g_iconst rfl ⟨by decide, by decide⟩ ?_
              refine g_goto (tgt := 15) rfl (by decide) ?_
              refine x_zreturn rfl rfl (Or.inr rfl) ?_
              intro _
              refine g_if_eq (tgt := 23) rfl (by decide) (fun hx => absurd hx (by omega)) (fun _ => ?_)
              refine g_aload_n rfl rfl ?_
              refine x_getF (r := 206) hG rfl rfl (by decide) (Or.inr ⟨_, rfl⟩) rfl ?_
              refine g_iload_n rfl rfl ?_
              refine x_iald (v := (μ.1 206 a)) rfl rfl (by decide) (by omega) (by omega) rfl ?_
              refine g_goto (tgt := 25) rfl (by decide) ?_
              refine x_ireturn rfl rfl ?_
              exact ⟨(by first | rfl | rw [(tp_R_many hR a (by omega) (by omega)).1]), (tp_R_kp hR (tp_kp_pi (by decide) tp_kp_rf))⟩
        · first
            | omega
            | refine g_bipush rfl ⟨by decide, by decide⟩ (by decide) ?_
              refine g_goto (tgt := 22) rfl (by decide) ?_
              refine x_ireturn rfl rfl ?_
              refine ⟨_, rfl, ?_⟩
              refine tp_ok_of mX12_count_ok rfl (Nat.le_refl _) ?_
              refine g_aload_n rfl rfl ?_
              refine g_iconst rfl ⟨by decide, by decide⟩ ?_
              refine g_puti rfl rfl (by decide) rfl rfl ?_
              refine g_iload_n rfl rfl ?_
              refine g_iconst rfl ⟨by decide, by decide⟩ ?_
              refine g_iconst rfl ⟨by decide, by decide⟩ ?_
              refine g_iS (as := [tI a, tI 0, tI 3]) mX12_in_ok rfl rfl rfl rfl rfl rfl rfl ?_
              refine g_iload_n rfl rfl ?_
              refine g_iload_n rfl rfl ?_
              refine g_icmp_lt (tgt := 14) rfl (by decide) (fun hx => absurd hx (by omega)) (fun _ => ?_)
              refine g_iload_n rfl rfl ?_
              refine g_iload_n rfl rfl ?_
              refine g_icmp_gt (tgt := 14) rfl (by decide) (fun _ => ?_) (fun hx => absurd hx (by omega))
              refine g_iconst rfl ⟨by decide, by decide⟩ ?_
              refine x_zreturn rfl rfl (Or.inl rfl) ?_
              intro _
              refine g_if_eq (tgt := 23) rfl (by decide) (fun _ => ?_) (fun hx => absurd hx (by omega))
              refine g_bipush rfl ⟨by decide, by decide⟩ (by decide) ?_
              refine x_ireturn rfl rfl ?_
              exact ⟨(by first | rfl | rw [(tp_R_many hR a (by omega) (by omega)).1]), (tp_R_kp hR (tp_kp_pi (by decide) tp_kp_rf))⟩
set_option maxHeartbeats 4000000 in
set_option maxRecDepth 100000 in
theorem p_fault {G : tp_G} (hG : tp_Gf G = true) {a : Int} : tp_pair G mX11_fault mX12_fault [tI a] := by
  intro μ hR
  refine tp_ok_of mX11_fault_ok rfl (Nat.le_refl _) ?_
  refine g_iload_n rfl rfl ?_
  refine g_if_ne (tgt := 12) rfl (by decide) (fun h1 => ?_) (fun h1 => ?_)
  · first
      | omega
      | refine g_iload_n rfl rfl ?_
        refine g_iconst rfl ⟨by decide, by decide⟩ ?_
        refine g_icmp_ne (tgt := 27) rfl (by decide) (fun h2 => ?_) (fun h2 => ?_)
        · first
            | omega
            | refine g_iconst rfl ⟨by decide, by decide⟩ ?_
              refine x_ireturn rfl rfl ?_
              refine ⟨_, rfl, ?_⟩
              refine tp_ok_of mX12_fault_ok rfl (Nat.le_refl _) ?_
              refine g_aload_n rfl rfl ?_
              refine g_iconst rfl ⟨by decide, by decide⟩ ?_
              refine g_puti rfl rfl (by decide) rfl rfl ?_
              refine g_iload_n rfl rfl ?_
              refine g_if_ne (tgt := 18) rfl (by decide) (fun h3 => ?_) (fun h3 => ?_)
              · first
                  | omega
                  | refine g_iload_n rfl rfl ?_
                    refine g_iconst rfl ⟨by decide, by decide⟩ ?_
                    refine g_icmp_ne (tgt := 32) rfl (by decide) (fun h4 => ?_) (fun h4 => ?_)
                    · first
                        | omega
                        | refine g_iconst rfl ⟨by decide, by decide⟩ ?_
                          refine x_ireturn rfl rfl ?_
                          exact ⟨(by first | rfl | rw [(tp_R_fault hR).1] | rw [(tp_R_fault hR).2]), (tp_R_kp hR (tp_kp_pi (by decide) tp_kp_rf))⟩
                    · first
                        | omega
                        | refine g_aload_n rfl rfl ?_
                          refine x_getF (r := 205) hG rfl rfl (by decide) (Or.inr ⟨_, rfl⟩) rfl ?_
                          refine g_iconst rfl ⟨by decide, by decide⟩ ?_
                          refine x_iald (v := (μ.1 205 0)) rfl rfl (by decide) (by decide) (by decide) rfl ?_
                          refine g_goto (tgt := 33) rfl (by decide) ?_
                          refine x_ireturn rfl rfl ?_
                          exact ⟨(by first | rfl | rw [(tp_R_fault hR).1] | rw [(tp_R_fault hR).2]), (tp_R_kp hR (tp_kp_pi (by decide) tp_kp_rf))⟩
              · first
                  | omega
                  | refine g_aload_n rfl rfl ?_
                    refine x_getF (r := 204) hG rfl rfl (by decide) (Or.inr ⟨_, rfl⟩) rfl ?_
                    refine g_iconst rfl ⟨by decide, by decide⟩ ?_
                    refine x_iald (v := (μ.1 204 0)) rfl rfl (by decide) (by decide) (by decide) rfl ?_
                    refine g_goto (tgt := 33) rfl (by decide) ?_
                    refine x_ireturn rfl rfl ?_
                    exact ⟨(by first | rfl | rw [(tp_R_fault hR).1] | rw [(tp_R_fault hR).2]), (tp_R_kp hR (tp_kp_pi (by decide) tp_kp_rf))⟩
        · first
            | omega
            | refine g_aload_n rfl rfl ?_
              refine x_getF (r := 1) hG rfl rfl (by decide) (Or.inl ⟨_, rfl⟩) rfl ?_
              refine x_geti (v := (μ.1 1 3)) rfl rfl (by decide) (Or.inl rfl) rfl ?_
              refine g_goto (tgt := 28) rfl (by decide) ?_
              refine x_ireturn rfl rfl ?_
              refine ⟨_, rfl, ?_⟩
              refine tp_ok_of mX12_fault_ok rfl (Nat.le_refl _) ?_
              refine g_aload_n rfl rfl ?_
              refine g_iconst rfl ⟨by decide, by decide⟩ ?_
              refine g_puti rfl rfl (by decide) rfl rfl ?_
              refine g_iload_n rfl rfl ?_
              refine g_if_ne (tgt := 18) rfl (by decide) (fun _ => ?_) (fun hx => absurd hx (by omega))
              refine g_iload_n rfl rfl ?_
              refine g_iconst rfl ⟨by decide, by decide⟩ ?_
              refine g_icmp_ne (tgt := 32) rfl (by decide) (fun hx => absurd hx (by omega)) (fun _ => ?_)
              refine g_aload_n rfl rfl ?_
              refine x_getF (r := 205) hG rfl rfl (by decide) (Or.inr ⟨_, rfl⟩) rfl ?_
              refine g_iconst rfl ⟨by decide, by decide⟩ ?_
              refine x_iald (v := (μ.1 205 0)) rfl rfl (by decide) (by decide) (by decide) rfl ?_
              refine g_goto (tgt := 33) rfl (by decide) ?_
              refine x_ireturn rfl rfl ?_
              exact ⟨(by first | rfl | rw [(tp_R_fault hR).1] | rw [(tp_R_fault hR).2]), (tp_R_kp hR (tp_kp_pi (by decide) tp_kp_rf))⟩
  · first
      | omega
      | refine g_aload_n rfl rfl ?_
        refine x_getF (r := 1) hG rfl rfl (by decide) (Or.inl ⟨_, rfl⟩) rfl ?_
        refine x_geti (v := (μ.1 1 2)) rfl rfl (by decide) (Or.inl rfl) rfl ?_
        refine x_ireturn rfl rfl ?_
        refine ⟨_, rfl, ?_⟩
        refine tp_ok_of mX12_fault_ok rfl (Nat.le_refl _) ?_
        refine g_aload_n rfl rfl ?_
        refine g_iconst rfl ⟨by decide, by decide⟩ ?_
        refine g_puti rfl rfl (by decide) rfl rfl ?_
        refine g_iload_n rfl rfl ?_
        refine g_if_ne (tgt := 18) rfl (by decide) (fun hx => absurd hx (by omega)) (fun _ => ?_)
        refine g_aload_n rfl rfl ?_
        refine x_getF (r := 204) hG rfl rfl (by decide) (Or.inr ⟨_, rfl⟩) rfl ?_
        refine g_iconst rfl ⟨by decide, by decide⟩ ?_
        refine x_iald (v := (μ.1 204 0)) rfl rfl (by decide) (by decide) (by decide) rfl ?_
        refine g_goto (tgt := 33) rfl (by decide) ?_
        refine x_ireturn rfl rfl ?_
        exact ⟨(by first | rfl | rw [(tp_R_fault hR).1] | rw [(tp_R_fault hR).2]), (tp_R_kp hR (tp_kp_pi (by decide) tp_kp_rf))⟩
set_option maxHeartbeats 4000000 in
set_option maxRecDepth 100000 in
theorem p_choice {G : tp_G} (hG : tp_Gf G = true) {a k : Int} : tp_pair G mX11_choice mX12_choice [tI a, tI k] := by
  intro μ hR
  have hM := tp_R_many hR 1 (by decide) (by decide)
  rcases (show (a = 0 ∧ 0 < μ.1 5 1) ∨ (a = 1 ∧ 1 < μ.1 5 1) ∨ ((a < 0 ∨ μ.1 5 1 ≤ a) ∧ μ.1 5 1 ≤ 2) by omega) with ⟨rfl, hd⟩ | ⟨rfl, hd⟩ | hd
  · have hD : μ.1 22 2 = tp_df μ 0 0 ∧ (∀ i, 0 ≤ i → i < tp_df μ 0 0 → μ.1 23 i = tp_df μ 0 (1 + i)) ∧ tp_Dw (tp_df μ 0) := tp_R_drive hR 0 (by decide) hd
    have hD0 : tp_df μ 0 0 = μ.1 208 0 := rfl
    have hD1 := hD.2.2.1
    have hDe := hD.1
    refine tp_ok_of mX11_choice_ok rfl (Nat.le_refl _) ?_
    refine g_aload_n rfl rfl ?_
    refine x_getF (r := 1) hG rfl rfl (by decide) (Or.inl ⟨_, rfl⟩) rfl ?_
    refine g_iconst rfl ⟨by decide, by decide⟩ ?_
    refine g_iload_n rfl rfl ?_
    refine g_cV (as := [tI 1, tI 0]) (s_rowOf10 hG hd) rfl rfl mX9_rowOf_ok rfl rfl rfl (by decide) rfl rfl rfl ?_
    rintro _ w9 ⟨rfl, hw9⟩ _
    have hw9 := hw9.symm
    subst hw9
    refine g_iload_n rfl rfl ?_
    refine g_iS (as := [tR (some 22), tI k]) mX11_sizeOrValue_ok rfl rfl rfl rfl rfl rfl rfl ?_
    refine g_aload_n rfl rfl ?_
    refine g_ifnonnull (tgt := 7) rfl (by decide) (fun _ _ => ?_) (fun hx => by cases hx)
    refine g_iload_n rfl rfl ?_
    refine g_iconst rfl ⟨by decide, by decide⟩ ?_
    refine g_icmp_ne (tgt := 17) rfl (by decide) (fun h1 => ?_) (fun h1 => ?_)
    · first
        | omega
        | refine g_iload_n rfl rfl ?_
          refine g_if_lt (tgt := 29) rfl (by decide) (fun h2 => ?_) (fun h2 => ?_)
          · first
              | omega
              | refine g_bipush rfl ⟨by decide, by decide⟩ (by decide) ?_
                refine g_goto (tgt := 39) rfl (by decide) ?_
                refine x_ireturn rfl rfl ?_
                intro _
                refine x_ireturn rfl rfl ?_
                refine ⟨_, rfl, ?_⟩
                refine tp_ok_of mX12_choice_ok rfl (Nat.le_refl _) ?_
                refine g_aload_n rfl rfl ?_
                refine g_iconst rfl ⟨by decide, by decide⟩ ?_
                refine g_puti rfl rfl (by decide) rfl rfl ?_
                refine g_aload_n rfl rfl ?_
                refine g_iconst rfl ⟨by decide, by decide⟩ ?_
                refine g_iload_n rfl rfl ?_
                refine g_iV (as := [tI 1, tI 0]) mX12_is_ok rfl rfl rfl rfl rfl rfl (by decide) rfl rfl rfl ?_
                refine g_iload_n rfl rfl ?_
                refine g_iconst rfl ⟨by decide, by decide⟩ ?_
                refine g_aload_n rfl rfl ?_
                refine x_getF (r := 206) hG rfl rfl (by decide) (Or.inr ⟨_, rfl⟩) rfl ?_
                refine g_iload_n rfl rfl ?_
                refine x_iald (v := (μ.1 206 1)) rfl rfl (by decide) (by decide) (by decide) rfl ?_
                refine g_iconst rfl ⟨by decide, by decide⟩ ?_
                refine x_isub (z := (μ.1 206 1) - 1) rfl (by omega) ⟨by omega, by omega⟩ ?_
                refine g_iS (as := [tI 0, tI 0, tI ((μ.1 206 1) - 1)]) mX12_in_ok rfl rfl rfl rfl rfl rfl rfl ?_
                refine g_iload_n rfl rfl ?_
                refine g_iload_n rfl rfl ?_
                refine g_icmp_lt (tgt := 14) rfl (by decide) (fun hx => absurd hx (by omega)) (fun _ => ?_)
                refine g_iload_n rfl rfl ?_
                refine g_iload_n rfl rfl ?_
                refine g_icmp_gt (tgt := 14) rfl (by decide) (fun hx => absurd hx (by omega)) (fun _ => ?_)
                refine g_iconst rfl ⟨by decide, by decide⟩ ?_
                refine g_goto (tgt := 15) rfl (by decide) ?_
                refine x_zreturn rfl rfl (Or.inr rfl) ?_
                intro _
                refine x_zreturn rfl rfl (Or.inr rfl) ?_
                intro _
                refine g_if_ne (tgt := 17) rfl (by decide) (fun _ => ?_) (fun hx => absurd hx (by omega))
                refine g_aload_n rfl rfl ?_
                refine x_getF (r := 208) hG rfl rfl (by decide) (Or.inr ⟨_, rfl⟩) rfl ?_
                refine g_bipush rfl ⟨by decide, by decide⟩ (by decide) ?_
                refine g_iload_n rfl rfl ?_
                refine x_imul (z := 0) rfl (by omega) ⟨by omega, by omega⟩ ?_
                refine x_iald (v := (μ.1 208 0)) rfl rfl (by decide) (by decide) (by decide) rfl ?_
                refine g_istore_n rfl rfl rfl ?_
                refine g_iload_n rfl rfl ?_
                refine g_iconst rfl ⟨by decide, by decide⟩ ?_
                refine g_icmp_ne (tgt := 36) rfl (by decide) (fun h3 => ?_) (fun h3 => ?_)
                · first
                    | omega
                    | refine g_iload_n rfl rfl ?_
                      refine g_iconst rfl ⟨by decide, by decide⟩ ?_
                      refine g_iload_n rfl rfl ?_
                      refine g_iconst rfl ⟨by decide, by decide⟩ ?_
                      refine x_isub (z := (μ.1 208 0) - 1) rfl (by omega) ⟨by omega, by omega⟩ ?_
                      refine g_iS (as := [tI k, tI 0, tI ((μ.1 208 0) - 1)]) mX12_in_ok rfl rfl rfl rfl rfl rfl rfl ?_
                      refine g_iload_n rfl rfl ?_
                      refine g_iload_n rfl rfl ?_
                      refine g_icmp_lt (tgt := 14) rfl (by decide) (fun _ => ?_) (fun hx => absurd hx (by omega))
                      refine g_iconst rfl ⟨by decide, by decide⟩ ?_
                      refine x_zreturn rfl rfl (Or.inl rfl) ?_
                      intro _
                      refine g_if_eq (tgt := 63) rfl (by decide) (fun _ => ?_) (fun hx => absurd hx (by omega))
                      refine g_bipush rfl ⟨by decide, by decide⟩ (by decide) ?_
                      refine x_ireturn rfl rfl ?_
                      exact ⟨(by first | rfl | (rw [hDe, hD0]) | exact congrArg (fun z => some (tI z)) ((show μ.1 208 (k + 1) = tp_df μ 0 (1 + k) from congrArg (μ.1 208) (by omega)).trans (hD.2.1 k (by omega) (by omega)).symm)), (tp_R_kp hR (tp_kp_pi (by decide) tp_kp_rf))⟩
                · first
                    | omega
                    | refine g_iload_n rfl rfl ?_
                      refine g_goto (tgt := 65) rfl (by decide) ?_
                      refine x_ireturn rfl rfl ?_
                      exact ⟨(by first | rfl | (rw [hDe, hD0]) | exact congrArg (fun z => some (tI z)) ((show μ.1 208 (k + 1) = tp_df μ 0 (1 + k) from congrArg (μ.1 208) (by omega)).trans (hD.2.1 k (by omega) (by omega)).symm)), (tp_R_kp hR (tp_kp_pi (by decide) tp_kp_rf))⟩
          · first
              | omega
              | refine g_iload_n rfl rfl ?_
                refine g_aload_n rfl rfl ?_
                refine x_geti (v := (μ.1 22 2)) rfl rfl (by decide) (Or.inl rfl) rfl ?_
                refine g_icmp_lt (tgt := 34) rfl (by decide) (fun h4 => ?_) (fun h4 => ?_)
                · first
                    | omega
                    | refine g_aload_n rfl rfl ?_
                      refine g_iload_n rfl rfl ?_
                      refine g_cV (as := [tI k]) (s_value hG rfl (by decide) (by omega) (by omega) (by show _ ≤ ((60 : Nat) : Int); omega)) rfl rfl mX6_value_ok rfl rfl rfl (by decide) rfl rfl rfl ?_
                      rintro _ w9 ⟨rfl, hw9⟩ _
                      have hw9 := hw9.symm
                      subst hw9
                      refine x_ireturn rfl rfl ?_
                      intro _
                      refine x_ireturn rfl rfl ?_
                      refine ⟨_, rfl, ?_⟩
                      refine tp_ok_of mX12_choice_ok rfl (Nat.le_refl _) ?_
                      refine g_aload_n rfl rfl ?_
                      refine g_iconst rfl ⟨by decide, by decide⟩ ?_
                      refine g_puti rfl rfl (by decide) rfl rfl ?_
                      refine g_aload_n rfl rfl ?_
                      refine g_iconst rfl ⟨by decide, by decide⟩ ?_
                      refine g_iload_n rfl rfl ?_
                      refine g_iV (as := [tI 1, tI 0]) mX12_is_ok rfl rfl rfl rfl rfl rfl (by decide) rfl rfl rfl ?_
                      refine g_iload_n rfl rfl ?_
                      refine g_iconst rfl ⟨by decide, by decide⟩ ?_
                      refine g_aload_n rfl rfl ?_
                      refine x_getF (r := 206) hG rfl rfl (by decide) (Or.inr ⟨_, rfl⟩) rfl ?_
                      refine g_iload_n rfl rfl ?_
                      refine x_iald (v := (μ.1 206 1)) rfl rfl (by decide) (by decide) (by decide) rfl ?_
                      refine g_iconst rfl ⟨by decide, by decide⟩ ?_
                      refine x_isub (z := (μ.1 206 1) - 1) rfl (by omega) ⟨by omega, by omega⟩ ?_
                      refine g_iS (as := [tI 0, tI 0, tI ((μ.1 206 1) - 1)]) mX12_in_ok rfl rfl rfl rfl rfl rfl rfl ?_
                      refine g_iload_n rfl rfl ?_
                      refine g_iload_n rfl rfl ?_
                      refine g_icmp_lt (tgt := 14) rfl (by decide) (fun hx => absurd hx (by omega)) (fun _ => ?_)
                      refine g_iload_n rfl rfl ?_
                      refine g_iload_n rfl rfl ?_
                      refine g_icmp_gt (tgt := 14) rfl (by decide) (fun hx => absurd hx (by omega)) (fun _ => ?_)
                      refine g_iconst rfl ⟨by decide, by decide⟩ ?_
                      refine g_goto (tgt := 15) rfl (by decide) ?_
                      refine x_zreturn rfl rfl (Or.inr rfl) ?_
                      intro _
                      refine x_zreturn rfl rfl (Or.inr rfl) ?_
                      intro _
                      refine g_if_ne (tgt := 17) rfl (by decide) (fun _ => ?_) (fun hx => absurd hx (by omega))
                      refine g_aload_n rfl rfl ?_
                      refine x_getF (r := 208) hG rfl rfl (by decide) (Or.inr ⟨_, rfl⟩) rfl ?_
                      refine g_bipush rfl ⟨by decide, by decide⟩ (by decide) ?_
                      refine g_iload_n rfl rfl ?_
                      refine x_imul (z := 0) rfl (by omega) ⟨by omega, by omega⟩ ?_
                      refine x_iald (v := (μ.1 208 0)) rfl rfl (by decide) (by decide) (by decide) rfl ?_
                      refine g_istore_n rfl rfl rfl ?_
                      refine g_iload_n rfl rfl ?_
                      refine g_iconst rfl ⟨by decide, by decide⟩ ?_
                      refine g_icmp_ne (tgt := 36) rfl (by decide) (fun _ => ?_) (fun hx => absurd hx (by omega))
                      refine g_iload_n rfl rfl ?_
                      refine g_iconst rfl ⟨by decide, by decide⟩ ?_
                      refine g_iload_n rfl rfl ?_
                      refine g_iconst rfl ⟨by decide, by decide⟩ ?_
                      refine x_isub (z := (μ.1 208 0) - 1) rfl (by omega) ⟨by omega, by omega⟩ ?_
                      refine g_iS (as := [tI k, tI 0, tI ((μ.1 208 0) - 1)]) mX12_in_ok rfl rfl rfl rfl rfl rfl rfl ?_
                      refine g_iload_n rfl rfl ?_
                      refine g_iload_n rfl rfl ?_
                      refine g_icmp_lt (tgt := 14) rfl (by decide) (fun hx => absurd hx (by omega)) (fun _ => ?_)
                      refine g_iload_n rfl rfl ?_
                      refine g_iload_n rfl rfl ?_
                      refine g_icmp_gt (tgt := 14) rfl (by decide) (fun hx => absurd hx (by omega)) (fun _ => ?_)
                      refine g_iconst rfl ⟨by decide, by decide⟩ ?_
                      refine g_goto (tgt := 15) rfl (by decide) ?_
                      refine x_zreturn rfl rfl (Or.inr rfl) ?_
                      intro _
                      refine g_if_eq (tgt := 63) rfl (by decide) (fun hx => absurd hx (by omega)) (fun _ => ?_)
                      refine g_aload_n rfl rfl ?_
                      refine x_getF (r := 208) hG rfl rfl (by decide) (Or.inr ⟨_, rfl⟩) rfl ?_
                      refine g_bipush rfl ⟨by decide, by decide⟩ (by decide) ?_
                      refine g_iload_n rfl rfl ?_
                      refine x_imul (z := 0) rfl (by omega) ⟨by omega, by omega⟩ ?_
                      refine g_iconst rfl ⟨by decide, by decide⟩ ?_
                      refine x_iadd (z := 1) rfl (by omega) ⟨by omega, by omega⟩ ?_
                      refine g_iload_n rfl rfl ?_
                      refine x_iadd (z := k + 1) rfl (by omega) ⟨by omega, by omega⟩ ?_
                      refine x_iald (v := (μ.1 208 (k + 1))) rfl rfl (by decide) (by omega) (by omega) rfl ?_
                      refine g_goto (tgt := 65) rfl (by decide) ?_
                      refine x_ireturn rfl rfl ?_
                      exact ⟨(by first | rfl | (rw [hDe, hD0]) | exact congrArg (fun z => some (tI z)) ((show μ.1 208 (k + 1) = tp_df μ 0 (1 + k) from congrArg (μ.1 208) (by omega)).trans (hD.2.1 k (by omega) (by omega)).symm)), (tp_R_kp hR (tp_kp_pi (by decide) tp_kp_rf))⟩
                · first
                    | omega
                    | refine g_bipush rfl ⟨by decide, by decide⟩ (by decide) ?_
                      refine g_goto (tgt := 39) rfl (by decide) ?_
                      refine x_ireturn rfl rfl ?_
                      intro _
                      refine x_ireturn rfl rfl ?_
                      refine ⟨_, rfl, ?_⟩
                      refine tp_ok_of mX12_choice_ok rfl (Nat.le_refl _) ?_
                      refine g_aload_n rfl rfl ?_
                      refine g_iconst rfl ⟨by decide, by decide⟩ ?_
                      refine g_puti rfl rfl (by decide) rfl rfl ?_
                      refine g_aload_n rfl rfl ?_
                      refine g_iconst rfl ⟨by decide, by decide⟩ ?_
                      refine g_iload_n rfl rfl ?_
                      refine g_iV (as := [tI 1, tI 0]) mX12_is_ok rfl rfl rfl rfl rfl rfl (by decide) rfl rfl rfl ?_
                      refine g_iload_n rfl rfl ?_
                      refine g_iconst rfl ⟨by decide, by decide⟩ ?_
                      refine g_aload_n rfl rfl ?_
                      refine x_getF (r := 206) hG rfl rfl (by decide) (Or.inr ⟨_, rfl⟩) rfl ?_
                      refine g_iload_n rfl rfl ?_
                      refine x_iald (v := (μ.1 206 1)) rfl rfl (by decide) (by decide) (by decide) rfl ?_
                      refine g_iconst rfl ⟨by decide, by decide⟩ ?_
                      refine x_isub (z := (μ.1 206 1) - 1) rfl (by omega) ⟨by omega, by omega⟩ ?_
                      refine g_iS (as := [tI 0, tI 0, tI ((μ.1 206 1) - 1)]) mX12_in_ok rfl rfl rfl rfl rfl rfl rfl ?_
                      refine g_iload_n rfl rfl ?_
                      refine g_iload_n rfl rfl ?_
                      refine g_icmp_lt (tgt := 14) rfl (by decide) (fun hx => absurd hx (by omega)) (fun _ => ?_)
                      refine g_iload_n rfl rfl ?_
                      refine g_iload_n rfl rfl ?_
                      refine g_icmp_gt (tgt := 14) rfl (by decide) (fun hx => absurd hx (by omega)) (fun _ => ?_)
                      refine g_iconst rfl ⟨by decide, by decide⟩ ?_
                      refine g_goto (tgt := 15) rfl (by decide) ?_
                      refine x_zreturn rfl rfl (Or.inr rfl) ?_
                      intro _
                      refine x_zreturn rfl rfl (Or.inr rfl) ?_
                      intro _
                      refine g_if_ne (tgt := 17) rfl (by decide) (fun _ => ?_) (fun hx => absurd hx (by omega))
                      refine g_aload_n rfl rfl ?_
                      refine x_getF (r := 208) hG rfl rfl (by decide) (Or.inr ⟨_, rfl⟩) rfl ?_
                      refine g_bipush rfl ⟨by decide, by decide⟩ (by decide) ?_
                      refine g_iload_n rfl rfl ?_
                      refine x_imul (z := 0) rfl (by omega) ⟨by omega, by omega⟩ ?_
                      refine x_iald (v := (μ.1 208 0)) rfl rfl (by decide) (by decide) (by decide) rfl ?_
                      refine g_istore_n rfl rfl rfl ?_
                      refine g_iload_n rfl rfl ?_
                      refine g_iconst rfl ⟨by decide, by decide⟩ ?_
                      refine g_icmp_ne (tgt := 36) rfl (by decide) (fun _ => ?_) (fun hx => absurd hx (by omega))
                      refine g_iload_n rfl rfl ?_
                      refine g_iconst rfl ⟨by decide, by decide⟩ ?_
                      refine g_iload_n rfl rfl ?_
                      refine g_iconst rfl ⟨by decide, by decide⟩ ?_
                      refine x_isub (z := (μ.1 208 0) - 1) rfl (by omega) ⟨by omega, by omega⟩ ?_
                      refine g_iS (as := [tI k, tI 0, tI ((μ.1 208 0) - 1)]) mX12_in_ok rfl rfl rfl rfl rfl rfl rfl ?_
                      refine g_iload_n rfl rfl ?_
                      refine g_iload_n rfl rfl ?_
                      refine g_icmp_lt (tgt := 14) rfl (by decide) (fun hx => absurd hx (by omega)) (fun _ => ?_)
                      refine g_iload_n rfl rfl ?_
                      refine g_iload_n rfl rfl ?_
                      refine g_icmp_gt (tgt := 14) rfl (by decide) (fun _ => ?_) (fun hx => absurd hx (by omega))
                      refine g_iconst rfl ⟨by decide, by decide⟩ ?_
                      refine x_zreturn rfl rfl (Or.inl rfl) ?_
                      intro _
                      refine g_if_eq (tgt := 63) rfl (by decide) (fun _ => ?_) (fun hx => absurd hx (by omega))
                      refine g_bipush rfl ⟨by decide, by decide⟩ (by decide) ?_
                      refine x_ireturn rfl rfl ?_
                      exact ⟨(by first | rfl | (rw [hDe, hD0]) | exact congrArg (fun z => some (tI z)) ((show μ.1 208 (k + 1) = tp_df μ 0 (1 + k) from congrArg (μ.1 208) (by omega)).trans (hD.2.1 k (by omega) (by omega)).symm)), (tp_R_kp hR (tp_kp_pi (by decide) tp_kp_rf))⟩
    · first
        | omega
        | refine g_aload_n rfl rfl ?_
          refine x_geti (v := (μ.1 22 2)) rfl rfl (by decide) (Or.inl rfl) rfl ?_
          refine x_ireturn rfl rfl ?_
          intro _
          refine x_ireturn rfl rfl ?_
          refine ⟨_, rfl, ?_⟩
          refine tp_ok_of mX12_choice_ok rfl (Nat.le_refl _) ?_
          refine g_aload_n rfl rfl ?_
          refine g_iconst rfl ⟨by decide, by decide⟩ ?_
          refine g_puti rfl rfl (by decide) rfl rfl ?_
          refine g_aload_n rfl rfl ?_
          refine g_iconst rfl ⟨by decide, by decide⟩ ?_
          refine g_iload_n rfl rfl ?_
          refine g_iV (as := [tI 1, tI 0]) mX12_is_ok rfl rfl rfl rfl rfl rfl (by decide) rfl rfl rfl ?_
          refine g_iload_n rfl rfl ?_
          refine g_iconst rfl ⟨by decide, by decide⟩ ?_
          refine g_aload_n rfl rfl ?_
          refine x_getF (r := 206) hG rfl rfl (by decide) (Or.inr ⟨_, rfl⟩) rfl ?_
          refine g_iload_n rfl rfl ?_
          refine x_iald (v := (μ.1 206 1)) rfl rfl (by decide) (by decide) (by decide) rfl ?_
          refine g_iconst rfl ⟨by decide, by decide⟩ ?_
          refine x_isub (z := (μ.1 206 1) - 1) rfl (by omega) ⟨by omega, by omega⟩ ?_
          refine g_iS (as := [tI 0, tI 0, tI ((μ.1 206 1) - 1)]) mX12_in_ok rfl rfl rfl rfl rfl rfl rfl ?_
          refine g_iload_n rfl rfl ?_
          refine g_iload_n rfl rfl ?_
          refine g_icmp_lt (tgt := 14) rfl (by decide) (fun hx => absurd hx (by omega)) (fun _ => ?_)
          refine g_iload_n rfl rfl ?_
          refine g_iload_n rfl rfl ?_
          refine g_icmp_gt (tgt := 14) rfl (by decide) (fun hx => absurd hx (by omega)) (fun _ => ?_)
          refine g_iconst rfl ⟨by decide, by decide⟩ ?_
          refine g_goto (tgt := 15) rfl (by decide) ?_
          refine x_zreturn rfl rfl (Or.inr rfl) ?_
          intro _
          refine x_zreturn rfl rfl (Or.inr rfl) ?_
          intro _
          refine g_if_ne (tgt := 17) rfl (by decide) (fun _ => ?_) (fun hx => absurd hx (by omega))
          refine g_aload_n rfl rfl ?_
          refine x_getF (r := 208) hG rfl rfl (by decide) (Or.inr ⟨_, rfl⟩) rfl ?_
          refine g_bipush rfl ⟨by decide, by decide⟩ (by decide) ?_
          refine g_iload_n rfl rfl ?_
          refine x_imul (z := 0) rfl (by omega) ⟨by omega, by omega⟩ ?_
          refine x_iald (v := (μ.1 208 0)) rfl rfl (by decide) (by decide) (by decide) rfl ?_
          refine g_istore_n rfl rfl rfl ?_
          refine g_iload_n rfl rfl ?_
          refine g_iconst rfl ⟨by decide, by decide⟩ ?_
          refine g_icmp_ne (tgt := 36) rfl (by decide) (fun hx => absurd hx (by omega)) (fun _ => ?_)
          refine g_iload_n rfl rfl ?_
          refine g_goto (tgt := 65) rfl (by decide) ?_
          refine x_ireturn rfl rfl ?_
          exact ⟨(by first | rfl | (rw [hDe, hD0]) | exact congrArg (fun z => some (tI z)) ((show μ.1 208 (k + 1) = tp_df μ 0 (1 + k) from congrArg (μ.1 208) (by omega)).trans (hD.2.1 k (by omega) (by omega)).symm)), (tp_R_kp hR (tp_kp_pi (by decide) tp_kp_rf))⟩
  · have hD : μ.1 25 2 = tp_df μ 1 0 ∧ (∀ i, 0 ≤ i → i < tp_df μ 1 0 → μ.1 26 i = tp_df μ 1 (1 + i)) ∧ tp_Dw (tp_df μ 1) := tp_R_drive hR 1 (by decide) hd
    have hD0 : tp_df μ 1 0 = μ.1 208 61 := rfl
    have hD1 := hD.2.2.1
    have hDe := hD.1
    refine tp_ok_of mX11_choice_ok rfl (Nat.le_refl _) ?_
    refine g_aload_n rfl rfl ?_
    refine x_getF (r := 1) hG rfl rfl (by decide) (Or.inl ⟨_, rfl⟩) rfl ?_
    refine g_iconst rfl ⟨by decide, by decide⟩ ?_
    refine g_iload_n rfl rfl ?_
    refine g_cV (as := [tI 1, tI 1]) (s_rowOf11 hG hd) rfl rfl mX9_rowOf_ok rfl rfl rfl (by decide) rfl rfl rfl ?_
    rintro _ w9 ⟨rfl, hw9⟩ _
    have hw9 := hw9.symm
    subst hw9
    refine g_iload_n rfl rfl ?_
    refine g_iS (as := [tR (some 25), tI k]) mX11_sizeOrValue_ok rfl rfl rfl rfl rfl rfl rfl ?_
    refine g_aload_n rfl rfl ?_
    refine g_ifnonnull (tgt := 7) rfl (by decide) (fun _ _ => ?_) (fun hx => by cases hx)
    refine g_iload_n rfl rfl ?_
    refine g_iconst rfl ⟨by decide, by decide⟩ ?_
    refine g_icmp_ne (tgt := 17) rfl (by decide) (fun h1 => ?_) (fun h1 => ?_)
    · first
        | omega
        | refine g_iload_n rfl rfl ?_
          refine g_if_lt (tgt := 29) rfl (by decide) (fun h2 => ?_) (fun h2 => ?_)
          · first
              | omega
              | refine g_bipush rfl ⟨by decide, by decide⟩ (by decide) ?_
                refine g_goto (tgt := 39) rfl (by decide) ?_
                refine x_ireturn rfl rfl ?_
                intro _
                refine x_ireturn rfl rfl ?_
                refine ⟨_, rfl, ?_⟩
                refine tp_ok_of mX12_choice_ok rfl (Nat.le_refl _) ?_
                refine g_aload_n rfl rfl ?_
                refine g_iconst rfl ⟨by decide, by decide⟩ ?_
                refine g_puti rfl rfl (by decide) rfl rfl ?_
                refine g_aload_n rfl rfl ?_
                refine g_iconst rfl ⟨by decide, by decide⟩ ?_
                refine g_iload_n rfl rfl ?_
                refine g_iV (as := [tI 1, tI 1]) mX12_is_ok rfl rfl rfl rfl rfl rfl (by decide) rfl rfl rfl ?_
                refine g_iload_n rfl rfl ?_
                refine g_iconst rfl ⟨by decide, by decide⟩ ?_
                refine g_aload_n rfl rfl ?_
                refine x_getF (r := 206) hG rfl rfl (by decide) (Or.inr ⟨_, rfl⟩) rfl ?_
                refine g_iload_n rfl rfl ?_
                refine x_iald (v := (μ.1 206 1)) rfl rfl (by decide) (by decide) (by decide) rfl ?_
                refine g_iconst rfl ⟨by decide, by decide⟩ ?_
                refine x_isub (z := (μ.1 206 1) - 1) rfl (by omega) ⟨by omega, by omega⟩ ?_
                refine g_iS (as := [tI 1, tI 0, tI ((μ.1 206 1) - 1)]) mX12_in_ok rfl rfl rfl rfl rfl rfl rfl ?_
                refine g_iload_n rfl rfl ?_
                refine g_iload_n rfl rfl ?_
                refine g_icmp_lt (tgt := 14) rfl (by decide) (fun hx => absurd hx (by omega)) (fun _ => ?_)
                refine g_iload_n rfl rfl ?_
                refine g_iload_n rfl rfl ?_
                refine g_icmp_gt (tgt := 14) rfl (by decide) (fun hx => absurd hx (by omega)) (fun _ => ?_)
                refine g_iconst rfl ⟨by decide, by decide⟩ ?_
                refine g_goto (tgt := 15) rfl (by decide) ?_
                refine x_zreturn rfl rfl (Or.inr rfl) ?_
                intro _
                refine x_zreturn rfl rfl (Or.inr rfl) ?_
                intro _
                refine g_if_ne (tgt := 17) rfl (by decide) (fun _ => ?_) (fun hx => absurd hx (by omega))
                refine g_aload_n rfl rfl ?_
                refine x_getF (r := 208) hG rfl rfl (by decide) (Or.inr ⟨_, rfl⟩) rfl ?_
                refine g_bipush rfl ⟨by decide, by decide⟩ (by decide) ?_
                refine g_iload_n rfl rfl ?_
                refine x_imul (z := 61) rfl (by omega) ⟨by omega, by omega⟩ ?_
                refine x_iald (v := (μ.1 208 61)) rfl rfl (by decide) (by decide) (by decide) rfl ?_
                refine g_istore_n rfl rfl rfl ?_
                refine g_iload_n rfl rfl ?_
                refine g_iconst rfl ⟨by decide, by decide⟩ ?_
                refine g_icmp_ne (tgt := 36) rfl (by decide) (fun h3 => ?_) (fun h3 => ?_)
                · first
                    | omega
                    | refine g_iload_n rfl rfl ?_
                      refine g_iconst rfl ⟨by decide, by decide⟩ ?_
                      refine g_iload_n rfl rfl ?_
                      refine g_iconst rfl ⟨by decide, by decide⟩ ?_
                      refine x_isub (z := (μ.1 208 61) - 1) rfl (by omega) ⟨by omega, by omega⟩ ?_
                      refine g_iS (as := [tI k, tI 0, tI ((μ.1 208 61) - 1)]) mX12_in_ok rfl rfl rfl rfl rfl rfl rfl ?_
                      refine g_iload_n rfl rfl ?_
                      refine g_iload_n rfl rfl ?_
                      refine g_icmp_lt (tgt := 14) rfl (by decide) (fun _ => ?_) (fun hx => absurd hx (by omega))
                      refine g_iconst rfl ⟨by decide, by decide⟩ ?_
                      refine x_zreturn rfl rfl (Or.inl rfl) ?_
                      intro _
                      refine g_if_eq (tgt := 63) rfl (by decide) (fun _ => ?_) (fun hx => absurd hx (by omega))
                      refine g_bipush rfl ⟨by decide, by decide⟩ (by decide) ?_
                      refine x_ireturn rfl rfl ?_
                      exact ⟨(by first | rfl | (rw [hDe, hD0]) | exact congrArg (fun z => some (tI z)) ((show μ.1 208 (k + 62) = tp_df μ 1 (1 + k) from congrArg (μ.1 208) (by omega)).trans (hD.2.1 k (by omega) (by omega)).symm)), (tp_R_kp hR (tp_kp_pi (by decide) tp_kp_rf))⟩
                · first
                    | omega
                    | refine g_iload_n rfl rfl ?_
                      refine g_goto (tgt := 65) rfl (by decide) ?_
                      refine x_ireturn rfl rfl ?_
                      exact ⟨(by first | rfl | (rw [hDe, hD0]) | exact congrArg (fun z => some (tI z)) ((show μ.1 208 (k + 62) = tp_df μ 1 (1 + k) from congrArg (μ.1 208) (by omega)).trans (hD.2.1 k (by omega) (by omega)).symm)), (tp_R_kp hR (tp_kp_pi (by decide) tp_kp_rf))⟩
          · first
              | omega
              | refine g_iload_n rfl rfl ?_
                refine g_aload_n rfl rfl ?_
                refine x_geti (v := (μ.1 25 2)) rfl rfl (by decide) (Or.inl rfl) rfl ?_
                refine g_icmp_lt (tgt := 34) rfl (by decide) (fun h4 => ?_) (fun h4 => ?_)
                · first
                    | omega
                    | refine g_aload_n rfl rfl ?_
                      refine g_iload_n rfl rfl ?_
                      refine g_cV (as := [tI k]) (s_value hG rfl (by decide) (by omega) (by omega) (by show _ ≤ ((60 : Nat) : Int); omega)) rfl rfl mX6_value_ok rfl rfl rfl (by decide) rfl rfl rfl ?_
                      rintro _ w9 ⟨rfl, hw9⟩ _
                      have hw9 := hw9.symm
                      subst hw9
                      refine x_ireturn rfl rfl ?_
                      intro _
                      refine x_ireturn rfl rfl ?_
                      refine ⟨_, rfl, ?_⟩
                      refine tp_ok_of mX12_choice_ok rfl (Nat.le_refl _) ?_
                      refine g_aload_n rfl rfl ?_
                      refine g_iconst rfl ⟨by decide, by decide⟩ ?_
                      refine g_puti rfl rfl (by decide) rfl rfl ?_
                      refine g_aload_n rfl rfl ?_
                      refine g_iconst rfl ⟨by decide, by decide⟩ ?_
                      refine g_iload_n rfl rfl ?_
                      refine g_iV (as := [tI 1, tI 1]) mX12_is_ok rfl rfl rfl rfl rfl rfl (by decide) rfl rfl rfl ?_
                      refine g_iload_n rfl rfl ?_
                      refine g_iconst rfl ⟨by decide, by decide⟩ ?_
                      refine g_aload_n rfl rfl ?_
                      refine x_getF (r := 206) hG rfl rfl (by decide) (Or.inr ⟨_, rfl⟩) rfl ?_
                      refine g_iload_n rfl rfl ?_
                      refine x_iald (v := (μ.1 206 1)) rfl rfl (by decide) (by decide) (by decide) rfl ?_
                      refine g_iconst rfl ⟨by decide, by decide⟩ ?_
                      refine x_isub (z := (μ.1 206 1) - 1) rfl (by omega) ⟨by omega, by omega⟩ ?_
                      refine g_iS (as := [tI 1, tI 0, tI ((μ.1 206 1) - 1)]) mX12_in_ok rfl rfl rfl rfl rfl rfl rfl ?_
                      refine g_iload_n rfl rfl ?_
                      refine g_iload_n rfl rfl ?_
                      refine g_icmp_lt (tgt := 14) rfl (by decide) (fun hx => absurd hx (by omega)) (fun _ => ?_)
                      refine g_iload_n rfl rfl ?_
                      refine g_iload_n rfl rfl ?_
                      refine g_icmp_gt (tgt := 14) rfl (by decide) (fun hx => absurd hx (by omega)) (fun _ => ?_)
                      refine g_iconst rfl ⟨by decide, by decide⟩ ?_
                      refine g_goto (tgt := 15) rfl (by decide) ?_
                      refine x_zreturn rfl rfl (Or.inr rfl) ?_
                      intro _
                      refine x_zreturn rfl rfl (Or.inr rfl) ?_
                      intro _
                      refine g_if_ne (tgt := 17) rfl (by decide) (fun _ => ?_) (fun hx => absurd hx (by omega))
                      refine g_aload_n rfl rfl ?_
                      refine x_getF (r := 208) hG rfl rfl (by decide) (Or.inr ⟨_, rfl⟩) rfl ?_
                      refine g_bipush rfl ⟨by decide, by decide⟩ (by decide) ?_
                      refine g_iload_n rfl rfl ?_
                      refine x_imul (z := 61) rfl (by omega) ⟨by omega, by omega⟩ ?_
                      refine x_iald (v := (μ.1 208 61)) rfl rfl (by decide) (by decide) (by decide) rfl ?_
                      refine g_istore_n rfl rfl rfl ?_
                      refine g_iload_n rfl rfl ?_
                      refine g_iconst rfl ⟨by decide, by decide⟩ ?_
                      refine g_icmp_ne (tgt := 36) rfl (by decide) (fun _ => ?_) (fun hx => absurd hx (by omega))
                      refine g_iload_n rfl rfl ?_
                      refine g_iconst rfl ⟨by decide, by decide⟩ ?_
                      refine g_iload_n rfl rfl ?_
                      refine g_iconst rfl ⟨by decide, by decide⟩ ?_
                      refine x_isub (z := (μ.1 208 61) - 1) rfl (by omega) ⟨by omega, by omega⟩ ?_
                      refine g_iS (as := [tI k, tI 0, tI ((μ.1 208 61) - 1)]) mX12_in_ok rfl rfl rfl rfl rfl rfl rfl ?_
                      refine g_iload_n rfl rfl ?_
                      refine g_iload_n rfl rfl ?_
                      refine g_icmp_lt (tgt := 14) rfl (by decide) (fun hx => absurd hx (by omega)) (fun _ => ?_)
                      refine g_iload_n rfl rfl ?_
                      refine g_iload_n rfl rfl ?_
                      refine g_icmp_gt (tgt := 14) rfl (by decide) (fun hx => absurd hx (by omega)) (fun _ => ?_)
                      refine g_iconst rfl ⟨by decide, by decide⟩ ?_
                      refine g_goto (tgt := 15) rfl (by decide) ?_
                      refine x_zreturn rfl rfl (Or.inr rfl) ?_
                      intro _
                      refine g_if_eq (tgt := 63) rfl (by decide) (fun hx => absurd hx (by omega)) (fun _ => ?_)
                      refine g_aload_n rfl rfl ?_
                      refine x_getF (r := 208) hG rfl rfl (by decide) (Or.inr ⟨_, rfl⟩) rfl ?_
                      refine g_bipush rfl ⟨by decide, by decide⟩ (by decide) ?_
                      refine g_iload_n rfl rfl ?_
                      refine x_imul (z := 61) rfl (by omega) ⟨by omega, by omega⟩ ?_
                      refine g_iconst rfl ⟨by decide, by decide⟩ ?_
                      refine x_iadd (z := 62) rfl (by omega) ⟨by omega, by omega⟩ ?_
                      refine g_iload_n rfl rfl ?_
                      refine x_iadd (z := k + 62) rfl (by omega) ⟨by omega, by omega⟩ ?_
                      refine x_iald (v := (μ.1 208 (k + 62))) rfl rfl (by decide) (by omega) (by omega) rfl ?_
                      refine g_goto (tgt := 65) rfl (by decide) ?_
                      refine x_ireturn rfl rfl ?_
                      exact ⟨(by first | rfl | (rw [hDe, hD0]) | exact congrArg (fun z => some (tI z)) ((show μ.1 208 (k + 62) = tp_df μ 1 (1 + k) from congrArg (μ.1 208) (by omega)).trans (hD.2.1 k (by omega) (by omega)).symm)), (tp_R_kp hR (tp_kp_pi (by decide) tp_kp_rf))⟩
                · first
                    | omega
                    | refine g_bipush rfl ⟨by decide, by decide⟩ (by decide) ?_
                      refine g_goto (tgt := 39) rfl (by decide) ?_
                      refine x_ireturn rfl rfl ?_
                      intro _
                      refine x_ireturn rfl rfl ?_
                      refine ⟨_, rfl, ?_⟩
                      refine tp_ok_of mX12_choice_ok rfl (Nat.le_refl _) ?_
                      refine g_aload_n rfl rfl ?_
                      refine g_iconst rfl ⟨by decide, by decide⟩ ?_
                      refine g_puti rfl rfl (by decide) rfl rfl ?_
                      refine g_aload_n rfl rfl ?_
                      refine g_iconst rfl ⟨by decide, by decide⟩ ?_
                      refine g_iload_n rfl rfl ?_
                      refine g_iV (as := [tI 1, tI 1]) mX12_is_ok rfl rfl rfl rfl rfl rfl (by decide) rfl rfl rfl ?_
                      refine g_iload_n rfl rfl ?_
                      refine g_iconst rfl ⟨by decide, by decide⟩ ?_
                      refine g_aload_n rfl rfl ?_
                      refine x_getF (r := 206) hG rfl rfl (by decide) (Or.inr ⟨_, rfl⟩) rfl ?_
                      refine g_iload_n rfl rfl ?_
                      refine x_iald (v := (μ.1 206 1)) rfl rfl (by decide) (by decide) (by decide) rfl ?_
                      refine g_iconst rfl ⟨by decide, by decide⟩ ?_
                      refine x_isub (z := (μ.1 206 1) - 1) rfl (by omega) ⟨by omega, by omega⟩ ?_
                      refine g_iS (as := [tI 1, tI 0, tI ((μ.1 206 1) - 1)]) mX12_in_ok rfl rfl rfl rfl rfl rfl rfl ?_
                      refine g_iload_n rfl rfl ?_
                      refine g_iload_n rfl rfl ?_
                      refine g_icmp_lt (tgt := 14) rfl (by decide) (fun hx => absurd hx (by omega)) (fun _ => ?_)
                      refine g_iload_n rfl rfl ?_
                      refine g_iload_n rfl rfl ?_
                      refine g_icmp_gt (tgt := 14) rfl (by decide) (fun hx => absurd hx (by omega)) (fun _ => ?_)
                      refine g_iconst rfl ⟨by decide, by decide⟩ ?_
                      refine g_goto (tgt := 15) rfl (by decide) ?_
                      refine x_zreturn rfl rfl (Or.inr rfl) ?_
                      intro _
                      refine x_zreturn rfl rfl (Or.inr rfl) ?_
                      intro _
                      refine g_if_ne (tgt := 17) rfl (by decide) (fun _ => ?_) (fun hx => absurd hx (by omega))
                      refine g_aload_n rfl rfl ?_
                      refine x_getF (r := 208) hG rfl rfl (by decide) (Or.inr ⟨_, rfl⟩) rfl ?_
                      refine g_bipush rfl ⟨by decide, by decide⟩ (by decide) ?_
                      refine g_iload_n rfl rfl ?_
                      refine x_imul (z := 61) rfl (by omega) ⟨by omega, by omega⟩ ?_
                      refine x_iald (v := (μ.1 208 61)) rfl rfl (by decide) (by decide) (by decide) rfl ?_
                      refine g_istore_n rfl rfl rfl ?_
                      refine g_iload_n rfl rfl ?_
                      refine g_iconst rfl ⟨by decide, by decide⟩ ?_
                      refine g_icmp_ne (tgt := 36) rfl (by decide) (fun _ => ?_) (fun hx => absurd hx (by omega))
                      refine g_iload_n rfl rfl ?_
                      refine g_iconst rfl ⟨by decide, by decide⟩ ?_
                      refine g_iload_n rfl rfl ?_
                      refine g_iconst rfl ⟨by decide, by decide⟩ ?_
                      refine x_isub (z := (μ.1 208 61) - 1) rfl (by omega) ⟨by omega, by omega⟩ ?_
                      refine g_iS (as := [tI k, tI 0, tI ((μ.1 208 61) - 1)]) mX12_in_ok rfl rfl rfl rfl rfl rfl rfl ?_
                      refine g_iload_n rfl rfl ?_
                      refine g_iload_n rfl rfl ?_
                      refine g_icmp_lt (tgt := 14) rfl (by decide) (fun hx => absurd hx (by omega)) (fun _ => ?_)
                      refine g_iload_n rfl rfl ?_
                      refine g_iload_n rfl rfl ?_
                      refine g_icmp_gt (tgt := 14) rfl (by decide) (fun _ => ?_) (fun hx => absurd hx (by omega))
                      refine g_iconst rfl ⟨by decide, by decide⟩ ?_
                      refine x_zreturn rfl rfl (Or.inl rfl) ?_
                      intro _
                      refine g_if_eq (tgt := 63) rfl (by decide) (fun _ => ?_) (fun hx => absurd hx (by omega))
                      refine g_bipush rfl ⟨by decide, by decide⟩ (by decide) ?_
                      refine x_ireturn rfl rfl ?_
                      exact ⟨(by first | rfl | (rw [hDe, hD0]) | exact congrArg (fun z => some (tI z)) ((show μ.1 208 (k + 62) = tp_df μ 1 (1 + k) from congrArg (μ.1 208) (by omega)).trans (hD.2.1 k (by omega) (by omega)).symm)), (tp_R_kp hR (tp_kp_pi (by decide) tp_kp_rf))⟩
    · first
        | omega
        | refine g_aload_n rfl rfl ?_
          refine x_geti (v := (μ.1 25 2)) rfl rfl (by decide) (Or.inl rfl) rfl ?_
          refine x_ireturn rfl rfl ?_
          intro _
          refine x_ireturn rfl rfl ?_
          refine ⟨_, rfl, ?_⟩
          refine tp_ok_of mX12_choice_ok rfl (Nat.le_refl _) ?_
          refine g_aload_n rfl rfl ?_
          refine g_iconst rfl ⟨by decide, by decide⟩ ?_
          refine g_puti rfl rfl (by decide) rfl rfl ?_
          refine g_aload_n rfl rfl ?_
          refine g_iconst rfl ⟨by decide, by decide⟩ ?_
          refine g_iload_n rfl rfl ?_
          refine g_iV (as := [tI 1, tI 1]) mX12_is_ok rfl rfl rfl rfl rfl rfl (by decide) rfl rfl rfl ?_
          refine g_iload_n rfl rfl ?_
          refine g_iconst rfl ⟨by decide, by decide⟩ ?_
          refine g_aload_n rfl rfl ?_
          refine x_getF (r := 206) hG rfl rfl (by decide) (Or.inr ⟨_, rfl⟩) rfl ?_
          refine g_iload_n rfl rfl ?_
          refine x_iald (v := (μ.1 206 1)) rfl rfl (by decide) (by decide) (by decide) rfl ?_
          refine g_iconst rfl ⟨by decide, by decide⟩ ?_
          refine x_isub (z := (μ.1 206 1) - 1) rfl (by omega) ⟨by omega, by omega⟩ ?_
          refine g_iS (as := [tI 1, tI 0, tI ((μ.1 206 1) - 1)]) mX12_in_ok rfl rfl rfl rfl rfl rfl rfl ?_
          refine g_iload_n rfl rfl ?_
          refine g_iload_n rfl rfl ?_
          refine g_icmp_lt (tgt := 14) rfl (by decide) (fun hx => absurd hx (by omega)) (fun _ => ?_)
          refine g_iload_n rfl rfl ?_
          refine g_iload_n rfl rfl ?_
          refine g_icmp_gt (tgt := 14) rfl (by decide) (fun hx => absurd hx (by omega)) (fun _ => ?_)
          refine g_iconst rfl ⟨by decide, by decide⟩ ?_
          refine g_goto (tgt := 15) rfl (by decide) ?_
          refine x_zreturn rfl rfl (Or.inr rfl) ?_
          intro _
          refine x_zreturn rfl rfl (Or.inr rfl) ?_
          intro _
          refine g_if_ne (tgt := 17) rfl (by decide) (fun _ => ?_) (fun hx => absurd hx (by omega))
          refine g_aload_n rfl rfl ?_
          refine x_getF (r := 208) hG rfl rfl (by decide) (Or.inr ⟨_, rfl⟩) rfl ?_
          refine g_bipush rfl ⟨by decide, by decide⟩ (by decide) ?_
          refine g_iload_n rfl rfl ?_
          refine x_imul (z := 61) rfl (by omega) ⟨by omega, by omega⟩ ?_
          refine x_iald (v := (μ.1 208 61)) rfl rfl (by decide) (by decide) (by decide) rfl ?_
          refine g_istore_n rfl rfl rfl ?_
          refine g_iload_n rfl rfl ?_
          refine g_iconst rfl ⟨by decide, by decide⟩ ?_
          refine g_icmp_ne (tgt := 36) rfl (by decide) (fun hx => absurd hx (by omega)) (fun _ => ?_)
          refine g_iload_n rfl rfl ?_
          refine g_goto (tgt := 65) rfl (by decide) ?_
          refine x_ireturn rfl rfl ?_
          exact ⟨(by first | rfl | (rw [hDe, hD0]) | exact congrArg (fun z => some (tI z)) ((show μ.1 208 (k + 62) = tp_df μ 1 (1 + k) from congrArg (μ.1 208) (by omega)).trans (hD.2.1 k (by omega) (by omega)).symm)), (tp_R_kp hR (tp_kp_pi (by decide) tp_kp_rf))⟩
  · refine tp_ok_of mX11_choice_ok rfl (Nat.le_refl _) ?_
    refine g_aload_n rfl rfl ?_
    refine x_getF (r := 1) hG rfl rfl (by decide) (Or.inl ⟨_, rfl⟩) rfl ?_
    refine g_iconst rfl ⟨by decide, by decide⟩ ?_
    refine g_iload_n rfl rfl ?_
    refine g_cV (as := [tI 1, tI a]) (s_rowOf1o hG hd) rfl rfl mX9_rowOf_ok rfl rfl rfl (by decide) rfl rfl rfl ?_
    rintro _ w9 ⟨rfl, hw9⟩ _
    have hw9 := hw9.symm
    subst hw9
    refine g_iload_n rfl rfl ?_
    refine g_iS (as := [tR none, tI k]) mX11_sizeOrValue_ok rfl rfl rfl rfl rfl rfl rfl ?_
    refine g_aload_n rfl rfl ?_
    refine g_ifnonnull (tgt := 7) rfl (by decide) (fun _ hx => by cases hx) (fun _ => ?_)
    refine g_bipush rfl ⟨by decide, by decide⟩ (by decide) ?_
    refine x_ireturn rfl rfl ?_
    intro _
    refine x_ireturn rfl rfl ?_
    refine ⟨_, rfl, ?_⟩
    refine tp_ok_of mX12_choice_ok rfl (Nat.le_refl _) ?_
    refine g_aload_n rfl rfl ?_
    refine g_iconst rfl ⟨by decide, by decide⟩ ?_
    refine g_puti rfl rfl (by decide) rfl rfl ?_
    refine g_aload_n rfl rfl ?_
    refine g_iconst rfl ⟨by decide, by decide⟩ ?_
    refine g_iload_n rfl rfl ?_
    refine g_iV (as := [tI 1, tI a]) mX12_is_ok rfl rfl rfl rfl rfl rfl (by decide) rfl rfl rfl ?_
    refine g_iload_n rfl rfl ?_
    refine g_iconst rfl ⟨by decide, by decide⟩ ?_
    refine g_aload_n rfl rfl ?_
    refine x_getF (r := 206) hG rfl rfl (by decide) (Or.inr ⟨_, rfl⟩) rfl ?_
    refine g_iload_n rfl rfl ?_
    refine x_iald (v := (μ.1 206 1)) rfl rfl (by decide) (by decide) (by decide) rfl ?_
    refine g_iconst rfl ⟨by decide, by decide⟩ ?_
    refine x_isub (z := (μ.1 206 1) - 1) rfl (by omega) ⟨by omega, by omega⟩ ?_
    refine g_iS (as := [tI a, tI 0, tI ((μ.1 206 1) - 1)]) mX12_in_ok rfl rfl rfl rfl rfl rfl rfl ?_
    refine g_iload_n rfl rfl ?_
    refine g_iload_n rfl rfl ?_
    refine g_icmp_lt (tgt := 14) rfl (by decide) (fun h1 => ?_) (fun h1 => ?_)
    · first
        | omega
        | refine g_iconst rfl ⟨by decide, by decide⟩ ?_
          refine x_zreturn rfl rfl (Or.inl rfl) ?_
          intro _
          refine x_zreturn rfl rfl (Or.inl rfl) ?_
          intro _
          refine g_if_ne (tgt := 17) rfl (by decide) (fun hx => absurd hx (by omega)) (fun _ => ?_)
          refine g_bipush rfl ⟨by decide, by decide⟩ (by decide) ?_
          refine x_ireturn rfl rfl ?_
          exact ⟨rfl, (tp_R_kp hR (tp_kp_pi (by decide) tp_kp_rf))⟩
    · first
        | omega
        | refine g_iload_n rfl rfl ?_
          refine g_iload_n rfl rfl ?_
          refine g_icmp_gt (tgt := 14) rfl (by decide) (fun h2 => ?_) (fun h2 => ?_)
          · first
              | omega
              | refine g_iconst rfl ⟨by decide, by decide⟩ ?_
                refine x_zreturn rfl rfl (Or.inl rfl) ?_
                intro _
                refine x_zreturn rfl rfl (Or.inl rfl) ?_
                intro _
                refine g_if_ne (tgt := 17) rfl (by decide) (fun hx => absurd hx (by omega)) (fun _ => ?_)
                refine g_bipush rfl ⟨by decide, by decide⟩ (by decide) ?_
                refine x_ireturn rfl rfl ?_
                exact ⟨rfl, (tp_R_kp hR (tp_kp_pi (by decide) tp_kp_rf))⟩
          · first
              | omega
              | refine g_iconst rfl ⟨by decide, by decide⟩ ?_
                refine g_goto (tgt := 15) rfl (by decide) ?_
                refine x_zreturn rfl rfl (Or.inr rfl) ?_
                intro _
                refine x_zreturn rfl rfl (Or.inr rfl) ?_
                intro _
                refine g_if_ne (tgt := 17) rfl (by decide) (fun _ => ?_) (fun hx => absurd hx (by omega))
                refine g_aload_n rfl rfl ?_
                refine x_getF (r := 208) hG rfl rfl (by decide) (Or.inr ⟨_, rfl⟩) rfl ?_
                refine g_bipush rfl ⟨by decide, by decide⟩ (by decide) ?_
                refine g_iload_n rfl rfl ?_
                refine x_imul (z := 61 * a) rfl (by omega) ⟨by omega, by omega⟩ ?_
                refine x_iald (v := (μ.1 208 (61 * a))) rfl rfl (by decide) (by omega) (by omega) rfl ?_
                refine g_istore_n rfl rfl rfl ?_
                refine g_iload_n rfl rfl ?_
                refine g_iconst rfl ⟨by decide, by decide⟩ ?_
                refine g_icmp_ne (tgt := 36) rfl (by decide) (fun h3 => ?_) (fun h3 => ?_)
                · first
                    | omega
                    | refine g_iload_n rfl rfl ?_
                      refine g_iconst rfl ⟨by decide, by decide⟩ ?_
                      refine g_iload_n rfl rfl ?_
                      refine g_iconst rfl ⟨by decide, by decide⟩ ?_
                      refine x_isub (z := (μ.1 208 (61 * a)) - 1) rfl (by omega) ⟨by omega, by omega⟩ ?_
                      refine g_iS (as := [tI k, tI 0, tI ((μ.1 208 (61 * a)) - 1)]) mX12_in_ok rfl rfl rfl rfl rfl rfl rfl ?_
                      refine g_iload_n rfl rfl ?_
                      refine g_iload_n rfl rfl ?_
                      refine g_icmp_lt (tgt := 14) rfl (by decide) (fun h4 => ?_) (fun h4 => ?_)
                      · first
                          | omega
                          | refine g_iconst rfl ⟨by decide, by decide⟩ ?_
                            refine x_zreturn rfl rfl (Or.inl rfl) ?_
                            intro _
                            refine g_if_eq (tgt := 63) rfl (by decide) (fun _ => ?_) (fun hx => absurd hx (by omega))
                            refine g_bipush rfl ⟨by decide, by decide⟩ (by decide) ?_
                            refine x_ireturn rfl rfl ?_
                            exact ⟨rfl, (tp_R_kp hR (tp_kp_pi (by decide) tp_kp_rf))⟩
                      · first
                          | omega
                          | refine g_iload_n rfl rfl ?_
                            refine g_iload_n rfl rfl ?_
                            refine g_icmp_gt (tgt := 14) rfl (by decide) (fun h5 => ?_) (fun h5 => ?_)
                            · first
                                | omega
                                | refine g_iconst rfl ⟨by decide, by decide⟩ ?_
                                  refine x_zreturn rfl rfl (Or.inl rfl) ?_
                                  intro _
                                  refine g_if_eq (tgt := 63) rfl (by decide) (fun _ => ?_) (fun hx => absurd hx (by omega))
                                  refine g_bipush rfl ⟨by decide, by decide⟩ (by decide) ?_
                                  refine x_ireturn rfl rfl ?_
                                  exact ⟨rfl, (tp_R_kp hR (tp_kp_pi (by decide) tp_kp_rf))⟩
                            · first
                                | omega
                                | refine g_iconst rfl ⟨by decide, by decide⟩ ?_
                                  refine g_goto (tgt := 15) rfl (by decide) ?_
                                  refine x_zreturn rfl rfl (Or.inr rfl) ?_
                                  intro _
                                  refine g_if_eq (tgt := 63) rfl (by decide) (fun hx => absurd hx (by omega)) (fun _ => ?_)
                                  refine g_aload_n rfl rfl ?_
                                  refine x_getF (r := 208) hG rfl rfl (by decide) (Or.inr ⟨_, rfl⟩) rfl ?_
                                  refine g_bipush rfl ⟨by decide, by decide⟩ (by decide) ?_
                                  refine g_iload_n rfl rfl ?_
                                  refine x_imul (z := 61 * a) rfl (by omega) ⟨by omega, by omega⟩ ?_
                                  refine g_iconst rfl ⟨by decide, by decide⟩ ?_
                                  refine x_iadd (z := 61 * a + 1) rfl (by omega) ⟨by omega, by omega⟩ ?_
                                  refine g_iload_n rfl rfl ?_
                                  refine x_iadd (z := 61 * a + k + 1) rfl (by omega) ⟨by omega, by omega⟩ ?_
                                  refine x_iald (v := (μ.1 208 (61 * a + k + 1))) rfl rfl (by decide) (by omega) (by omega) rfl ?_
                                  refine g_goto (tgt := 65) rfl (by decide) ?_
                                  refine x_ireturn rfl rfl ?_
                                  exact ⟨rfl, (tp_R_kp hR (tp_kp_pi (by decide) tp_kp_rf))⟩
                · first
                    | omega
                    | refine g_iload_n rfl rfl ?_
                      refine g_goto (tgt := 65) rfl (by decide) ?_
                      refine x_ireturn rfl rfl ?_
                      exact ⟨rfl, (tp_R_kp hR (tp_kp_pi (by decide) tp_kp_rf))⟩
