theorem tp_cp_ne {μ : tp_M} {c0 c1 k : Nat} {sp dp len : Int} (h : k ≠ c1) : (tp_cp μ c0 c1 sp dp len).1 k = μ.1 k := by
  funext j
  exact if_neg (fun z => h z.1)
theorem tp_cp_at {μ : tp_M} {c0 c1 : Nat} {len j : Int} (h0 : 0 ≤ j) (h1 : j < len) : (tp_cp μ c0 c1 0 0 len).1 c1 j = μ.1 c0 j := by
  show (if c1 = c1 ∧ 0 ≤ j ∧ j < 0 + len then μ.1 c0 (0 + (j - 0)) else μ.1 c1 j) = _
  rw [if_pos ⟨rfl, h0, by omega⟩]
  exact congrArg (μ.1 c0) (by omega)
def q_kc (c d : Nat) (A A' : Nat → Int → Int) : Prop := A' d 4 = A c 4 ∧ (∀ a, 0 ≤ a → a < 40 → A' (d + 1) a = A (c + 1) a ∧ A' (d + 2) a = A (c + 2) a ∧ A' (d + 3) a = A (c + 3) a) ∧ (∀ i, 0 ≤ i → i < 8 → A' (d + 4) i = A (c + 4) i)
def q_kr (c d : Nat) (l : Int) (A A' : Nat → Int → Int) : Prop := 0 ≤ A c 2 → A c 2 ≤ l → A' d 2 = A c 2 ∧ ∀ j, 0 ≤ j → j < A c 2 → A' (d + 1) j = A (c + 1) j ∧ A' (d + 2) j = A (c + 2) j
set_option maxHeartbeats 4000000 in
set_option maxRecDepth 100000 in
theorem s_ccopy {G : tp_G} {μ : tp_M} (hG : tp_Gf G = true) {c d : Nat} (hc : tp_SH c = .inl 0) (hd : tp_SH d = .inl 0) (hcn : c < 234) (hdn : d < 234) (hcd : c + 4 < d ∨ d + 4 < c) : tp_k G mX0_copyFrom [tR (some d), tR (some c)] μ (fun r μ' => r = none ∧ q_kc c d μ.1 μ'.1 ∧ ∀ k, (k < d ∨ d + 4 < k) → μ'.1 k = μ.1 k) := by
  have hr := tp_code1 c hcn hc
  have hs := tp_code2 c hcn hc
  have hr2 := tp_code1 d hdn hd
  have hs2 := tp_code2 d hdn hd
  refine tp_ok_of mX0_copyFrom_ok rfl (Nat.le_refl _) ?_
  refine g_aload_n rfl rfl ?_
  refine g_aload_n rfl rfl ?_
  refine x_geti (v := (μ.1 c 4)) rfl hc hcn (Or.inl rfl) rfl ?_
  refine g_puti rfl hd hdn rfl rfl ?_
  refine g_aload_n rfl rfl ?_
  refine x_getF (r := c + 1) hG rfl hc hcn (Or.inr ⟨_, rfl⟩) hr.1 ?_
  refine g_iconst rfl ⟨by decide, by decide⟩ ?_
  refine g_aload_n rfl rfl ?_
  refine x_getF (r := d + 1) hG rfl hd hdn (Or.inr ⟨_, rfl⟩) hr2.1 ?_
  refine g_iconst rfl ⟨by decide, by decide⟩ ?_
  refine g_bipush rfl ⟨by decide, by decide⟩ (by decide) ?_
  refine g_copy (t0 := 0) (Or.inl rfl) hs.1 (by omega) rfl (by decide) rfl hs2.1 (by omega) (by decide) (by decide) (by decide) (by decide) rfl ?_
  refine g_aload_n rfl rfl ?_
  refine x_getF (r := c + 2) hG rfl hc hcn (Or.inr ⟨_, rfl⟩) hr.2.1 ?_
  refine g_iconst rfl ⟨by decide, by decide⟩ ?_
  refine g_aload_n rfl rfl ?_
  refine x_getF (r := d + 2) hG rfl hd hdn (Or.inr ⟨_, rfl⟩) hr2.2.1 ?_
  refine g_iconst rfl ⟨by decide, by decide⟩ ?_
  refine g_bipush rfl ⟨by decide, by decide⟩ (by decide) ?_
  refine g_copy (t0 := 0) (Or.inl rfl) hs.2.1 (by omega) rfl (by decide) rfl hs2.2.1 (by omega) (by decide) (by decide) (by decide) (by decide) rfl ?_
  refine g_aload_n rfl rfl ?_
  refine x_getF (r := c + 3) hG rfl hc hcn (Or.inr ⟨_, rfl⟩) hr.2.2.1 ?_
  refine g_iconst rfl ⟨by decide, by decide⟩ ?_
  refine g_aload_n rfl rfl ?_
  refine x_getF (r := d + 3) hG rfl hd hdn (Or.inr ⟨_, rfl⟩) hr2.2.2.1 ?_
  refine g_iconst rfl ⟨by decide, by decide⟩ ?_
  refine g_bipush rfl ⟨by decide, by decide⟩ (by decide) ?_
  refine g_copy (t0 := 0) (Or.inl rfl) hs.2.2.1 (by omega) rfl (by decide) rfl hs2.2.2.1 (by omega) (by decide) (by decide) (by decide) (by decide) rfl ?_
  refine g_aload_n rfl rfl ?_
  refine x_getF (r := c + 4) hG rfl hc hcn (Or.inr ⟨_, rfl⟩) hr.2.2.2 ?_
  refine g_iconst rfl ⟨by decide, by decide⟩ ?_
  refine g_aload_n rfl rfl ?_
  refine x_getF (r := d + 4) hG rfl hd hdn (Or.inr ⟨_, rfl⟩) hr2.2.2.2 ?_
  refine g_iconst rfl ⟨by decide, by decide⟩ ?_
  refine g_bipush rfl ⟨by decide, by decide⟩ (by decide) ?_
  refine g_copy (t0 := 0) (Or.inl rfl) hs.2.2.2.1 (by omega) rfl (by decide) rfl hs2.2.2.2.1 (by omega) (by decide) (by decide) (by decide) (by decide) rfl ?_
  refine x_return rfl rfl ?_
  refine ⟨rfl, ⟨?_, fun a a0 a1 => ⟨?_, ?_, ?_⟩, fun i i0 i1 => ?_⟩, fun k hk => ?_⟩
  · rw [tp_cp_ne (by omega), tp_cp_ne (by omega), tp_cp_ne (by omega), tp_cp_ne (by omega)]; exact tp_pi_at
  · rw [tp_cp_ne (by omega), tp_cp_ne (by omega), tp_cp_ne (by omega), tp_cp_at a0 a1, tp_pi_ne (by omega)]
  · rw [tp_cp_ne (by omega), tp_cp_ne (by omega), tp_cp_at a0 a1, tp_cp_ne (by omega), tp_pi_ne (by omega)]
  · rw [tp_cp_ne (by omega), tp_cp_at a0 a1, tp_cp_ne (by omega), tp_cp_ne (by omega), tp_pi_ne (by omega)]
  · rw [tp_cp_at i0 i1, tp_cp_ne (by omega), tp_cp_ne (by omega), tp_cp_ne (by omega), tp_pi_ne (by omega)]
  · rw [tp_cp_ne (by omega), tp_cp_ne (by omega), tp_cp_ne (by omega), tp_cp_ne (by omega), tp_pi_ne (by omega)]
set_option maxHeartbeats 4000000 in
set_option maxRecDepth 100000 in
theorem s_addY {G : tp_G} {μ : tp_M} (hG : tp_Gf G = true) {d : Nat} {v t : Int} (hd : tp_SH d = .inl 6) (hdn : d < 234) (h0 : 0 ≤ μ.1 d 2) (h1 : μ.1 d 2 < (tp_ln (d + 1) : Int)) : tp_k G mX6_add [tR (some d), tI v, tI t] μ (fun r μ' => r = none ∧ μ' = tp_pi (tp_pi (tp_pi μ (d + 1) (μ.1 d 2) v) (d + 2) (μ.1 d 2) t) d 2 (μ.1 d 2 + 1)) := by
  refine tp_ok_of mX6_add_ok rfl (Nat.le_refl _) ?_
  have hr := tp_row d hdn hd
  refine g_aload_n rfl rfl ?_
  refine x_geti (v := (μ.1 d 2)) rfl hd hdn (Or.inl rfl) rfl ?_
  refine g_if_lt (tgt := 61) rfl (by decide) (fun hx => absurd hx (by omega)) (fun _ => ?_)
  refine g_aload_n rfl rfl ?_
  refine x_geti (v := (μ.1 d 2)) rfl hd hdn (Or.inl rfl) rfl ?_
  refine g_aload_n rfl rfl ?_
  refine x_getF (r := d + 1) hG rfl hd hdn (Or.inr ⟨_, rfl⟩) hr.1 ?_
  refine g_alen (t0 := 0) rfl hr.2.2.1 rfl (by omega) ⟨by omega, by omega⟩ ?_
  refine g_icmp_ge (tgt := 61) rfl (by decide) (fun hx => absurd hx (by omega)) (fun _ => ?_)
  refine g_aload_n rfl rfl ?_
  refine x_geti (v := (μ.1 d 2)) rfl hd hdn (Or.inl rfl) rfl ?_
  refine g_aload_n rfl rfl ?_
  refine x_getF (r := d + 2) hG rfl hd hdn (Or.inr ⟨_, rfl⟩) hr.2.1 ?_
  refine g_alen (t0 := 0) rfl hr.2.2.2.1 rfl (by omega) ⟨by omega, by omega⟩ ?_
  refine g_icmp_ge (tgt := 61) rfl (by decide) (fun hx => absurd hx (by omega)) (fun _ => ?_)
  refine g_aload_n rfl rfl ?_
  refine x_getF (r := d + 1) hG rfl hd hdn (Or.inr ⟨_, rfl⟩) hr.1 ?_
  refine g_aload_n rfl rfl ?_
  refine x_geti (v := (μ.1 d 2)) rfl hd hdn (Or.inl rfl) rfl ?_
  refine g_iload_n rfl rfl ?_
  refine g_iast rfl hr.2.2.1 (by omega) (by omega) (by omega) ?_
  refine g_aload_n rfl rfl ?_
  refine x_getF (r := d + 2) hG rfl hd hdn (Or.inr ⟨_, rfl⟩) hr.2.1 ?_
  refine g_aload_n rfl rfl ?_
  refine x_geti (v := (μ.1 d 2)) rfl hd hdn (Or.inl rfl) (by rw [tp_pi_ne (by omega)]; first | done | rfl) ?_
  refine g_iload_n rfl rfl ?_
  refine g_iast rfl hr.2.2.2.1 (by omega) (by omega) (by omega) ?_
  refine g_aload_n rfl rfl ?_
  refine g_dupr rfl ?_
  refine x_geti (v := (μ.1 d 2)) rfl hd hdn (Or.inl rfl) (by rw [tp_pi_ne (by omega), tp_pi_ne (by omega)]; first | done | rfl) ?_
  refine g_iconst rfl ⟨by decide, by decide⟩ ?_
  refine x_iadd (z := (μ.1 d 2) + 1) rfl (by omega) ⟨by omega, by omega⟩ ?_
  refine g_puti rfl hd hdn rfl rfl ?_
  refine x_return rfl rfl ?_
  exact ⟨rfl, rfl⟩
set_option maxHeartbeats 4000000 in
set_option maxRecDepth 100000 in
theorem s_addN {G : tp_G} {μ : tp_M} (hG : tp_Gf G = true) {d : Nat} {v t : Int} (hd : tp_SH d = .inl 6) (hdn : d < 234) (h0 : 0 ≤ μ.1 d 2) (h1 : (tp_ln (d + 1) : Int) ≤ μ.1 d 2) : tp_k G mX6_add [tR (some d), tI v, tI t] μ (fun r μ' => r = none ∧ μ' = μ) := by
  refine tp_ok_of mX6_add_ok rfl (Nat.le_refl _) ?_
  have hr := tp_row d hdn hd
  refine g_aload_n rfl rfl ?_
  refine x_geti (v := (μ.1 d 2)) rfl hd hdn (Or.inl rfl) rfl ?_
  refine g_if_lt (tgt := 61) rfl (by decide) (fun hx => absurd hx (by omega)) (fun _ => ?_)
  refine g_aload_n rfl rfl ?_
  refine x_geti (v := (μ.1 d 2)) rfl hd hdn (Or.inl rfl) rfl ?_
  refine g_aload_n rfl rfl ?_
  refine x_getF (r := d + 1) hG rfl hd hdn (Or.inr ⟨_, rfl⟩) hr.1 ?_
  refine g_alen (t0 := 0) rfl hr.2.2.1 rfl (by omega) ⟨by omega, by omega⟩ ?_
  refine g_icmp_ge (tgt := 61) rfl (by decide) (fun _ => ?_) (fun hx => absurd hx (by omega))
  refine x_return rfl rfl ?_
  exact ⟨rfl, rfl⟩
set_option maxHeartbeats 4000000 in
set_option maxRecDepth 100000 in
theorem s_valueG {G : tp_G} {μ : tp_M} (hG : tp_Gf G = true) {c : Nat} {k : Int} (hc : tp_SH c = .inl 6) (hcn : c < 234) (h0 : 0 ≤ k) (h1 : k < μ.1 c 2) (h2 : k < (tp_ln (c + 1) : Int)) : tp_k G mX6_value [tR (some c), tI k] μ (fun r μ' => r = some (tI (μ.1 (c + 1) k)) ∧ μ' = μ) := by
  refine tp_ok_of mX6_value_ok rfl (Nat.le_refl _) ?_
  have hr := tp_row c hcn hc
  refine g_iload_n rfl rfl ?_
  refine g_if_lt (tgt := 21) rfl (by decide) (fun hx => absurd hx (by omega)) (fun _ => ?_)
  refine g_iload_n rfl rfl ?_
  refine g_aload_n rfl rfl ?_
  refine x_geti (v := (μ.1 c 2)) rfl hc hcn (Or.inl rfl) rfl ?_
  refine g_icmp_ge (tgt := 21) rfl (by decide) (fun hx => absurd hx (by omega)) (fun _ => ?_)
  refine g_iload_n rfl rfl ?_
  refine g_aload_n rfl rfl ?_
  refine x_getF (r := c + 1) hG rfl hc hcn (Or.inr ⟨_, rfl⟩) hr.1 ?_
  refine g_alen (t0 := 0) rfl hr.2.2.1 rfl (by omega) ⟨by omega, by omega⟩ ?_
  refine g_icmp_lt (tgt := 25) rfl (by decide) (fun _ => ?_) (fun hx => absurd hx (by omega))
  refine g_aload_n rfl rfl ?_
  refine x_getF (r := c + 1) hG rfl hc hcn (Or.inr ⟨_, rfl⟩) hr.1 ?_
  refine g_iload_n rfl rfl ?_
  refine x_iald (v := (μ.1 (c + 1) k)) rfl hr.2.2.1 (by omega) (by omega) (by omega) rfl ?_
  refine x_ireturn rfl rfl ?_
  exact ⟨rfl, rfl⟩
set_option maxHeartbeats 4000000 in
set_option maxRecDepth 100000 in
theorem s_valueN {G : tp_G} {μ : tp_M} (hG : tp_Gf G = true) {c : Nat} {k : Int} (hc : tp_SH c = .inl 6) (hcn : c < 234) (h0 : 0 ≤ k) (h1 : k < μ.1 c 2) (h2 : (tp_ln (c + 1) : Int) ≤ k) : tp_k G mX6_value [tR (some c), tI k] μ (fun r μ' => r = some (tI (-1)) ∧ μ' = μ) := by
  refine tp_ok_of mX6_value_ok rfl (Nat.le_refl _) ?_
  have hr := tp_row c hcn hc
  refine g_iload_n rfl rfl ?_
  refine g_if_lt (tgt := 21) rfl (by decide) (fun hx => absurd hx (by omega)) (fun _ => ?_)
  refine g_iload_n rfl rfl ?_
  refine g_aload_n rfl rfl ?_
  refine x_geti (v := (μ.1 c 2)) rfl hc hcn (Or.inl rfl) rfl ?_
  refine g_icmp_ge (tgt := 21) rfl (by decide) (fun hx => absurd hx (by omega)) (fun _ => ?_)
  refine g_iload_n rfl rfl ?_
  refine g_aload_n rfl rfl ?_
  refine x_getF (r := c + 1) hG rfl hc hcn (Or.inr ⟨_, rfl⟩) hr.1 ?_
  refine g_alen (t0 := 0) rfl hr.2.2.1 rfl (by omega) ⟨by omega, by omega⟩ ?_
  refine g_icmp_lt (tgt := 25) rfl (by decide) (fun hx => absurd hx (by omega)) (fun _ => ?_)
  refine g_iconst rfl ⟨by decide, by decide⟩ ?_
  refine g_goto (tgt := 31) rfl (by decide) ?_
  refine x_ireturn rfl rfl ?_
  exact ⟨rfl, rfl⟩
set_option maxHeartbeats 4000000 in
set_option maxRecDepth 100000 in
theorem s_oftenG {G : tp_G} {μ : tp_M} (hG : tp_Gf G = true) {c : Nat} {k : Int} (hc : tp_SH c = .inl 6) (hcn : c < 234) (h0 : 0 ≤ k) (h1 : k < μ.1 c 2) (h2 : k < (tp_ln (c + 1) : Int)) : tp_k G mX6_often [tR (some c), tI k] μ (fun r μ' => r = some (tI (μ.1 (c + 2) k)) ∧ μ' = μ) := by
  refine tp_ok_of mX6_often_ok rfl (Nat.le_refl _) ?_
  have hr := tp_row c hcn hc
  refine g_iload_n rfl rfl ?_
  refine g_if_lt (tgt := 21) rfl (by decide) (fun hx => absurd hx (by omega)) (fun _ => ?_)
  refine g_iload_n rfl rfl ?_
  refine g_aload_n rfl rfl ?_
  refine x_geti (v := (μ.1 c 2)) rfl hc hcn (Or.inl rfl) rfl ?_
  refine g_icmp_ge (tgt := 21) rfl (by decide) (fun hx => absurd hx (by omega)) (fun _ => ?_)
  refine g_iload_n rfl rfl ?_
  refine g_aload_n rfl rfl ?_
  refine x_getF (r := c + 2) hG rfl hc hcn (Or.inr ⟨_, rfl⟩) hr.2.1 ?_
  refine g_alen (t0 := 0) rfl hr.2.2.2.1 rfl (by omega) ⟨by omega, by omega⟩ ?_
  refine g_icmp_lt (tgt := 25) rfl (by decide) (fun _ => ?_) (fun hx => absurd hx (by omega))
  refine g_aload_n rfl rfl ?_
  refine x_getF (r := c + 2) hG rfl hc hcn (Or.inr ⟨_, rfl⟩) hr.2.1 ?_
  refine g_iload_n rfl rfl ?_
  refine x_iald (v := (μ.1 (c + 2) k)) rfl hr.2.2.2.1 (by omega) (by omega) (by omega) rfl ?_
  refine x_ireturn rfl rfl ?_
  exact ⟨rfl, rfl⟩
set_option maxHeartbeats 4000000 in
set_option maxRecDepth 100000 in
theorem s_oftenN {G : tp_G} {μ : tp_M} (hG : tp_Gf G = true) {c : Nat} {k : Int} (hc : tp_SH c = .inl 6) (hcn : c < 234) (h0 : 0 ≤ k) (h1 : k < μ.1 c 2) (h2 : (tp_ln (c + 1) : Int) ≤ k) : tp_k G mX6_often [tR (some c), tI k] μ (fun r μ' => r = some (tI (-1)) ∧ μ' = μ) := by
  refine tp_ok_of mX6_often_ok rfl (Nat.le_refl _) ?_
  have hr := tp_row c hcn hc
  refine g_iload_n rfl rfl ?_
  refine g_if_lt (tgt := 21) rfl (by decide) (fun hx => absurd hx (by omega)) (fun _ => ?_)
  refine g_iload_n rfl rfl ?_
  refine g_aload_n rfl rfl ?_
  refine x_geti (v := (μ.1 c 2)) rfl hc hcn (Or.inl rfl) rfl ?_
  refine g_icmp_ge (tgt := 21) rfl (by decide) (fun hx => absurd hx (by omega)) (fun _ => ?_)
  refine g_iload_n rfl rfl ?_
  refine g_aload_n rfl rfl ?_
  refine x_getF (r := c + 2) hG rfl hc hcn (Or.inr ⟨_, rfl⟩) hr.2.1 ?_
  refine g_alen (t0 := 0) rfl hr.2.2.2.1 rfl (by omega) ⟨by omega, by omega⟩ ?_
  refine g_icmp_lt (tgt := 25) rfl (by decide) (fun hx => absurd hx (by omega)) (fun _ => ?_)
  refine g_iconst rfl ⟨by decide, by decide⟩ ?_
  refine g_goto (tgt := 31) rfl (by decide) ?_
  refine x_ireturn rfl rfl ?_
  exact ⟨rfl, rfl⟩
set_option maxHeartbeats 4000000 in
set_option maxRecDepth 100000 in
theorem l_rcopy {G : tp_G} (hG : tp_Gf G = true) {c d : Nat} {μ0 : tp_M} (hc : tp_SH c = .inl 6) (hd : tp_SH d = .inl 6) (hcn : c < 234) (hdn : d < 234) (hcd : c + 2 < d ∨ d + 2 < c) (hln : tp_ln (d + 1) = tp_ln (c + 1)) (hsz : μ0.1 c 2 < 2147483648) : ∀ k, k ≤ max 0 (μ0.1 c 2) → ∀ (μ : tp_M), 0 ≤ k → μ.1 d 2 = min k (tp_ln (c + 1) : Int) → (∀ j, 0 ≤ j → j < μ.1 d 2 → μ.1 (d + 1) j = μ0.1 (c + 1) j ∧ μ.1 (d + 2) j = μ0.1 (c + 2) j) → (∀ k, (k < d ∨ d + 2 < k) → μ.1 k = μ0.1 k) → tp_g G mX6_copyFrom 7 [some (tR (some d)), some (tR (some c)), some (tI k)] [] μ (fun r μ' => r = none ∧ q_kr c d (tp_ln (c + 1) : Int) μ0.1 μ'.1 ∧ ∀ k, (k < d ∨ d + 2 < k) → μ'.1 k = μ0.1 k) := by
  refine tp_ind _ ?_
  intro k hkN ih μ h0 hz hv hF
  have hcF : μ.1 c = μ0.1 c := hF c (by omega)
  have hcs : μ.1 c 2 = μ0.1 c 2 := by rw [hcF]
  have hz9 : μ0.1 c 2 ≤ k → q_kr c d (tp_ln (c + 1) : Int) μ0.1 μ.1 := fun q g0 g1 => ⟨by omega, fun j j0 j1 => hv j j0 (by omega)⟩
  by_cases hin : k < (tp_ln (c + 1) : Int)
  · refine g_iload_n rfl rfl ?_
    refine g_aload_n rfl rfl ?_
    refine x_geti (v := (μ.1 c 2)) rfl hc hcn (Or.inl rfl) rfl ?_
    refine g_icmp_ge (tgt := 35) rfl (by decide) (fun h1 => ?_) (fun h1 => ?_)
    · refine x_return rfl rfl ?_
      exact ⟨rfl, hz9 (by omega), hF⟩
    · refine g_aload_n rfl rfl ?_
      refine g_aload_n rfl rfl ?_
      refine g_iload_n rfl rfl ?_
      refine g_cV (as := [tI k]) (s_valueG hG hc hcn h0 (by omega) (by omega)) rfl rfl mX6_value_ok rfl hc rfl hcn rfl rfl rfl ?_
      rintro _ w9 ⟨rfl, hw9⟩ _
      have hw9 := hw9.symm
      subst hw9
      refine g_aload_n rfl rfl ?_
      refine g_iload_n rfl rfl ?_
      refine g_cV (as := [tI k]) (s_oftenG hG hc hcn h0 (by omega) (by omega)) rfl rfl mX6_often_ok rfl hc rfl hcn rfl rfl rfl ?_
      rintro _ w9 ⟨rfl, hw9⟩ _
      have hw9 := hw9.symm
      subst hw9
      refine g_cV (as := [tI (μ.1 (c + 1) k), tI (μ.1 (c + 2) k)]) (s_addY hG hd hdn (by omega) (by omega)) rfl rfl mX6_add_ok rfl hd rfl hdn rfl rfl rfl ?_
      rintro _ w9 ⟨rfl, hw9⟩ _
      refine x_iinc (z := k + 1) rfl rfl (by omega) ⟨by omega, by omega⟩ rfl rfl ?_
      refine g_goto (tgt := 7) rfl (by decide) ?_
      have e1 : w9.1 d 2 = μ.1 d 2 + 1 := by rw [hw9]; exact tp_pi_at
      have e2 : ∀ j, j ≠ μ.1 d 2 → w9.1 (d + 1) j = μ.1 (d + 1) j ∧ w9.1 (d + 2) j = μ.1 (d + 2) j := fun j hj => by
        rw [hw9, tp_pi_ne (by omega), tp_pi_ne (by omega), tp_pi_ix hj, tp_pi_ne (by omega), tp_pi_ix hj, tp_pi_ne (by omega)]
        exact ⟨rfl, rfl⟩
      have e3 : w9.1 (d + 1) (μ.1 d 2) = μ.1 (c + 1) k ∧ w9.1 (d + 2) (μ.1 d 2) = μ.1 (c + 2) k := by
        rw [hw9, tp_pi_ne (by omega), tp_pi_ne (by omega), tp_pi_at, tp_pi_ne (by omega), tp_pi_at]
        exact ⟨rfl, rfl⟩
      exact ih (by omega) _ (by omega) (by omega) (fun j j0 j1 => by
        by_cases q : j = μ.1 d 2
        · have ek : μ.1 d 2 = k := by omega
          rw [q, e3.1, e3.2, ← hF (c + 1) (by omega), ← hF (c + 2) (by omega), ek]
          exact ⟨rfl, rfl⟩
        · rw [(e2 j q).1, (e2 j q).2]
          exact hv j j0 (by omega)) (fun k9 z9 => by rw [hw9, tp_pi_ne (by omega), tp_pi_ne (by omega), tp_pi_ne (by omega)]; exact hF k9 z9)
  · refine g_iload_n rfl rfl ?_
    refine g_aload_n rfl rfl ?_
    refine x_geti (v := (μ.1 c 2)) rfl hc hcn (Or.inl rfl) rfl ?_
    refine g_icmp_ge (tgt := 35) rfl (by decide) (fun h1 => ?_) (fun h1 => ?_)
    · refine x_return rfl rfl ?_
      exact ⟨rfl, hz9 (by omega), hF⟩
    · refine g_aload_n rfl rfl ?_
      refine g_aload_n rfl rfl ?_
      refine g_iload_n rfl rfl ?_
      refine g_cV (as := [tI k]) (s_valueN hG hc hcn h0 (by omega) (by omega)) rfl rfl mX6_value_ok rfl hc rfl hcn rfl rfl rfl ?_
      rintro _ w9 ⟨rfl, hw9⟩ _
      have hw9 := hw9.symm
      subst hw9
      refine g_aload_n rfl rfl ?_
      refine g_iload_n rfl rfl ?_
      refine g_cV (as := [tI k]) (s_oftenN hG hc hcn h0 (by omega) (by omega)) rfl rfl mX6_often_ok rfl hc rfl hcn rfl rfl rfl ?_
      rintro _ w9 ⟨rfl, hw9⟩ _
      have hw9 := hw9.symm
      subst hw9
      refine g_cV (as := [tI (-1), tI (-1)]) (s_addN hG hd hdn (by omega) (by omega)) rfl rfl mX6_add_ok rfl hd rfl hdn rfl rfl rfl ?_
      rintro _ w9 ⟨rfl, hw9⟩ _
      have hw9 := hw9.symm
      subst hw9
      refine x_iinc (z := k + 1) rfl rfl (by omega) ⟨by omega, by omega⟩ rfl rfl ?_
      refine g_goto (tgt := 7) rfl (by decide) ?_
      exact ih (by omega) _ (by omega) (by omega) hv hF
set_option maxHeartbeats 4000000 in
set_option maxRecDepth 100000 in
theorem s_rcopy {G : tp_G} {μ : tp_M} (hG : tp_Gf G = true) {c d : Nat} (hc : tp_SH c = .inl 6) (hd : tp_SH d = .inl 6) (hcn : c < 234) (hdn : d < 234) (hcd : c + 2 < d ∨ d + 2 < c) (hln : tp_ln (d + 1) = tp_ln (c + 1)) (hsz : μ.1 c 2 < 2147483648) : tp_k G mX6_copyFrom [tR (some d), tR (some c)] μ (fun r μ' => r = none ∧ q_kr c d (tp_ln (c + 1) : Int) μ.1 μ'.1 ∧ ∀ k, (k < d ∨ d + 2 < k) → μ'.1 k = μ.1 k) := by
  refine tp_ok_of mX6_copyFrom_ok rfl (Nat.le_refl _) ?_
  refine g_aload_n rfl rfl ?_
  refine g_iconst rfl ⟨by decide, by decide⟩ ?_
  refine g_puti rfl hd hdn rfl rfl ?_
  refine g_iconst rfl ⟨by decide, by decide⟩ ?_
  refine g_istore_n rfl rfl rfl ?_
  exact l_rcopy hG hc hd hcn hdn hcd hln hsz 0 (by omega) _ (by omega) ((show _ = (0 : Int) from tp_pi_at).trans (by omega)) (fun j j0 j1 => absurd (Int.lt_of_lt_of_le j1 (Int.le_of_eq (show _ = (0 : Int) from tp_pi_at))) (by omega)) (fun k hk => tp_pi_ne (by omega))
