def tp_by (v i : Int) : Int := tp_b8 (tp_b8 (tp_ishr v (24 - 8 * i)))
/-- four bytes of v come behind the tape (cell ct, its length at cl, jl) -/
def tp_ap (μ : tp_M) (ct cl : Nat) (jl v : Int) : tp_M := (fun k j => if k = ct ∧ μ.1 cl jl ≤ j ∧ j < μ.1 cl jl + 4 then tp_by v (j - μ.1 cl jl) else if k = cl ∧ j = jl then μ.1 cl jl + 4 else μ.1 k j, μ.2)
theorem tp_ap_ct {μ : tp_M} {ct cl : Nat} {jl v : Int} (h : ct ≠ cl) (j : Int) : (tp_ap μ ct cl jl v).1 ct j = if μ.1 cl jl ≤ j ∧ j < μ.1 cl jl + 4 then tp_by v (j - μ.1 cl jl) else μ.1 ct j := by
  show (if ct = ct ∧ μ.1 cl jl ≤ j ∧ j < μ.1 cl jl + 4 then tp_by v (j - μ.1 cl jl) else if ct = cl ∧ j = jl then μ.1 cl jl + 4 else μ.1 ct j) = _
  by_cases hc : μ.1 cl jl ≤ j ∧ j < μ.1 cl jl + 4
  · rw [if_pos ⟨rfl, hc⟩, if_pos hc]
  · rw [if_neg (fun z => hc z.2), if_neg hc, if_neg (fun z => h z.1)]
theorem tp_ap_len {μ : tp_M} {ct cl : Nat} {jl v : Int} (h : cl ≠ ct) : (tp_ap μ ct cl jl v).1 cl jl = μ.1 cl jl + 4 := by
  show (if cl = ct ∧ _ ∧ _ then _ else if cl = cl ∧ jl = jl then _ else _) = _
  rw [if_neg (fun z => h z.1), if_pos ⟨rfl, rfl⟩]
theorem tp_ap_ix {μ : tp_M} {ct cl : Nat} {jl j v : Int} (h : cl ≠ ct) (hj : j ≠ jl) : (tp_ap μ ct cl jl v).1 cl j = μ.1 cl j := by
  show (if cl = ct ∧ _ ∧ _ then _ else if cl = cl ∧ j = jl then _ else _) = _
  rw [if_neg (fun z => h z.1), if_neg (fun z => hj z.2)]
theorem tp_ap_ne {μ : tp_M} {ct cl k : Nat} {jl v : Int} (h1 : k ≠ ct) (h2 : k ≠ cl) : (tp_ap μ ct cl jl v).1 k = μ.1 k := by
  funext j
  show (if k = ct ∧ _ ∧ _ then _ else if k = cl ∧ j = jl then _ else _) = _
  rw [if_neg (fun z => h1 z.1), if_neg (fun z => h2 z.1)]
theorem tp_if2 {α : Type} {c : Prop} [Decidable c] {x a b : α} (h : ¬ c → a = b) : (if c then x else a) = (if c then x else b) := by
  by_cases hc : c
  · rw [if_pos hc, if_pos hc]
  · rw [if_neg hc, if_neg hc, h hc]
set_option maxHeartbeats 4000000 in
set_option maxRecDepth 100000 in
theorem s_append {G : tp_G} {μ : tp_M} (hG : tp_Gf G = true) {v : Int} (hL : 0 ≤ μ.1 1 1 ∧ μ.1 1 1 + 4 ≤ 600) : tp_k G mX9_append [tR (some 1), tI v] μ (fun r μ' => r = none ∧ μ' = tp_ap μ 2 1 1 v) := by
  refine tp_ok_of mX9_append_ok rfl (Nat.le_refl _) ?_
  refine g_aload_n rfl rfl ?_
  refine g_iconst rfl ⟨by decide, by decide⟩ ?_
  refine g_iV (as := [tI 4]) mX9_hasRoomFor_ok rfl rfl rfl rfl rfl rfl (by decide) rfl rfl rfl ?_
  refine g_aload_n rfl rfl ?_
  refine x_geti (v := (μ.1 1 1)) rfl rfl (by decide) (Or.inl rfl) rfl ?_
  refine g_if_lt (tgt := 23) rfl (by decide) (fun hx => absurd hx (by omega)) (fun _ => ?_)
  refine g_iload_n rfl rfl ?_
  refine g_sipush rfl ⟨by decide, by decide⟩ (by decide) ?_
  refine g_aload_n rfl rfl ?_
  refine x_geti (v := (μ.1 1 1)) rfl rfl (by decide) (Or.inl rfl) rfl ?_
  refine x_isub (z := -(μ.1 1 1) + 600) rfl (by omega) ⟨by omega, by omega⟩ ?_
  refine g_icmp_gt (tgt := 23) rfl (by decide) (fun hx => absurd hx (by omega)) (fun _ => ?_)
  refine g_iconst rfl ⟨by decide, by decide⟩ ?_
  refine g_goto (tgt := 24) rfl (by decide) ?_
  refine x_zreturn rfl rfl (Or.inr rfl) ?_
  intro _
  refine g_if_ne (tgt := 9) rfl (by decide) (fun _ => ?_) (fun hx => absurd hx (by omega))
  refine g_iconst rfl ⟨by decide, by decide⟩ ?_
  refine g_istore_n rfl rfl rfl ?_
  refine g_iload_n rfl rfl ?_
  refine g_iconst rfl ⟨by decide, by decide⟩ ?_
  refine g_icmp_ge (tgt := 43) rfl (by decide) (fun hx => absurd hx (by omega)) (fun _ => ?_)
  refine g_aload_n rfl rfl ?_
  refine x_getF (r := 2) hG rfl rfl (by decide) (Or.inr ⟨_, rfl⟩) rfl ?_
  refine g_aload_n rfl rfl ?_
  refine x_geti (v := (μ.1 1 1)) rfl rfl (by decide) (Or.inl rfl) rfl ?_
  refine g_iload_n rfl rfl ?_
  refine x_iadd (z := (μ.1 1 1)) rfl (by omega) ⟨by omega, by omega⟩ ?_
  refine g_iload_n rfl rfl ?_
  refine g_bipush rfl ⟨by decide, by decide⟩ (by decide) ?_
  refine g_bipush rfl ⟨by decide, by decide⟩ (by decide) ?_
  refine g_iload_n rfl rfl ?_
  refine x_imul (z := 0) rfl (by omega) ⟨by omega, by omega⟩ ?_
  refine x_isub (z := 24) rfl (by omega) ⟨by omega, by omega⟩ ?_
  refine g_ishr rfl ?_
  refine g_i2b rfl ?_
  refine g_bast rfl rfl (by decide) (by omega) (by omega) ?_
  refine x_iinc (z := 1) rfl rfl (by omega) ⟨by omega, by omega⟩ rfl rfl ?_
  refine g_goto (tgt := 11) rfl (by decide) ?_
  refine g_iload_n rfl rfl ?_
  refine g_iconst rfl ⟨by decide, by decide⟩ ?_
  refine g_icmp_ge (tgt := 43) rfl (by decide) (fun hx => absurd hx (by omega)) (fun _ => ?_)
  refine g_aload_n rfl rfl ?_
  refine x_getF (r := 2) hG rfl rfl (by decide) (Or.inr ⟨_, rfl⟩) rfl ?_
  refine g_aload_n rfl rfl ?_
  refine x_geti (v := (μ.1 1 1)) rfl rfl (by decide) (Or.inl rfl) rfl ?_
  refine g_iload_n rfl rfl ?_
  refine x_iadd (z := (μ.1 1 1) + 1) rfl (by omega) ⟨by omega, by omega⟩ ?_
  refine g_iload_n rfl rfl ?_
  refine g_bipush rfl ⟨by decide, by decide⟩ (by decide) ?_
  refine g_bipush rfl ⟨by decide, by decide⟩ (by decide) ?_
  refine g_iload_n rfl rfl ?_
  refine x_imul (z := 8) rfl (by omega) ⟨by omega, by omega⟩ ?_
  refine x_isub (z := 16) rfl (by omega) ⟨by omega, by omega⟩ ?_
  refine g_ishr rfl ?_
  refine g_i2b rfl ?_
  refine g_bast rfl rfl (by decide) (by omega) (by omega) ?_
  refine x_iinc (z := 2) rfl rfl (by omega) ⟨by omega, by omega⟩ rfl rfl ?_
  refine g_goto (tgt := 11) rfl (by decide) ?_
  refine g_iload_n rfl rfl ?_
  refine g_iconst rfl ⟨by decide, by decide⟩ ?_
  refine g_icmp_ge (tgt := 43) rfl (by decide) (fun hx => absurd hx (by omega)) (fun _ => ?_)
  refine g_aload_n rfl rfl ?_
  refine x_getF (r := 2) hG rfl rfl (by decide) (Or.inr ⟨_, rfl⟩) rfl ?_
  refine g_aload_n rfl rfl ?_
  refine x_geti (v := (μ.1 1 1)) rfl rfl (by decide) (Or.inl rfl) rfl ?_
  refine g_iload_n rfl rfl ?_
  refine x_iadd (z := (μ.1 1 1) + 2) rfl (by omega) ⟨by omega, by omega⟩ ?_
  refine g_iload_n rfl rfl ?_
  refine g_bipush rfl ⟨by decide, by decide⟩ (by decide) ?_
  refine g_bipush rfl ⟨by decide, by decide⟩ (by decide) ?_
  refine g_iload_n rfl rfl ?_
  refine x_imul (z := 16) rfl (by omega) ⟨by omega, by omega⟩ ?_
  refine x_isub (z := 8) rfl (by omega) ⟨by omega, by omega⟩ ?_
  refine g_ishr rfl ?_
  refine g_i2b rfl ?_
  refine g_bast rfl rfl (by decide) (by omega) (by omega) ?_
  refine x_iinc (z := 3) rfl rfl (by omega) ⟨by omega, by omega⟩ rfl rfl ?_
  refine g_goto (tgt := 11) rfl (by decide) ?_
  refine g_iload_n rfl rfl ?_
  refine g_iconst rfl ⟨by decide, by decide⟩ ?_
  refine g_icmp_ge (tgt := 43) rfl (by decide) (fun hx => absurd hx (by omega)) (fun _ => ?_)
  refine g_aload_n rfl rfl ?_
  refine x_getF (r := 2) hG rfl rfl (by decide) (Or.inr ⟨_, rfl⟩) rfl ?_
  refine g_aload_n rfl rfl ?_
  refine x_geti (v := (μ.1 1 1)) rfl rfl (by decide) (Or.inl rfl) rfl ?_
  refine g_iload_n rfl rfl ?_
  refine x_iadd (z := (μ.1 1 1) + 3) rfl (by omega) ⟨by omega, by omega⟩ ?_
  refine g_iload_n rfl rfl ?_
  refine g_bipush rfl ⟨by decide, by decide⟩ (by decide) ?_
  refine g_bipush rfl ⟨by decide, by decide⟩ (by decide) ?_
  refine g_iload_n rfl rfl ?_
  refine x_imul (z := 24) rfl (by omega) ⟨by omega, by omega⟩ ?_
  refine x_isub (z := 0) rfl (by omega) ⟨by omega, by omega⟩ ?_
  refine g_ishr rfl ?_
  refine g_i2b rfl ?_
  refine g_bast rfl rfl (by decide) (by omega) (by omega) ?_
  refine x_iinc (z := 4) rfl rfl (by omega) ⟨by omega, by omega⟩ rfl rfl ?_
  refine g_goto (tgt := 11) rfl (by decide) ?_
  refine g_iload_n rfl rfl ?_
  refine g_iconst rfl ⟨by decide, by decide⟩ ?_
  refine g_icmp_ge (tgt := 43) rfl (by decide) (fun _ => ?_) (fun hx => absurd hx (by omega))
  refine g_aload_n rfl rfl ?_
  refine g_dupr rfl ?_
  refine x_geti (v := (μ.1 1 1)) rfl rfl (by decide) (Or.inl rfl) rfl ?_
  refine g_iconst rfl ⟨by decide, by decide⟩ ?_
  refine x_iadd (z := (μ.1 1 1) + 4) rfl (by omega) ⟨by omega, by omega⟩ ?_
  refine g_puti rfl rfl (by decide) rfl rfl ?_
  refine x_return rfl rfl ?_
  refine ⟨rfl, Prod.ext (funext fun k => funext fun j => ?_) rfl⟩
  simp only [tp_pi1, tp_ap]
  rcases (show (k = 2 ∧ j = μ.1 1 1) ∨ (k = 2 ∧ j = μ.1 1 1 + 1) ∨ (k = 2 ∧ j = μ.1 1 1 + 2) ∨ (k = 2 ∧ j = μ.1 1 1 + 3) ∨ (k = 1 ∧ j = 1) ∨ (¬ (k = 2 ∧ μ.1 1 1 ≤ j ∧ j < μ.1 1 1 + 4) ∧ ¬ (k = 1 ∧ j = 1)) by omega) with ⟨hk, hj⟩ | ⟨hk, hj⟩ | ⟨hk, hj⟩ | ⟨hk, hj⟩ | ⟨hk, hj⟩ | ⟨hk, hj⟩
  · rw [if_neg (by omega), if_neg (by omega), if_neg (by omega), if_neg (by omega), if_pos (by omega), if_pos (by omega), show j - μ.1 1 1 = 0 by omega]
    rfl
  · rw [if_neg (by omega), if_neg (by omega), if_neg (by omega), if_pos (by omega), if_pos (by omega), show j - μ.1 1 1 = 1 by omega]
    rfl
  · rw [if_neg (by omega), if_neg (by omega), if_pos (by omega), if_pos (by omega), show j - μ.1 1 1 = 2 by omega]
    rfl
  · rw [if_neg (by omega), if_pos (by omega), if_pos (by omega), show j - μ.1 1 1 = 3 by omega]
    rfl
  · rw [if_pos (by omega), if_neg (by omega), if_pos (by omega)]
  · rw [if_neg (by omega), if_neg (by omega), if_neg (by omega), if_neg (by omega), if_neg (by omega), if_neg (by omega), if_neg (by omega)]
set_option maxHeartbeats 4000000 in
set_option maxRecDepth 100000 in
theorem s_four {G : tp_G} {μ : tp_M} (hG : tp_Gf G = true) {v : Int} (hL : 0 ≤ μ.1 203 0 ∧ μ.1 203 0 + 4 ≤ 600) : tp_k G mX12_four [tR (some 201), tI v] μ (fun r μ' => r = none ∧ μ' = tp_ap μ 202 203 0 v) := by
  refine tp_ok_of mX12_four_ok rfl (Nat.le_refl _) ?_
  refine g_bipush rfl ⟨by decide, by decide⟩ (by decide) ?_
  refine g_istore_n rfl rfl rfl ?_
  refine g_iload_n rfl rfl ?_
  refine g_if_lt (tgt := 38) rfl (by decide) (fun hx => absurd hx (by omega)) (fun _ => ?_)
  refine g_aload_n rfl rfl ?_
  refine x_getF (r := 202) hG rfl rfl (by decide) (Or.inr ⟨_, rfl⟩) rfl ?_
  refine g_aload_n rfl rfl ?_
  refine x_getF (r := 203) hG rfl rfl (by decide) (Or.inr ⟨_, rfl⟩) rfl ?_
  refine g_iconst rfl ⟨by decide, by decide⟩ ?_
  refine x_iald (v := (μ.1 203 0)) rfl rfl (by decide) (by decide) (by decide) rfl ?_
  refine g_iload_n rfl rfl ?_
  refine g_iload_n rfl rfl ?_
  refine g_ishr rfl ?_
  refine g_i2b rfl ?_
  refine g_bast rfl rfl (by decide) (by omega) (by omega) ?_
  refine g_aload_n rfl rfl ?_
  refine x_getF (r := 203) hG rfl rfl (by decide) (Or.inr ⟨_, rfl⟩) rfl ?_
  refine g_iconst rfl ⟨by decide, by decide⟩ ?_
  refine g_dup2 rfl ?_
  refine x_iald (v := (μ.1 203 0)) rfl rfl (by decide) (by decide) (by decide) rfl ?_
  refine g_iconst rfl ⟨by decide, by decide⟩ ?_
  refine x_iadd (z := (μ.1 203 0) + 1) rfl (by omega) ⟨by omega, by omega⟩ ?_
  refine g_iast rfl rfl (by decide) (by decide) (by decide) ?_
  refine x_iinc (z := 16) rfl rfl (by omega) ⟨by omega, by omega⟩ rfl rfl ?_
  refine g_goto (tgt := 3) rfl (by decide) ?_
  refine g_iload_n rfl rfl ?_
  refine g_if_lt (tgt := 38) rfl (by decide) (fun hx => absurd hx (by omega)) (fun _ => ?_)
  refine g_aload_n rfl rfl ?_
  refine x_getF (r := 202) hG rfl rfl (by decide) (Or.inr ⟨_, rfl⟩) rfl ?_
  refine g_aload_n rfl rfl ?_
  refine x_getF (r := 203) hG rfl rfl (by decide) (Or.inr ⟨_, rfl⟩) rfl ?_
  refine g_iconst rfl ⟨by decide, by decide⟩ ?_
  refine x_iald (v := (μ.1 203 0) + 1) rfl rfl (by decide) (by decide) (by decide) rfl ?_
  refine g_iload_n rfl rfl ?_
  refine g_iload_n rfl rfl ?_
  refine g_ishr rfl ?_
  refine g_i2b rfl ?_
  refine g_bast rfl rfl (by decide) (by omega) (by omega) ?_
  refine g_aload_n rfl rfl ?_
  refine x_getF (r := 203) hG rfl rfl (by decide) (Or.inr ⟨_, rfl⟩) rfl ?_
  refine g_iconst rfl ⟨by decide, by decide⟩ ?_
  refine g_dup2 rfl ?_
  refine x_iald (v := (μ.1 203 0) + 1) rfl rfl (by decide) (by decide) (by decide) rfl ?_
  refine g_iconst rfl ⟨by decide, by decide⟩ ?_
  refine x_iadd (z := (μ.1 203 0) + 2) rfl (by omega) ⟨by omega, by omega⟩ ?_
  refine g_iast rfl rfl (by decide) (by decide) (by decide) ?_
  refine x_iinc (z := 8) rfl rfl (by omega) ⟨by omega, by omega⟩ rfl rfl ?_
  refine g_goto (tgt := 3) rfl (by decide) ?_
  refine g_iload_n rfl rfl ?_
  refine g_if_lt (tgt := 38) rfl (by decide) (fun hx => absurd hx (by omega)) (fun _ => ?_)
  refine g_aload_n rfl rfl ?_
  refine x_getF (r := 202) hG rfl rfl (by decide) (Or.inr ⟨_, rfl⟩) rfl ?_
  refine g_aload_n rfl rfl ?_
  refine x_getF (r := 203) hG rfl rfl (by decide) (Or.inr ⟨_, rfl⟩) rfl ?_
  refine g_iconst rfl ⟨by decide, by decide⟩ ?_
  refine x_iald (v := (μ.1 203 0) + 2) rfl rfl (by decide) (by decide) (by decide) rfl ?_
  refine g_iload_n rfl rfl ?_
  refine g_iload_n rfl rfl ?_
  refine g_ishr rfl ?_
  refine g_i2b rfl ?_
  refine g_bast rfl rfl (by decide) (by omega) (by omega) ?_
  refine g_aload_n rfl rfl ?_
  refine x_getF (r := 203) hG rfl rfl (by decide) (Or.inr ⟨_, rfl⟩) rfl ?_
  refine g_iconst rfl ⟨by decide, by decide⟩ ?_
  refine g_dup2 rfl ?_
  refine x_iald (v := (μ.1 203 0) + 2) rfl rfl (by decide) (by decide) (by decide) rfl ?_
  refine g_iconst rfl ⟨by decide, by decide⟩ ?_
  refine x_iadd (z := (μ.1 203 0) + 3) rfl (by omega) ⟨by omega, by omega⟩ ?_
  refine g_iast rfl rfl (by decide) (by decide) (by decide) ?_
  refine x_iinc (z := 0) rfl rfl (by omega) ⟨by omega, by omega⟩ rfl rfl ?_
  refine g_goto (tgt := 3) rfl (by decide) ?_
  refine g_iload_n rfl rfl ?_
  refine g_if_lt (tgt := 38) rfl (by decide) (fun hx => absurd hx (by omega)) (fun _ => ?_)
  refine g_aload_n rfl rfl ?_
  refine x_getF (r := 202) hG rfl rfl (by decide) (Or.inr ⟨_, rfl⟩) rfl ?_
  refine g_aload_n rfl rfl ?_
  refine x_getF (r := 203) hG rfl rfl (by decide) (Or.inr ⟨_, rfl⟩) rfl ?_
  refine g_iconst rfl ⟨by decide, by decide⟩ ?_
  refine x_iald (v := (μ.1 203 0) + 3) rfl rfl (by decide) (by decide) (by decide) rfl ?_
  refine g_iload_n rfl rfl ?_
  refine g_iload_n rfl rfl ?_
  refine g_ishr rfl ?_
  refine g_i2b rfl ?_
  refine g_bast rfl rfl (by decide) (by omega) (by omega) ?_
  refine g_aload_n rfl rfl ?_
  refine x_getF (r := 203) hG rfl rfl (by decide) (Or.inr ⟨_, rfl⟩) rfl ?_
  refine g_iconst rfl ⟨by decide, by decide⟩ ?_
  refine g_dup2 rfl ?_
  refine x_iald (v := (μ.1 203 0) + 3) rfl rfl (by decide) (by decide) (by decide) rfl ?_
  refine g_iconst rfl ⟨by decide, by decide⟩ ?_
  refine x_iadd (z := (μ.1 203 0) + 4) rfl (by omega) ⟨by omega, by omega⟩ ?_
  refine g_iast rfl rfl (by decide) (by decide) (by decide) ?_
  refine x_iinc (z := (-8)) rfl rfl (by omega) ⟨by omega, by omega⟩ rfl rfl ?_
  refine g_goto (tgt := 3) rfl (by decide) ?_
  refine g_iload_n rfl rfl ?_
  refine g_if_lt (tgt := 38) rfl (by decide) (fun _ => ?_) (fun hx => absurd hx (by omega))
  refine x_return rfl rfl ?_
  refine ⟨rfl, Prod.ext (funext fun k => funext fun j => ?_) rfl⟩
  simp only [tp_pi1, tp_ap]
  rcases (show (k = 202 ∧ j = μ.1 203 0) ∨ (k = 202 ∧ j = μ.1 203 0 + 1) ∨ (k = 202 ∧ j = μ.1 203 0 + 2) ∨ (k = 202 ∧ j = μ.1 203 0 + 3) ∨ (k = 203 ∧ j = 0) ∨ (¬ (k = 202 ∧ μ.1 203 0 ≤ j ∧ j < μ.1 203 0 + 4) ∧ ¬ (k = 203 ∧ j = 0)) by omega) with ⟨hk, hj⟩ | ⟨hk, hj⟩ | ⟨hk, hj⟩ | ⟨hk, hj⟩ | ⟨hk, hj⟩ | ⟨hk, hj⟩
  · rw [if_neg (by omega), if_neg (by omega), if_neg (by omega), if_neg (by omega), if_neg (by omega), if_neg (by omega), if_neg (by omega), if_pos (by omega), if_pos (by omega), show j - μ.1 203 0 = 0 by omega]
    rfl
  · rw [if_neg (by omega), if_neg (by omega), if_neg (by omega), if_neg (by omega), if_neg (by omega), if_pos (by omega), if_pos (by omega), show j - μ.1 203 0 = 1 by omega]
    rfl
  · rw [if_neg (by omega), if_neg (by omega), if_neg (by omega), if_pos (by omega), if_pos (by omega), show j - μ.1 203 0 = 2 by omega]
    rfl
  · rw [if_neg (by omega), if_pos (by omega), if_pos (by omega), show j - μ.1 203 0 = 3 by omega]
    rfl
  · rw [if_pos (by omega), if_neg (by omega), if_pos (by omega)]
  · rw [if_neg (by omega), if_neg (by omega), if_neg (by omega), if_neg (by omega), if_neg (by omega), if_neg (by omega), if_neg (by omega), if_neg (by omega), if_neg (by omega), if_neg (by omega)]
set_option maxHeartbeats 4000000 in
set_option maxRecDepth 100000 in
theorem p_feed {G : tp_G} (hG : tp_Gf G = true) {a b c d e : Int} : tp_pair G mX11_feed mX12_feed [tI a, tI b, tI c, tI d, tI e] := by
  intro μ hR
  have hL := tp_R_len hR
  refine tp_ok_of mX11_feed_ok rfl (Nat.le_refl _) ?_
  refine g_aload_n rfl rfl ?_
  refine x_getF (r := 1) hG rfl rfl (by decide) (Or.inl ⟨_, rfl⟩) rfl ?_
  refine g_bipush rfl ⟨by decide, by decide⟩ (by decide) ?_
  refine g_iV (as := [tI 20]) mX9_hasRoomFor_ok rfl rfl rfl rfl rfl rfl (by decide) rfl rfl rfl ?_
  refine g_aload_n rfl rfl ?_
  refine x_geti (v := (μ.1 1 1)) rfl rfl (by decide) (Or.inl rfl) rfl ?_
  refine g_if_lt (tgt := 23) rfl (by decide) (fun hx => absurd hx (by omega)) (fun _ => ?_)
  refine g_iload_n rfl rfl ?_
  refine g_sipush rfl ⟨by decide, by decide⟩ (by decide) ?_
  refine g_aload_n rfl rfl ?_
  refine x_geti (v := (μ.1 1 1)) rfl rfl (by decide) (Or.inl rfl) rfl ?_
  refine x_isub (z := -(μ.1 1 1) + 600) rfl (by omega) ⟨by omega, by omega⟩ ?_
  refine g_icmp_gt (tgt := 23) rfl (by decide) (fun h1 => ?_) (fun h1 => ?_)
  · refine g_iconst rfl ⟨by decide, by decide⟩ ?_
    refine x_zreturn rfl rfl (Or.inl rfl) ?_
    intro _
    refine g_if_ne (tgt := 14) rfl (by decide) (fun hx => absurd hx (by omega)) (fun _ => ?_)
    refine g_iconst rfl ⟨by decide, by decide⟩ ?_
    refine x_ireturn rfl rfl ?_
    refine ⟨_, rfl, ?_⟩
    refine tp_ok_of mX12_feed_ok rfl (Nat.le_refl _) ?_
    refine g_aload_n rfl rfl ?_
    refine g_iconst rfl ⟨by decide, by decide⟩ ?_
    refine g_puti rfl rfl (by decide) rfl rfl ?_
    refine g_aload_n rfl rfl ?_
    refine x_getF (r := 203) hG rfl rfl (by decide) (Or.inr ⟨_, rfl⟩) rfl ?_
    refine g_iconst rfl ⟨by decide, by decide⟩ ?_
    refine x_iald (v := (μ.1 203 0)) rfl rfl (by decide) (by decide) (by decide) rfl ?_
    refine g_bipush rfl ⟨by decide, by decide⟩ (by decide) ?_
    refine x_iadd (z := (μ.1 203 0) + 20) rfl (by omega) ⟨by omega, by omega⟩ ?_
    refine g_sipush rfl ⟨by decide, by decide⟩ (by decide) ?_
    refine g_icmp_le (tgt := 22) rfl (by decide) (fun hx => absurd hx (by omega)) (fun _ => ?_)
    refine g_iconst rfl ⟨by decide, by decide⟩ ?_
    refine x_ireturn rfl rfl ?_
    exact ⟨rfl, (tp_R_kp hR (tp_kp_pi (by decide) tp_kp_rf))⟩
  · refine g_iconst rfl ⟨by decide, by decide⟩ ?_
    refine g_goto (tgt := 24) rfl (by decide) ?_
    refine x_zreturn rfl rfl (Or.inr rfl) ?_
    intro _
    refine g_if_ne (tgt := 14) rfl (by decide) (fun _ => ?_) (fun hx => absurd hx (by omega))
    refine g_aload_n rfl rfl ?_
    refine x_getF (r := 1) hG rfl rfl (by decide) (Or.inl ⟨_, rfl⟩) rfl ?_
    refine g_iload_n rfl rfl ?_
    refine g_cV (as := [tI a]) (s_append hG (by omega)) rfl rfl mX9_append_ok rfl rfl rfl (by decide) rfl rfl rfl ?_
    rintro _ w1 ⟨rfl, e1⟩ _
    have l1 : w1.1 1 1 = μ.1 1 1 + 4 := by rw [e1]; exact tp_ap_len (by decide)
    have m1 : w1.1 203 0 = μ.1 203 0 := by rw [e1]; rfl
    refine g_aload_n rfl rfl ?_
    refine x_getF (r := 1) hG rfl rfl (by decide) (Or.inl ⟨_, rfl⟩) rfl ?_
    refine g_iload_n rfl rfl ?_
    refine g_cV (as := [tI b]) (s_append hG (by omega)) rfl rfl mX9_append_ok rfl rfl rfl (by decide) rfl rfl rfl ?_
    rintro _ w2 ⟨rfl, e2⟩ _
    have l2 : w2.1 1 1 = w1.1 1 1 + 4 := by rw [e2]; exact tp_ap_len (by decide)
    have m2 : w2.1 203 0 = w1.1 203 0 := by rw [e2]; rfl
    refine g_aload_n rfl rfl ?_
    refine x_getF (r := 1) hG rfl rfl (by decide) (Or.inl ⟨_, rfl⟩) rfl ?_
    refine g_iload_n rfl rfl ?_
    refine g_cV (as := [tI c]) (s_append hG (by omega)) rfl rfl mX9_append_ok rfl rfl rfl (by decide) rfl rfl rfl ?_
    rintro _ w3 ⟨rfl, e3⟩ _
    have l3 : w3.1 1 1 = w2.1 1 1 + 4 := by rw [e3]; exact tp_ap_len (by decide)
    have m3 : w3.1 203 0 = w2.1 203 0 := by rw [e3]; rfl
    refine g_aload_n rfl rfl ?_
    refine x_getF (r := 1) hG rfl rfl (by decide) (Or.inl ⟨_, rfl⟩) rfl ?_
    refine g_iload rfl rfl ?_
    refine g_cV (as := [tI d]) (s_append hG (by omega)) rfl rfl mX9_append_ok rfl rfl rfl (by decide) rfl rfl rfl ?_
    rintro _ w4 ⟨rfl, e4⟩ _
    have l4 : w4.1 1 1 = w3.1 1 1 + 4 := by rw [e4]; exact tp_ap_len (by decide)
    have m4 : w4.1 203 0 = w3.1 203 0 := by rw [e4]; rfl
    refine g_aload_n rfl rfl ?_
    refine x_getF (r := 1) hG rfl rfl (by decide) (Or.inl ⟨_, rfl⟩) rfl ?_
    refine g_iload rfl rfl ?_
    refine g_cV (as := [tI e]) (s_append hG (by omega)) rfl rfl mX9_append_ok rfl rfl rfl (by decide) rfl rfl rfl ?_
    rintro _ w5 ⟨rfl, e5⟩ _
    have l5 : w5.1 1 1 = w4.1 1 1 + 4 := by rw [e5]; exact tp_ap_len (by decide)
    have m5 : w5.1 203 0 = w4.1 203 0 := by rw [e5]; rfl
    refine g_aload_n rfl rfl ?_
    refine x_getF (r := 1) hG rfl rfl (by decide) (Or.inl ⟨_, rfl⟩) rfl ?_
    refine x_geti (v := (w5.1 1 1)) rfl rfl (by decide) (Or.inl rfl) rfl ?_
    refine x_ireturn rfl rfl ?_
    refine ⟨_, rfl, ?_⟩
    refine tp_ok_of mX12_feed_ok rfl (Nat.le_refl _) ?_
    refine g_aload_n rfl rfl ?_
    refine g_iconst rfl ⟨by decide, by decide⟩ ?_
    refine g_puti rfl rfl (by decide) rfl rfl ?_
    refine g_aload_n rfl rfl ?_
    refine x_getF (r := 203) hG rfl rfl (by decide) (Or.inr ⟨_, rfl⟩) rfl ?_
    refine g_iconst rfl ⟨by decide, by decide⟩ ?_
    refine x_iald (v := (w5.1 203 0)) rfl rfl (by decide) (by decide) (by decide) rfl ?_
    refine g_bipush rfl ⟨by decide, by decide⟩ (by decide) ?_
    refine x_iadd (z := (w5.1 203 0) + 20) rfl (by omega) ⟨by omega, by omega⟩ ?_
    refine g_sipush rfl ⟨by decide, by decide⟩ (by decide) ?_
    refine g_icmp_le (tgt := 22) rfl (by decide) (fun _ => ?_) (fun hx => absurd hx (by omega))
    refine g_aload_n rfl rfl ?_
    refine g_iload_n rfl rfl ?_
    refine g_cV (as := [tI a]) (s_four hG (show 0 ≤ (w5.1 203 0) ∧ (w5.1 203 0) + 4 ≤ 600 by omega)) rfl rfl mX12_four_ok rfl rfl rfl (by decide) rfl rfl rfl ?_
    rintro _ w6 ⟨rfl, e6⟩ _
    have l6 : w6.1 203 0 = (tp_pi w5 201 0 0).1 203 0 + 4 := by rw [e6]; exact tp_ap_len (by decide)
    have l6 : w6.1 203 0 = (w5.1 203 0) + 4 := l6
    refine g_aload_n rfl rfl ?_
    refine g_iload_n rfl rfl ?_
    refine g_cV (as := [tI b]) (s_four hG (show 0 ≤ (w6.1 203 0) ∧ (w6.1 203 0) + 4 ≤ 600 by omega)) rfl rfl mX12_four_ok rfl rfl rfl (by decide) rfl rfl rfl ?_
    rintro _ w7 ⟨rfl, e7⟩ _
    have l7 : w7.1 203 0 = w6.1 203 0 + 4 := by rw [e7]; exact tp_ap_len (by decide)
    have l7 : w7.1 203 0 = (w6.1 203 0) + 4 := l7
    refine g_aload_n rfl rfl ?_
    refine g_iload_n rfl rfl ?_
    refine g_cV (as := [tI c]) (s_four hG (show 0 ≤ (w7.1 203 0) ∧ (w7.1 203 0) + 4 ≤ 600 by omega)) rfl rfl mX12_four_ok rfl rfl rfl (by decide) rfl rfl rfl ?_
    rintro _ w8 ⟨rfl, e8⟩ _
    have l8 : w8.1 203 0 = w7.1 203 0 + 4 := by rw [e8]; exact tp_ap_len (by decide)
    have l8 : w8.1 203 0 = (w7.1 203 0) + 4 := l8
    refine g_aload_n rfl rfl ?_
    refine g_iload rfl rfl ?_
    refine g_cV (as := [tI d]) (s_four hG (show 0 ≤ (w8.1 203 0) ∧ (w8.1 203 0) + 4 ≤ 600 by omega)) rfl rfl mX12_four_ok rfl rfl rfl (by decide) rfl rfl rfl ?_
    rintro _ w9 ⟨rfl, e9⟩ _
    have l9 : w9.1 203 0 = w8.1 203 0 + 4 := by rw [e9]; exact tp_ap_len (by decide)
    have l9 : w9.1 203 0 = (w8.1 203 0) + 4 := l9
    refine g_aload_n rfl rfl ?_
    refine g_iload rfl rfl ?_
    refine g_cV (as := [tI e]) (s_four hG (show 0 ≤ (w9.1 203 0) ∧ (w9.1 203 0) + 4 ≤ 600 by omega)) rfl rfl mX12_four_ok rfl rfl rfl (by decide) rfl rfl rfl ?_
    rintro _ w10 ⟨rfl, e10⟩ _
    have l10 : w10.1 203 0 = w9.1 203 0 + 4 := by rw [e10]; exact tp_ap_len (by decide)
    have l10 : w10.1 203 0 = (w9.1 203 0) + 4 := l10
    refine g_aload_n rfl rfl ?_
    refine x_getF (r := 203) hG rfl rfl (by decide) (Or.inr ⟨_, rfl⟩) rfl ?_
    refine g_iconst rfl ⟨by decide, by decide⟩ ?_
    refine x_iald (v := (w10.1 203 0)) rfl rfl (by decide) (by decide) (by decide) rfl ?_
    refine x_ireturn rfl rfl ?_
    refine ⟨by rw [show w10.1 203 0 = w5.1 1 1 by omega], tp_R_head hR (fun k hk g1 g2 g3 => ?_) (fun j hj => ?_) (fun q hq => ⟨?_, ?_, ?_⟩) ⟨?_, ?_, ?_⟩ (fun j g1 g2 => ?_) ⟨?_, ?_⟩⟩
    · unfold tp_tl at hk
      rw [e10, tp_ap_ne (by omega) (by omega), e9, tp_ap_ne (by omega) (by omega), e8, tp_ap_ne (by omega) (by omega), e7, tp_ap_ne (by omega) (by omega), e6, tp_ap_ne (by omega) (by omega), tp_pi_ne (by omega), e5, tp_ap_ne (by omega) (by omega), e4, tp_ap_ne (by omega) (by omega), e3, tp_ap_ne (by omega) (by omega), e2, tp_ap_ne (by omega) (by omega), e1, tp_ap_ne (by omega) (by omega)]
    · have z1 : w10.1 202 j = w5.1 202 j := by
        rw [e10, tp_ap_ct (by decide), if_neg (by omega), e9, tp_ap_ct (by decide), if_neg (by omega), e8, tp_ap_ct (by decide), if_neg (by omega), e7, tp_ap_ct (by decide), if_neg (by omega), e6, tp_ap_ct (by decide), if_neg (by show ¬ (w5.1 203 0 ≤ j ∧ j < w5.1 203 0 + 4); omega)]
        rfl
      rw [z1, e5, tp_ap_ne (by decide) (by decide), e4, tp_ap_ne (by decide) (by decide), e3, tp_ap_ne (by decide) (by decide), e2, tp_ap_ne (by decide) (by decide), e1, tp_ap_ne (by decide) (by decide)]
    · rw [e10, tp_ap_ix (by decide) (by omega), e9, tp_ap_ix (by decide) (by omega), e8, tp_ap_ix (by decide) (by omega), e7, tp_ap_ix (by decide) (by omega), e6, tp_ap_ix (by decide) (by omega), tp_pi_ne (by decide), e5, tp_ap_ne (by decide) (by decide), e4, tp_ap_ne (by decide) (by decide), e3, tp_ap_ne (by decide) (by decide), e2, tp_ap_ne (by decide) (by decide), e1, tp_ap_ne (by decide) (by decide)]
    · rw [e10, tp_ap_ne (by decide) (by decide), e9, tp_ap_ne (by decide) (by decide), e8, tp_ap_ne (by decide) (by decide), e7, tp_ap_ne (by decide) (by decide), e6, tp_ap_ne (by decide) (by decide), tp_pi_ne (by decide), e5, tp_ap_ne (by decide) (by decide), e4, tp_ap_ne (by decide) (by decide), e3, tp_ap_ne (by decide) (by decide), e2, tp_ap_ne (by decide) (by decide), e1, tp_ap_ne (by decide) (by decide)]
    · rw [e10, tp_ap_ne (by decide) (by decide), e9, tp_ap_ne (by decide) (by decide), e8, tp_ap_ne (by decide) (by decide), e7, tp_ap_ne (by decide) (by decide), e6, tp_ap_ne (by decide) (by decide), tp_pi_ne (by decide), e5, tp_ap_ne (by decide) (by decide), e4, tp_ap_ne (by decide) (by decide), e3, tp_ap_ne (by decide) (by decide), e2, tp_ap_ne (by decide) (by decide), e1, tp_ap_ne (by decide) (by decide)]
    · have f1 : w10.1 1 = w5.1 1 := by rw [e10, tp_ap_ne (by decide) (by decide), e9, tp_ap_ne (by decide) (by decide), e8, tp_ap_ne (by decide) (by decide), e7, tp_ap_ne (by decide) (by decide), e6, tp_ap_ne (by decide) (by decide), tp_pi_ne (by decide)]
      rw [f1]
      omega
    · have f1 : w10.1 1 = w5.1 1 := by rw [e10, tp_ap_ne (by decide) (by decide), e9, tp_ap_ne (by decide) (by decide), e8, tp_ap_ne (by decide) (by decide), e7, tp_ap_ne (by decide) (by decide), e6, tp_ap_ne (by decide) (by decide), tp_pi_ne (by decide)]
      rw [f1]
      omega
    · have f1 : w10.1 1 = w5.1 1 := by rw [e10, tp_ap_ne (by decide) (by decide), e9, tp_ap_ne (by decide) (by decide), e8, tp_ap_ne (by decide) (by decide), e7, tp_ap_ne (by decide) (by decide), e6, tp_ap_ne (by decide) (by decide), tp_pi_ne (by decide)]
      rw [f1]
      omega
    · have f1 : w10.1 1 = w5.1 1 := by rw [e10, tp_ap_ne (by decide) (by decide), e9, tp_ap_ne (by decide) (by decide), e8, tp_ap_ne (by decide) (by decide), e7, tp_ap_ne (by decide) (by decide), e6, tp_ap_ne (by decide) (by decide), tp_pi_ne (by decide)]
      have f2 : w10.1 2 = w5.1 2 := by rw [e10, tp_ap_ne (by decide) (by decide), e9, tp_ap_ne (by decide) (by decide), e8, tp_ap_ne (by decide) (by decide), e7, tp_ap_ne (by decide) (by decide), e6, tp_ap_ne (by decide) (by decide), tp_pi_ne (by decide)]
      rw [f1] at g2
      rw [f2, e5, tp_ap_ct (by decide), e4, tp_ap_ct (by decide), e3, tp_ap_ct (by decide), e2, tp_ap_ct (by decide), e1, tp_ap_ct (by decide)]
      have z1 : w5.1 202 j = μ.1 202 j := by rw [e5, tp_ap_ne (by decide) (by decide), e4, tp_ap_ne (by decide) (by decide), e3, tp_ap_ne (by decide) (by decide), e2, tp_ap_ne (by decide) (by decide), e1, tp_ap_ne (by decide) (by decide)]
      have z2 : (tp_pi w5 201 ((0 : Nat) : Int) 0).1 202 j = μ.1 202 j := z1
      have z3 : (tp_pi w5 201 ((0 : Nat) : Int) 0).1 203 0 = μ.1 203 0 := by show w5.1 203 0 = _; omega
      rw [e10, tp_ap_ct (by decide), e9, tp_ap_ct (by decide), e8, tp_ap_ct (by decide), e7, tp_ap_ct (by decide), e6, tp_ap_ct (by decide), z2, z3]
      rw [← e6, ← e7, ← e8, ← e9, ← e1, ← e2, ← e3, ← e4]
      rw [show w9.1 203 0 = w4.1 1 1 by omega, show w8.1 203 0 = w3.1 1 1 by omega, show w7.1 203 0 = w2.1 1 1 by omega, show w6.1 203 0 = w1.1 1 1 by omega, show μ.1 203 0 = μ.1 1 1 by omega]
      exact tp_if2 (fun n5 => tp_if2 (fun n4 => tp_if2 (fun n3 => tp_if2 (fun n2 => tp_if2 (fun n1 => tp_R_tape hR j g1 (by omega))))))
    · have f1 : w10.1 1 2 = μ.1 1 2 := by rw [e10, tp_ap_ne (by decide) (by decide), e9, tp_ap_ne (by decide) (by decide), e8, tp_ap_ne (by decide) (by decide), e7, tp_ap_ne (by decide) (by decide), e6, tp_ap_ne (by decide) (by decide), tp_pi_ne (by decide), e5, tp_ap_ix (by decide) (by decide), e4, tp_ap_ix (by decide) (by decide), e3, tp_ap_ix (by decide) (by decide), e2, tp_ap_ix (by decide) (by decide), e1, tp_ap_ix (by decide) (by decide)]
      have f2 : w10.1 204 = μ.1 204 := by rw [e10, tp_ap_ne (by decide) (by decide), e9, tp_ap_ne (by decide) (by decide), e8, tp_ap_ne (by decide) (by decide), e7, tp_ap_ne (by decide) (by decide), e6, tp_ap_ne (by decide) (by decide), tp_pi_ne (by decide), e5, tp_ap_ne (by decide) (by decide), e4, tp_ap_ne (by decide) (by decide), e3, tp_ap_ne (by decide) (by decide), e2, tp_ap_ne (by decide) (by decide), e1, tp_ap_ne (by decide) (by decide)]
      rw [f1, f2]
      exact (tp_R_fault hR).1
    · have f1 : w10.1 1 3 = μ.1 1 3 := by rw [e10, tp_ap_ne (by decide) (by decide), e9, tp_ap_ne (by decide) (by decide), e8, tp_ap_ne (by decide) (by decide), e7, tp_ap_ne (by decide) (by decide), e6, tp_ap_ne (by decide) (by decide), tp_pi_ne (by decide), e5, tp_ap_ix (by decide) (by decide), e4, tp_ap_ix (by decide) (by decide), e3, tp_ap_ix (by decide) (by decide), e2, tp_ap_ix (by decide) (by decide), e1, tp_ap_ix (by decide) (by decide)]
      have f2 : w10.1 205 = μ.1 205 := by rw [e10, tp_ap_ne (by decide) (by decide), e9, tp_ap_ne (by decide) (by decide), e8, tp_ap_ne (by decide) (by decide), e7, tp_ap_ne (by decide) (by decide), e6, tp_ap_ne (by decide) (by decide), tp_pi_ne (by decide), e5, tp_ap_ne (by decide) (by decide), e4, tp_ap_ne (by decide) (by decide), e3, tp_ap_ne (by decide) (by decide), e2, tp_ap_ne (by decide) (by decide), e1, tp_ap_ne (by decide) (by decide)]
      rw [f1, f2]
      exact (tp_R_fault hR).2
