/-! the reference's code that is asked for -/
def tp_Mc (k : Int) (f : Int → Int) (μ : tp_M) : Prop := (0 ≤ k ∧ k ≤ 1) ∧ μ.1 201 24 = k ∧ μ.1 201 26 = f 0 ∧ ∀ i, 0 ≤ i → i < 129 → μ.1 207 (129 * k + i) = f i
theorem tp_Mc_fr {k : Int} {f : Int → Int} {μ μ' : tp_M} (h1 : μ'.1 201 24 = μ.1 201 24 ∧ μ'.1 201 26 = μ.1 201 26) (h2 : μ'.1 207 = μ.1 207) (q : tp_Mc k f μ) : tp_Mc k f μ' := by
  unfold tp_Mc
  rw [h1.1, h1.2, h2]
  exact q
theorem tp_pi_no {μ : tp_M} {p c : Nat} {i j v : Int} (h : c ≠ p ∨ i ≠ j) : (tp_pi μ p j v).1 c i = μ.1 c i := if_neg (fun z => by omega)
theorem tp_Mc_pi {k : Int} {f : Int → Int} {μ : tp_M} {p : Nat} {j v : Int} (hp : p ≠ 207 ∧ (p ≠ 201 ∨ (j ≠ 24 ∧ j ≠ 26))) (q : tp_Mc k f μ) : tp_Mc k f (tp_pi μ p j v) :=
  tp_Mc_fr ⟨tp_pi_no (by omega), tp_pi_no (by omega)⟩ (tp_pi_ne (by omega)) q
set_option maxHeartbeats 4000000 in
set_option maxRecDepth 100000 in
theorem s_of {G : tp_G} {μ : tp_M} (hG : tp_Gf G = true) {k i : Int} {f : Int → Int} (h : tp_Mc k f μ) (h0 : 0 ≤ i) (h1 : i < 129) : tp_k G mX12_of [tR (some 201), tI i] μ (fun r μ' => r = some (tI (f i)) ∧ μ' = μ) := by
  refine tp_ok_of mX12_of_ok rfl (Nat.le_refl _) ?_
  have hk := h.1
  have he := h.2.1
  refine g_aload_n rfl rfl ?_
  refine x_getF (r := 207) hG rfl rfl (by decide) (Or.inr ⟨_, rfl⟩) rfl ?_
  refine g_sipush rfl ⟨by decide, by decide⟩ (by decide) ?_
  refine g_aload_n rfl rfl ?_
  refine x_geti (v := (μ.1 201 24)) rfl rfl (by decide) (Or.inl rfl) rfl ?_
  refine x_imul (z := 129 * (μ.1 201 24)) rfl (by omega) ⟨by omega, by omega⟩ ?_
  refine g_iload_n rfl rfl ?_
  refine x_iadd (z := 129 * (μ.1 201 24) + i) rfl (by omega) ⟨by omega, by omega⟩ ?_
  refine x_iald (v := (μ.1 207 (129 * (μ.1 201 24) + i))) rfl rfl (by decide) (by omega) (by omega) rfl ?_
  refine x_ireturn rfl rfl ?_
  exact ⟨by rw [← h.2.2.2 i h0 h1]; exact congrArg (fun z => some (tI (μ.1 207 z))) (by omega), rfl⟩
set_option maxHeartbeats 4000000 in
set_option maxRecDepth 100000 in
theorem s_kindM {G : tp_G} {μ : tp_M} (hG : tp_Gf G = true) {k a : Int} {f : Int → Int} (h : tp_Mc k f μ) (h0 : 0 ≤ a) (h1 : a < 40) : tp_k G mX12_kindAt [tR (some 201), tI a] μ (fun r μ' => r = some (tI (f (9 + a))) ∧ μ' = μ) := by
  refine tp_ok_of mX12_kindAt_ok rfl (Nat.le_refl _) ?_
  refine g_aload_n rfl rfl ?_
  refine g_bipush rfl ⟨by decide, by decide⟩ (by decide) ?_
  refine g_iload_n rfl rfl ?_
  refine x_iadd (z := a + 9) rfl (by omega) ⟨by omega, by omega⟩ ?_
  refine g_cV (as := [tI (a + 9)]) (s_of hG h (by omega) (by omega)) rfl rfl mX12_of_ok rfl rfl rfl (by decide) rfl rfl rfl ?_
  rintro _ w9 ⟨rfl, hw9⟩ _
  have hw9 := hw9.symm
  subst hw9
  refine x_ireturn rfl rfl ?_
  exact ⟨by rw [show a + 9 = 9 + a by omega], rfl⟩
set_option maxHeartbeats 4000000 in
set_option maxRecDepth 100000 in
theorem s_greater {G : tp_G} {μ : tp_M} (hG : tp_Gf G = true) {a b : Int} : tp_k G mX12_greater [tI a, tI b] μ (fun r μ' => r = some (tI (max a b)) ∧ μ' = μ) := by
  refine tp_ok_of mX12_greater_ok rfl (Nat.le_refl _) ?_
  refine g_iload_n rfl rfl ?_
  refine g_iload_n rfl rfl ?_
  refine g_icmp_le (tgt := 9) rfl (by decide) (fun h1 => ?_) (fun h1 => ?_)
  · refine g_iload_n rfl rfl ?_
    refine x_ireturn rfl rfl ?_
    exact ⟨by rw [show max a b = b by omega], rfl⟩
  · refine g_iload_n rfl rfl ?_
    refine g_goto (tgt := 10) rfl (by decide) ?_
    refine x_ireturn rfl rfl ?_
    exact ⟨by rw [show max a b = a by omega], rfl⟩
set_option maxHeartbeats 4000000 in
set_option maxRecDepth 100000 in
theorem s_lesser {G : tp_G} {μ : tp_M} (hG : tp_Gf G = true) {a b : Int} : tp_k G mX12_lesser [tI a, tI b] μ (fun r μ' => r = some (tI (min a b)) ∧ μ' = μ) := by
  refine tp_ok_of mX12_lesser_ok rfl (Nat.le_refl _) ?_
  refine g_iload_n rfl rfl ?_
  refine g_iload_n rfl rfl ?_
  refine g_icmp_ge (tgt := 9) rfl (by decide) (fun h1 => ?_) (fun h1 => ?_)
  · refine g_iload_n rfl rfl ?_
    refine x_ireturn rfl rfl ?_
    exact ⟨by rw [show min a b = b by omega], rfl⟩
  · refine g_iload_n rfl rfl ?_
    refine g_goto (tgt := 10) rfl (by decide) ?_
    refine x_ireturn rfl rfl ?_
    exact ⟨by rw [show min a b = a by omega], rfl⟩
def m_cho (μ : tp_M) (v : Int) : tp_M := if v = -1 then μ else tp_pi μ 201 31 (μ.1 201 31 + 1)
/-- the reference's cells that a run changes -/
def m_F (μ μ' : tp_M) : Prop := (∀ c', c' ≠ 201 → (c' < 212 ∨ 215 < c') → μ'.1 c' = μ.1 c') ∧ (∀ j, (j < 27 ∨ 32 < j) → j ≠ 38 → μ'.1 201 j = μ.1 201 j) ∧ μ'.2 = μ.2
def m_M (c : r_C) (μ : tp_M) : Prop := μ.1 201 29 = c.2.1 ∧ (∀ i, 0 ≤ i → i < c.2.1 → μ.1 215 i = c.2.2.1 i) ∧ μ.1 201 31 = c.2.2.2.1 ∧ μ.1 201 38 = c.2.2.2.2
def m_L (f : Int → Int) (ch : r_H) (c : r_C) (k : Int) (μ μ' : tp_M) : Prop :=
  μ'.1 201 29 = (r_nx f ch c).2.1 ∧ (∀ i, 0 ≤ i → i < (r_nx f ch c).2.1 → μ'.1 215 i = (r_nx f ch c).2.2.1 i) ∧ μ'.1 201 31 = (r_nx f ch c).2.2.2.1 ∧ μ'.1 201 38 = (r_nx f ch c).2.2.2.2 ∧
  (μ'.1 201 30 = if f (9 + c.1) = 3 ∧ c.2.1 ≠ 9 then max (μ.1 201 30) (c.2.1 + 1) else μ.1 201 30) ∧ (μ'.1 201 32 = if f (9 + c.1) = 4 ∧ c.2.1 ≠ 0 then μ.1 201 32 + 1 else μ.1 201 32) ∧
  (∀ j, j ≠ k → μ'.1 214 j = μ.1 214 j) ∧ (μ.1 214 k = 0 → μ'.1 214 k = r_yes f ch c) ∧
  (∀ j, (j < 29 ∨ 32 < j) → j ≠ 38 → μ'.1 201 j = μ.1 201 j) ∧ (∀ c', c' ≠ 201 → c' ≠ 214 → c' ≠ 215 → μ'.1 c' = μ.1 c') ∧ μ'.2 = μ.2

set_option maxHeartbeats 4000000 in
set_option maxRecDepth 100000 in
theorem s_choM_1 {G : tp_G} {μ : tp_M} (hG : tp_Gf G = true) {d s : Int} {g : Int → Int} (hd : 0 ≤ d ∧ d ≤ 1) (hdr : μ.1 201 25 = d) (hdm : μ.1 201 37 < 0) (hgv : ∀ i, 0 ≤ i → i < 61 → μ.1 208 (61 * d + i) = g i) (hgw : tp_Dw g) (hu : 0 ≤ μ.1 201 31) (hu2 : μ.1 201 31 < 1000) : tp_k G mX12_choose [tR (some 201), tI 1] μ (fun r μ' => r = some (tI (r_dr g (μ.1 201 31) s true).1) ∧ μ' = m_cho μ (r_dr g (μ.1 201 31) s true).1) := by
  subst hdr
  have hw0 := hgw.1
  have hg0 : μ.1 208 (61 * μ.1 201 25) = g 0 := by rw [← hgv 0 (by omega) (by omega)]; exact congrArg (μ.1 208) (by omega)
  refine tp_ok_of mX12_choose_ok rfl (Nat.le_refl _) ?_
  by_cases hq : μ.1 201 31 < g 0
  · have hv : (μ.1 208 (61 * (μ.1 201 25) + (μ.1 201 31) + 1)) = g (1 + μ.1 201 31) := by rw [← hgv (1 + μ.1 201 31) (by omega) (by omega)]; exact congrArg (μ.1 208) (by omega)
    rcases hgw.2 _ hu hq with hz | hz | hz
    · refine g_iconst rfl ⟨by decide, by decide⟩ ?_
      refine g_istore_n rfl rfl rfl ?_
      refine g_aload_n rfl rfl ?_
      refine x_geti (v := (μ.1 201 37)) rfl rfl (by decide) (Or.inl rfl) rfl ?_
      refine g_if_ge (tgt := 83) rfl (by decide) (fun hx => absurd hx (by omega)) (fun _ => ?_)
      refine g_bipush rfl ⟨by decide, by decide⟩ (by decide) ?_
      refine g_aload_n rfl rfl ?_
      refine x_geti (v := (μ.1 201 25)) rfl rfl (by decide) (Or.inl rfl) rfl ?_
      refine x_imul (z := 61 * (μ.1 201 25)) rfl (by omega) ⟨by omega, by omega⟩ ?_
      refine g_iconst rfl ⟨by decide, by decide⟩ ?_
      refine x_iadd (z := 61 * (μ.1 201 25) + 1) rfl (by omega) ⟨by omega, by omega⟩ ?_
      refine g_aload_n rfl rfl ?_
      refine x_geti (v := (μ.1 201 31)) rfl rfl (by decide) (Or.inl rfl) rfl ?_
      refine x_iadd (z := 61 * (μ.1 201 25) + (μ.1 201 31) + 1) rfl (by omega) ⟨by omega, by omega⟩ ?_
      refine g_istore_n rfl rfl rfl ?_
      refine g_aload_n rfl rfl ?_
      refine x_geti (v := (μ.1 201 31)) rfl rfl (by decide) (Or.inl rfl) rfl ?_
      refine g_aload_n rfl rfl ?_
      refine x_getF (r := 208) hG rfl rfl (by decide) (Or.inr ⟨_, rfl⟩) rfl ?_
      refine g_bipush rfl ⟨by decide, by decide⟩ (by decide) ?_
      refine g_aload_n rfl rfl ?_
      refine x_geti (v := (μ.1 201 25)) rfl rfl (by decide) (Or.inl rfl) rfl ?_
      refine x_imul (z := 61 * (μ.1 201 25)) rfl (by omega) ⟨by omega, by omega⟩ ?_
      refine x_iald (v := (μ.1 208 (61 * (μ.1 201 25)))) rfl rfl (by decide) (by omega) (by omega) rfl ?_
      refine g_icmp_ge (tgt := 52) rfl (by decide) (fun hx => absurd hx (by omega)) (fun _ => ?_)
      refine g_aload_n rfl rfl ?_
      refine x_getF (r := 208) hG rfl rfl (by decide) (Or.inr ⟨_, rfl⟩) rfl ?_
      refine g_iload_n rfl rfl ?_
      refine x_iald (v := (μ.1 208 (61 * (μ.1 201 25) + (μ.1 201 31) + 1))) rfl rfl (by decide) (by omega) (by omega) rfl ?_
      refine g_goto (tgt := 53) rfl (by decide) ?_
      refine g_istore_n rfl rfl rfl ?_
      refine g_iload_n rfl rfl ?_
      refine g_iconst rfl ⟨by decide, by decide⟩ ?_
      refine g_icmp_eq (tgt := 78) rfl (by decide) (fun hx => absurd hx (by omega)) (fun _ => ?_)
      refine g_iload_n rfl rfl ?_
      refine g_bipush rfl ⟨by decide, by decide⟩ (by decide) ?_
      refine g_icmp_lt (tgt := 69) rfl (by decide) (fun _ => ?_) (fun hx => absurd hx (by omega))
      refine g_iconst rfl ⟨by decide, by decide⟩ ?_
      refine g_iload_n rfl rfl ?_
      refine g_icmp_ne (tgt := 78) rfl (by decide) (fun _ => ?_) (fun hx => absurd hx (by omega))
      refine g_iconst rfl ⟨by decide, by decide⟩ ?_
      refine g_istore_n rfl rfl rfl ?_
      refine g_goto (tgt := 118) rfl (by decide) ?_
      refine g_aload_n rfl rfl ?_
      refine g_dupr rfl ?_
      refine x_geti (v := (μ.1 201 31)) rfl rfl (by decide) (Or.inl rfl) rfl ?_
      refine g_iload_n rfl rfl ?_
      refine g_iconst rfl ⟨by decide, by decide⟩ ?_
      refine g_icmp_ne (tgt := 132) rfl (by decide) (fun hx => absurd hx (by omega)) (fun _ => ?_)
      refine g_iconst rfl ⟨by decide, by decide⟩ ?_
      refine g_goto (tgt := 133) rfl (by decide) ?_
      refine x_iadd (z := (μ.1 201 31)) rfl (by omega) ⟨by omega, by omega⟩ ?_
      refine g_puti rfl rfl (by decide) rfl rfl ?_
      refine g_iload_n rfl rfl ?_
      refine x_ireturn rfl rfl ?_
      exact ⟨by rw [r_dr_out (fun z => by simp at z; omega)], by rw [r_dr_out (fun z => by simp at z; omega), m_cho, if_pos rfl]; exact tp_pi_self⟩
    · refine g_iconst rfl ⟨by decide, by decide⟩ ?_
      refine g_istore_n rfl rfl rfl ?_
      refine g_aload_n rfl rfl ?_
      refine x_geti (v := (μ.1 201 37)) rfl rfl (by decide) (Or.inl rfl) rfl ?_
      refine g_if_ge (tgt := 83) rfl (by decide) (fun hx => absurd hx (by omega)) (fun _ => ?_)
      refine g_bipush rfl ⟨by decide, by decide⟩ (by decide) ?_
      refine g_aload_n rfl rfl ?_
      refine x_geti (v := (μ.1 201 25)) rfl rfl (by decide) (Or.inl rfl) rfl ?_
      refine x_imul (z := 61 * (μ.1 201 25)) rfl (by omega) ⟨by omega, by omega⟩ ?_
      refine g_iconst rfl ⟨by decide, by decide⟩ ?_
      refine x_iadd (z := 61 * (μ.1 201 25) + 1) rfl (by omega) ⟨by omega, by omega⟩ ?_
      refine g_aload_n rfl rfl ?_
      refine x_geti (v := (μ.1 201 31)) rfl rfl (by decide) (Or.inl rfl) rfl ?_
      refine x_iadd (z := 61 * (μ.1 201 25) + (μ.1 201 31) + 1) rfl (by omega) ⟨by omega, by omega⟩ ?_
      refine g_istore_n rfl rfl rfl ?_
      refine g_aload_n rfl rfl ?_
      refine x_geti (v := (μ.1 201 31)) rfl rfl (by decide) (Or.inl rfl) rfl ?_
      refine g_aload_n rfl rfl ?_
      refine x_getF (r := 208) hG rfl rfl (by decide) (Or.inr ⟨_, rfl⟩) rfl ?_
      refine g_bipush rfl ⟨by decide, by decide⟩ (by decide) ?_
      refine g_aload_n rfl rfl ?_
      refine x_geti (v := (μ.1 201 25)) rfl rfl (by decide) (Or.inl rfl) rfl ?_
      refine x_imul (z := 61 * (μ.1 201 25)) rfl (by omega) ⟨by omega, by omega⟩ ?_
      refine x_iald (v := (μ.1 208 (61 * (μ.1 201 25)))) rfl rfl (by decide) (by omega) (by omega) rfl ?_
      refine g_icmp_ge (tgt := 52) rfl (by decide) (fun hx => absurd hx (by omega)) (fun _ => ?_)
      refine g_aload_n rfl rfl ?_
      refine x_getF (r := 208) hG rfl rfl (by decide) (Or.inr ⟨_, rfl⟩) rfl ?_
      refine g_iload_n rfl rfl ?_
      refine x_iald (v := (μ.1 208 (61 * (μ.1 201 25) + (μ.1 201 31) + 1))) rfl rfl (by decide) (by omega) (by omega) rfl ?_
      refine g_goto (tgt := 53) rfl (by decide) ?_
      refine g_istore_n rfl rfl rfl ?_
      refine g_iload_n rfl rfl ?_
      refine g_iconst rfl ⟨by decide, by decide⟩ ?_
      refine g_icmp_eq (tgt := 78) rfl (by decide) (fun hx => absurd hx (by omega)) (fun _ => ?_)
      refine g_iload_n rfl rfl ?_
      refine g_bipush rfl ⟨by decide, by decide⟩ (by decide) ?_
      refine g_icmp_lt (tgt := 69) rfl (by decide) (fun hx => absurd hx (by omega)) (fun _ => ?_)
      refine g_iconst rfl ⟨by decide, by decide⟩ ?_
      refine g_goto (tgt := 70) rfl (by decide) ?_
      refine g_iload_n rfl rfl ?_
      refine g_icmp_ne (tgt := 78) rfl (by decide) (fun hx => absurd hx (by omega)) (fun _ => ?_)
      refine g_iload_n rfl rfl ?_
      refine g_goto (tgt := 79) rfl (by decide) ?_
      refine g_istore_n rfl rfl rfl ?_
      refine g_goto (tgt := 118) rfl (by decide) ?_
      refine g_aload_n rfl rfl ?_
      refine g_dupr rfl ?_
      refine x_geti (v := (μ.1 201 31)) rfl rfl (by decide) (Or.inl rfl) rfl ?_
      refine g_iload_n rfl rfl ?_
      refine g_iconst rfl ⟨by decide, by decide⟩ ?_
      refine g_icmp_ne (tgt := 132) rfl (by decide) (fun _ => ?_) (fun hx => absurd hx (by omega))
      refine g_iconst rfl ⟨by decide, by decide⟩ ?_
      refine x_iadd (z := (μ.1 201 31) + 1) rfl (by omega) ⟨by omega, by omega⟩ ?_
      refine g_puti rfl rfl (by decide) rfl rfl ?_
      refine g_iload_n rfl rfl ?_
      refine x_ireturn rfl rfl ?_
      exact ⟨by rw [r_dr_in hq (by simp; omega), ← hv], by rw [r_dr_in hq (by simp; omega), m_cho, if_neg (by omega)]; rfl⟩
    · refine g_iconst rfl ⟨by decide, by decide⟩ ?_
      refine g_istore_n rfl rfl rfl ?_
      refine g_aload_n rfl rfl ?_
      refine x_geti (v := (μ.1 201 37)) rfl rfl (by decide) (Or.inl rfl) rfl ?_
      refine g_if_ge (tgt := 83) rfl (by decide) (fun hx => absurd hx (by omega)) (fun _ => ?_)
      refine g_bipush rfl ⟨by decide, by decide⟩ (by decide) ?_
      refine g_aload_n rfl rfl ?_
      refine x_geti (v := (μ.1 201 25)) rfl rfl (by decide) (Or.inl rfl) rfl ?_
      refine x_imul (z := 61 * (μ.1 201 25)) rfl (by omega) ⟨by omega, by omega⟩ ?_
      refine g_iconst rfl ⟨by decide, by decide⟩ ?_
      refine x_iadd (z := 61 * (μ.1 201 25) + 1) rfl (by omega) ⟨by omega, by omega⟩ ?_
      refine g_aload_n rfl rfl ?_
      refine x_geti (v := (μ.1 201 31)) rfl rfl (by decide) (Or.inl rfl) rfl ?_
      refine x_iadd (z := 61 * (μ.1 201 25) + (μ.1 201 31) + 1) rfl (by omega) ⟨by omega, by omega⟩ ?_
      refine g_istore_n rfl rfl rfl ?_
      refine g_aload_n rfl rfl ?_
      refine x_geti (v := (μ.1 201 31)) rfl rfl (by decide) (Or.inl rfl) rfl ?_
      refine g_aload_n rfl rfl ?_
      refine x_getF (r := 208) hG rfl rfl (by decide) (Or.inr ⟨_, rfl⟩) rfl ?_
      refine g_bipush rfl ⟨by decide, by decide⟩ (by decide) ?_
      refine g_aload_n rfl rfl ?_
      refine x_geti (v := (μ.1 201 25)) rfl rfl (by decide) (Or.inl rfl) rfl ?_
      refine x_imul (z := 61 * (μ.1 201 25)) rfl (by omega) ⟨by omega, by omega⟩ ?_
      refine x_iald (v := (μ.1 208 (61 * (μ.1 201 25)))) rfl rfl (by decide) (by omega) (by omega) rfl ?_
      refine g_icmp_ge (tgt := 52) rfl (by decide) (fun hx => absurd hx (by omega)) (fun _ => ?_)
      refine g_aload_n rfl rfl ?_
      refine x_getF (r := 208) hG rfl rfl (by decide) (Or.inr ⟨_, rfl⟩) rfl ?_
      refine g_iload_n rfl rfl ?_
      refine x_iald (v := (μ.1 208 (61 * (μ.1 201 25) + (μ.1 201 31) + 1))) rfl rfl (by decide) (by omega) (by omega) rfl ?_
      refine g_goto (tgt := 53) rfl (by decide) ?_
      refine g_istore_n rfl rfl rfl ?_
      refine g_iload_n rfl rfl ?_
      refine g_iconst rfl ⟨by decide, by decide⟩ ?_
      refine g_icmp_eq (tgt := 78) rfl (by decide) (fun hx => absurd hx (by omega)) (fun _ => ?_)
      refine g_iload_n rfl rfl ?_
      refine g_bipush rfl ⟨by decide, by decide⟩ (by decide) ?_
      refine g_icmp_lt (tgt := 69) rfl (by decide) (fun hx => absurd hx (by omega)) (fun _ => ?_)
      refine g_iconst rfl ⟨by decide, by decide⟩ ?_
      refine g_goto (tgt := 70) rfl (by decide) ?_
      refine g_iload_n rfl rfl ?_
      refine g_icmp_ne (tgt := 78) rfl (by decide) (fun hx => absurd hx (by omega)) (fun _ => ?_)
      refine g_iload_n rfl rfl ?_
      refine g_goto (tgt := 79) rfl (by decide) ?_
      refine g_istore_n rfl rfl rfl ?_
      refine g_goto (tgt := 118) rfl (by decide) ?_
      refine g_aload_n rfl rfl ?_
      refine g_dupr rfl ?_
      refine x_geti (v := (μ.1 201 31)) rfl rfl (by decide) (Or.inl rfl) rfl ?_
      refine g_iload_n rfl rfl ?_
      refine g_iconst rfl ⟨by decide, by decide⟩ ?_
      refine g_icmp_ne (tgt := 132) rfl (by decide) (fun _ => ?_) (fun hx => absurd hx (by omega))
      refine g_iconst rfl ⟨by decide, by decide⟩ ?_
      refine x_iadd (z := (μ.1 201 31) + 1) rfl (by omega) ⟨by omega, by omega⟩ ?_
      refine g_puti rfl rfl (by decide) rfl rfl ?_
      refine g_iload_n rfl rfl ?_
      refine x_ireturn rfl rfl ?_
      exact ⟨by rw [r_dr_in hq (by simp; omega), ← hv], by rw [r_dr_in hq (by simp; omega), m_cho, if_neg (by omega)]; rfl⟩
  · refine g_iconst rfl ⟨by decide, by decide⟩ ?_
    refine g_istore_n rfl rfl rfl ?_
    refine g_aload_n rfl rfl ?_
    refine x_geti (v := (μ.1 201 37)) rfl rfl (by decide) (Or.inl rfl) rfl ?_
    refine g_if_ge (tgt := 83) rfl (by decide) (fun hx => absurd hx (by omega)) (fun _ => ?_)
    refine g_bipush rfl ⟨by decide, by decide⟩ (by decide) ?_
    refine g_aload_n rfl rfl ?_
    refine x_geti (v := (μ.1 201 25)) rfl rfl (by decide) (Or.inl rfl) rfl ?_
    refine x_imul (z := 61 * (μ.1 201 25)) rfl (by omega) ⟨by omega, by omega⟩ ?_
    refine g_iconst rfl ⟨by decide, by decide⟩ ?_
    refine x_iadd (z := 61 * (μ.1 201 25) + 1) rfl (by omega) ⟨by omega, by omega⟩ ?_
    refine g_aload_n rfl rfl ?_
    refine x_geti (v := (μ.1 201 31)) rfl rfl (by decide) (Or.inl rfl) rfl ?_
    refine x_iadd (z := 61 * (μ.1 201 25) + (μ.1 201 31) + 1) rfl (by omega) ⟨by omega, by omega⟩ ?_
    refine g_istore_n rfl rfl rfl ?_
    refine g_aload_n rfl rfl ?_
    refine x_geti (v := (μ.1 201 31)) rfl rfl (by decide) (Or.inl rfl) rfl ?_
    refine g_aload_n rfl rfl ?_
    refine x_getF (r := 208) hG rfl rfl (by decide) (Or.inr ⟨_, rfl⟩) rfl ?_
    refine g_bipush rfl ⟨by decide, by decide⟩ (by decide) ?_
    refine g_aload_n rfl rfl ?_
    refine x_geti (v := (μ.1 201 25)) rfl rfl (by decide) (Or.inl rfl) rfl ?_
    refine x_imul (z := 61 * (μ.1 201 25)) rfl (by omega) ⟨by omega, by omega⟩ ?_
    refine x_iald (v := (μ.1 208 (61 * (μ.1 201 25)))) rfl rfl (by decide) (by omega) (by omega) rfl ?_
    refine g_icmp_ge (tgt := 52) rfl (by decide) (fun _ => ?_) (fun hx => absurd hx (by omega))
    refine g_iconst rfl ⟨by decide, by decide⟩ ?_
    refine g_istore_n rfl rfl rfl ?_
    refine g_iload_n rfl rfl ?_
    refine g_iconst rfl ⟨by decide, by decide⟩ ?_
    refine g_icmp_eq (tgt := 78) rfl (by decide) (fun _ => ?_) (fun hx => absurd hx (by omega))
    refine g_iconst rfl ⟨by decide, by decide⟩ ?_
    refine g_istore_n rfl rfl rfl ?_
    refine g_goto (tgt := 118) rfl (by decide) ?_
    refine g_aload_n rfl rfl ?_
    refine g_dupr rfl ?_
    refine x_geti (v := (μ.1 201 31)) rfl rfl (by decide) (Or.inl rfl) rfl ?_
    refine g_iload_n rfl rfl ?_
    refine g_iconst rfl ⟨by decide, by decide⟩ ?_
    refine g_icmp_ne (tgt := 132) rfl (by decide) (fun hx => absurd hx (by omega)) (fun _ => ?_)
    refine g_iconst rfl ⟨by decide, by decide⟩ ?_
    refine g_goto (tgt := 133) rfl (by decide) ?_
    refine x_iadd (z := (μ.1 201 31)) rfl (by omega) ⟨by omega, by omega⟩ ?_
    refine g_puti rfl rfl (by decide) rfl rfl ?_
    refine g_iload_n rfl rfl ?_
    refine x_ireturn rfl rfl ?_
    exact ⟨by rw [r_dr_out (fun z => by simp at z; omega)], by rw [r_dr_out (fun z => by simp at z; omega), m_cho, if_pos rfl]; exact tp_pi_self⟩
set_option maxHeartbeats 4000000 in
set_option maxRecDepth 100000 in
theorem s_choM_0 {G : tp_G} {μ : tp_M} (hG : tp_Gf G = true) {d s : Int} {g : Int → Int} (hd : 0 ≤ d ∧ d ≤ 1) (hdr : μ.1 201 25 = d) (hdm : μ.1 201 37 < 0) (hgv : ∀ i, 0 ≤ i → i < 61 → μ.1 208 (61 * d + i) = g i) (hgw : tp_Dw g) (hu : 0 ≤ μ.1 201 31) (hu2 : μ.1 201 31 < 1000) : tp_k G mX12_choose [tR (some 201), tI 0] μ (fun r μ' => r = some (tI (r_dr g (μ.1 201 31) s false).1) ∧ μ' = m_cho μ (r_dr g (μ.1 201 31) s false).1) := by
  subst hdr
  have hw0 := hgw.1
  have hg0 : μ.1 208 (61 * μ.1 201 25) = g 0 := by rw [← hgv 0 (by omega) (by omega)]; exact congrArg (μ.1 208) (by omega)
  refine tp_ok_of mX12_choose_ok rfl (Nat.le_refl _) ?_
  by_cases hq : μ.1 201 31 < g 0
  · have hv : (μ.1 208 (61 * (μ.1 201 25) + (μ.1 201 31) + 1)) = g (1 + μ.1 201 31) := by rw [← hgv (1 + μ.1 201 31) (by omega) (by omega)]; exact congrArg (μ.1 208) (by omega)
    rcases hgw.2 _ hu hq with hz | hz | hz
    · refine g_iconst rfl ⟨by decide, by decide⟩ ?_
      refine g_istore_n rfl rfl rfl ?_
      refine g_aload_n rfl rfl ?_
      refine x_geti (v := (μ.1 201 37)) rfl rfl (by decide) (Or.inl rfl) rfl ?_
      refine g_if_ge (tgt := 83) rfl (by decide) (fun hx => absurd hx (by omega)) (fun _ => ?_)
      refine g_bipush rfl ⟨by decide, by decide⟩ (by decide) ?_
      refine g_aload_n rfl rfl ?_
      refine x_geti (v := (μ.1 201 25)) rfl rfl (by decide) (Or.inl rfl) rfl ?_
      refine x_imul (z := 61 * (μ.1 201 25)) rfl (by omega) ⟨by omega, by omega⟩ ?_
      refine g_iconst rfl ⟨by decide, by decide⟩ ?_
      refine x_iadd (z := 61 * (μ.1 201 25) + 1) rfl (by omega) ⟨by omega, by omega⟩ ?_
      refine g_aload_n rfl rfl ?_
      refine x_geti (v := (μ.1 201 31)) rfl rfl (by decide) (Or.inl rfl) rfl ?_
      refine x_iadd (z := 61 * (μ.1 201 25) + (μ.1 201 31) + 1) rfl (by omega) ⟨by omega, by omega⟩ ?_
      refine g_istore_n rfl rfl rfl ?_
      refine g_aload_n rfl rfl ?_
      refine x_geti (v := (μ.1 201 31)) rfl rfl (by decide) (Or.inl rfl) rfl ?_
      refine g_aload_n rfl rfl ?_
      refine x_getF (r := 208) hG rfl rfl (by decide) (Or.inr ⟨_, rfl⟩) rfl ?_
      refine g_bipush rfl ⟨by decide, by decide⟩ (by decide) ?_
      refine g_aload_n rfl rfl ?_
      refine x_geti (v := (μ.1 201 25)) rfl rfl (by decide) (Or.inl rfl) rfl ?_
      refine x_imul (z := 61 * (μ.1 201 25)) rfl (by omega) ⟨by omega, by omega⟩ ?_
      refine x_iald (v := (μ.1 208 (61 * (μ.1 201 25)))) rfl rfl (by decide) (by omega) (by omega) rfl ?_
      refine g_icmp_ge (tgt := 52) rfl (by decide) (fun hx => absurd hx (by omega)) (fun _ => ?_)
      refine g_aload_n rfl rfl ?_
      refine x_getF (r := 208) hG rfl rfl (by decide) (Or.inr ⟨_, rfl⟩) rfl ?_
      refine g_iload_n rfl rfl ?_
      refine x_iald (v := (μ.1 208 (61 * (μ.1 201 25) + (μ.1 201 31) + 1))) rfl rfl (by decide) (by omega) (by omega) rfl ?_
      refine g_goto (tgt := 53) rfl (by decide) ?_
      refine g_istore_n rfl rfl rfl ?_
      refine g_iload_n rfl rfl ?_
      refine g_iconst rfl ⟨by decide, by decide⟩ ?_
      refine g_icmp_eq (tgt := 78) rfl (by decide) (fun hx => absurd hx (by omega)) (fun _ => ?_)
      refine g_iload_n rfl rfl ?_
      refine g_bipush rfl ⟨by decide, by decide⟩ (by decide) ?_
      refine g_icmp_lt (tgt := 69) rfl (by decide) (fun _ => ?_) (fun hx => absurd hx (by omega))
      refine g_iconst rfl ⟨by decide, by decide⟩ ?_
      refine g_iload_n rfl rfl ?_
      refine g_icmp_ne (tgt := 78) rfl (by decide) (fun hx => absurd hx (by omega)) (fun _ => ?_)
      refine g_iload_n rfl rfl ?_
      refine g_goto (tgt := 79) rfl (by decide) ?_
      refine g_istore_n rfl rfl rfl ?_
      refine g_goto (tgt := 118) rfl (by decide) ?_
      refine g_aload_n rfl rfl ?_
      refine g_dupr rfl ?_
      refine x_geti (v := (μ.1 201 31)) rfl rfl (by decide) (Or.inl rfl) rfl ?_
      refine g_iload_n rfl rfl ?_
      refine g_iconst rfl ⟨by decide, by decide⟩ ?_
      refine g_icmp_ne (tgt := 132) rfl (by decide) (fun _ => ?_) (fun hx => absurd hx (by omega))
      refine g_iconst rfl ⟨by decide, by decide⟩ ?_
      refine x_iadd (z := (μ.1 201 31) + 1) rfl (by omega) ⟨by omega, by omega⟩ ?_
      refine g_puti rfl rfl (by decide) rfl rfl ?_
      refine g_iload_n rfl rfl ?_
      refine x_ireturn rfl rfl ?_
      exact ⟨by rw [r_dr_in hq (by simp; omega), ← hv], by rw [r_dr_in hq (by simp; omega), m_cho, if_neg (by omega)]; rfl⟩
    · refine g_iconst rfl ⟨by decide, by decide⟩ ?_
      refine g_istore_n rfl rfl rfl ?_
      refine g_aload_n rfl rfl ?_
      refine x_geti (v := (μ.1 201 37)) rfl rfl (by decide) (Or.inl rfl) rfl ?_
      refine g_if_ge (tgt := 83) rfl (by decide) (fun hx => absurd hx (by omega)) (fun _ => ?_)
      refine g_bipush rfl ⟨by decide, by decide⟩ (by decide) ?_
      refine g_aload_n rfl rfl ?_
      refine x_geti (v := (μ.1 201 25)) rfl rfl (by decide) (Or.inl rfl) rfl ?_
      refine x_imul (z := 61 * (μ.1 201 25)) rfl (by omega) ⟨by omega, by omega⟩ ?_
      refine g_iconst rfl ⟨by decide, by decide⟩ ?_
      refine x_iadd (z := 61 * (μ.1 201 25) + 1) rfl (by omega) ⟨by omega, by omega⟩ ?_
      refine g_aload_n rfl rfl ?_
      refine x_geti (v := (μ.1 201 31)) rfl rfl (by decide) (Or.inl rfl) rfl ?_
      refine x_iadd (z := 61 * (μ.1 201 25) + (μ.1 201 31) + 1) rfl (by omega) ⟨by omega, by omega⟩ ?_
      refine g_istore_n rfl rfl rfl ?_
      refine g_aload_n rfl rfl ?_
      refine x_geti (v := (μ.1 201 31)) rfl rfl (by decide) (Or.inl rfl) rfl ?_
      refine g_aload_n rfl rfl ?_
      refine x_getF (r := 208) hG rfl rfl (by decide) (Or.inr ⟨_, rfl⟩) rfl ?_
      refine g_bipush rfl ⟨by decide, by decide⟩ (by decide) ?_
      refine g_aload_n rfl rfl ?_
      refine x_geti (v := (μ.1 201 25)) rfl rfl (by decide) (Or.inl rfl) rfl ?_
      refine x_imul (z := 61 * (μ.1 201 25)) rfl (by omega) ⟨by omega, by omega⟩ ?_
      refine x_iald (v := (μ.1 208 (61 * (μ.1 201 25)))) rfl rfl (by decide) (by omega) (by omega) rfl ?_
      refine g_icmp_ge (tgt := 52) rfl (by decide) (fun hx => absurd hx (by omega)) (fun _ => ?_)
      refine g_aload_n rfl rfl ?_
      refine x_getF (r := 208) hG rfl rfl (by decide) (Or.inr ⟨_, rfl⟩) rfl ?_
      refine g_iload_n rfl rfl ?_
      refine x_iald (v := (μ.1 208 (61 * (μ.1 201 25) + (μ.1 201 31) + 1))) rfl rfl (by decide) (by omega) (by omega) rfl ?_
      refine g_goto (tgt := 53) rfl (by decide) ?_
      refine g_istore_n rfl rfl rfl ?_
      refine g_iload_n rfl rfl ?_
      refine g_iconst rfl ⟨by decide, by decide⟩ ?_
      refine g_icmp_eq (tgt := 78) rfl (by decide) (fun hx => absurd hx (by omega)) (fun _ => ?_)
      refine g_iload_n rfl rfl ?_
      refine g_bipush rfl ⟨by decide, by decide⟩ (by decide) ?_
      refine g_icmp_lt (tgt := 69) rfl (by decide) (fun hx => absurd hx (by omega)) (fun _ => ?_)
      refine g_iconst rfl ⟨by decide, by decide⟩ ?_
      refine g_goto (tgt := 70) rfl (by decide) ?_
      refine g_iload_n rfl rfl ?_
      refine g_icmp_ne (tgt := 78) rfl (by decide) (fun _ => ?_) (fun hx => absurd hx (by omega))
      refine g_iconst rfl ⟨by decide, by decide⟩ ?_
      refine g_istore_n rfl rfl rfl ?_
      refine g_goto (tgt := 118) rfl (by decide) ?_
      refine g_aload_n rfl rfl ?_
      refine g_dupr rfl ?_
      refine x_geti (v := (μ.1 201 31)) rfl rfl (by decide) (Or.inl rfl) rfl ?_
      refine g_iload_n rfl rfl ?_
      refine g_iconst rfl ⟨by decide, by decide⟩ ?_
      refine g_icmp_ne (tgt := 132) rfl (by decide) (fun hx => absurd hx (by omega)) (fun _ => ?_)
      refine g_iconst rfl ⟨by decide, by decide⟩ ?_
      refine g_goto (tgt := 133) rfl (by decide) ?_
      refine x_iadd (z := (μ.1 201 31)) rfl (by omega) ⟨by omega, by omega⟩ ?_
      refine g_puti rfl rfl (by decide) rfl rfl ?_
      refine g_iload_n rfl rfl ?_
      refine x_ireturn rfl rfl ?_
      exact ⟨by rw [r_dr_out (fun z => by simp at z; omega)], by rw [r_dr_out (fun z => by simp at z; omega), m_cho, if_pos rfl]; exact tp_pi_self⟩
    · refine g_iconst rfl ⟨by decide, by decide⟩ ?_
      refine g_istore_n rfl rfl rfl ?_
      refine g_aload_n rfl rfl ?_
      refine x_geti (v := (μ.1 201 37)) rfl rfl (by decide) (Or.inl rfl) rfl ?_
      refine g_if_ge (tgt := 83) rfl (by decide) (fun hx => absurd hx (by omega)) (fun _ => ?_)
      refine g_bipush rfl ⟨by decide, by decide⟩ (by decide) ?_
      refine g_aload_n rfl rfl ?_
      refine x_geti (v := (μ.1 201 25)) rfl rfl (by decide) (Or.inl rfl) rfl ?_
      refine x_imul (z := 61 * (μ.1 201 25)) rfl (by omega) ⟨by omega, by omega⟩ ?_
      refine g_iconst rfl ⟨by decide, by decide⟩ ?_
      refine x_iadd (z := 61 * (μ.1 201 25) + 1) rfl (by omega) ⟨by omega, by omega⟩ ?_
      refine g_aload_n rfl rfl ?_
      refine x_geti (v := (μ.1 201 31)) rfl rfl (by decide) (Or.inl rfl) rfl ?_
      refine x_iadd (z := 61 * (μ.1 201 25) + (μ.1 201 31) + 1) rfl (by omega) ⟨by omega, by omega⟩ ?_
      refine g_istore_n rfl rfl rfl ?_
      refine g_aload_n rfl rfl ?_
      refine x_geti (v := (μ.1 201 31)) rfl rfl (by decide) (Or.inl rfl) rfl ?_
      refine g_aload_n rfl rfl ?_
      refine x_getF (r := 208) hG rfl rfl (by decide) (Or.inr ⟨_, rfl⟩) rfl ?_
      refine g_bipush rfl ⟨by decide, by decide⟩ (by decide) ?_
      refine g_aload_n rfl rfl ?_
      refine x_geti (v := (μ.1 201 25)) rfl rfl (by decide) (Or.inl rfl) rfl ?_
      refine x_imul (z := 61 * (μ.1 201 25)) rfl (by omega) ⟨by omega, by omega⟩ ?_
      refine x_iald (v := (μ.1 208 (61 * (μ.1 201 25)))) rfl rfl (by decide) (by omega) (by omega) rfl ?_
      refine g_icmp_ge (tgt := 52) rfl (by decide) (fun hx => absurd hx (by omega)) (fun _ => ?_)
      refine g_aload_n rfl rfl ?_
      refine x_getF (r := 208) hG rfl rfl (by decide) (Or.inr ⟨_, rfl⟩) rfl ?_
      refine g_iload_n rfl rfl ?_
      refine x_iald (v := (μ.1 208 (61 * (μ.1 201 25) + (μ.1 201 31) + 1))) rfl rfl (by decide) (by omega) (by omega) rfl ?_
      refine g_goto (tgt := 53) rfl (by decide) ?_
      refine g_istore_n rfl rfl rfl ?_
      refine g_iload_n rfl rfl ?_
      refine g_iconst rfl ⟨by decide, by decide⟩ ?_
      refine g_icmp_eq (tgt := 78) rfl (by decide) (fun hx => absurd hx (by omega)) (fun _ => ?_)
      refine g_iload_n rfl rfl ?_
      refine g_bipush rfl ⟨by decide, by decide⟩ (by decide) ?_
      refine g_icmp_lt (tgt := 69) rfl (by decide) (fun hx => absurd hx (by omega)) (fun _ => ?_)
      refine g_iconst rfl ⟨by decide, by decide⟩ ?_
      refine g_goto (tgt := 70) rfl (by decide) ?_
      refine g_iload_n rfl rfl ?_
      refine g_icmp_ne (tgt := 78) rfl (by decide) (fun _ => ?_) (fun hx => absurd hx (by omega))
      refine g_iconst rfl ⟨by decide, by decide⟩ ?_
      refine g_istore_n rfl rfl rfl ?_
      refine g_goto (tgt := 118) rfl (by decide) ?_
      refine g_aload_n rfl rfl ?_
      refine g_dupr rfl ?_
      refine x_geti (v := (μ.1 201 31)) rfl rfl (by decide) (Or.inl rfl) rfl ?_
      refine g_iload_n rfl rfl ?_
      refine g_iconst rfl ⟨by decide, by decide⟩ ?_
      refine g_icmp_ne (tgt := 132) rfl (by decide) (fun hx => absurd hx (by omega)) (fun _ => ?_)
      refine g_iconst rfl ⟨by decide, by decide⟩ ?_
      refine g_goto (tgt := 133) rfl (by decide) ?_
      refine x_iadd (z := (μ.1 201 31)) rfl (by omega) ⟨by omega, by omega⟩ ?_
      refine g_puti rfl rfl (by decide) rfl rfl ?_
      refine g_iload_n rfl rfl ?_
      refine x_ireturn rfl rfl ?_
      exact ⟨by rw [r_dr_out (fun z => by simp at z; omega)], by rw [r_dr_out (fun z => by simp at z; omega), m_cho, if_pos rfl]; exact tp_pi_self⟩
  · refine g_iconst rfl ⟨by decide, by decide⟩ ?_
    refine g_istore_n rfl rfl rfl ?_
    refine g_aload_n rfl rfl ?_
    refine x_geti (v := (μ.1 201 37)) rfl rfl (by decide) (Or.inl rfl) rfl ?_
    refine g_if_ge (tgt := 83) rfl (by decide) (fun hx => absurd hx (by omega)) (fun _ => ?_)
    refine g_bipush rfl ⟨by decide, by decide⟩ (by decide) ?_
    refine g_aload_n rfl rfl ?_
    refine x_geti (v := (μ.1 201 25)) rfl rfl (by decide) (Or.inl rfl) rfl ?_
    refine x_imul (z := 61 * (μ.1 201 25)) rfl (by omega) ⟨by omega, by omega⟩ ?_
    refine g_iconst rfl ⟨by decide, by decide⟩ ?_
    refine x_iadd (z := 61 * (μ.1 201 25) + 1) rfl (by omega) ⟨by omega, by omega⟩ ?_
    refine g_aload_n rfl rfl ?_
    refine x_geti (v := (μ.1 201 31)) rfl rfl (by decide) (Or.inl rfl) rfl ?_
    refine x_iadd (z := 61 * (μ.1 201 25) + (μ.1 201 31) + 1) rfl (by omega) ⟨by omega, by omega⟩ ?_
    refine g_istore_n rfl rfl rfl ?_
    refine g_aload_n rfl rfl ?_
    refine x_geti (v := (μ.1 201 31)) rfl rfl (by decide) (Or.inl rfl) rfl ?_
    refine g_aload_n rfl rfl ?_
    refine x_getF (r := 208) hG rfl rfl (by decide) (Or.inr ⟨_, rfl⟩) rfl ?_
    refine g_bipush rfl ⟨by decide, by decide⟩ (by decide) ?_
    refine g_aload_n rfl rfl ?_
    refine x_geti (v := (μ.1 201 25)) rfl rfl (by decide) (Or.inl rfl) rfl ?_
    refine x_imul (z := 61 * (μ.1 201 25)) rfl (by omega) ⟨by omega, by omega⟩ ?_
    refine x_iald (v := (μ.1 208 (61 * (μ.1 201 25)))) rfl rfl (by decide) (by omega) (by omega) rfl ?_
    refine g_icmp_ge (tgt := 52) rfl (by decide) (fun _ => ?_) (fun hx => absurd hx (by omega))
    refine g_iconst rfl ⟨by decide, by decide⟩ ?_
    refine g_istore_n rfl rfl rfl ?_
    refine g_iload_n rfl rfl ?_
    refine g_iconst rfl ⟨by decide, by decide⟩ ?_
    refine g_icmp_eq (tgt := 78) rfl (by decide) (fun _ => ?_) (fun hx => absurd hx (by omega))
    refine g_iconst rfl ⟨by decide, by decide⟩ ?_
    refine g_istore_n rfl rfl rfl ?_
    refine g_goto (tgt := 118) rfl (by decide) ?_
    refine g_aload_n rfl rfl ?_
    refine g_dupr rfl ?_
    refine x_geti (v := (μ.1 201 31)) rfl rfl (by decide) (Or.inl rfl) rfl ?_
    refine g_iload_n rfl rfl ?_
    refine g_iconst rfl ⟨by decide, by decide⟩ ?_
    refine g_icmp_ne (tgt := 132) rfl (by decide) (fun hx => absurd hx (by omega)) (fun _ => ?_)
    refine g_iconst rfl ⟨by decide, by decide⟩ ?_
    refine g_goto (tgt := 133) rfl (by decide) ?_
    refine x_iadd (z := (μ.1 201 31)) rfl (by omega) ⟨by omega, by omega⟩ ?_
    refine g_puti rfl rfl (by decide) rfl rfl ?_
    refine g_iload_n rfl rfl ?_
    refine x_ireturn rfl rfl ?_
    exact ⟨by rw [r_dr_out (fun z => by simp at z; omega)], by rw [r_dr_out (fun z => by simp at z; omega), m_cho, if_pos rfl]; exact tp_pi_self⟩
