/-! tokens of a tape T of len bytes -/
def t_r (P : Int → Bool) (T : Int → Int) (len : Int) : Nat → Int → Int
  | 0, i => i
  | m + 1, i => if i < len ∧ P (T i) = true then t_r P T len m (i + 1) else i
def t_R (P : Int → Bool) (T : Int → Int) (len i : Int) : Int := t_r P T len (len - i).toNat i
theorem t_R_y {P : Int → Bool} {T : Int → Int} {len i : Int} (h : i < len) (hp : P (T i) = true) : t_R P T len i = t_R P T len (i + 1) := by
  unfold t_R
  rw [show (len - i).toNat = (len - (i + 1)).toNat + 1 by omega]
  exact if_pos ⟨h, hp⟩
theorem t_R_n {P : Int → Bool} {T : Int → Int} {len i : Int} (h : ¬ (i < len ∧ P (T i) = true)) : t_R P T len i = i := by
  unfold t_R
  cases (len - i).toNat with
  | zero => rfl
  | succ m => exact if_neg h
theorem t_R_b {P : Int → Bool} {T : Int → Int} {len : Int} : ∀ (m : Nat) (i : Int), (len - i).toNat = m → i ≤ len → i ≤ t_R P T len i ∧ t_R P T len i ≤ len := by
  intro m
  induction m with
  | zero => intro i hm hi; rw [t_R_n (fun z => by omega)]; omega
  | succ m ih =>
    intro i hm hi
    by_cases q : i < len ∧ P (T i) = true
    · rw [t_R_y q.1 q.2]
      have := ih (i + 1) (by omega) (by omega)
      omega
    · rw [t_R_n q]; omega
theorem t_R_B {P : Int → Bool} {T : Int → Int} {len i : Int} (hi : i ≤ len) : i ≤ t_R P T len i ∧ t_R P T len i ≤ len := t_R_b _ i rfl hi
theorem t_R_in {P : Int → Bool} {T : Int → Int} {len : Int} : ∀ (m : Nat) (i : Int), (len - i).toNat = m → ∀ j, i ≤ j → j < t_R P T len i → P (T j) = true := by
  intro m
  induction m with
  | zero => intro i hm j h1 h2; rw [t_R_n (fun z => by omega)] at h2; omega
  | succ m ih =>
    intro i hm j h1 h2
    by_cases q : i < len ∧ P (T i) = true
    · rw [t_R_y q.1 q.2] at h2
      rcases (show j = i ∨ i + 1 ≤ j by omega) with u | u
      · rw [u]; exact q.2
      · exact ih (i + 1) (by omega) j u h2
    · rw [t_R_n q] at h2; omega
def t_bl (x : Int) : Bool := decide (x = 10 ∨ x = 32)
def t_lt (x : Int) : Bool := decide (97 ≤ x ∧ x ≤ 122)
def t_dg (x : Int) : Bool := decide (48 ≤ x ∧ x ≤ 57)
theorem t_bl_i (x : Int) : t_bl x = true ↔ (x = 10 ∨ x = 32) := decide_eq_true_iff
theorem t_lt_i (x : Int) : t_lt x = true ↔ (97 ≤ x ∧ x ≤ 122) := decide_eq_true_iff
theorem t_dg_i (x : Int) : t_dg x = true ↔ (48 ≤ x ∧ x ≤ 57) := decide_eq_true_iff
/-- where the token begins that is met from i on -/
def t_s (T : Int → Int) (len i : Int) : Int := t_R t_bl T len i
/-- its sort: 0 the end, 1 a word, 2 a number, 3 a semicolon, 4 none -/
def t_ks (T : Int → Int) (len s : Int) : Int := if len ≤ s then 0 else if t_lt (T s) = true then 1 else if t_dg (T s) = true then (if t_R t_dg T len s - s ≤ 2 then 2 else 4) else if T s = 59 then 3 else 4
def t_es (T : Int → Int) (len s : Int) : Int := if len ≤ s then s else if t_lt (T s) = true then t_R t_lt T len s else if t_dg (T s) = true then t_R t_dg T len s else s + 1
def t_vs (T : Int → Int) (len s : Int) : Int := if t_R t_dg T len s - s ≤ 1 then T s - 48 else (T s - 48) * 10 + (T (s + 1) - 48)
def t_k (T : Int → Int) (len i : Int) : Int := t_ks T len (t_s T len i)
def t_e (T : Int → Int) (len i : Int) : Int := t_es T len (t_s T len i)
def t_v (T : Int → Int) (len i : Int) : Int := t_vs T len (t_s T len i)
theorem t_ks_0 {T : Int → Int} {len s : Int} (h : len ≤ s) : t_ks T len s = 0 ∧ t_es T len s = s := by unfold t_ks t_es; rw [if_pos h, if_pos h]; exact ⟨rfl, rfl⟩
theorem t_ks_1 {T : Int → Int} {len s : Int} (h : s < len) (hl : 97 ≤ T s ∧ T s ≤ 122) : t_ks T len s = 1 ∧ t_es T len s = t_R t_lt T len s := by
  unfold t_ks t_es
  rw [if_neg (by omega), if_pos ((t_lt_i _).2 hl), if_neg (by omega), if_pos ((t_lt_i _).2 hl)]
  exact ⟨rfl, rfl⟩
theorem t_ks_2 {T : Int → Int} {len s : Int} (h : s < len) (hd : 48 ≤ T s ∧ T s ≤ 57) : t_ks T len s = (if t_R t_dg T len s - s ≤ 2 then 2 else 4) ∧ t_es T len s = t_R t_dg T len s := by
  have nl : ¬ t_lt (T s) = true := fun z => by have := (t_lt_i _).1 z; omega
  unfold t_ks t_es
  have nq : ¬ len ≤ s := by omega
  rw [if_neg nq, if_neg nl, if_pos ((t_dg_i _).2 hd), if_neg nq, if_neg nl, if_pos ((t_dg_i _).2 hd)]
  exact ⟨rfl, rfl⟩
theorem t_ks_3 {T : Int → Int} {len s : Int} (h : s < len) (hl : ¬ (97 ≤ T s ∧ T s ≤ 122)) (hd : ¬ (48 ≤ T s ∧ T s ≤ 57)) : t_ks T len s = (if T s = 59 then 3 else 4) ∧ t_es T len s = s + 1 := by
  have nl : ¬ t_lt (T s) = true := fun z => hl ((t_lt_i _).1 z)
  have nd : ¬ t_dg (T s) = true := fun z => hd ((t_dg_i _).1 z)
  unfold t_ks t_es
  have nq : ¬ len ≤ s := by omega
  rw [if_neg nq, if_neg nl, if_neg nd, if_neg nq, if_neg nl, if_neg nd]
  exact ⟨rfl, rfl⟩
theorem t_k_b (T : Int → Int) (len i : Int) : 0 ≤ t_k T len i ∧ t_k T len i ≤ 4 := by
  unfold t_k t_ks
  repeat' split
  all_goals omega
theorem t_s_B {T : Int → Int} {len i : Int} (h : i ≤ len) : i ≤ t_s T len i ∧ t_s T len i ≤ len := t_R_B h
/-- a token that is not the end goes on -/
theorem t_e_B {T : Int → Int} {len i : Int} (h : i ≤ len) : t_s T len i ≤ t_e T len i ∧ t_e T len i ≤ len ∧ (t_k T len i ≠ 0 → t_s T len i < t_e T len i) ∧ (t_k T len i = 0 → t_s T len i = len) := by
  have hs := t_s_B (T := T) h
  unfold t_e t_k
  generalize t_s T len i = s at *
  by_cases q : len ≤ s
  · rw [(t_ks_0 q).1, (t_ks_0 q).2]; omega
  by_cases ql : 97 ≤ T s ∧ T s ≤ 122
  · rw [(t_ks_1 (by omega) ql).1, (t_ks_1 (by omega) ql).2, t_R_y (by omega) ((t_lt_i _).2 ql)]
    have := t_R_B (P := t_lt) (T := T) (len := len) (i := s + 1) (by omega)
    omega
  by_cases qd : 48 ≤ T s ∧ T s ≤ 57
  · rw [(t_ks_2 (by omega) qd).2, t_R_y (by omega) ((t_dg_i _).2 qd)]
    have := t_R_B (P := t_dg) (T := T) (len := len) (i := s + 1) (by omega)
    refine ⟨by omega, by omega, fun _ => by omega, fun z => ?_⟩
    rw [(t_ks_2 (by omega) qd).1] at z
    split at z <;> omega
  · rw [(t_ks_3 (by omega) ql qd).2]
    refine ⟨by omega, by omega, fun _ => by omega, fun z => ?_⟩
    rw [(t_ks_3 (by omega) ql qd).1] at z
    split at z <;> omega
/-- a number is a digit, or two -/
theorem t_v_b {T : Int → Int} {len i : Int} (h : t_k T len i = 2) : 0 ≤ t_v T len i ∧ t_v T len i ≤ 99 := by
  unfold t_k at h
  unfold t_v
  generalize t_s T len i = s at *
  by_cases q : len ≤ s
  · rw [(t_ks_0 q).1] at h; omega
  by_cases ql : 97 ≤ T s ∧ T s ≤ 122
  · rw [(t_ks_1 (by omega) ql).1] at h; omega
  by_cases qd : 48 ≤ T s ∧ T s ≤ 57
  · unfold t_vs
    split
    · omega
    · rename_i u
      have e := t_R_y (T := T) (len := len) (i := s) (by omega) ((t_dg_i _).2 qd)
      by_cases w9 : s + 1 < len ∧ t_dg (T (s + 1)) = true
      · have := (t_dg_i _).1 w9.2
        omega
      · rw [e, t_R_n w9] at u; omega
  · rw [(t_ks_3 (by omega) ql qd).1] at h
    split at h <;> omega
/-- what the class's reader finds -/
def k_C (T : Int → Int) (len : Int) (μ : tp_M) : Prop := μ.1 41 1 = len ∧ (0 ≤ len ∧ len ≤ 600) ∧ (∀ j, 0 ≤ j → j < len → tp_and (μ.1 2 j) 255 = T j) ∧ μ.2 41 0 = some 2
def k_F (μ0 μ : tp_M) : Prop := (∀ c, c ≠ 41 → μ.1 c = μ0.1 c) ∧ (∀ j, (j < 2 ∨ 5 < j) → μ.1 41 j = μ0.1 41 j) ∧ μ.2 = μ0.2
theorem k_F_rf {μ : tp_M} : k_F μ μ := ⟨fun _ _ => rfl, fun _ _ => rfl, rfl⟩
theorem k_F_tr {μ μ1 μ2 : tp_M} (h : k_F μ μ1) (h2 : k_F μ1 μ2) : k_F μ μ2 := ⟨fun c z => (h2.1 c z).trans (h.1 c z), fun j z => (h2.2.1 j z).trans (h.2.1 j z), h2.2.2.trans h.2.2⟩
theorem k_F_pi {μ μ1 : tp_M} {j v : Int} (hj : 2 ≤ j ∧ j ≤ 5) (h : k_F μ μ1) : k_F μ (tp_pi μ1 41 j v) := ⟨fun c z => by rw [tp_pi_ne z]; exact h.1 c z, fun i z => by rw [tp_pi_ix (by omega)]; exact h.2.1 i z, h.2.2⟩
theorem k_C_F {T : Int → Int} {len : Int} {μ μ' : tp_M} (h : k_F μ μ') (hC : k_C T len μ) : k_C T len μ' := by
  unfold k_C
  rw [h.2.1 1 (by omega), h.1 2 (by omega), h.2.2]
  exact hC
set_option maxHeartbeats 4000000 in
set_option maxRecDepth 100000 in
theorem s_byte {G : tp_G} {μ : tp_M} (hG : tp_Gf G = true) {T : Int → Int} {len k : Int} (hC : k_C T len μ) (h0 : 0 ≤ k) (h1 : k < len) : tp_k G mX5_byteAt [tR (some 41), tI k] μ (fun r μ' => r = some (tI (T k)) ∧ μ' = μ) := by
  refine tp_ok_of mX5_byteAt_ok rfl (Nat.le_refl _) ?_
  have hc1 := hC.1
  have hc2 := hC.2.1
  refine g_aload_n rfl rfl ?_
  refine x_getM (v := (some 2)) hG rfl rfl (by decide) (Or.inr ⟨_, rfl⟩) rfl hC.2.2.2 ?_
  refine g_ifnull (tgt := 28) rfl (by decide) (fun hx => by cases hx) (fun _ _ => ?_)
  refine g_iload_n rfl rfl ?_
  refine g_if_lt (tgt := 28) rfl (by decide) (fun hx => absurd hx (by omega)) (fun _ => ?_)
  refine g_iload_n rfl rfl ?_
  refine g_aload_n rfl rfl ?_
  refine x_geti (v := (μ.1 41 1)) rfl rfl (by decide) (Or.inl rfl) rfl ?_
  refine g_icmp_ge (tgt := 28) rfl (by decide) (fun hx => absurd hx (by omega)) (fun _ => ?_)
  refine g_iload_n rfl rfl ?_
  refine g_aload_n rfl rfl ?_
  refine x_getM (v := (some 2)) hG rfl rfl (by decide) (Or.inr ⟨_, rfl⟩) rfl hC.2.2.2 ?_
  refine g_alen (t0 := 1) rfl rfl rfl (by decide) ⟨by decide, by decide⟩ ?_
  refine g_icmp_lt (tgt := 32) rfl (by decide) (fun _ => ?_) (fun hx => absurd hx (by omega))
  refine g_aload_n rfl rfl ?_
  refine x_getM (v := (some 2)) hG rfl rfl (by decide) (Or.inr ⟨_, rfl⟩) rfl hC.2.2.2 ?_
  refine g_iload_n rfl rfl ?_
  refine g_bald rfl rfl (by decide) (by omega) (by omega) ?_
  refine g_sipush rfl ⟨by decide, by decide⟩ (by decide) ?_
  refine g_iand rfl ?_
  refine x_ireturn rfl rfl ?_
  exact ⟨by rw [hC.2.2.1 k (by omega) (by omega)], rfl⟩
set_option maxHeartbeats 4000000 in
set_option maxRecDepth 100000 in
theorem s_byteo {G : tp_G} {μ : tp_M} (hG : tp_Gf G = true) {T : Int → Int} {len k : Int} (hC : k_C T len μ) (h1 : len ≤ k) : tp_k G mX5_byteAt [tR (some 41), tI k] μ (fun r μ' => r = some (tI (-1)) ∧ μ' = μ) := by
  refine tp_ok_of mX5_byteAt_ok rfl (Nat.le_refl _) ?_
  have hc1 := hC.1
  have hc2 := hC.2.1
  refine g_aload_n rfl rfl ?_
  refine x_getM (v := (some 2)) hG rfl rfl (by decide) (Or.inr ⟨_, rfl⟩) rfl hC.2.2.2 ?_
  refine g_ifnull (tgt := 28) rfl (by decide) (fun hx => by cases hx) (fun _ _ => ?_)
  refine g_iload_n rfl rfl ?_
  refine g_if_lt (tgt := 28) rfl (by decide) (fun hx => absurd hx (by omega)) (fun _ => ?_)
  refine g_iload_n rfl rfl ?_
  refine g_aload_n rfl rfl ?_
  refine x_geti (v := (μ.1 41 1)) rfl rfl (by decide) (Or.inl rfl) rfl ?_
  refine g_icmp_ge (tgt := 28) rfl (by decide) (fun _ => ?_) (fun hx => absurd hx (by omega))
  refine g_iconst rfl ⟨by decide, by decide⟩ ?_
  refine g_goto (tgt := 42) rfl (by decide) ?_
  refine x_ireturn rfl rfl ?_
  exact ⟨rfl, rfl⟩
set_option maxHeartbeats 4000000 in
set_option maxRecDepth 100000 in
theorem l_advW {G : tp_G} (hG : tp_Gf G = true) {T : Int → Int} {len : Int} (hT : ∀ j, 0 ≤ T j ∧ T j ≤ 255) {μ0 : tp_M} (hC0 : k_C T len μ0) {S : Int} : ∀ k, k ≤ len → ∀ (μ : tp_M), 0 ≤ k → μ.1 41 2 = k → t_R t_lt T len k = S → (∀ j, j ≠ 2 → μ.1 41 j = μ0.1 41 j) → k_F μ0 μ → tp_g G mX5_advanceWord 5 [some (tR (some 41))] [] μ (fun r μ' => r = none ∧ μ'.1 41 2 = S ∧ (∀ j, j ≠ 2 → μ'.1 41 j = μ0.1 41 j) ∧ k_F μ0 μ') := by
  refine tp_ind _ ?_
  intro k hkN ih μ h0 hnx hs hnt hF
  have hC := k_C_F hF hC0
  have hc1 := hC.1
  have hc2 := hC.2.1
  refine g_aload_n rfl rfl ?_
  refine x_geti (v := k) rfl rfl (by decide) (Or.inl rfl) hnx ?_
  refine g_aload_n rfl rfl ?_
  refine x_geti (v := len) rfl rfl (by decide) (Or.inl rfl) hc1 ?_
  refine g_icmp_ge (tgt := 43) rfl (by decide) (fun h1 => ?_) (fun h1 => ?_)
  · refine x_return rfl rfl ?_
    have hn : ¬ (k < len ∧ t_lt (T k) = true) := fun z => by
      have z2 := (t_lt_i _).1 z.2
      omega
    have hSk : S = k := by rw [← hs, t_R_n hn]
    exact ⟨rfl, by rw [hSk]; exact hnx, hnt, hF⟩
  · refine g_aload_n rfl rfl ?_
    refine g_aload_n rfl rfl ?_
    refine x_geti (v := k) rfl rfl (by decide) (Or.inl rfl) hnx ?_
    refine g_cV (as := [tI k]) (s_byte hG hC (by omega) (by omega)) rfl rfl mX5_byteAt_ok rfl rfl rfl (by decide) rfl rfl rfl ?_
    rintro _ w9 ⟨rfl, hw9⟩ _
    have hw9 := hw9.symm
    subst hw9
    have hTb1 := hT (k)
    refine g_iS (as := [tI (T k)]) mX5_isLetter_ok rfl rfl rfl rfl rfl rfl rfl ?_
    refine g_iload_n rfl rfl ?_
    refine g_bipush rfl ⟨by decide, by decide⟩ (by decide) ?_
    refine g_icmp_lt (tgt := 16) rfl (by decide) (fun h2 => ?_) (fun h2 => ?_)
    · refine g_iconst rfl ⟨by decide, by decide⟩ ?_
      refine x_zreturn rfl rfl (Or.inl rfl) ?_
      intro _
      refine g_if_eq (tgt := 43) rfl (by decide) (fun _ => ?_) (fun hx => absurd hx (by omega))
      refine x_return rfl rfl ?_
      have hn : ¬ (k < len ∧ t_lt (T k) = true) := fun z => by
        have z2 := (t_lt_i _).1 z.2
        omega
      have hSk : S = k := by rw [← hs, t_R_n hn]
      exact ⟨rfl, by rw [hSk]; exact hnx, hnt, hF⟩
    · refine g_iload_n rfl rfl ?_
      refine g_bipush rfl ⟨by decide, by decide⟩ (by decide) ?_
      refine g_icmp_gt (tgt := 16) rfl (by decide) (fun h3 => ?_) (fun h3 => ?_)
      · refine g_iconst rfl ⟨by decide, by decide⟩ ?_
        refine x_zreturn rfl rfl (Or.inl rfl) ?_
        intro _
        refine g_if_eq (tgt := 43) rfl (by decide) (fun _ => ?_) (fun hx => absurd hx (by omega))
        refine x_return rfl rfl ?_
        have hn : ¬ (k < len ∧ t_lt (T k) = true) := fun z => by
          have z2 := (t_lt_i _).1 z.2
          omega
        have hSk : S = k := by rw [← hs, t_R_n hn]
        exact ⟨rfl, by rw [hSk]; exact hnx, hnt, hF⟩
      · refine g_iconst rfl ⟨by decide, by decide⟩ ?_
        refine g_goto (tgt := 17) rfl (by decide) ?_
        refine x_zreturn rfl rfl (Or.inr rfl) ?_
        intro _
        refine g_if_eq (tgt := 43) rfl (by decide) (fun hx => absurd hx (by omega)) (fun _ => ?_)
        refine g_aload_n rfl rfl ?_
        refine g_dupr rfl ?_
        refine x_geti (v := k) rfl rfl (by decide) (Or.inl rfl) hnx ?_
        refine g_iconst rfl ⟨by decide, by decide⟩ ?_
        refine x_iadd (z := k + 1) rfl (by omega) ⟨by omega, by omega⟩ ?_
        refine g_puti rfl rfl (by decide) rfl rfl ?_
        refine g_goto (tgt := 5) rfl (by decide) ?_
        have hy := t_R_y (P := t_lt) (T := T) (len := len) (i := k) (by omega) ((t_lt_i _).2 (by omega))
        exact ih (by omega) _ (by omega) rfl (by rw [← hy]; exact hs) (fun j z => (tp_pi_ix z).trans (hnt j z)) (k_F_pi (by decide) hF)
set_option maxHeartbeats 4000000 in
set_option maxRecDepth 100000 in
theorem s_advW {G : tp_G} {μ : tp_M} (hG : tp_Gf G = true) {T : Int → Int} {len : Int} (hT : ∀ j, 0 ≤ T j ∧ T j ≤ 255) (hC : k_C T len μ) {k : Int} (h0 : 0 ≤ k) (h1 : k ≤ len) (hnx : μ.1 41 2 = k) : tp_k G mX5_advanceWord [tR (some 41)] μ (fun r μ' => r = none ∧ μ'.1 41 2 = t_R t_lt T len k ∧ μ'.1 41 3 = 1 ∧ μ'.1 41 4 = μ.1 41 4 ∧ k_F μ μ') := by
  refine tp_ok_of mX5_advanceWord_ok rfl (Nat.le_refl _) ?_
  refine g_aload_n rfl rfl ?_
  refine g_iconst rfl ⟨by decide, by decide⟩ ?_
  refine g_puti rfl rfl (by decide) rfl rfl ?_
  refine tp_conseq (fun r9 μ9 q9 => ?_) (l_advW (μ0 := (tp_pi μ 41 3 1)) hG hT (k_C_F (k_F_pi (by decide) k_F_rf) hC) k h1 _ h0 hnx rfl (fun j z => rfl) k_F_rf)
  exact ⟨q9.1, q9.2.1, (q9.2.2.1 3 (by omega)).trans rfl, (q9.2.2.1 4 (by omega)).trans rfl, k_F_tr (k_F_pi (by decide) k_F_rf) q9.2.2.2⟩
/-- the number of the digits from s to ahead of k -/
def t_nv (T : Int → Int) (s k : Int) : Int := if k ≤ s then 0 else if k = s + 1 then T s - 48 else (T s - 48) * 10 + (T (s + 1) - 48)
theorem t_nv_s {T : Int → Int} {s k : Int} (h : s ≤ k) : t_nv T s (k + 1) = if k < s + 2 then t_nv T s k * 10 + T k - 48 else t_nv T s k := by
  unfold t_nv
  rcases (show k = s ∨ k = s + 1 ∨ s + 2 ≤ k by omega) with z | z | z
  · rw [if_neg (by omega), if_pos (by omega), if_pos (by omega), if_pos (by omega), z]; omega
  · rw [if_neg (by omega), if_neg (by omega), if_pos (by omega), if_neg (by omega), if_pos z, z]; omega
  · rw [if_neg (by omega), if_neg (by omega), if_neg (by omega), if_neg (by omega), if_neg (by omega)]
theorem t_nv_b {T : Int → Int} (hT : ∀ j, 0 ≤ T j ∧ T j ≤ 255) (s k : Int) : -1000 ≤ t_nv T s k ∧ t_nv T s k ≤ 3000 := by
  have h1 := hT s
  have h2 := hT (s + 1)
  unfold t_nv
  split
  · omega
  · split <;> omega
theorem t_nv_e {T : Int → Int} {len s : Int} (h : s < t_R t_dg T len s) : t_nv T s (t_R t_dg T len s) = t_vs T len s := by
  unfold t_nv t_vs
  rw [if_neg (by omega)]
  by_cases q : t_R t_dg T len s = s + 1
  · rw [if_pos q, if_pos (by omega)]
  · rw [if_neg q, if_neg (by omega)]
set_option maxHeartbeats 4000000 in
set_option maxRecDepth 100000 in
theorem l_advN {G : tp_G} (hG : tp_Gf G = true) {T : Int → Int} {len : Int} (hT : ∀ j, 0 ≤ T j ∧ T j ≤ 255) {μ0 : tp_M} (hC0 : k_C T len μ0) {S s : Int} (hs0 : 0 ≤ s) : ∀ k, k ≤ len → ∀ (μ : tp_M), 0 ≤ k → μ.1 41 2 = k → μ.1 41 4 = s → μ.1 41 5 = t_nv T s k → s ≤ k → t_R t_dg T len k = S → k_F μ0 μ → tp_g G mX5_advanceNumber 5 [some (tR (some 41))] [] μ (fun r μ' => r = none ∧ μ'.1 41 2 = S ∧ μ'.1 41 3 = (if S - s ≤ 2 then 2 else 4) ∧ μ'.1 41 4 = s ∧ μ'.1 41 5 = t_nv T s S ∧ k_F μ0 μ') := by
  refine tp_ind _ ?_
  intro k hkN ih μ h0 hnx hst hnm hsk hs hF
  have hC := k_C_F hF hC0
  have hc1 := hC.1
  have hc2 := hC.2.1
  have hnvb := t_nv_b hT s k
  refine g_aload_n rfl rfl ?_
  refine x_geti (v := k) rfl rfl (by decide) (Or.inl rfl) hnx ?_
  refine g_aload_n rfl rfl ?_
  refine x_geti (v := len) rfl rfl (by decide) (Or.inl rfl) hc1 ?_
  refine g_icmp_ge (tgt := 79) rfl (by decide) (fun h1 => ?_) (fun h1 => ?_)
  · refine g_aload_n rfl rfl ?_
    refine g_aload_n rfl rfl ?_
    refine x_geti (v := k) rfl rfl (by decide) (Or.inl rfl) hnx ?_
    refine g_aload_n rfl rfl ?_
    refine x_geti (v := s) rfl rfl (by decide) (Or.inl rfl) hst ?_
    refine x_isub (z := k - s) rfl (by omega) ⟨by omega, by omega⟩ ?_
    refine g_iconst rfl ⟨by decide, by decide⟩ ?_
    refine g_icmp_gt (tgt := 97) rfl (by decide) (fun h2 => ?_) (fun h2 => ?_)
    · refine g_iconst rfl ⟨by decide, by decide⟩ ?_
      refine g_puti rfl rfl (by decide) rfl rfl ?_
      refine x_return rfl rfl ?_
      have hn : ¬ (k < len ∧ t_dg (T k) = true) := fun z => by
        have z2 := (t_dg_i _).1 z.2
        omega
      have hSk : S = k := by rw [← hs, t_R_n hn]
      exact ⟨rfl, by show μ.1 41 2 = S; omega, by rw [hSk] <;> first | exact (if_pos (by omega)).symm | exact (if_neg (by omega)).symm, hst, by show μ.1 41 5 = _; rw [hSk]; exact hnm, (k_F_pi (by decide) hF)⟩
    · refine g_iconst rfl ⟨by decide, by decide⟩ ?_
      refine g_goto (tgt := 98) rfl (by decide) ?_
      refine g_puti rfl rfl (by decide) rfl rfl ?_
      refine x_return rfl rfl ?_
      have hn : ¬ (k < len ∧ t_dg (T k) = true) := fun z => by
        have z2 := (t_dg_i _).1 z.2
        omega
      have hSk : S = k := by rw [← hs, t_R_n hn]
      exact ⟨rfl, by show μ.1 41 2 = S; omega, by rw [hSk] <;> first | exact (if_pos (by omega)).symm | exact (if_neg (by omega)).symm, hst, by show μ.1 41 5 = _; rw [hSk]; exact hnm, (k_F_pi (by decide) hF)⟩
  · refine g_aload_n rfl rfl ?_
    refine g_aload_n rfl rfl ?_
    refine x_geti (v := k) rfl rfl (by decide) (Or.inl rfl) hnx ?_
    refine g_cV (as := [tI k]) (s_byte hG hC (by omega) (by omega)) rfl rfl mX5_byteAt_ok rfl rfl rfl (by decide) rfl rfl rfl ?_
    rintro _ w9 ⟨rfl, hw9⟩ _
    have hw9 := hw9.symm
    subst hw9
    have hTb2 := hT (k)
    refine g_iS (as := [tI (T k)]) mX5_isDigit_ok rfl rfl rfl rfl rfl rfl rfl ?_
    refine g_iload_n rfl rfl ?_
    refine g_bipush rfl ⟨by decide, by decide⟩ (by decide) ?_
    refine g_icmp_lt (tgt := 16) rfl (by decide) (fun h3 => ?_) (fun h3 => ?_)
    · refine g_iconst rfl ⟨by decide, by decide⟩ ?_
      refine x_zreturn rfl rfl (Or.inl rfl) ?_
      intro _
      refine g_if_eq (tgt := 79) rfl (by decide) (fun _ => ?_) (fun hx => absurd hx (by omega))
      refine g_aload_n rfl rfl ?_
      refine g_aload_n rfl rfl ?_
      refine x_geti (v := k) rfl rfl (by decide) (Or.inl rfl) hnx ?_
      refine g_aload_n rfl rfl ?_
      refine x_geti (v := s) rfl rfl (by decide) (Or.inl rfl) hst ?_
      refine x_isub (z := k - s) rfl (by omega) ⟨by omega, by omega⟩ ?_
      refine g_iconst rfl ⟨by decide, by decide⟩ ?_
      refine g_icmp_gt (tgt := 97) rfl (by decide) (fun h4 => ?_) (fun h4 => ?_)
      · refine g_iconst rfl ⟨by decide, by decide⟩ ?_
        refine g_puti rfl rfl (by decide) rfl rfl ?_
        refine x_return rfl rfl ?_
        have hn : ¬ (k < len ∧ t_dg (T k) = true) := fun z => by
          have z2 := (t_dg_i _).1 z.2
          omega
        have hSk : S = k := by rw [← hs, t_R_n hn]
        exact ⟨rfl, by show μ.1 41 2 = S; omega, by rw [hSk] <;> first | exact (if_pos (by omega)).symm | exact (if_neg (by omega)).symm, hst, by show μ.1 41 5 = _; rw [hSk]; exact hnm, (k_F_pi (by decide) hF)⟩
      · refine g_iconst rfl ⟨by decide, by decide⟩ ?_
        refine g_goto (tgt := 98) rfl (by decide) ?_
        refine g_puti rfl rfl (by decide) rfl rfl ?_
        refine x_return rfl rfl ?_
        have hn : ¬ (k < len ∧ t_dg (T k) = true) := fun z => by
          have z2 := (t_dg_i _).1 z.2
          omega
        have hSk : S = k := by rw [← hs, t_R_n hn]
        exact ⟨rfl, by show μ.1 41 2 = S; omega, by rw [hSk] <;> first | exact (if_pos (by omega)).symm | exact (if_neg (by omega)).symm, hst, by show μ.1 41 5 = _; rw [hSk]; exact hnm, (k_F_pi (by decide) hF)⟩
    · refine g_iload_n rfl rfl ?_
      refine g_bipush rfl ⟨by decide, by decide⟩ (by decide) ?_
      refine g_icmp_gt (tgt := 16) rfl (by decide) (fun h5 => ?_) (fun h5 => ?_)
      · refine g_iconst rfl ⟨by decide, by decide⟩ ?_
        refine x_zreturn rfl rfl (Or.inl rfl) ?_
        intro _
        refine g_if_eq (tgt := 79) rfl (by decide) (fun _ => ?_) (fun hx => absurd hx (by omega))
        refine g_aload_n rfl rfl ?_
        refine g_aload_n rfl rfl ?_
        refine x_geti (v := k) rfl rfl (by decide) (Or.inl rfl) hnx ?_
        refine g_aload_n rfl rfl ?_
        refine x_geti (v := s) rfl rfl (by decide) (Or.inl rfl) hst ?_
        refine x_isub (z := k - s) rfl (by omega) ⟨by omega, by omega⟩ ?_
        refine g_iconst rfl ⟨by decide, by decide⟩ ?_
        refine g_icmp_gt (tgt := 97) rfl (by decide) (fun h6 => ?_) (fun h6 => ?_)
        · refine g_iconst rfl ⟨by decide, by decide⟩ ?_
          refine g_puti rfl rfl (by decide) rfl rfl ?_
          refine x_return rfl rfl ?_
          have hn : ¬ (k < len ∧ t_dg (T k) = true) := fun z => by
            have z2 := (t_dg_i _).1 z.2
            omega
          have hSk : S = k := by rw [← hs, t_R_n hn]
          exact ⟨rfl, by show μ.1 41 2 = S; omega, by rw [hSk] <;> first | exact (if_pos (by omega)).symm | exact (if_neg (by omega)).symm, hst, by show μ.1 41 5 = _; rw [hSk]; exact hnm, (k_F_pi (by decide) hF)⟩
        · refine g_iconst rfl ⟨by decide, by decide⟩ ?_
          refine g_goto (tgt := 98) rfl (by decide) ?_
          refine g_puti rfl rfl (by decide) rfl rfl ?_
          refine x_return rfl rfl ?_
          have hn : ¬ (k < len ∧ t_dg (T k) = true) := fun z => by
            have z2 := (t_dg_i _).1 z.2
            omega
          have hSk : S = k := by rw [← hs, t_R_n hn]
          exact ⟨rfl, by show μ.1 41 2 = S; omega, by rw [hSk] <;> first | exact (if_pos (by omega)).symm | exact (if_neg (by omega)).symm, hst, by show μ.1 41 5 = _; rw [hSk]; exact hnm, (k_F_pi (by decide) hF)⟩
      · refine g_iconst rfl ⟨by decide, by decide⟩ ?_
        refine g_goto (tgt := 17) rfl (by decide) ?_
        refine x_zreturn rfl rfl (Or.inr rfl) ?_
        intro _
        refine g_if_eq (tgt := 79) rfl (by decide) (fun hx => absurd hx (by omega)) (fun _ => ?_)
        refine g_aload_n rfl rfl ?_
        refine x_geti (v := k) rfl rfl (by decide) (Or.inl rfl) hnx ?_
        refine g_aload_n rfl rfl ?_
        refine x_geti (v := s) rfl rfl (by decide) (Or.inl rfl) hst ?_
        refine g_iconst rfl ⟨by decide, by decide⟩ ?_
        refine x_iadd (z := s + 2) rfl (by omega) ⟨by omega, by omega⟩ ?_
        refine g_icmp_ge (tgt := 66) rfl (by decide) (fun h7 => ?_) (fun h7 => ?_)
        · refine g_aload_n rfl rfl ?_
          refine g_dupr rfl ?_
          refine x_geti (v := k) rfl rfl (by decide) (Or.inl rfl) hnx ?_
          refine g_iconst rfl ⟨by decide, by decide⟩ ?_
          refine x_iadd (z := k + 1) rfl (by omega) ⟨by omega, by omega⟩ ?_
          refine g_puti rfl rfl (by decide) rfl rfl ?_
          refine g_goto (tgt := 5) rfl (by decide) ?_
          have hy := t_R_y (P := t_dg) (T := T) (len := len) (i := k) (by omega) ((t_dg_i _).2 (by omega))
          have hv := t_nv_s (T := T) (s := s) (k := k) hsk
          rw [if_neg (by omega)] at hv
          exact ih (by omega) _ (by omega) rfl hst (by show μ.1 41 5 = _; rw [hv]; exact hnm) (by omega) (by rw [← hy]; exact hs) (k_F_pi (by decide) hF)
        · refine g_aload_n rfl rfl ?_
          refine g_aload_n rfl rfl ?_
          refine x_geti (v := (t_nv T s k)) rfl rfl (by decide) (Or.inl rfl) hnm ?_
          refine g_bipush rfl ⟨by decide, by decide⟩ (by decide) ?_
          refine x_imul (z := 10 * (t_nv T s k)) rfl (by omega) ⟨by omega, by omega⟩ ?_
          refine g_aload_n rfl rfl ?_
          refine g_aload_n rfl rfl ?_
          refine x_geti (v := k) rfl rfl (by decide) (Or.inl rfl) hnx ?_
          refine g_cV (as := [tI k]) (s_byte hG hC (by omega) (by omega)) rfl rfl mX5_byteAt_ok rfl rfl rfl (by decide) rfl rfl rfl ?_
          rintro _ w9 ⟨rfl, hw9⟩ _
          have hw9 := hw9.symm
          subst hw9
          have hTb7 := hT (k)
          refine x_iadd (z := 10 * (t_nv T s k) + (T k)) rfl (by omega) ⟨by omega, by omega⟩ ?_
          refine g_bipush rfl ⟨by decide, by decide⟩ (by decide) ?_
          refine x_isub (z := 10 * (t_nv T s k) + (T k) - 48) rfl (by omega) ⟨by omega, by omega⟩ ?_
          refine g_puti rfl rfl (by decide) rfl rfl ?_
          refine g_aload_n rfl rfl ?_
          refine g_dupr rfl ?_
          refine x_geti (v := k) rfl rfl (by decide) (Or.inl rfl) hnx ?_
          refine g_iconst rfl ⟨by decide, by decide⟩ ?_
          refine x_iadd (z := k + 1) rfl (by omega) ⟨by omega, by omega⟩ ?_
          refine g_puti rfl rfl (by decide) rfl rfl ?_
          refine g_goto (tgt := 5) rfl (by decide) ?_
          have hy := t_R_y (P := t_dg) (T := T) (len := len) (i := k) (by omega) ((t_dg_i _).2 (by omega))
          have hv := t_nv_s (T := T) (s := s) (k := k) hsk
          rw [if_pos (by omega)] at hv
          exact ih (by omega) _ (by omega) rfl hst (by show 10 * t_nv T s k + T k - 48 = _; rw [hv]; omega) (by omega) (by rw [← hy]; exact hs) (k_F_pi (by decide) (k_F_pi (by decide) hF))
set_option maxHeartbeats 4000000 in
set_option maxRecDepth 100000 in
theorem s_advN {G : tp_G} {μ : tp_M} (hG : tp_Gf G = true) {T : Int → Int} {len : Int} (hT : ∀ j, 0 ≤ T j ∧ T j ≤ 255) (hC : k_C T len μ) {k : Int} (h0 : 0 ≤ k) (h1 : k ≤ len) (hnx : μ.1 41 2 = k) (hst : μ.1 41 4 = k) : tp_k G mX5_advanceNumber [tR (some 41)] μ (fun r μ' => r = none ∧ μ'.1 41 2 = t_R t_dg T len k ∧ μ'.1 41 3 = (if t_R t_dg T len k - k ≤ 2 then 2 else 4) ∧ μ'.1 41 4 = k ∧ μ'.1 41 5 = t_nv T k (t_R t_dg T len k) ∧ k_F μ μ') := by
  refine tp_ok_of mX5_advanceNumber_ok rfl (Nat.le_refl _) ?_
  refine g_aload_n rfl rfl ?_
  refine g_iconst rfl ⟨by decide, by decide⟩ ?_
  refine g_puti rfl rfl (by decide) rfl rfl ?_
  exact l_advN (μ0 := μ) hG hT hC h0 k h1 _ h0 hnx hst (by show (0 : Int) = _; exact (if_pos (Int.le_refl _)).symm) (Int.le_refl _) rfl (k_F_pi (by decide) k_F_rf)
set_option maxHeartbeats 4000000 in
set_option maxRecDepth 100000 in
theorem l_adv {G : tp_G} (hG : tp_Gf G = true) {T : Int → Int} {len : Int} (hT : ∀ j, 0 ≤ T j ∧ T j ≤ 255) {μ0 : tp_M} (hC0 : k_C T len μ0) {S : Int} : ∀ k, k ≤ len → ∀ (μ : tp_M) (x1 : Option tp_V), 0 ≤ k → μ.1 41 2 = k → t_R t_bl T len k = S → k_F μ0 μ → tp_g G mX5_advance 0 [some (tR (some 41)), x1] [] μ (fun r μ' => r = none ∧ μ'.1 41 2 = t_es T len S ∧ μ'.1 41 3 = t_ks T len S ∧ μ'.1 41 4 = S ∧ (t_ks T len S = 2 → μ'.1 41 5 = t_vs T len S) ∧ k_F μ0 μ') := by
  refine tp_ind _ ?_
  intro k hkN ih μ x1 h0 hnx hs hF
  have hC := k_C_F hF hC0
  have hc1 := hC.1
  have hc2 := hC.2.1
  refine g_aload_n rfl rfl ?_
  refine x_geti (v := k) rfl rfl (by decide) (Or.inl rfl) hnx ?_
  refine g_aload_n rfl rfl ?_
  refine x_geti (v := len) rfl rfl (by decide) (Or.inl rfl) hc1 ?_
  refine g_icmp_ge (tgt := 38) rfl (by decide) (fun h1 => ?_) (fun h1 => ?_)
  · refine g_aload_n rfl rfl ?_
    refine g_aload_n rfl rfl ?_
    refine x_geti (v := k) rfl rfl (by decide) (Or.inl rfl) hnx ?_
    refine g_puti rfl rfl (by decide) rfl rfl ?_
    refine g_aload_n rfl rfl ?_
    refine g_aload_n rfl rfl ?_
    refine x_geti (v := k) rfl rfl (by decide) (Or.inl rfl) hnx ?_
    refine g_cV (as := [tI k]) (s_byteo hG (k_C_F (k_F_pi (by decide) k_F_rf) hC) (by omega)) rfl rfl mX5_byteAt_ok rfl rfl rfl (by decide) rfl rfl rfl ?_
    rintro _ w9 ⟨rfl, hw9⟩ _
    have hw9 := hw9.symm
    subst hw9
    refine g_istore_n rfl rfl rfl ?_
    refine g_aload_n rfl rfl ?_
    refine x_geti (v := k) rfl rfl (by decide) (Or.inl rfl) hnx ?_
    refine g_aload_n rfl rfl ?_
    refine x_geti (v := len) rfl rfl (by decide) (Or.inl rfl) hc1 ?_
    refine g_icmp_lt (tgt := 74) rfl (by decide) (fun hx => absurd hx (by omega)) (fun _ => ?_)
    refine g_aload_n rfl rfl ?_
    refine g_iconst rfl ⟨by decide, by decide⟩ ?_
    refine g_puti rfl rfl (by decide) rfl rfl ?_
    refine g_goto (tgt := 127) rfl (by decide) ?_
    refine x_return rfl rfl ?_
    have hn : ¬ (k < len ∧ t_bl (T k) = true) := fun z => by
      have z2 := (t_bl_i _).1 z.2
      omega
    have hSk : S = k := by rw [← hs, t_R_n hn]
    rw [hSk]
    have hk0 := t_ks_0 (T := T) (len := len) (s := k) (by omega)
    exact ⟨rfl, by rw [hk0.2]; exact hnx, by rw [hk0.1]; rfl, rfl, fun z => by rw [hk0.1] at z; omega, (k_F_pi (by decide) (k_F_pi (by decide) hF))⟩
  · refine g_aload_n rfl rfl ?_
    refine g_aload_n rfl rfl ?_
    refine x_geti (v := k) rfl rfl (by decide) (Or.inl rfl) hnx ?_
    refine g_cV (as := [tI k]) (s_byte hG hC (by omega) (by omega)) rfl rfl mX5_byteAt_ok rfl rfl rfl (by decide) rfl rfl rfl ?_
    rintro _ w9 ⟨rfl, hw9⟩ _
    have hw9 := hw9.symm
    subst hw9
    have hTb1 := hT (k)
    refine g_iS (as := [tI (T k)]) mX5_isBlank_ok rfl rfl rfl rfl rfl rfl rfl ?_
    refine g_iload_n rfl rfl ?_
    refine g_bipush rfl ⟨by decide, by decide⟩ (by decide) ?_
    refine g_icmp_eq (tgt := 12) rfl (by decide) (fun h2 => ?_) (fun h2 => ?_)
    · refine g_iconst rfl ⟨by decide, by decide⟩ ?_
      refine g_goto (tgt := 17) rfl (by decide) ?_
      refine x_zreturn rfl rfl (Or.inr rfl) ?_
      intro _
      refine g_if_eq (tgt := 38) rfl (by decide) (fun hx => absurd hx (by omega)) (fun _ => ?_)
      refine g_aload_n rfl rfl ?_
      refine g_dupr rfl ?_
      refine x_geti (v := k) rfl rfl (by decide) (Or.inl rfl) hnx ?_
      refine g_iconst rfl ⟨by decide, by decide⟩ ?_
      refine x_iadd (z := k + 1) rfl (by omega) ⟨by omega, by omega⟩ ?_
      refine g_puti rfl rfl (by decide) rfl rfl ?_
      refine g_goto (tgt := 0) rfl (by decide) ?_
      have hy := t_R_y (P := t_bl) (T := T) (len := len) (i := k) (by omega) ((t_bl_i _).2 (by omega))
      exact ih (by omega) _ _ (by omega) rfl (by rw [← hy]; exact hs) (k_F_pi (by decide) hF)
    · refine g_iload_n rfl rfl ?_
      refine g_bipush rfl ⟨by decide, by decide⟩ (by decide) ?_
      refine g_icmp_ne (tgt := 16) rfl (by decide) (fun h3 => ?_) (fun h3 => ?_)
      · refine g_iconst rfl ⟨by decide, by decide⟩ ?_
        refine x_zreturn rfl rfl (Or.inl rfl) ?_
        intro _
        refine g_if_eq (tgt := 38) rfl (by decide) (fun _ => ?_) (fun hx => absurd hx (by omega))
        refine g_aload_n rfl rfl ?_
        refine g_aload_n rfl rfl ?_
        refine x_geti (v := k) rfl rfl (by decide) (Or.inl rfl) hnx ?_
        refine g_puti rfl rfl (by decide) rfl rfl ?_
        refine g_aload_n rfl rfl ?_
        refine g_aload_n rfl rfl ?_
        refine x_geti (v := k) rfl rfl (by decide) (Or.inl rfl) hnx ?_
        refine g_cV (as := [tI k]) (s_byte hG (k_C_F (k_F_pi (by decide) k_F_rf) hC) (by omega) (by omega)) rfl rfl mX5_byteAt_ok rfl rfl rfl (by decide) rfl rfl rfl ?_
        rintro _ w9 ⟨rfl, hw9⟩ _
        have hw9 := hw9.symm
        subst hw9
        have hTb3 := hT (k)
        refine g_istore_n rfl rfl rfl ?_
        refine g_aload_n rfl rfl ?_
        refine x_geti (v := k) rfl rfl (by decide) (Or.inl rfl) hnx ?_
        refine g_aload_n rfl rfl ?_
        refine x_geti (v := len) rfl rfl (by decide) (Or.inl rfl) hc1 ?_
        refine g_icmp_lt (tgt := 74) rfl (by decide) (fun _ => ?_) (fun hx => absurd hx (by omega))
        refine g_iload_n rfl rfl ?_
        refine g_iS (as := [tI (T k)]) mX5_isLetter_ok rfl rfl rfl rfl rfl rfl rfl ?_
        refine g_iload_n rfl rfl ?_
        refine g_bipush rfl ⟨by decide, by decide⟩ (by decide) ?_
        refine g_icmp_lt (tgt := 16) rfl (by decide) (fun h4 => ?_) (fun h4 => ?_)
        · refine g_iconst rfl ⟨by decide, by decide⟩ ?_
          refine x_zreturn rfl rfl (Or.inl rfl) ?_
          intro _
          refine g_if_eq (tgt := 88) rfl (by decide) (fun _ => ?_) (fun hx => absurd hx (by omega))
          refine g_iload_n rfl rfl ?_
          refine g_iS (as := [tI (T k)]) mX5_isDigit_ok rfl rfl rfl rfl rfl rfl rfl ?_
          refine g_iload_n rfl rfl ?_
          refine g_bipush rfl ⟨by decide, by decide⟩ (by decide) ?_
          refine g_icmp_lt (tgt := 16) rfl (by decide) (fun h5 => ?_) (fun h5 => ?_)
          · refine g_iconst rfl ⟨by decide, by decide⟩ ?_
            refine x_zreturn rfl rfl (Or.inl rfl) ?_
            intro _
            refine g_if_eq (tgt := 102) rfl (by decide) (fun _ => ?_) (fun hx => absurd hx (by omega))
            refine g_aload_n rfl rfl ?_
            refine g_iload_n rfl rfl ?_
            refine g_bipush rfl ⟨by decide, by decide⟩ (by decide) ?_
            refine g_icmp_ne (tgt := 113) rfl (by decide) (fun _ => ?_) (fun hx => absurd hx (by omega))
            refine g_iconst rfl ⟨by decide, by decide⟩ ?_
            refine g_puti rfl rfl (by decide) rfl rfl ?_
            refine g_aload_n rfl rfl ?_
            refine g_dupr rfl ?_
            refine x_geti (v := k) rfl rfl (by decide) (Or.inl rfl) hnx ?_
            refine g_iconst rfl ⟨by decide, by decide⟩ ?_
            refine x_iadd (z := k + 1) rfl (by omega) ⟨by omega, by omega⟩ ?_
            refine g_puti rfl rfl (by decide) rfl rfl ?_
            refine x_return rfl rfl ?_
            have hn : ¬ (k < len ∧ t_bl (T k) = true) := fun z => by
              have z2 := (t_bl_i _).1 z.2
              omega
            have hSk : S = k := by rw [← hs, t_R_n hn]
            rw [hSk]
            have hk3 := t_ks_3 (T := T) (len := len) (s := k) (by omega) (by omega) (by omega)
            rw [if_neg (by omega)] at hk3
            exact ⟨rfl, by rw [hk3.2]; rfl, by rw [hk3.1]; rfl, rfl, fun z => by rw [hk3.1] at z; omega, (k_F_pi (by decide) (k_F_pi (by decide) (k_F_pi (by decide) hF)))⟩
          · refine g_iload_n rfl rfl ?_
            refine g_bipush rfl ⟨by decide, by decide⟩ (by decide) ?_
            refine g_icmp_gt (tgt := 16) rfl (by decide) (fun h6 => ?_) (fun h6 => ?_)
            · refine g_iconst rfl ⟨by decide, by decide⟩ ?_
              refine x_zreturn rfl rfl (Or.inl rfl) ?_
              intro _
              refine g_if_eq (tgt := 102) rfl (by decide) (fun _ => ?_) (fun hx => absurd hx (by omega))
              refine g_aload_n rfl rfl ?_
              refine g_iload_n rfl rfl ?_
              refine g_bipush rfl ⟨by decide, by decide⟩ (by decide) ?_
              refine g_icmp_ne (tgt := 113) rfl (by decide) (fun h7 => ?_) (fun h7 => ?_)
              · refine g_iconst rfl ⟨by decide, by decide⟩ ?_
                refine g_puti rfl rfl (by decide) rfl rfl ?_
                refine g_aload_n rfl rfl ?_
                refine g_dupr rfl ?_
                refine x_geti (v := k) rfl rfl (by decide) (Or.inl rfl) hnx ?_
                refine g_iconst rfl ⟨by decide, by decide⟩ ?_
                refine x_iadd (z := k + 1) rfl (by omega) ⟨by omega, by omega⟩ ?_
                refine g_puti rfl rfl (by decide) rfl rfl ?_
                refine x_return rfl rfl ?_
                have hn : ¬ (k < len ∧ t_bl (T k) = true) := fun z => by
                  have z2 := (t_bl_i _).1 z.2
                  omega
                have hSk : S = k := by rw [← hs, t_R_n hn]
                rw [hSk]
                have hk3 := t_ks_3 (T := T) (len := len) (s := k) (by omega) (by omega) (by omega)
                rw [if_neg (by omega)] at hk3
                exact ⟨rfl, by rw [hk3.2]; rfl, by rw [hk3.1]; rfl, rfl, fun z => by rw [hk3.1] at z; omega, (k_F_pi (by decide) (k_F_pi (by decide) (k_F_pi (by decide) hF)))⟩
              · refine g_iconst rfl ⟨by decide, by decide⟩ ?_
                refine g_goto (tgt := 114) rfl (by decide) ?_
                refine g_puti rfl rfl (by decide) rfl rfl ?_
                refine g_aload_n rfl rfl ?_
                refine g_dupr rfl ?_
                refine x_geti (v := k) rfl rfl (by decide) (Or.inl rfl) hnx ?_
                refine g_iconst rfl ⟨by decide, by decide⟩ ?_
                refine x_iadd (z := k + 1) rfl (by omega) ⟨by omega, by omega⟩ ?_
                refine g_puti rfl rfl (by decide) rfl rfl ?_
                refine x_return rfl rfl ?_
                have hn : ¬ (k < len ∧ t_bl (T k) = true) := fun z => by
                  have z2 := (t_bl_i _).1 z.2
                  omega
                have hSk : S = k := by rw [← hs, t_R_n hn]
                rw [hSk]
                have hk3 := t_ks_3 (T := T) (len := len) (s := k) (by omega) (by omega) (by omega)
                rw [if_pos (by omega)] at hk3
                exact ⟨rfl, by rw [hk3.2]; rfl, by rw [hk3.1]; rfl, rfl, fun z => by rw [hk3.1] at z; omega, (k_F_pi (by decide) (k_F_pi (by decide) (k_F_pi (by decide) hF)))⟩
            · refine g_iconst rfl ⟨by decide, by decide⟩ ?_
              refine g_goto (tgt := 17) rfl (by decide) ?_
              refine x_zreturn rfl rfl (Or.inr rfl) ?_
              intro _
              refine g_if_eq (tgt := 102) rfl (by decide) (fun hx => absurd hx (by omega)) (fun _ => ?_)
              refine g_aload_n rfl rfl ?_
              refine g_cV (as := []) (s_advN hG hT (k_C_F (k_F_pi (by decide) k_F_rf) hC) (k := k) h0 (by omega) hnx rfl) rfl rfl mX5_advanceNumber_ok rfl rfl rfl (by decide) rfl rfl rfl ?_
              rintro _ w1 ⟨rfl, ha2, ha3, ha4, ha5, haF⟩ _
              refine g_goto (tgt := 127) rfl (by decide) ?_
              refine x_return rfl rfl ?_
              have hn : ¬ (k < len ∧ t_bl (T k) = true) := fun z => by
                have z2 := (t_bl_i _).1 z.2
                omega
              have hSk : S = k := by rw [← hs, t_R_n hn]
              rw [hSk]
              have hk2 := t_ks_2 (T := T) (len := len) (s := k) (by omega) (by omega)
              have hyd := t_R_y (P := t_dg) (T := T) (len := len) (i := k) (by omega) ((t_dg_i _).2 (by omega))
              have hyb := t_R_B (P := t_dg) (T := T) (len := len) (i := k + 1) (by omega)
              exact ⟨rfl, by rw [hk2.2]; exact ha2, by rw [hk2.1]; exact ha3, ha4, fun _ => by rw [ha5]; exact t_nv_e (by omega), (k_F_tr (k_F_pi (by decide) hF) haF)⟩
        · refine g_iload_n rfl rfl ?_
          refine g_bipush rfl ⟨by decide, by decide⟩ (by decide) ?_
          refine g_icmp_gt (tgt := 16) rfl (by decide) (fun h8 => ?_) (fun h8 => ?_)
          · refine g_iconst rfl ⟨by decide, by decide⟩ ?_
            refine x_zreturn rfl rfl (Or.inl rfl) ?_
            intro _
            refine g_if_eq (tgt := 88) rfl (by decide) (fun _ => ?_) (fun hx => absurd hx (by omega))
            refine g_iload_n rfl rfl ?_
            refine g_iS (as := [tI (T k)]) mX5_isDigit_ok rfl rfl rfl rfl rfl rfl rfl ?_
            refine g_iload_n rfl rfl ?_
            refine g_bipush rfl ⟨by decide, by decide⟩ (by decide) ?_
            refine g_icmp_lt (tgt := 16) rfl (by decide) (fun hx => absurd hx (by omega)) (fun _ => ?_)
            refine g_iload_n rfl rfl ?_
            refine g_bipush rfl ⟨by decide, by decide⟩ (by decide) ?_
            refine g_icmp_gt (tgt := 16) rfl (by decide) (fun _ => ?_) (fun hx => absurd hx (by omega))
            refine g_iconst rfl ⟨by decide, by decide⟩ ?_
            refine x_zreturn rfl rfl (Or.inl rfl) ?_
            intro _
            refine g_if_eq (tgt := 102) rfl (by decide) (fun _ => ?_) (fun hx => absurd hx (by omega))
            refine g_aload_n rfl rfl ?_
            refine g_iload_n rfl rfl ?_
            refine g_bipush rfl ⟨by decide, by decide⟩ (by decide) ?_
            refine g_icmp_ne (tgt := 113) rfl (by decide) (fun _ => ?_) (fun hx => absurd hx (by omega))
            refine g_iconst rfl ⟨by decide, by decide⟩ ?_
            refine g_puti rfl rfl (by decide) rfl rfl ?_
            refine g_aload_n rfl rfl ?_
            refine g_dupr rfl ?_
            refine x_geti (v := k) rfl rfl (by decide) (Or.inl rfl) hnx ?_
            refine g_iconst rfl ⟨by decide, by decide⟩ ?_
            refine x_iadd (z := k + 1) rfl (by omega) ⟨by omega, by omega⟩ ?_
            refine g_puti rfl rfl (by decide) rfl rfl ?_
            refine x_return rfl rfl ?_
            have hn : ¬ (k < len ∧ t_bl (T k) = true) := fun z => by
              have z2 := (t_bl_i _).1 z.2
              omega
            have hSk : S = k := by rw [← hs, t_R_n hn]
            rw [hSk]
            have hk3 := t_ks_3 (T := T) (len := len) (s := k) (by omega) (by omega) (by omega)
            rw [if_neg (by omega)] at hk3
            exact ⟨rfl, by rw [hk3.2]; rfl, by rw [hk3.1]; rfl, rfl, fun z => by rw [hk3.1] at z; omega, (k_F_pi (by decide) (k_F_pi (by decide) (k_F_pi (by decide) hF)))⟩
          · refine g_iconst rfl ⟨by decide, by decide⟩ ?_
            refine g_goto (tgt := 17) rfl (by decide) ?_
            refine x_zreturn rfl rfl (Or.inr rfl) ?_
            intro _
            refine g_if_eq (tgt := 88) rfl (by decide) (fun hx => absurd hx (by omega)) (fun _ => ?_)
            refine g_aload_n rfl rfl ?_
            refine g_cV (as := []) (s_advW hG hT (k_C_F (k_F_pi (by decide) k_F_rf) hC) (k := k) h0 (by omega) hnx) rfl rfl mX5_advanceWord_ok rfl rfl rfl (by decide) rfl rfl rfl ?_
            rintro _ w1 ⟨rfl, ha2, ha3, ha4, haF⟩ _
            refine g_goto (tgt := 127) rfl (by decide) ?_
            refine x_return rfl rfl ?_
            have hn : ¬ (k < len ∧ t_bl (T k) = true) := fun z => by
              have z2 := (t_bl_i _).1 z.2
              omega
            have hSk : S = k := by rw [← hs, t_R_n hn]
            rw [hSk]
            have hk1 := t_ks_1 (T := T) (len := len) (s := k) (by omega) (by omega)
            exact ⟨rfl, by rw [hk1.2]; exact ha2, by rw [hk1.1]; exact ha3, ha4, fun z => by rw [hk1.1] at z; omega, (k_F_tr (k_F_pi (by decide) hF) haF)⟩
      · refine g_iconst rfl ⟨by decide, by decide⟩ ?_
        refine g_goto (tgt := 17) rfl (by decide) ?_
        refine x_zreturn rfl rfl (Or.inr rfl) ?_
        intro _
        refine g_if_eq (tgt := 38) rfl (by decide) (fun hx => absurd hx (by omega)) (fun _ => ?_)
        refine g_aload_n rfl rfl ?_
        refine g_dupr rfl ?_
        refine x_geti (v := k) rfl rfl (by decide) (Or.inl rfl) hnx ?_
        refine g_iconst rfl ⟨by decide, by decide⟩ ?_
        refine x_iadd (z := k + 1) rfl (by omega) ⟨by omega, by omega⟩ ?_
        refine g_puti rfl rfl (by decide) rfl rfl ?_
        refine g_goto (tgt := 0) rfl (by decide) ?_
        have hy := t_R_y (P := t_bl) (T := T) (len := len) (i := k) (by omega) ((t_bl_i _).2 (by omega))
        exact ih (by omega) _ _ (by omega) rfl (by rw [← hy]; exact hs) (k_F_pi (by decide) hF)
set_option maxHeartbeats 4000000 in
set_option maxRecDepth 100000 in
theorem s_adv {G : tp_G} {μ : tp_M} (hG : tp_Gf G = true) {T : Int → Int} {len : Int} (hT : ∀ j, 0 ≤ T j ∧ T j ≤ 255) (hC : k_C T len μ) {i : Int} (h0 : 0 ≤ i) (h1 : i ≤ len) (hnx : μ.1 41 2 = i) : tp_k G mX5_advance [tR (some 41)] μ (fun r μ' => r = none ∧ μ'.1 41 2 = t_e T len i ∧ μ'.1 41 3 = t_k T len i ∧ μ'.1 41 4 = t_s T len i ∧ (t_k T len i = 2 → μ'.1 41 5 = t_v T len i) ∧ k_F μ μ') := by
  refine tp_ok_of mX5_advance_ok rfl (Nat.le_refl _) ?_
  exact l_adv hG hT hC i h1 _ _ h0 hnx rfl k_F_rf
