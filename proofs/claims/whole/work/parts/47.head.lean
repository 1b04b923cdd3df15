/-! the k-th of what is counted, or how many (k -1) -/
def q_sel (C : Int → Int) (N k v : Int) : Prop := (k = -1 ∧ v = q_s C N) ∨ (k ≠ -1 ∧ (((0 ≤ v ∧ v < N) ∧ C v = 1 ∧ q_s C v = k) ∨ (v = -1 ∧ ∀ a, 0 ≤ a → a < N → C a = 1 → q_s C a ≠ k)))
theorem q_S_mono {C : Int → Int} (h : ∀ a, 0 ≤ C a) (m : Nat) : ∀ n : Nat, q_S C m ≤ q_S C (m + n) := by
  intro n
  induction n with
  | zero => exact Int.le_refl _
  | succ n ih =>
    have := h ((m + n : Nat) : Int)
    show q_S C m ≤ q_S C (m + n) + C ((m + n : Nat) : Int)
    omega
theorem q_s_mono {C : Int → Int} (h : ∀ a, 0 ≤ C a) {m n : Int} (h0 : 0 ≤ m) (hmn : m ≤ n) : q_s C m ≤ q_s C n := by
  have e := q_S_mono h m.toNat (n.toNat - m.toNat)
  rw [show m.toNat + (n.toNat - m.toNat) = n.toNat by omega] at e
  exact e
theorem q_sel_lt {C : Int → Int} (h : ∀ a, 0 ≤ C a) {v v' : Int} (h0 : 0 ≤ v) (hv : v < v') (h1 : C v = 1) : q_s C v < q_s C v' := by
  have e := q_s1 (F := C) (k := v) h0
  have m := q_s_mono h (m := v + 1) (n := v') (by omega) (by omega)
  omega
theorem q_sel_u {C : Int → Int} (h : ∀ a, 0 ≤ C a) {N k v v' : Int} (a : q_sel C N k v) (b : q_sel C N k v') : v = v' := by
  rcases a with ⟨a1, a2⟩ | ⟨a1, ⟨a2, a3, a4⟩ | ⟨a2, a3⟩⟩ <;> rcases b with ⟨b1, b2⟩ | ⟨b1, ⟨b2, b3, b4⟩ | ⟨b2, b3⟩⟩
  · omega
  · exact absurd a1 b1
  · exact absurd a1 b1
  · exact absurd b1 a1
  · rcases Int.lt_trichotomy v v' with q | q | q
    · have := q_sel_lt h a2.1 q a3; omega
    · exact q
    · have := q_sel_lt h b2.1 q b3; omega
  · exact absurd a4 (b3 v a2.1 a2.2 a3)
  · exact absurd b1 a1
  · exact absurd b4 (a3 v' b2.1 b2.2 b3)
  · omega
theorem q_sel_c {C C' : Int → Int} {N k v : Int} (hN : 0 ≤ N) (h : ∀ a, 0 ≤ a → a < N → C' a = C a) (a : q_sel C N k v) : q_sel C' N k v := by
  have e : ∀ m, 0 ≤ m → m ≤ N → q_s C' m = q_s C m := fun m h0 h1 => q_s_c (fun j g0 g1 => h j g0 (by omega))
  rcases a with ⟨a1, a2⟩ | ⟨a1, ⟨a2, a3, a4⟩ | ⟨a2, a3⟩⟩
  · exact Or.inl ⟨a1, by rw [e N hN (Int.le_refl _)]; exact a2⟩
  · exact Or.inr ⟨a1, Or.inl ⟨a2, by rw [h v a2.1 a2.2]; exact a3, by rw [e v a2.1 (by omega)]; exact a4⟩⟩
  · exact Or.inr ⟨a1, Or.inr ⟨a2, fun a g0 g1 g2 => by rw [e a g0 (by omega)]; rw [h a g0 g1] at g2; exact a3 a g0 g1 g2⟩⟩
theorem q_sel_x {C : Int → Int} {N M k v : Int} (hN : 0 ≤ N) (hM : N ≤ M) (h : ∀ a, N ≤ a → a < M → C a = 0) (a : q_sel C N k v) : q_sel C M k v := by
  rcases a with ⟨a1, a2⟩ | ⟨a1, ⟨a2, a3, a4⟩ | ⟨a2, a3⟩⟩
  · exact Or.inl ⟨a1, by rw [q_s_ext hN hM h]; exact a2⟩
  · exact Or.inr ⟨a1, Or.inl ⟨⟨a2.1, by omega⟩, a3, a4⟩⟩
  · refine Or.inr ⟨a1, Or.inr ⟨a2, fun a g0 g1 g2 => ?_⟩⟩
    rcases (show a < N ∨ N ≤ a by omega) with q | q
    · exact a3 a g0 q g2
    · have := h a q g1; omega
/-! sets of addresses -/
def q_mb (a : Int) : Int := if 0 ≤ a ∧ a < 40 then tp_Lshl 1 a else 0
theorem q_mb_st (a : Int) : q_st (q_mb a) := by
  unfold q_mb
  split
  · exact q_st_sh (by omega) (by omega)
  · exact q_st_0
theorem q_mb_bt {a b : Int} (h : 0 ≤ a) : q_bt (q_mb b) a = true ↔ (a = b ∧ b < 40) := by
  unfold q_mb
  split
  · rename_i hb
    rw [q_bt_sh hb.1 hb.2 h, decide_eq_true_iff]
    omega
  · rw [q_bt_0]
    exact ⟨fun z => (by cases z), fun z => by omega⟩
def q_in (L a : Int) : Int := if q_bt L a = true then 1 else 0
theorem q_in_b (L a : Int) : 0 ≤ q_in L a ∧ q_in L a ≤ 1 := by unfold q_in; split <;> omega
theorem q_in_1 {L a : Int} (h : q_bt L a = true) : q_in L a = 1 := if_pos h
theorem q_in_0 {L a : Int} (h : q_bt L a = false) : q_in L a = 0 := if_neg (by rw [h]; decide)
theorem q_bt_f {L a : Int} (h : ¬ q_bt L a = true) : q_bt L a = false := by
  rcases hq : q_bt L a with _ | _
  · rfl
  · exact absurd hq h
theorem q_lc_t {L b : Int} (b0 : 0 ≤ b) (b1 : b < 40) (h : ¬ tp_lcmp (tp_Land L (tp_Lshl 1 b)) 0 = 0) : q_bt L b = true := by
  rcases hq : q_bt L b with _ | _
  · exact absurd ((q_lc_mem b0 b1).2 hq) h
  · rfl
set_option maxHeartbeats 4000000 in
set_option maxRecDepth 100000 in
theorem s_member {G : tp_G} {μ : tp_M} (hG : tp_Gf G = true) {a : Int} : tp_k G mX11_member [tI a] μ (fun r μ' => r = some (tL (q_mb a)) ∧ μ' = μ) := by
  refine tp_ok_of mX11_member_ok rfl (Nat.le_refl _) ?_
  refine g_iload_n rfl rfl ?_
  refine g_if_lt (tgt := 10) rfl (by decide) (fun h1 => ?_) (fun h1 => ?_)
  · refine g_lconst (b := 0) rfl rfl ⟨by decide, by decide⟩ ?_
    refine g_goto (tgt := 17) rfl (by decide) ?_
    refine x_lreturn rfl rfl ?_
    exact ⟨congrArg (fun z => some (tL z)) (if_neg (by omega)).symm, rfl⟩
  · refine g_iload_n rfl rfl ?_
    refine g_bipush rfl ⟨by decide, by decide⟩ (by decide) ?_
    refine g_icmp_lt (tgt := 14) rfl (by decide) (fun h2 => ?_) (fun h2 => ?_)
    · refine g_lconst (b := 1) rfl rfl ⟨by decide, by decide⟩ ?_
      refine g_iload_n rfl rfl ?_
      refine g_lshl rfl ?_
      refine x_lreturn rfl rfl ?_
      exact ⟨congrArg (fun z => some (tL z)) (if_pos (by omega)).symm, rfl⟩
    · refine g_lconst (b := 0) rfl rfl ⟨by decide, by decide⟩ ?_
      refine g_goto (tgt := 17) rfl (by decide) ?_
      refine x_lreturn rfl rfl ?_
      exact ⟨congrArg (fun z => some (tL z)) (if_neg (by omega)).symm, rfl⟩
set_option maxHeartbeats 4000000 in
set_option maxRecDepth 100000 in
theorem s_memberI {G : tp_G} {μ : tp_M} (hG : tp_Gf G = true) {a : Int} (h0 : 0 ≤ a) (h1 : a < 40) : tp_k G mX11_member [tI a] μ (fun r μ' => r = some (tL (tp_Lshl 1 a)) ∧ μ' = μ) := by
  refine tp_ok_of mX11_member_ok rfl (Nat.le_refl _) ?_
  refine g_iload_n rfl rfl ?_
  refine g_if_lt (tgt := 10) rfl (by decide) (fun hx => absurd hx (by omega)) (fun _ => ?_)
  refine g_iload_n rfl rfl ?_
  refine g_bipush rfl ⟨by decide, by decide⟩ (by decide) ?_
  refine g_icmp_lt (tgt := 14) rfl (by decide) (fun _ => ?_) (fun hx => absurd hx (by omega))
  refine g_lconst (b := 1) rfl rfl ⟨by decide, by decide⟩ ?_
  refine g_iload_n rfl rfl ?_
  refine g_lshl rfl ?_
  refine x_lreturn rfl rfl ?_
  exact ⟨rfl, rfl⟩
def q_sb (f : Int → Int) (a : Int) : Int := if 0 ≤ a ∧ a < f 0 then q_mb a else 0
theorem q_sb_st (f : Int → Int) (a : Int) : q_st (q_sb f a) := by
  unfold q_sb
  split
  · exact q_mb_st a
  · exact q_st_0
theorem q_sb_bt {f : Int → Int} {a b : Int} (hf : f 0 ≤ 40) (h : 0 ≤ a) : q_bt (q_sb f b) a = true ↔ (a = b ∧ b < f 0) := by
  unfold q_sb
  split
  · rw [q_mb_bt h]
    omega
  · rw [q_bt_0]
    exact ⟨fun z => (by cases z), fun z => by omega⟩
set_option maxHeartbeats 4000000 in
set_option maxRecDepth 100000 in
theorem s_set {G : tp_G} {μ : tp_M} (hG : tp_Gf G = true) {c : Nat} {f : Int → Int} (hc : tp_SH c = .inl 0) (hcl : c < 37) (hw : tp_Cw f) (hCd : tp_Cd c f μ) {a : Int} : tp_k G mX0_set [tR (some c), tI a] μ (fun r μ' => r = some (tL (q_sb f a)) ∧ μ' = μ) := by
  refine tp_ok_of mX0_set_ok rfl (Nat.le_refl _) ?_
  have hcn : c < 234 := by omega
  have hw0 := hw.1
  have he4 := hCd.1
  refine g_aload_n rfl rfl ?_
  refine g_iload_n rfl rfl ?_
  refine g_cV (as := [tI a]) (s_hasV hG hc hcl hw hCd) rfl rfl mX0_has_ok rfl hc rfl hcn rfl rfl rfl ?_
  rintro _ w9 ⟨rfl, hw9⟩ _
  have hw9 := hw9.symm
  subst hw9
  by_cases hx9 : 0 ≤ a ∧ a < f 0
  · rw [if_pos hx9]
    refine g_if_eq (tgt := 15) rfl (by decide) (fun hx => absurd hx (by omega)) (fun _ => ?_)
    refine g_iload_n rfl rfl ?_
    refine g_cN (as := [tI a]) (s_member hG) rfl rfl mX11_member_ok rfl rfl rfl rfl ?_
    rintro _ w9 ⟨rfl, hw9⟩ _
    have hw9 := hw9.symm
    subst hw9
    refine g_goto (tgt := 16) rfl (by decide) ?_
    refine x_lreturn rfl rfl ?_
    exact ⟨congrArg (fun z => some (tL z)) (if_pos (by omega)).symm, rfl⟩
  · rw [if_neg hx9]
    refine g_if_eq (tgt := 15) rfl (by decide) (fun _ => ?_) (fun hx => absurd hx (by omega))
    refine g_lconst (b := 0) rfl rfl ⟨by decide, by decide⟩ ?_
    refine x_lreturn rfl rfl ?_
    exact ⟨congrArg (fun z => some (tL z)) (if_neg (by omega)).symm, rfl⟩
set_option maxHeartbeats 4000000 in
set_option maxRecDepth 100000 in
theorem l_all {G : tp_G} {μ : tp_M} (hG : tp_Gf G = true) {c : Nat} {f : Int → Int} (hc : tp_SH c = .inl 0) (hcl : c < 37) (hw : tp_Cw f) (hCd : tp_Cd c f μ) : ∀ k, k ≤ f 0 → ∀ (S : Int), 0 ≤ k → q_st S → (∀ a, 0 ≤ a → (q_bt S a = true ↔ a < k)) → tp_g G mX0_all 4 [some (tR (some c)), some (tL (S)), none, some (tI k)] [] μ (fun r μ' => ∃ S, r = some (tL S) ∧ q_st S ∧ (∀ a, 0 ≤ a → (q_bt S a = true ↔ a < f 0)) ∧ μ' = μ) := by
  have hcn : c < 234 := by omega
  have hw0 := hw.1
  have he4 := hCd.1
  refine tp_ind _ ?_
  intro k hkN ih S h0 hS hB
  refine g_iload_n rfl rfl ?_
  refine g_aload_n rfl rfl ?_
  refine x_geti (v := (μ.1 c 4)) rfl hc hcn (Or.inl rfl) rfl ?_
  refine g_icmp_ge (tgt := 25) rfl (by decide) (fun h1 => ?_) (fun h1 => ?_)
  · refine g_lload_n rfl rfl ?_
    refine x_lreturn rfl rfl ?_
    exact ⟨S, rfl, hS, fun a h => by rw [hB a h]; omega, rfl⟩
  · refine g_lload_n rfl rfl ?_
    refine g_iload_n rfl rfl ?_
    refine g_cN (as := [tI k]) (s_member hG) rfl rfl mX11_member_ok rfl rfl rfl rfl ?_
    rintro _ w9 ⟨rfl, hw9⟩ _
    have hw9 := hw9.symm
    subst hw9
    refine g_lor rfl ?_
    refine g_lstore_n rfl rfl rfl ?_
    refine x_iinc (z := k + 1) rfl rfl (by omega) ⟨by omega, by omega⟩ rfl rfl ?_
    refine g_goto (tgt := 4) rfl (by decide) ?_
    exact ih (by omega) _ (by omega) (q_st_or hS (q_mb_st _)) (fun a h => by rw [q_bt_or, Bool.or_eq_true, hB a h, q_mb_bt h]; omega)
set_option maxHeartbeats 4000000 in
set_option maxRecDepth 100000 in
theorem s_all {G : tp_G} {μ : tp_M} (hG : tp_Gf G = true) {c : Nat} {f : Int → Int} (hc : tp_SH c = .inl 0) (hcl : c < 37) (hw : tp_Cw f) (hCd : tp_Cd c f μ) : tp_k G mX0_all [tR (some c)] μ (fun r μ' => ∃ S, r = some (tL S) ∧ q_st S ∧ (∀ a, 0 ≤ a → (q_bt S a = true ↔ a < f 0)) ∧ μ' = μ) := by
  refine tp_ok_of mX0_all_ok rfl (Nat.le_refl _) ?_
  have hcn : c < 234 := by omega
  have hw0 := hw.1
  have he4 := hCd.1
  refine g_lconst (b := 0) rfl rfl ⟨by decide, by decide⟩ ?_
  refine g_lstore_n rfl rfl rfl ?_
  refine g_iconst rfl ⟨by decide, by decide⟩ ?_
  refine g_istore_n rfl rfl rfl ?_
  exact l_all hG hc hcl hw hCd 0 (by omega) 0 (by omega) q_st_0 (fun a h => by rw [q_bt_0]; exact ⟨fun z => (by cases z), fun z => by omega⟩)
def q_hP (f : Int → Int) (k a : Int) : Prop := a < f 0 ∧ (a = 0 ∨ ∃ b, 0 ≤ b ∧ b < k ∧ f (9 + b) ≠ 0 ∧ (f (49 + b) = a ∨ b + 1 = a))
theorem q_hP_n {f : Int → Int} {k a : Int} (h : f (9 + k) = 0) : q_hP f (k + 1) a ↔ q_hP f k a := by
  constructor
  · rintro ⟨h1, h2 | ⟨b, b0, b1, b2, b3⟩⟩
    · exact ⟨h1, Or.inl h2⟩
    · refine ⟨h1, Or.inr ⟨b, b0, ?_, b2, b3⟩⟩
      rcases (show b < k ∨ b = k by omega) with q | q
      · exact q
      · rw [q] at b2; exact absurd h b2
  · rintro ⟨h1, h2 | ⟨b, b0, b1, b2, b3⟩⟩
    · exact ⟨h1, Or.inl h2⟩
    · exact ⟨h1, Or.inr ⟨b, b0, by omega, b2, b3⟩⟩
theorem q_hP_y {f : Int → Int} {k a : Int} (hk : 0 ≤ k) (h : f (9 + k) ≠ 0) : q_hP f (k + 1) a ↔ (q_hP f k a ∨ (a = f (49 + k) ∧ f (49 + k) < f 0) ∨ (a = k + 1 ∧ k + 1 < f 0)) := by
  constructor
  · rintro ⟨h1, h2 | ⟨b, b0, b1, b2, b3⟩⟩
    · exact Or.inl ⟨h1, Or.inl h2⟩
    · rcases (show b < k ∨ b = k by omega) with q | q
      · exact Or.inl ⟨h1, Or.inr ⟨b, b0, q, b2, b3⟩⟩
      · rw [q] at b3
        omega
  · rintro (⟨h1, h2 | ⟨b, b0, b1, b2, b3⟩⟩ | h2 | h2)
    · exact ⟨h1, Or.inl h2⟩
    · exact ⟨h1, Or.inr ⟨b, b0, by omega, b2, b3⟩⟩
    · exact ⟨by omega, Or.inr ⟨k, hk, by omega, h, Or.inl h2.1.symm⟩⟩
    · exact ⟨by omega, Or.inr ⟨k, hk, by omega, h, Or.inr h2.1.symm⟩⟩
set_option maxHeartbeats 4000000 in
set_option maxRecDepth 100000 in
theorem l_heads {G : tp_G} {μ : tp_M} (hG : tp_Gf G = true) {c : Nat} {f : Int → Int} (hc : tp_SH c = .inl 0) (hcl : c < 37) (hw : tp_Cw f) (hCd : tp_Cd c f μ) : ∀ k, k ≤ f 0 → ∀ (S : Int), 0 ≤ k → q_st S → (∀ a, 0 ≤ a → (q_bt S a = true ↔ q_hP f k a)) → tp_g G mX0_heads 8 [some (tR (some c)), some (tL (S)), none, some (tI k)] [] μ (fun r μ' => ∃ S, r = some (tL S) ∧ q_st S ∧ (∀ a, 0 ≤ a → (q_bt S a = true ↔ q_hP f (f 0) a)) ∧ μ' = μ) := by
  have hcn : c < 234 := by omega
  have hw0 := hw.1
  have he4 := hCd.1
  refine tp_ind _ ?_
  intro k hkN ih S h0 hS hB
  refine g_iload_n rfl rfl ?_
  refine g_aload_n rfl rfl ?_
  refine x_geti (v := (μ.1 c 4)) rfl hc hcn (Or.inl rfl) rfl ?_
  refine g_icmp_ge (tgt := 50) rfl (by decide) (fun h1 => ?_) (fun h1 => ?_)
  · refine g_lload_n rfl rfl ?_
    refine x_lreturn rfl rfl ?_
    exact ⟨S, rfl, hS, fun a h => by rw [hB a h, show k = f 0 by omega], rfl⟩
  · refine g_aload_n rfl rfl ?_
    refine g_iload_n rfl rfl ?_
    refine g_cV (as := [tI k]) (s_kindX hG hc hcl hw hCd (by omega) (by omega)) rfl rfl mX0_kindAt_ok rfl hc rfl hcn rfl rfl rfl ?_
    rintro _ w9 ⟨rfl, hw9⟩ _
    have hw9 := hw9.symm
    subst hw9
    refine g_if_eq (tgt := 44) rfl (by decide) (fun h2 => ?_) (fun h2 => ?_)
    · refine x_iinc (z := k + 1) rfl rfl (by omega) ⟨by omega, by omega⟩ rfl rfl ?_
      refine g_goto (tgt := 8) rfl (by decide) ?_
      exact ih (by omega) _ (by omega) hS (fun a h => by rw [hB a h]; exact (q_hP_n (by assumption)).symm)
    · refine g_lload_n rfl rfl ?_
      refine g_aload_n rfl rfl ?_
      refine g_aload_n rfl rfl ?_
      refine g_iload_n rfl rfl ?_
      refine g_cV (as := [tI k]) (s_targX hG hc hcl hw hCd (by omega) (by omega)) rfl rfl mX0_targetAt_ok rfl hc rfl hcn rfl rfl rfl ?_
      rintro _ w9 ⟨rfl, hw9⟩ _
      have hw9 := hw9.symm
      subst hw9
      refine g_cV (as := [tI (f (49 + k))]) (s_set hG hc hcl hw hCd) rfl rfl mX0_set_ok rfl hc rfl hcn rfl rfl rfl ?_
      rintro _ w9 ⟨rfl, hw9⟩ _
      have hw9 := hw9.symm
      subst hw9
      refine g_aload_n rfl rfl ?_
      refine g_iload_n rfl rfl ?_
      refine g_iconst rfl ⟨by decide, by decide⟩ ?_
      refine x_iadd (z := k + 1) rfl (by omega) ⟨by omega, by omega⟩ ?_
      refine g_cV (as := [tI (k + 1)]) (s_set hG hc hcl hw hCd) rfl rfl mX0_set_ok rfl hc rfl hcn rfl rfl rfl ?_
      rintro _ w9 ⟨rfl, hw9⟩ _
      have hw9 := hw9.symm
      subst hw9
      refine g_lor rfl ?_
      refine g_lor rfl ?_
      refine g_lstore_n rfl rfl rfl ?_
      refine x_iinc (z := k + 1) rfl rfl (by omega) ⟨by omega, by omega⟩ rfl rfl ?_
      refine g_goto (tgt := 8) rfl (by decide) ?_
      exact ih (by omega) _ (by omega) (q_st_or hS (q_st_or (q_sb_st _ _) (q_sb_st _ _))) (fun a h => by rw [q_bt_or, Bool.or_eq_true, q_bt_or, Bool.or_eq_true, hB a h, q_sb_bt hw0.2 h, q_sb_bt hw0.2 h]; exact (q_hP_y (by omega) (by assumption)).symm)
set_option maxHeartbeats 4000000 in
set_option maxRecDepth 100000 in
theorem s_heads {G : tp_G} {μ : tp_M} (hG : tp_Gf G = true) {c : Nat} {f : Int → Int} (hc : tp_SH c = .inl 0) (hcl : c < 37) (hw : tp_Cw f) (hCd : tp_Cd c f μ) : tp_k G mX0_heads [tR (some c)] μ (fun r μ' => ∃ S, r = some (tL S) ∧ q_st S ∧ (∀ a, 0 ≤ a → (q_bt S a = true ↔ q_hP f (f 0) a)) ∧ μ' = μ) := by
  refine tp_ok_of mX0_heads_ok rfl (Nat.le_refl _) ?_
  have hcn : c < 234 := by omega
  have hw0 := hw.1
  have he4 := hCd.1
  refine g_aload_n rfl rfl ?_
  refine g_iconst rfl ⟨by decide, by decide⟩ ?_
  refine g_cV (as := [tI 0]) (s_set hG hc hcl hw hCd) rfl rfl mX0_set_ok rfl hc rfl hcn rfl rfl rfl ?_
  rintro _ w9 ⟨rfl, hw9⟩ _
  have hw9 := hw9.symm
  subst hw9
  refine g_lstore_n rfl rfl rfl ?_
  refine g_iconst rfl ⟨by decide, by decide⟩ ?_
  refine g_istore_n rfl rfl rfl ?_
  exact l_heads hG hc hcl hw hCd 0 (by omega) _ (by omega) (q_sb_st _ _) (fun a h => by rw [q_sb_bt hw0.2 h]; exact ⟨fun z => ⟨by omega, Or.inl z.1⟩, fun z => by rcases z with ⟨z1, z2 | ⟨b, b0, b1, _⟩⟩ <;> omega⟩)
set_option maxHeartbeats 4000000 in
set_option maxRecDepth 100000 in
theorem l_som {G : tp_G} {μ : tp_M} (hG : tp_Gf G = true) {L q : Int} (hL : q_st L) (hq1 : q ≠ -1) : ∀ k, k ≤ 40 → ∀ (h : Int), 0 ≤ k → h = q_s (q_in L) k → (∀ a, 0 ≤ a → a < k → q_in L a = 1 → q_s (q_in L) a ≠ q) → tp_g G mX11_sizeOrMember 15 [some (tL (L)), none, some (tI q), some (tI h), some (tI k)] [] μ (fun r μ' => ∃ v, r = some (tI v) ∧ q_sel (q_in L) 40 q v ∧ μ' = μ) := by
  refine tp_ind _ ?_
  intro k hkN ih h h0 hs hz
  have hsb := q_s_B (F := q_in L) (k := k) (by omega) (q_in_b L)
  rw [← hs] at hsb
  refine g_iload rfl rfl ?_
  refine g_bipush rfl ⟨by decide, by decide⟩ (by decide) ?_
  refine g_icmp_ge (tgt := 51) rfl (by decide) (fun h1 => ?_) (fun h1 => ?_)
  · refine g_iconst rfl ⟨by decide, by decide⟩ ?_
    refine x_ireturn rfl rfl ?_
    exact ⟨_, rfl, Or.inr ⟨hq1, Or.inr ⟨rfl, fun a g0 g1 g2 => hz a g0 (by omega) g2⟩⟩, rfl⟩
  · refine g_lload_n rfl rfl ?_
    refine g_iload rfl rfl ?_
    refine g_cS (as := [tI k]) (s_memberI hG (by omega) (by omega)) rfl rfl mX11_member_ok rfl rfl rfl rfl ?_
    rintro _ w9 ⟨rfl, hw9⟩ _
    have hw9 := hw9.symm
    subst hw9
    refine g_land rfl ?_
    refine g_lconst (b := 0) rfl rfl ⟨by decide, by decide⟩ ?_
    refine g_lcmp rfl ?_
    refine g_if_eq (tgt := 45) rfl (by decide) (fun h2 => ?_) (fun h2 => ?_)
    · refine x_iinc (z := k + 1) rfl rfl (by omega) ⟨by omega, by omega⟩ rfl rfl ?_
      refine g_goto (tgt := 15) rfl (by decide) ?_
      have hb := (q_lc_mem (L := L) (b := k) (by omega) (by omega)).1 (by assumption)
      exact ih (by omega) _ (by omega) (by rw [q_s1 (by omega), q_in_0 hb]; omega) (fun a g0 g1 g2 => by rcases (show a < k ∨ a = k by omega) with t | t; exact hz a g0 t g2; (rw [t, q_in_0 hb] at g2; omega))
    · refine g_iload_n rfl rfl ?_
      refine g_iload_n rfl rfl ?_
      refine g_icmp_ne (tgt := 42) rfl (by decide) (fun h3 => ?_) (fun h3 => ?_)
      · refine x_iinc (z := h + 1) rfl rfl (by omega) ⟨by omega, by omega⟩ rfl rfl ?_
        refine x_iinc (z := k + 1) rfl rfl (by omega) ⟨by omega, by omega⟩ rfl rfl ?_
        refine g_goto (tgt := 15) rfl (by decide) ?_
        have hb := q_lc_t (L := L) (b := k) (by omega) (by omega) (by assumption)
        exact ih (by omega) _ (by omega) (by rw [q_s1 (by omega), q_in_1 hb]; omega) (fun a g0 g1 g2 => by rcases (show a < k ∨ a = k by omega) with t | t; exact hz a g0 t g2; (rw [t]; omega))
      · refine g_iload rfl rfl ?_
        refine x_ireturn rfl rfl ?_
        have hb := q_lc_t (by omega) (by omega) (by assumption)
        exact ⟨_, rfl, Or.inr ⟨hq1, Or.inl ⟨⟨by omega, by omega⟩, q_in_1 hb, by omega⟩⟩, rfl⟩
set_option maxHeartbeats 4000000 in
set_option maxRecDepth 100000 in
theorem s_som {G : tp_G} {μ : tp_M} (hG : tp_Gf G = true) {L q : Int} (hL : q_st L) : tp_k G mX11_sizeOrMember [tL L, tI q] μ (fun r μ' => ∃ v, r = some (tI v) ∧ q_sel (q_in L) 40 q v ∧ μ' = μ) := by
  refine tp_ok_of mX11_sizeOrMember_ok rfl (Nat.le_refl _) ?_
  refine g_iload_n rfl rfl ?_
  refine g_iconst rfl ⟨by decide, by decide⟩ ?_
  refine g_icmp_ne (tgt := 10) rfl (by decide) (fun h1 => ?_) (fun h1 => ?_)
  · refine g_iconst rfl ⟨by decide, by decide⟩ ?_
    refine g_istore_n rfl rfl rfl ?_
    refine g_iconst rfl ⟨by decide, by decide⟩ ?_
    refine g_istore rfl rfl rfl ?_
    exact l_som hG hL (by omega) 0 (by omega) 0 (by omega) rfl (fun a g0 g1 => by omega)
  · refine g_lload_n rfl rfl ?_
    refine g_cS (as := [tL (L)]) (s_bitCount hG hL) rfl rfl mJ13_bitCount_95d88_ok rfl rfl rfl rfl ?_
    rintro _ w9 ⟨rfl, hw9⟩ _
    have hw9 := hw9.symm
    subst hw9
    refine x_ireturn rfl rfl ?_
    exact ⟨_, rfl, Or.inl ⟨by omega, rfl⟩, rfl⟩
noncomputable def q_hd (f : Int → Int) (a : Int) : Int := @ite Int (q_hP f (f 0) a) (Classical.propDecidable _) 1 0
theorem q_hd_1 {f : Int → Int} {a : Int} (h : q_hP f (f 0) a) : q_hd f a = 1 := if_pos h
theorem q_hd_0 {f : Int → Int} {a : Int} (h : ¬ q_hP f (f 0) a) : q_hd f a = 0 := if_neg h
theorem q_hd_b (f : Int → Int) (a : Int) : 0 ≤ q_hd f a ∧ q_hd f a ≤ 1 := by
  by_cases h : q_hP f (f 0) a
  · rw [q_hd_1 h]; omega
  · rw [q_hd_0 h]; omega
theorem q_hd_in {f : Int → Int} {L : Int} (h : ∀ a, 0 ≤ a → (q_bt L a = true ↔ q_hP f (f 0) a)) {a : Int} (ha : 0 ≤ a) : q_hd f a = q_in L a := by
  by_cases q : q_hP f (f 0) a
  · rw [q_hd_1 q, q_in_1 ((h a ha).2 q)]
  · rw [q_hd_0 q, q_in_0 (q_bt_f (fun z => q ((h a ha).1 z)))]
def q_hM (f : Int → Int) (a k : Int) : Prop := a = 0 ∨ (0 < a ∧ f (9 + (a - 1)) ≠ 0) ∨ ∃ b, 0 ≤ b ∧ b < k ∧ f (49 + b) = a
theorem q_hM_P {f : Int → Int} (hw : tp_Cw f) {a : Int} (h0 : 0 ≤ a) (h1 : a < f 0) : q_hM f a (f 0) ↔ q_hP f (f 0) a := by
  constructor
  · rintro (h | h | ⟨b, b0, b1, b2⟩)
    · exact ⟨h1, Or.inl h⟩
    · exact ⟨h1, Or.inr ⟨a - 1, by omega, by omega, h.2, Or.inr (by omega)⟩⟩
    · refine ⟨h1, Or.inr ⟨b, b0, b1, fun z => ?_, Or.inl b2⟩⟩
      have := (hw.2.1 b b0 b1).2.2.2 (by omega)
      omega
  · rintro ⟨_, h | ⟨b, b0, b1, b2, b3 | b3⟩⟩
    · exact Or.inl h
    · exact Or.inr (Or.inr ⟨b, b0, b1, b3⟩)
    · refine Or.inr (Or.inl ⟨by omega, ?_⟩)
      rw [show a - 1 = b by omega]
      exact b2
theorem q_or01 {s : Int} (h : s = 0 ∨ s = 1) : tp_or s 0 = s ∧ tp_or s 1 = 1 := by
  rcases h with rfl | rfl <;> exact ⟨by decide, by decide⟩
set_option maxHeartbeats 4000000 in
set_option maxRecDepth 100000 in
theorem s_behT {G : tp_G} {μ : tp_M} (hG : tp_Gf G = true) {ck : Int} {f : Int → Int} (hw : tp_Cw f) (hMc : tp_Mc ck f μ) {a : Int} (h0 : 0 ≤ a) (h1 : a < f 0) : tp_k G mX12_isBehindTurn [tR (some 201), tI a] μ (fun r μ' => ∃ v, r = some (tI v) ∧ ((v = 1 ↔ (0 < a ∧ f (9 + (a - 1)) ≠ 0)) ∧ (v = 0 ∨ v = 1)) ∧ μ' = μ) := by
  refine tp_ok_of mX12_isBehindTurn_ok rfl (Nat.le_refl _) ?_
  have hw0 := hw.1
  have hall := hMc.2.2.1
  refine g_iload_n rfl rfl ?_
  refine g_if_le (tgt := 18) rfl (by decide) (fun h1 => ?_) (fun h1 => ?_)
  · refine g_iconst rfl ⟨by decide, by decide⟩ ?_
    refine x_zreturn rfl rfl (Or.inl rfl) ?_
    exact ⟨_, rfl, by refine ⟨?_, by omega⟩; exact ⟨fun z => absurd z (by decide), fun z => absurd z (by omega)⟩, rfl⟩
  · refine g_aload_n rfl rfl ?_
    refine g_iload_n rfl rfl ?_
    refine g_iconst rfl ⟨by decide, by decide⟩ ?_
    refine x_isub (z := a - 1) rfl (by omega) ⟨by omega, by omega⟩ ?_
    refine g_cV (as := [tI (a - 1)]) (s_kindM hG hMc (by omega) (by omega)) rfl rfl mX12_kindAt_ok rfl rfl rfl (by decide) rfl rfl rfl ?_
    rintro _ w9 ⟨rfl, hw9⟩ _
    have hw9 := hw9.symm
    subst hw9
    refine g_if_eq (tgt := 18) rfl (by decide) (fun h2 => ?_) (fun h2 => ?_)
    · refine g_iconst rfl ⟨by decide, by decide⟩ ?_
      refine x_zreturn rfl rfl (Or.inl rfl) ?_
      exact ⟨_, rfl, by refine ⟨?_, by omega⟩; exact ⟨fun z => absurd z (by decide), fun z => absurd z (by omega)⟩, rfl⟩
    · refine g_iconst rfl ⟨by decide, by decide⟩ ?_
      refine g_goto (tgt := 19) rfl (by decide) ?_
      refine x_zreturn rfl rfl (Or.inr rfl) ?_
      exact ⟨_, rfl, by refine ⟨?_, by omega⟩; exact ⟨fun _ => ⟨by omega, by assumption⟩, fun _ => rfl⟩, rfl⟩
set_option maxHeartbeats 4000000 in
set_option maxRecDepth 100000 in
theorem l_isHead {G : tp_G} {μ : tp_M} (hG : tp_Gf G = true) {ck : Int} {f : Int → Int} (hw : tp_Cw f) (hMc : tp_Mc ck f μ) {a : Int} (h0a : 0 ≤ a) (h1a : a < f 0) : ∀ k, k ≤ f 0 → ∀ (s : Int), 0 ≤ k → (s = 1 ↔ q_hM f a k) → (s = 0 ∨ s = 1) → tp_g G mX12_isHead 20 [some (tR (some 201)), some (tI a), some (tI s), some (tI k)] [] μ (fun r μ' => r = some (tI (q_hd f a)) ∧ μ' = μ) := by
  have hw0 := hw.1
  have hall := hMc.2.2.1
  refine tp_ind _ ?_
  intro k hkN ih s h0 hI hs
  refine g_iload_n rfl rfl ?_
  refine g_aload_n rfl rfl ?_
  refine x_geti (v := (μ.1 201 26)) rfl rfl (by decide) (Or.inl rfl) rfl ?_
  refine g_icmp_ge (tgt := 54) rfl (by decide) (fun h1 => ?_) (fun h1 => ?_)
  · refine g_iload_n rfl rfl ?_
    refine x_zreturn rfl rfl (by omega) ?_
    have hk4 : k = f 0 := by omega
    rw [hk4, q_hM_P hw h0a h1a] at hI
    refine ⟨?_, rfl⟩
    by_cases q9 : q_hP f (f 0) a
    · rw [q_hd_1 q9, hI.2 q9]
    · rw [q_hd_0 q9]
      rcases hs with hs | hs
      · rw [hs]
      · exact absurd (hI.1 hs) q9
  · refine g_iload_n rfl rfl ?_
    refine g_aload_n rfl rfl ?_
    refine g_bipush rfl ⟨by decide, by decide⟩ (by decide) ?_
    refine g_iload_n rfl rfl ?_
    refine x_iadd (z := k + 49) rfl (by omega) ⟨by omega, by omega⟩ ?_
    refine g_cV (as := [tI (k + 49)]) (s_of hG hMc (by omega) (by omega)) rfl rfl mX12_of_ok rfl rfl rfl (by decide) rfl rfl rfl ?_
    rintro _ w9 ⟨rfl, hw9⟩ _
    have hw9 := hw9.symm
    subst hw9
    refine g_iload_n rfl rfl ?_
    refine g_icmp_ne (tgt := 45) rfl (by decide) (fun h2 => ?_) (fun h2 => ?_)
    · refine g_iconst rfl ⟨by decide, by decide⟩ ?_
      refine g_ior rfl ?_
      refine g_istore_n rfl rfl rfl ?_
      refine x_iinc (z := k + 1) rfl rfl (by omega) ⟨by omega, by omega⟩ rfl rfl ?_
      refine g_goto (tgt := 20) rfl (by decide) ?_
      exact ih (by omega) _ (by omega) (by
        rw [(q_or01 hs).1, hI]
        refine ⟨fun z => ?_, fun z => ?_⟩
        · rcases z with z | z | ⟨b, b0, b1, b2⟩
          · exact Or.inl z
          · exact Or.inr (Or.inl z)
          · exact Or.inr (Or.inr ⟨b, b0, by omega, b2⟩)
        · rcases z with z | z | ⟨b, b0, b1, b2⟩
          · exact Or.inl z
          · exact Or.inr (Or.inl z)
          · rcases (show b < k ∨ b = k by omega) with t | t
            · exact Or.inr (Or.inr ⟨b, b0, t, b2⟩)
            · rw [t, show (49 : Int) + k = k + 49 by omega] at b2; exact absurd b2 (by assumption)) (by rw [(q_or01 hs).1]; exact hs)
    · refine g_iconst rfl ⟨by decide, by decide⟩ ?_
      refine g_goto (tgt := 46) rfl (by decide) ?_
      refine g_ior rfl ?_
      refine g_istore_n rfl rfl rfl ?_
      refine x_iinc (z := k + 1) rfl rfl (by omega) ⟨by omega, by omega⟩ rfl rfl ?_
      refine g_goto (tgt := 20) rfl (by decide) ?_
      exact ih (by omega) _ (by omega) (by rw [(q_or01 hs).2]; exact ⟨fun _ => Or.inr (Or.inr ⟨k, h0, by omega, by rw [show (49 : Int) + k = k + 49 by omega]; assumption⟩), fun _ => rfl⟩) (by rw [(q_or01 hs).2]; omega)
set_option maxHeartbeats 4000000 in
set_option maxRecDepth 100000 in
theorem s_isHead {G : tp_G} {μ : tp_M} (hG : tp_Gf G = true) {ck : Int} {f : Int → Int} (hw : tp_Cw f) (hMc : tp_Mc ck f μ) {a : Int} (h0a : 0 ≤ a) (h1a : a < f 0) : tp_k G mX12_isHead [tR (some 201), tI a] μ (fun r μ' => r = some (tI (q_hd f a)) ∧ μ' = μ) := by
  refine tp_ok_of mX12_isHead_ok rfl (Nat.le_refl _) ?_
  have hw0 := hw.1
  have hall := hMc.2.2.1
  refine g_iload_n rfl rfl ?_
  refine g_if_eq (tgt := 12) rfl (by decide) (fun h1 => ?_) (fun h1 => ?_)
  · refine g_iconst rfl ⟨by decide, by decide⟩ ?_
    refine g_goto (tgt := 17) rfl (by decide) ?_
    refine g_istore_n rfl rfl rfl ?_
    refine g_iconst rfl ⟨by decide, by decide⟩ ?_
    refine g_istore_n rfl rfl rfl ?_
    exact l_isHead hG hw hMc h0a h1a 0 (by omega) 1 (by omega) ⟨fun _ => by first | exact Or.inl (by omega) | exact Or.inr (Or.inl (hv1.1 (by omega))), fun _ => rfl⟩ (by omega)
  · refine g_aload_n rfl rfl ?_
    refine g_iload_n rfl rfl ?_
    refine g_cV (as := [tI a]) (s_behT hG hw hMc (by omega) (by omega)) rfl rfl mX12_isBehindTurn_ok rfl rfl rfl (by decide) rfl rfl rfl ?_
    rintro _ w9 ⟨hv, rfl, ⟨hv1, hv2⟩, hw9⟩ _
    have hw9 := hw9.symm
    subst hw9
    refine g_if_eq (tgt := 16) rfl (by decide) (fun h2 => ?_) (fun h2 => ?_)
    · refine g_iconst rfl ⟨by decide, by decide⟩ ?_
      refine g_istore_n rfl rfl rfl ?_
      refine g_iconst rfl ⟨by decide, by decide⟩ ?_
      refine g_istore_n rfl rfl rfl ?_
      exact l_isHead hG hw hMc h0a h1a 0 (by omega) 0 (by omega) ⟨fun z => absurd z (by decide), fun z => by rcases z with z | z | ⟨b, b0, b1, b2⟩; omega; (have := hv1.2 z; omega); omega⟩ (by omega)
    · refine g_iconst rfl ⟨by decide, by decide⟩ ?_
      refine g_goto (tgt := 17) rfl (by decide) ?_
      refine g_istore_n rfl rfl rfl ?_
      refine g_iconst rfl ⟨by decide, by decide⟩ ?_
      refine g_istore_n rfl rfl rfl ?_
      exact l_isHead hG hw hMc h0a h1a 0 (by omega) 1 (by omega) ⟨fun _ => by first | exact Or.inl (by omega) | exact Or.inr (Or.inl (hv1.1 (by omega))), fun _ => rfl⟩ (by omega)
set_option maxHeartbeats 4000000 in
set_option maxRecDepth 100000 in
theorem l_headM {G : tp_G} {μ : tp_M} (hG : tp_Gf G = true) {ck : Int} {f : Int → Int} (hw : tp_Cw f) (hMc : tp_Mc ck f μ) {q : Int} {x1 : Option tp_V} : ∀ k, k ≤ f 0 → ∀ (h : Int), 0 ≤ k → h = q_s (q_hd f) k → (∀ a, 0 ≤ a → a < k → q_hd f a = 1 → q_s (q_hd f) a ≠ q) → tp_g G mX12_head 20 [some (tR (some 201)), x1, some (tI q), some (tI h), some (tI k)] [] μ (fun r μ' => ∃ v, r = some (tI v) ∧ q_sel (q_hd f) (f 0) q v ∧ μ' = μ) := by
  have hw0 := hw.1
  have hall := hMc.2.2.1
  refine tp_ind _ ?_
  intro k hkN ih h h0 hs hz
  have hsb := q_s_B (F := q_hd f) (k := k) (by omega) (q_hd_b f)
  rw [← hs] at hsb
  refine g_iload rfl rfl ?_
  refine g_aload_n rfl rfl ?_
  refine x_geti (v := (μ.1 201 26)) rfl rfl (by decide) (Or.inl rfl) rfl ?_
  refine g_icmp_ge (tgt := 55) rfl (by decide) (fun h1 => ?_) (fun h1 => ?_)
  · refine g_iload_n rfl rfl ?_
    refine g_iconst rfl ⟨by decide, by decide⟩ ?_
    refine g_icmp_ne (tgt := 64) rfl (by decide) (fun h2 => ?_) (fun h2 => ?_)
    · refine g_iconst rfl ⟨by decide, by decide⟩ ?_
      refine x_ireturn rfl rfl ?_
      exact ⟨_, rfl, Or.inr ⟨by omega, Or.inr ⟨rfl, fun a g0 g1 g2 => hz a g0 (by omega) g2⟩⟩, rfl⟩
    · refine g_iload_n rfl rfl ?_
      refine g_goto (tgt := 65) rfl (by decide) ?_
      refine x_ireturn rfl rfl ?_
      exact ⟨_, rfl, Or.inl ⟨by omega, by rw [show f 0 = k by omega]; exact hs⟩, rfl⟩
  · refine g_aload_n rfl rfl ?_
    refine g_iload rfl rfl ?_
    refine g_cV (as := [tI k]) (s_isHead hG hw hMc (by omega) (by omega)) rfl rfl mX12_isHead_ok rfl rfl rfl (by decide) rfl rfl rfl ?_
    rintro _ w9 ⟨rfl, hw9⟩ _
    have hw9 := hw9.symm
    subst hw9
    have hqb := q_hd_b f (k)
    refine g_if_eq (tgt := 49) rfl (by decide) (fun h3 => ?_) (fun h3 => ?_)
    · refine x_iinc (z := k + 1) rfl rfl (by omega) ⟨by omega, by omega⟩ rfl rfl ?_
      refine g_goto (tgt := 20) rfl (by decide) ?_
      exact ih (by omega) _ (by omega) (by rw [q_s1 (by omega)]; omega) (fun a g0 g1 g2 => by rcases (show a < k ∨ a = k by omega) with t | t; exact hz a g0 t g2; (rw [t] at g2 ⊢; omega))
    · refine g_iload_n rfl rfl ?_
      refine g_iload_n rfl rfl ?_
      refine g_icmp_ne (tgt := 46) rfl (by decide) (fun h4 => ?_) (fun h4 => ?_)
      · refine x_iinc (z := h + 1) rfl rfl (by omega) ⟨by omega, by omega⟩ rfl rfl ?_
        refine x_iinc (z := k + 1) rfl rfl (by omega) ⟨by omega, by omega⟩ rfl rfl ?_
        refine g_goto (tgt := 20) rfl (by decide) ?_
        exact ih (by omega) _ (by omega) (by rw [q_s1 (by omega)]; omega) (fun a g0 g1 g2 => by rcases (show a < k ∨ a = k by omega) with t | t; exact hz a g0 t g2; (rw [t] at g2 ⊢; omega))
      · refine g_iload rfl rfl ?_
        refine x_ireturn rfl rfl ?_
        exact ⟨_, rfl, Or.inr ⟨by omega, Or.inl ⟨⟨by omega, by omega⟩, by omega, by omega⟩⟩, rfl⟩
set_option maxHeartbeats 4000000 in
set_option maxRecDepth 100000 in
theorem s_hasC0 {G : tp_G} {μ : tp_M} (hG : tp_Gf G = true) (h : 0 < μ.1 206 0) (h2 : 0 ≤ μ.1 206 0 ∧ μ.1 206 0 ≤ 2) : tp_k G mX12_hasCode [tR (some 201), tI 0] μ (fun r μ' => r = some (tI 1) ∧ tp_Mc 0 (tp_cf μ 0) μ' ∧ m_G μ μ') := by
  refine tp_ok_of mX12_hasCode_ok rfl (Nat.le_refl _) ?_
  refine g_aload_n rfl rfl ?_
  refine g_iload_n rfl rfl ?_
  refine g_puti rfl rfl (by decide) rfl rfl ?_
  refine g_aload_n rfl rfl ?_
  refine g_iconst rfl ⟨by decide, by decide⟩ ?_
  refine g_iload_n rfl rfl ?_
  refine g_iV (as := [tI 0, tI 0]) mX12_is_ok rfl rfl rfl rfl rfl rfl (by decide) rfl rfl rfl ?_
  refine g_iload_n rfl rfl ?_
  refine g_iconst rfl ⟨by decide, by decide⟩ ?_
  refine g_aload_n rfl rfl ?_
  refine x_getF (r := 206) hG rfl rfl (by decide) (Or.inr ⟨_, rfl⟩) rfl ?_
  refine g_iload_n rfl rfl ?_
  refine x_iald (v := (μ.1 206 0)) rfl rfl (by decide) (by decide) (by decide) rfl ?_
  refine g_iconst rfl ⟨by decide, by decide⟩ ?_
  refine x_isub (z := (μ.1 206 0) - 1) rfl (by omega) ⟨by omega, by omega⟩ ?_
  refine g_iS (as := [tI 0, tI 0, tI ((μ.1 206 0) - 1)]) mX12_in_ok rfl rfl rfl rfl rfl rfl rfl ?_
  refine g_iload_n rfl rfl ?_
  refine g_iload_n rfl rfl ?_
  refine g_icmp_lt (tgt := 14) rfl (by decide) (fun hx => absurd hx (by omega)) (fun _ => ?_)
  refine g_iload_n rfl rfl ?_
  refine g_iload_n rfl rfl ?_
  refine g_icmp_gt (tgt := 14) rfl (by decide) (fun hx => absurd hx (by omega)) (fun _ => ?_)
  refine g_iconst rfl ⟨by decide, by decide⟩ ?_
  refine g_goto (tgt := 15) rfl (by decide) ?_
  refine x_zreturn rfl rfl (Or.inr rfl) ?_
  intro _
  refine x_zreturn rfl rfl (Or.inr rfl) ?_
  intro _
  refine g_if_ne (tgt := 16) rfl (by decide) (fun _ => ?_) (fun hx => absurd hx (by omega))
  refine g_aload_n rfl rfl ?_
  refine g_aload_n rfl rfl ?_
  refine g_iconst rfl ⟨by decide, by decide⟩ ?_
  refine g_iV (as := [tI 0]) mX12_of_ok rfl rfl rfl rfl rfl rfl (by decide) rfl rfl rfl ?_
  refine g_aload_n rfl rfl ?_
  refine x_getF (r := 207) hG rfl rfl (by decide) (Or.inr ⟨_, rfl⟩) rfl ?_
  refine g_sipush rfl ⟨by decide, by decide⟩ (by decide) ?_
  refine g_aload_n rfl rfl ?_
  refine x_geti (v := 0) rfl rfl (by decide) (Or.inl rfl) rfl ?_
  refine x_imul (z := 0) rfl (by omega) ⟨by omega, by omega⟩ ?_
  refine g_iload_n rfl rfl ?_
  refine x_iadd (z := 0) rfl (by omega) ⟨by omega, by omega⟩ ?_
  refine x_iald (v := (μ.1 207 0)) rfl rfl (by decide) (by decide) (by decide) rfl ?_
  refine x_ireturn rfl rfl ?_
  intro _
  refine g_puti rfl rfl (by decide) rfl rfl ?_
  refine g_iconst rfl ⟨by decide, by decide⟩ ?_
  refine x_zreturn rfl rfl (Or.inr rfl) ?_
  exact ⟨rfl, ⟨⟨by decide, by decide⟩, rfl, rfl, fun i _ _ => rfl⟩, ⟨fun c9 z9 _ => by rw [tp_pi_ne (by omega), tp_pi_ne (by omega)], fun j z9 => by rw [tp_pi_ix (by omega), tp_pi_ix (by omega)]⟩⟩
set_option maxHeartbeats 4000000 in
set_option maxRecDepth 100000 in
theorem s_hasC1 {G : tp_G} {μ : tp_M} (hG : tp_Gf G = true) (h : 1 < μ.1 206 0) (h2 : 0 ≤ μ.1 206 0 ∧ μ.1 206 0 ≤ 2) : tp_k G mX12_hasCode [tR (some 201), tI 1] μ (fun r μ' => r = some (tI 1) ∧ tp_Mc 1 (tp_cf μ 1) μ' ∧ m_G μ μ') := by
  refine tp_ok_of mX12_hasCode_ok rfl (Nat.le_refl _) ?_
  refine g_aload_n rfl rfl ?_
  refine g_iload_n rfl rfl ?_
  refine g_puti rfl rfl (by decide) rfl rfl ?_
  refine g_aload_n rfl rfl ?_
  refine g_iconst rfl ⟨by decide, by decide⟩ ?_
  refine g_iload_n rfl rfl ?_
  refine g_iV (as := [tI 0, tI 1]) mX12_is_ok rfl rfl rfl rfl rfl rfl (by decide) rfl rfl rfl ?_
  refine g_iload_n rfl rfl ?_
  refine g_iconst rfl ⟨by decide, by decide⟩ ?_
  refine g_aload_n rfl rfl ?_
  refine x_getF (r := 206) hG rfl rfl (by decide) (Or.inr ⟨_, rfl⟩) rfl ?_
  refine g_iload_n rfl rfl ?_
  refine x_iald (v := (μ.1 206 0)) rfl rfl (by decide) (by decide) (by decide) rfl ?_
  refine g_iconst rfl ⟨by decide, by decide⟩ ?_
  refine x_isub (z := (μ.1 206 0) - 1) rfl (by omega) ⟨by omega, by omega⟩ ?_
  refine g_iS (as := [tI 1, tI 0, tI ((μ.1 206 0) - 1)]) mX12_in_ok rfl rfl rfl rfl rfl rfl rfl ?_
  refine g_iload_n rfl rfl ?_
  refine g_iload_n rfl rfl ?_
  refine g_icmp_lt (tgt := 14) rfl (by decide) (fun hx => absurd hx (by omega)) (fun _ => ?_)
  refine g_iload_n rfl rfl ?_
  refine g_iload_n rfl rfl ?_
  refine g_icmp_gt (tgt := 14) rfl (by decide) (fun hx => absurd hx (by omega)) (fun _ => ?_)
  refine g_iconst rfl ⟨by decide, by decide⟩ ?_
  refine g_goto (tgt := 15) rfl (by decide) ?_
  refine x_zreturn rfl rfl (Or.inr rfl) ?_
  intro _
  refine x_zreturn rfl rfl (Or.inr rfl) ?_
  intro _
  refine g_if_ne (tgt := 16) rfl (by decide) (fun _ => ?_) (fun hx => absurd hx (by omega))
  refine g_aload_n rfl rfl ?_
  refine g_aload_n rfl rfl ?_
  refine g_iconst rfl ⟨by decide, by decide⟩ ?_
  refine g_iV (as := [tI 0]) mX12_of_ok rfl rfl rfl rfl rfl rfl (by decide) rfl rfl rfl ?_
  refine g_aload_n rfl rfl ?_
  refine x_getF (r := 207) hG rfl rfl (by decide) (Or.inr ⟨_, rfl⟩) rfl ?_
  refine g_sipush rfl ⟨by decide, by decide⟩ (by decide) ?_
  refine g_aload_n rfl rfl ?_
  refine x_geti (v := 1) rfl rfl (by decide) (Or.inl rfl) rfl ?_
  refine x_imul (z := 129) rfl (by omega) ⟨by omega, by omega⟩ ?_
  refine g_iload_n rfl rfl ?_
  refine x_iadd (z := 129) rfl (by omega) ⟨by omega, by omega⟩ ?_
  refine x_iald (v := (μ.1 207 129)) rfl rfl (by decide) (by decide) (by decide) rfl ?_
  refine x_ireturn rfl rfl ?_
  intro _
  refine g_puti rfl rfl (by decide) rfl rfl ?_
  refine g_iconst rfl ⟨by decide, by decide⟩ ?_
  refine x_zreturn rfl rfl (Or.inr rfl) ?_
  exact ⟨rfl, ⟨⟨by decide, by decide⟩, rfl, rfl, fun i _ _ => rfl⟩, ⟨fun c9 z9 _ => by rw [tp_pi_ne (by omega), tp_pi_ne (by omega)], fun j z9 => by rw [tp_pi_ix (by omega), tp_pi_ix (by omega)]⟩⟩
set_option maxHeartbeats 4000000 in
set_option maxRecDepth 100000 in
theorem s_hasCo {G : tp_G} {μ : tp_M} (hG : tp_Gf G = true) {k : Int} (h : (k < 0 ∨ μ.1 206 0 ≤ k) ∧ (0 ≤ μ.1 206 0 ∧ μ.1 206 0 ≤ 2)) : tp_k G mX12_hasCode [tR (some 201), tI k] μ (fun r μ' => r = some (tI 0) ∧ m_G μ μ') := by
  refine tp_ok_of mX12_hasCode_ok rfl (Nat.le_refl _) ?_
  refine g_aload_n rfl rfl ?_
  refine g_iload_n rfl rfl ?_
  refine g_puti rfl rfl (by decide) rfl rfl ?_
  refine g_aload_n rfl rfl ?_
  refine g_iconst rfl ⟨by decide, by decide⟩ ?_
  refine g_iload_n rfl rfl ?_
  refine g_iV (as := [tI 0, tI k]) mX12_is_ok rfl rfl rfl rfl rfl rfl (by decide) rfl rfl rfl ?_
  refine g_iload_n rfl rfl ?_
  refine g_iconst rfl ⟨by decide, by decide⟩ ?_
  refine g_aload_n rfl rfl ?_
  refine x_getF (r := 206) hG rfl rfl (by decide) (Or.inr ⟨_, rfl⟩) rfl ?_
  refine g_iload_n rfl rfl ?_
  refine x_iald (v := (μ.1 206 0)) rfl rfl (by decide) (by decide) (by decide) rfl ?_
  refine g_iconst rfl ⟨by decide, by decide⟩ ?_
  refine x_isub (z := (μ.1 206 0) - 1) rfl (by omega) ⟨by omega, by omega⟩ ?_
  refine g_iS (as := [tI k, tI 0, tI ((μ.1 206 0) - 1)]) mX12_in_ok rfl rfl rfl rfl rfl rfl rfl ?_
  refine g_iload_n rfl rfl ?_
  refine g_iload_n rfl rfl ?_
  refine g_icmp_lt (tgt := 14) rfl (by decide) (fun h1 => ?_) (fun h1 => ?_)
  · first
      | omega
      | refine g_iconst rfl ⟨by decide, by decide⟩ ?_
        refine x_zreturn rfl rfl (Or.inl rfl) ?_
        intro _
        refine x_zreturn rfl rfl (Or.inl rfl) ?_
        intro _
        refine g_if_ne (tgt := 16) rfl (by decide) (fun hx => absurd hx (by omega)) (fun _ => ?_)
        refine g_iconst rfl ⟨by decide, by decide⟩ ?_
        refine x_zreturn rfl rfl (Or.inl rfl) ?_
        exact ⟨rfl, ⟨fun c9 z9 _ => by rw [tp_pi_ne (by omega)], fun j z9 => by rw [tp_pi_ix (by omega)]⟩⟩
  · first
      | omega
      | refine g_iload_n rfl rfl ?_
        refine g_iload_n rfl rfl ?_
        refine g_icmp_gt (tgt := 14) rfl (by decide) (fun h2 => ?_) (fun h2 => ?_)
        · first
            | omega
            | refine g_iconst rfl ⟨by decide, by decide⟩ ?_
              refine x_zreturn rfl rfl (Or.inl rfl) ?_
              intro _
              refine x_zreturn rfl rfl (Or.inl rfl) ?_
              intro _
              refine g_if_ne (tgt := 16) rfl (by decide) (fun hx => absurd hx (by omega)) (fun _ => ?_)
              refine g_iconst rfl ⟨by decide, by decide⟩ ?_
              refine x_zreturn rfl rfl (Or.inl rfl) ?_
              exact ⟨rfl, ⟨fun c9 z9 _ => by rw [tp_pi_ne (by omega)], fun j z9 => by rw [tp_pi_ix (by omega)]⟩⟩
        · first
            | omega
            | refine g_iconst rfl ⟨by decide, by decide⟩ ?_
              refine g_goto (tgt := 15) rfl (by decide) ?_
              refine x_zreturn rfl rfl (Or.inr rfl) ?_
              intro _
              refine x_zreturn rfl rfl (Or.inr rfl) ?_
              intro _
              refine g_if_ne (tgt := 16) rfl (by decide) (fun _ => ?_) (fun hx => absurd hx (by omega))
              refine g_aload_n rfl rfl ?_
              refine g_aload_n rfl rfl ?_
              refine g_iconst rfl ⟨by decide, by decide⟩ ?_
              refine g_cV (as := [tI 0]) (X) rfl rfl mX12_of_ok rfl rfl rfl (by decide) rfl rfl rfl ?_
              rintro _ w9 ⟨rfl, hw9⟩ _
              have hw9 := hw9.symm
              subst hw9
              refine g_puti rfl rfl (by decide) rfl rfl ?_
              refine g_iconst rfl ⟨by decide, by decide⟩ ?_
              refine x_zreturn rfl rfl (Or.inr rfl) ?_
              exact ⟨rfl, ⟨fun c9 z9 _ => by rw [tp_pi_ne (by omega)], fun j z9 => by rw [tp_pi_ix (by omega)]⟩⟩
theorem tp_cdL {G : tp_G} {μ : tp_M} (hG : tp_Gf G = true) (hR : tp_R μ) {k : Nat} (hk : k < 2) (hk1 : (k : Int) < μ.1 5 0) : ∃ (f : Int → Int) (c : Nat), f = tp_cf μ k ∧ c = 6 + 5 * k ∧ tp_SH c = .inl 0 ∧ c < 37 ∧ tp_Cw f ∧ tp_Cd c f μ ∧ tp_k G mX9_codeOf [tR (some 1), tI k] μ (fun r μ' => r = some (tR (some c)) ∧ μ' = μ) ∧ ∀ w, tp_kp μ w → tp_k G mX12_hasCode [tR (some 201), tI k] w (fun r μ' => r = some (tI 1) ∧ tp_Mc k f μ' ∧ m_G w μ') := by
  have hC := tp_Cd_R hR hk hk1
  have hm := tp_R_many hR 0 (by decide) (by decide)
  have hkf : ∀ w, tp_kp μ w → tp_cf w k = tp_cf μ k := fun w h => by unfold tp_cf; rw [h 207 (by unfold tp_tl; omega)]
  have hkm : ∀ w, tp_kp μ w → w.1 206 0 = μ.1 5 0 := fun w h => by rw [h 206 (by unfold tp_tl; omega)]; exact hm.1.symm
  rcases (show k = 0 ∨ k = 1 by omega) with rfl | rfl
  · refine ⟨_, _, rfl, rfl, rfl, by decide, hC.2, hC.1, s_codeOf0 hG hk1, fun w h => ?_⟩
    rw [← hkf w h]
    exact s_hasC0 hG (by rw [hkm w h]; exact hk1) (by rw [hkm w h]; exact hm.2)
  · refine ⟨_, _, rfl, rfl, rfl, by decide, hC.2, hC.1, s_codeOf1 hG hk1, fun w h => ?_⟩
    rw [← hkf w h]
    exact s_hasC1 hG (by rw [hkm w h]; exact hk1) (by rw [hkm w h]; exact hm.2)
set_option maxHeartbeats 4000000 in
set_option maxRecDepth 100000 in
theorem p_head {G : tp_G} (hG : tp_Gf G = true) {a k : Int} : tp_pair G mX11_head mX12_head [tI a, tI k] := by
  intro μ hR
  have hm0 := tp_R_many hR 0 (by decide) (by decide)
  by_cases hab : (a < 0 ∨ μ.1 5 0 ≤ a)
  · have hab9 : ∀ w, tp_kp μ w → ((a < 0 ∨ w.1 206 0 ≤ a) ∧ (0 ≤ w.1 206 0 ∧ w.1 206 0 ≤ 2)) := fun w h => by rw [h 206 (by unfold tp_tl; omega)]; omega
    refine tp_ok_of mX11_head_ok rfl (Nat.le_refl _) ?_
    refine g_aload_n rfl rfl ?_
    refine x_getF (r := 1) hG rfl rfl (by decide) (Or.inl ⟨_, rfl⟩) rfl ?_
    refine g_iload_n rfl rfl ?_
    refine g_cV (as := [tI a]) (s_codeOfo hG ⟨hab, hm0.2.2⟩) rfl rfl mX9_codeOf_ok rfl rfl rfl (by decide) rfl rfl rfl ?_
    rintro _ w9 ⟨rfl, hw9⟩ _
    have hw9 := hw9.symm
    subst hw9
    refine g_astore_n rfl rfl rfl ?_
    refine g_aload_n rfl rfl ?_
    refine g_ifnonnull (tgt := 17) rfl (by decide) (fun _ hx => by cases hx) (fun _ => ?_)
    refine g_iconst rfl ⟨by decide, by decide⟩ ?_
    refine g_goto (tgt := 25) rfl (by decide) ?_
    refine x_ireturn rfl rfl ?_
    refine ⟨_, rfl, ?_⟩
    refine tp_ok_of mX12_head_ok rfl (Nat.le_refl _) ?_
    refine g_aload_n rfl rfl ?_
    refine g_iconst rfl ⟨by decide, by decide⟩ ?_
    refine g_puti rfl rfl (by decide) rfl rfl ?_
    refine g_aload_n rfl rfl ?_
    refine g_iload_n rfl rfl ?_
    refine g_cV (as := [tI a]) (s_hasCo hG (hab9 _ (tp_kp_pi (by decide) tp_kp_rf))) rfl rfl mX12_hasCode_ok rfl rfl rfl (by decide) rfl rfl rfl ?_
    rintro _ w2 ⟨rfl, hGm⟩ _
    have hkp2 : tp_kp μ w2 := m_G_kp (tp_kp_pi (by decide) tp_kp_rf) hGm
    refine g_if_ne (tgt := 15) rfl (by decide) (fun hx => absurd hx (by omega)) (fun _ => ?_)
    refine g_iconst rfl ⟨by decide, by decide⟩ ?_
    refine x_ireturn rfl rfl ?_
    exact ⟨rfl, tp_R_kp hR hkp2⟩
  · obtain ⟨a, rfl⟩ : ∃ a9 : Nat, a = (a9 : Int) := ⟨a.toNat, by omega⟩
    obtain ⟨f, c, hfE, hcE, hc, hcl, hw, hCd, hX, hM⟩ := tp_cdL hG hR (k := a) (by omega) (by omega)
    have hcn : c < 234 := by omega
    have hw0 := hw.1
    refine tp_ok_of mX11_head_ok rfl (Nat.le_refl _) ?_
    refine g_aload_n rfl rfl ?_
    refine x_getF (r := 1) hG rfl rfl (by decide) (Or.inl ⟨_, rfl⟩) rfl ?_
    refine g_iload_n rfl rfl ?_
    refine g_cV (as := [tI (a : Int)]) (hX) rfl rfl mX9_codeOf_ok rfl rfl rfl (by decide) rfl rfl rfl ?_
    rintro _ w9 ⟨rfl, hw9⟩ _
    have hw9 := hw9.symm
    subst hw9
    refine g_astore_n rfl rfl rfl ?_
    refine g_aload_n rfl rfl ?_
    refine g_ifnonnull (tgt := 17) rfl (by decide) (fun _ _ => ?_) (fun hx => by cases hx)
    refine g_aload_n rfl rfl ?_
    refine g_cV (as := []) (s_heads hG hc hcl hw hCd) rfl rfl mX0_heads_ok rfl hc rfl hcn rfl rfl rfl ?_
    rintro _ w9 ⟨S, rfl, hS, hB, hw9⟩ _
    have hw9 := hw9.symm
    subst hw9
    refine g_iload_n rfl rfl ?_
    refine g_cS (as := [tL (S), tI k]) (s_som hG hS) rfl rfl mX11_sizeOrMember_ok rfl rfl rfl rfl ?_
    rintro _ w9 ⟨v, rfl, hq, hw9⟩ _
    have hw9 := hw9.symm
    subst hw9
    refine x_ireturn rfl rfl ?_
    refine ⟨_, rfl, ?_⟩
    refine tp_ok_of mX12_head_ok rfl (Nat.le_refl _) ?_
    refine g_aload_n rfl rfl ?_
    refine g_iconst rfl ⟨by decide, by decide⟩ ?_
    refine g_puti rfl rfl (by decide) rfl rfl ?_
    refine g_aload_n rfl rfl ?_
    refine g_iload_n rfl rfl ?_
    refine g_cV (as := [tI (a : Int)]) (hM _ (tp_kp_pi (by decide) tp_kp_rf)) rfl rfl mX12_hasCode_ok rfl rfl rfl (by decide) rfl rfl rfl ?_
    rintro _ w2 ⟨rfl, hMc, hGm⟩ _
    have hkp2 : tp_kp μ w2 := m_G_kp (tp_kp_pi (by decide) tp_kp_rf) hGm
    have hall := hMc.2.2.1
    refine g_if_ne (tgt := 15) rfl (by decide) (fun _ => ?_) (fun hx => absurd hx (by omega))
    refine g_iconst rfl ⟨by decide, by decide⟩ ?_
    refine g_istore_n rfl rfl rfl ?_
    refine g_iconst rfl ⟨by decide, by decide⟩ ?_
    refine g_istore rfl rfl rfl ?_
    refine tp_conseq (fun r9 μ8 q8 => ?_) (l_headM hG hw hMc 0 (by omega) 0 (by omega) rfl (fun a g0 g1 => by omega))
    obtain ⟨v2, rfl, hq2, e8⟩ := q8
    have e8 := e8.symm
    subst e8
    exact ⟨by rw [q_sel_u (fun a => (q_hd_b f a).1) (q_sel_x (M := 40) hw0.1 hw0.2 (fun a g0 g1 => q_hd_0 (fun z => by have := z.1; omega)) hq2) (q_sel_c (by omega) (fun a g0 g1 => q_hd_in hB g0) hq)], tp_R_kp hR hkp2⟩
