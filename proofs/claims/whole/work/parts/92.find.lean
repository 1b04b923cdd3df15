/-! how often an address is rebuilt without one packet -/
noncomputable def q_J (s : v_T) (n : Int) : Int → Int := Classical.epsilon (fun J => v_J s n J)
theorem q_J_s {s : v_T} {n : Int} (h : ∃ J, v_J s n J) : v_J s n (q_J s n) := Classical.epsilon_spec h
noncomputable def q_Jp (n : Int) (σ : tp_M) (p : Int) : Int → Int := q_J (v_S (v_1 p) σ (σ.1 0 9)) n
theorem q_Jp_s {f A B Y : Int → Int} {dp n : Int} {σ : tp_M} (hn : 0 ≤ n) (hp : 0 ≤ σ.1 0 9) (H : ∀ p, 0 ≤ p → p < σ.1 0 9 → s_H f A B Y dp n σ p) (p : Int) : v_J (v_S (v_1 p) σ (σ.1 0 9)) n (q_Jp n σ p) := q_J_s (v_J_ex (v_I_all (l := v_1 p) H hp (Int.le_refl _)) (v_K_n hn H))
noncomputable def q_O (A : Int → Int) (n : Int) (σ : tp_M) (p a : Int) : Int := q_s (q_ra A (q_Jp n σ p) (q_WZ σ p) a) n
theorem q_O_b {A : Int → Int} {n : Int} {σ : tp_M} (hn : 0 ≤ n) (p a : Int) : 0 ≤ q_O A n σ p a ∧ q_O A n σ p a ≤ n := q_s_B hn (fun j => q_ra_b _ _ _ _ j)
def q_fP (A : Int → Int) (n : Int) (σ : tp_M) (g : Int → Int) (m p : Int) : Prop := ∀ k, 0 ≤ k → k < m → q_O A n σ p (g (1 + 2 * k)) = g (2 + 2 * k)
noncomputable def q_fl (A : Int → Int) (n : Int) (σ : tp_M) (g : Int → Int) : Nat → Int × (Int → Int)
  | 0 => (0, fun _ => 0)
  | m + 1 => @ite (Int × (Int → Int)) (q_fP A n σ g (g 0) ((m : Int) - 1)) (Classical.propDecidable _) ((q_fl A n σ g m).1 + 1, v_u (q_fl A n σ g m).2 (q_fl A n σ g m).1 ((m : Int) - 1)) (q_fl A n σ g m)
noncomputable def q_FL (A : Int → Int) (n : Int) (σ : tp_M) (g : Int → Int) (k : Int) : Int × (Int → Int) := q_fl A n σ g (k + 1).toNat
theorem q_FL_y {A : Int → Int} {n : Int} {σ : tp_M} {g : Int → Int} {k : Int} (h : -1 ≤ k) (hP : q_fP A n σ g (g 0) k) : q_FL A n σ g (k + 1) = ((q_FL A n σ g k).1 + 1, v_u (q_FL A n σ g k).2 (q_FL A n σ g k).1 k) := by
  unfold q_FL
  rw [show (k + 1 + 1).toNat = (k + 1).toNat + 1 by omega]
  have e : (((k + 1).toNat : Nat) : Int) - 1 = k := by omega
  show @ite (Int × (Int → Int)) (q_fP A n σ g (g 0) ((((k + 1).toNat : Nat) : Int) - 1)) (Classical.propDecidable _) _ _ = _
  rw [e, if_pos hP]
theorem q_FL_n {A : Int → Int} {n : Int} {σ : tp_M} {g : Int → Int} {k : Int} (h : -1 ≤ k) (hP : ¬ q_fP A n σ g (g 0) k) : q_FL A n σ g (k + 1) = q_FL A n σ g k := by
  unfold q_FL
  rw [show (k + 1 + 1).toNat = (k + 1).toNat + 1 by omega]
  have e : (((k + 1).toNat : Nat) : Int) - 1 = k := by omega
  show @ite (Int × (Int → Int)) (q_fP A n σ g (g 0) ((((k + 1).toNat : Nat) : Int) - 1)) (Classical.propDecidable _) _ _ = _
  rw [e, if_neg hP]
theorem q_FL_b {A : Int → Int} {n : Int} {σ : tp_M} {g : Int → Int} {k : Int} (h : -1 ≤ k) : 0 ≤ (q_FL A n σ g k).1 ∧ (q_FL A n σ g k).1 ≤ k + 1 := by
  have e : ∀ x : Nat, 0 ≤ (q_fl A n σ g x).1 ∧ (q_fl A n σ g x).1 ≤ (x : Int) := by
    intro x
    induction x with
    | zero => exact ⟨Int.le_refl 0, Int.le_refl 0⟩
    | succ x ih =>
      by_cases q : q_fP A n σ g (g 0) ((x : Int) - 1)
      · have e : q_fl A n σ g (x + 1) = ((q_fl A n σ g x).1 + 1, v_u (q_fl A n σ g x).2 (q_fl A n σ g x).1 ((x : Int) - 1)) := if_pos q
        rw [e]
        show 0 ≤ (q_fl A n σ g x).1 + 1 ∧ (q_fl A n σ g x).1 + 1 ≤ ((x + 1 : Nat) : Int)
        omega
      · have e : q_fl A n σ g (x + 1) = q_fl A n σ g x := if_neg q
        rw [e]; omega
  have := e (k + 1).toNat
  rw [show (((k + 1).toNat : Nat) : Int) = k + 1 by omega] at this
  exact this
/-- what fits, as the class holds it -/
def f_M (A : Int → Int) (n : Int) (σ : tp_M) (s : Int × (Int → Int)) (μ : tp_M) : Prop := μ.1 79 3 = s.1 ∧ (∀ i, 0 ≤ i → i < s.1 → μ.1 80 i = s.2 i) ∧ ∀ i a, 0 ≤ i → i < s.1 → 0 ≤ a → a < 40 → μ.1 81 (40 * i + a) = q_O A n σ (s.2 i) a
def f_F (μ0 μ : tp_M) : Prop := (∀ c, (c < 76 ∨ 81 < c) → μ.1 c = μ0.1 c) ∧ μ.2 = μ0.2
theorem f_F_rf {μ : tp_M} : f_F μ μ := ⟨fun _ _ => rfl, rfl⟩
set_option maxHeartbeats 4000000 in
set_option maxRecDepth 100000 in
theorem l_agr0 {G : tp_G} {μ : tp_M} (hG : tp_Gf G = true) {A : Int → Int} {n p N : Int} {σ : tp_M} (hN : μ.1 79 3 = N) (hNb : 0 ≤ N ∧ N ≤ 256) (hO : ∀ a, 0 ≤ a → a < 40 → μ.1 81 (40 * N + a) = q_O A n σ p a) {g : Int → Int} (hLg : tp_Lg μ.1 34 g) : ∀ k, k ≤ g 0 → 0 ≤ k → q_fP A n σ g k p → tp_g G mX2_agree 2 [some (tR (some 79)), some (tR (some 34)), some (tI k)] [] μ (fun r μ' => ∃ v, r = some (tI v) ∧ (v = 0 ∨ v = 1) ∧ (v = 1 ↔ q_fP A n σ g (g 0) p) ∧ μ' = μ) := by
  refine tp_ind _ ?_
  intro k hkN ih  h0 hz
  have hg1 := hLg.1
  have hg0 := hLg.2.1
  have hgk : ∀ i, 0 ≤ i → i < g 0 → μ.1 35 i = g (1 + 2 * i) ∧ μ.1 36 i = g (2 + 2 * i) ∧ (0 ≤ g (1 + 2 * i) ∧ g (1 + 2 * i) ≤ 39) ∧ (0 ≤ g (2 + 2 * i) ∧ g (2 + 2 * i) ≤ 99) := hLg.2.2
  have hgk2 : k < g 0 → μ.1 35 k = g (1 + 2 * k) ∧ μ.1 36 k = g (2 + 2 * k) ∧ (0 ≤ μ.1 35 k ∧ μ.1 35 k ≤ 39) ∧ μ.1 81 (40 * (μ.1 79 3) + μ.1 35 k) = q_O A n σ p (g (1 + 2 * k)) := fun z => by
    have q := hgk k h0 z
    refine ⟨q.1, q.2.1, by omega, ?_⟩
    rw [hN, q.1]
    exact hO _ q.2.2.1.1 (by omega)
  have hgk3 : k < g 0 → 0 ≤ μ.1 35 k ∧ μ.1 35 k ≤ 39 := fun z => (hgk2 z).2.2.1
  refine g_iload_n rfl rfl ?_
  refine g_aload_n rfl rfl ?_
  refine x_geti (v := (μ.1 34 2)) rfl rfl (by decide) (Or.inl rfl) rfl ?_
  refine g_icmp_ge (tgt := 39) rfl (by decide) (fun h1 => ?_) (fun h1 => ?_)
  · refine g_iconst rfl ⟨by decide, by decide⟩ ?_
    refine x_zreturn rfl rfl (Or.inr rfl) ?_
    exact ⟨1, rfl, Or.inr rfl, ⟨fun _ => by rw [show g 0 = k by omega]; exact hz, fun _ => rfl⟩, rfl⟩
  · refine g_aload_n rfl rfl ?_
    refine g_aload_n rfl rfl ?_
    refine x_geti (v := (μ.1 79 3)) rfl rfl (by decide) (Or.inl rfl) rfl ?_
    refine g_aload_n rfl rfl ?_
    refine g_iload_n rfl rfl ?_
    refine g_iV (as := [tI k]) mX6_value_ok rfl rfl rfl rfl rfl rfl (by decide) rfl rfl rfl ?_
    refine g_iload_n rfl rfl ?_
    refine g_if_lt (tgt := 21) rfl (by decide) (fun hx => absurd hx (by omega)) (fun _ => ?_)
    refine g_iload_n rfl rfl ?_
    refine g_aload_n rfl rfl ?_
    refine x_geti (v := (μ.1 34 2)) rfl rfl (by decide) (Or.inl rfl) rfl ?_
    refine g_icmp_ge (tgt := 21) rfl (by decide) (fun hx => absurd hx (by omega)) (fun _ => ?_)
    refine g_iload_n rfl rfl ?_
    refine g_aload_n rfl rfl ?_
    refine x_getF (r := 35) hG rfl rfl (by decide) (Or.inr ⟨_, rfl⟩) rfl ?_
    refine g_alen (t0 := 0) rfl rfl rfl (by decide) ⟨by decide, by decide⟩ ?_
    refine g_icmp_lt (tgt := 25) rfl (by decide) (fun _ => ?_) (fun hx => absurd hx (by omega))
    refine g_aload_n rfl rfl ?_
    refine x_getF (r := 35) hG rfl rfl (by decide) (Or.inr ⟨_, rfl⟩) rfl ?_
    refine g_iload_n rfl rfl ?_
    refine x_iald (v := (μ.1 35 k)) rfl rfl (by decide) (by omega) (by omega) rfl ?_
    refine x_ireturn rfl rfl ?_
    intro _
    refine g_iV (as := [tI (μ.1 79 3), tI (μ.1 35 k)]) mX2_oftenOf_ok rfl rfl rfl rfl rfl rfl (by decide) rfl rfl rfl ?_
    refine g_iload_n rfl rfl ?_
    refine g_if_lt (tgt := 21) rfl (by decide) (fun hx => absurd hx (by omega)) (fun _ => ?_)
    refine g_iload_n rfl rfl ?_
    refine g_sipush rfl ⟨by decide, by decide⟩ (by decide) ?_
    refine g_icmp_ge (tgt := 21) rfl (by decide) (fun hx => absurd hx (by omega)) (fun _ => ?_)
    refine g_iload_n rfl rfl ?_
    refine g_if_lt (tgt := 21) rfl (by decide) (fun hx => absurd hx (by omega)) (fun _ => ?_)
    refine g_iload_n rfl rfl ?_
    refine g_bipush rfl ⟨by decide, by decide⟩ (by decide) ?_
    refine g_icmp_lt (tgt := 23) rfl (by decide) (fun _ => ?_) (fun hx => absurd hx (by omega))
    refine g_aload_n rfl rfl ?_
    refine x_getF (r := 81) hG rfl rfl (by decide) (Or.inr ⟨_, rfl⟩) rfl ?_
    refine g_iload_n rfl rfl ?_
    refine g_bipush rfl ⟨by decide, by decide⟩ (by decide) ?_
    refine x_imul (z := 40 * (μ.1 79 3)) rfl (by omega) ⟨by omega, by omega⟩ ?_
    refine g_iload_n rfl rfl ?_
    refine x_iadd (z := 40 * (μ.1 79 3) + (μ.1 35 k)) rfl (by omega) ⟨by omega, by omega⟩ ?_
    refine x_iald (v := (μ.1 81 (40 * μ.1 79 3 + μ.1 35 k))) rfl rfl (by decide) (by omega) (by omega) rfl ?_
    refine x_ireturn rfl rfl ?_
    intro _
    refine g_aload_n rfl rfl ?_
    refine g_iload_n rfl rfl ?_
    refine g_iV (as := [tI k]) mX6_often_ok rfl rfl rfl rfl rfl rfl (by decide) rfl rfl rfl ?_
    refine g_iload_n rfl rfl ?_
    refine g_if_lt (tgt := 21) rfl (by decide) (fun hx => absurd hx (by omega)) (fun _ => ?_)
    refine g_iload_n rfl rfl ?_
    refine g_aload_n rfl rfl ?_
    refine x_geti (v := (μ.1 34 2)) rfl rfl (by decide) (Or.inl rfl) rfl ?_
    refine g_icmp_ge (tgt := 21) rfl (by decide) (fun hx => absurd hx (by omega)) (fun _ => ?_)
    refine g_iload_n rfl rfl ?_
    refine g_aload_n rfl rfl ?_
    refine x_getF (r := 36) hG rfl rfl (by decide) (Or.inr ⟨_, rfl⟩) rfl ?_
    refine g_alen (t0 := 0) rfl rfl rfl (by decide) ⟨by decide, by decide⟩ ?_
    refine g_icmp_lt (tgt := 25) rfl (by decide) (fun _ => ?_) (fun hx => absurd hx (by omega))
    refine g_aload_n rfl rfl ?_
    refine x_getF (r := 36) hG rfl rfl (by decide) (Or.inr ⟨_, rfl⟩) rfl ?_
    refine g_iload_n rfl rfl ?_
    refine x_iald (v := (μ.1 36 k)) rfl rfl (by decide) (by omega) (by omega) rfl ?_
    refine x_ireturn rfl rfl ?_
    intro _
    refine g_icmp_eq (tgt := 33) rfl (by decide) (fun h2 => ?_) (fun h2 => ?_)
    · refine x_iinc (z := k + 1) rfl rfl (by omega) ⟨by omega, by omega⟩ rfl rfl ?_
      refine g_goto (tgt := 2) rfl (by decide) ?_
      exact ih (by omega) (by omega) (fun j j0 j1 => by rcases (show j < k ∨ j = k by omega) with u | u; (exact hz j j0 u); (rw [u]; omega))
    · refine g_iconst rfl ⟨by decide, by decide⟩ ?_
      refine x_zreturn rfl rfl (Or.inl rfl) ?_
      refine ⟨0, rfl, Or.inl rfl, ⟨fun z => absurd z (by decide), fun z => ?_⟩, rfl⟩
      have := z k h0 (by omega)
      omega
set_option maxHeartbeats 4000000 in
set_option maxRecDepth 100000 in
theorem s_agr0 {G : tp_G} {μ : tp_M} (hG : tp_Gf G = true) {A : Int → Int} {n p N : Int} {σ : tp_M} (hN : μ.1 79 3 = N) (hNb : 0 ≤ N ∧ N ≤ 256) (hO : ∀ a, 0 ≤ a → a < 40 → μ.1 81 (40 * N + a) = q_O A n σ p a) {g : Int → Int} (hLg : tp_Lg μ.1 34 g) : tp_k G mX2_agree [tR (some 79), tR (some 34)] μ (fun r μ' => ∃ v, r = some (tI v) ∧ (v = 0 ∨ v = 1) ∧ (v = 1 ↔ q_fP A n σ g (g 0) p) ∧ μ' = μ) := by
  refine tp_ok_of mX2_agree_ok rfl (Nat.le_refl _) ?_
  refine g_iconst rfl ⟨by decide, by decide⟩ ?_
  refine g_istore_n rfl rfl rfl ?_
  exact l_agr0 hG hN hNb hO hLg 0 hLg.2.1.1 (by omega) (fun j j0 j1 => by omega)
set_option maxHeartbeats 4000000 in
set_option maxRecDepth 100000 in
theorem l_ad20 {G : tp_G} (hG : tp_Gf G = true) {f A B Y H J : Int → Int} {n p : Int} {s : v_T} (hw : tp_Cw f) (hW : r_W f n A B Y H) {μ0 σ : tp_M} {q : Int × (Int → Int)} (hJ : v_J s n J) (hM0 : p_M A s μ0) (hqb : 0 ≤ q.1 ∧ q.1 ≤ 256) (hf0 : f_M A n σ q μ0) (hOp : ∀ a, q_s (fun j => q_is (fun i => A (J i)) a j) (q_s s.2.2.2 s.2.1) = q_O A n σ p a) {r : Int} (hr : r = 40 * q.1) {g : Int → Int} (hL0 : tp_Lg μ0.1 34 g) : ∀ k, k ≤ q_s s.2.2.2 s.2.1 → ∀ (μ : tp_M) (x6 : Option tp_V), 0 ≤ k → (∀ a, 0 ≤ a → a < 40 → μ.1 81 (r + a) = q_s (fun j => q_is (fun i => A (J i)) a j) k) → (∀ j, j < r → μ.1 81 j = μ0.1 81 j) → q_f1 81 μ0 μ → tp_g G mX2_add 57 [some (tR (some 79)), some (tI p), some (tR (some 76)), some (tR (some 34)), some (tI r), some (tI k), x6] [] μ (fun r μ' => r = none ∧ (q_fP A n σ g (g 0) p → f_M A n σ (q.1 + 1, v_u q.2 q.1 p) μ') ∧ (¬ q_fP A n σ g (g 0) p → f_M A n σ q μ') ∧ (∀ c, c ≠ 79 → c ≠ 80 → c ≠ 81 → μ'.1 c = μ0.1 c) ∧ μ'.2 = μ0.2) := by
  refine tp_ind _ ?_
  intro k hkN ih μ x6 h0 hz hlow hF
  have hsz := hJ.2.2.2.2.1
  have hw0 := hw.1
  have hn0 := hW.1
  have h793 : μ.1 79 3 = q.1 := by rw [hF.1 79 (by omega)]; exact hf0.1
  have h762 : μ.1 76 2 = q_s s.2.2.2 s.2.1 := by rw [hF.1 76 (by omega)]; exact hM0.2.1
  have hLg : tp_Lg μ.1 34 g := by
    unfold tp_Lg at hL0 ⊢
    rw [hF.1 34 (by omega), hF.1 (34 + 1) (by omega), hF.1 (34 + 2) (by omega)]
    exact hL0
  have h77 : k < q_s s.2.2.2 s.2.1 → μ.1 77 k = A (J k) := fun z => by rw [hF.1 77 (by omega)]; exact p_M_J hM0 hJ k h0 z
  have h77b : k < q_s s.2.2.2 s.2.1 → 0 ≤ μ.1 77 k ∧ μ.1 77 k ≤ 39 := fun z => by
    have b := hJ.2.2.2.1 k h0 z
    have r9 := (hW.2.2.2 (J k) b.1 b.2).1.1
    rw [h77 z]; omega
  have h81b : k < q_s s.2.2.2 s.2.1 → 0 ≤ μ.1 81 (r + μ.1 77 k) ∧ μ.1 81 (r + μ.1 77 k) ≤ 200 := fun z => by
    have b := h77b z
    rw [hz _ b.1 (by omega)]
    have q9 := q_s_B (F := fun j => q_is (fun i => A (J i)) (μ.1 77 k) j) (k := k) h0 (fun j => q_is_b _ _ j)
    omega
  have hO9 : q_s s.2.2.2 s.2.1 ≤ k → ∀ a, 0 ≤ a → a < 40 → μ.1 81 (40 * q.1 + a) = q_O A n σ p a := fun z a a0 a1 => by
    rw [← hr, hz a a0 a1, show k = q_s s.2.2.2 s.2.1 by omega]; exact hOp a
  refine g_iload rfl rfl ?_
  refine g_aload_n rfl rfl ?_
  refine x_geti (v := (μ.1 76 2)) rfl rfl (by decide) (Or.inl rfl) rfl ?_
  refine g_icmp_ge (tgt := 106) rfl (by decide) (fun h1 => ?_) (fun h1 => ?_)
  · refine g_aload_n rfl rfl ?_
    refine g_aload_n rfl rfl ?_
    refine g_cV (as := [tR (some 34)]) (s_agr0 hG (p := p) (A := A) (n := n) (σ := σ) h793 hqb (hO9 (by omega)) hLg) rfl rfl mX2_agree_ok rfl rfl rfl (by decide) rfl rfl rfl ?_
    rintro _ w9 ⟨v, rfl, hv01, hvP, hw9⟩ _
    have hw9 := hw9.symm
    subst hw9
    refine g_if_eq (tgt := 134) rfl (by decide) (fun h2 => ?_) (fun h2 => ?_)
    · refine x_return rfl rfl ?_
      have hnP : ¬ q_fP A n σ g (g 0) p := fun z => by have := hvP.2 z; omega
      exact ⟨rfl, fun z => absurd z hnP, fun _ => ⟨h793, fun i i0 i1 => by rw [hF.1 80 (by omega)]; exact hf0.2.1 i i0 i1, fun i a i0 i1 a0 a1 => by rw [hlow _ (by omega)]; exact hf0.2.2 i a i0 i1 a0 a1⟩, fun c9 z1 z2 z3 => hF.1 c9 z3, hF.2⟩
    · refine g_aload_n rfl rfl ?_
      refine x_getF (r := 80) hG rfl rfl (by decide) (Or.inr ⟨_, rfl⟩) rfl ?_
      refine g_aload_n rfl rfl ?_
      refine x_geti (v := (μ.1 79 3)) rfl rfl (by decide) (Or.inl rfl) rfl ?_
      refine g_iload_n rfl rfl ?_
      refine g_iast rfl rfl (by decide) (by omega) (by omega) ?_
      refine g_aload_n rfl rfl ?_
      refine g_dupr rfl ?_
      refine x_geti (v := (μ.1 79 3)) rfl rfl (by decide) (Or.inl rfl) rfl ?_
      refine g_iconst rfl ⟨by decide, by decide⟩ ?_
      refine x_iadd (z := (μ.1 79 3) + 1) rfl (by omega) ⟨by omega, by omega⟩ ?_
      refine g_puti rfl rfl (by decide) rfl rfl ?_
      refine x_return rfl rfl ?_
      have hyP : q_fP A n σ g (g 0) p := hvP.1 (by omega)
      have g80 : ∀ i, ((tp_pi (tp_pi μ 80 (μ.1 79 3) p) 79 3 ((μ.1 79 3) + 1))).1 80 i = if i = q.1 then p else μ.1 80 i := fun i => by
        rw [tp_pi_ne (by omega)]
        by_cases u : i = q.1
        · rw [if_pos u, u, ← h793, tp_pi_at]
        · rw [if_neg u, tp_pi_ix (by omega)]
      have hv9 : ∀ i, i < q.1 → v_u q.2 q.1 p i = q.2 i := fun i z => v_u_ne (by omega)
      exact ⟨rfl, fun _ => ⟨by show μ.1 79 3 + 1 = q.1 + 1; omega, fun i i0 i1 => by
        have i1 : i < q.1 + 1 := i1
        show ((tp_pi (tp_pi μ 80 (μ.1 79 3) p) 79 3 ((μ.1 79 3) + 1))).1 80 i = v_u q.2 q.1 p i
        rw [g80]
        by_cases u : i = q.1
        · rw [if_pos u, u, v_u_at]
        · rw [if_neg u, v_u_ne u, hF.1 80 (by omega)]; exact hf0.2.1 i i0 (by omega), fun i a i0 i1 a0 a1 => by
        have i1 : i < q.1 + 1 := i1
        show μ.1 81 (40 * i + a) = q_O A n σ (v_u q.2 q.1 p i) a
        by_cases u : i = q.1
        · rw [u, v_u_at]; exact hO9 (by omega) a a0 a1
        · rw [v_u_ne u, hlow _ (by omega)]; exact hf0.2.2 i a i0 (by omega) a0 a1⟩, fun z => absurd hyP z, fun c9 z1 z2 z3 => by
        show ((tp_pi (tp_pi μ 80 (μ.1 79 3) p) 79 3 ((μ.1 79 3) + 1))).1 c9 = _
        rw [tp_pi_ne (by omega), tp_pi_ne (by omega)]; exact hF.1 c9 z3, hF.2⟩
  · refine g_aload_n rfl rfl ?_
    refine g_iload rfl rfl ?_
    refine g_iV (as := [tI k]) mX4_address_ok rfl rfl rfl rfl rfl rfl (by decide) rfl rfl rfl ?_
    refine g_iload_n rfl rfl ?_
    refine g_if_lt (tgt := 19) rfl (by decide) (fun hx => absurd hx (by omega)) (fun _ => ?_)
    refine g_iload_n rfl rfl ?_
    refine g_aload_n rfl rfl ?_
    refine x_geti (v := (μ.1 76 2)) rfl rfl (by decide) (Or.inl rfl) rfl ?_
    refine g_icmp_ge (tgt := 19) rfl (by decide) (fun hx => absurd hx (by omega)) (fun _ => ?_)
    refine g_iload_n rfl rfl ?_
    refine g_sipush rfl ⟨by decide, by decide⟩ (by decide) ?_
    refine g_icmp_lt (tgt := 23) rfl (by decide) (fun _ => ?_) (fun hx => absurd hx (by omega))
    refine g_aload_n rfl rfl ?_
    refine x_getF (r := 77) hG rfl rfl (by decide) (Or.inr ⟨_, rfl⟩) rfl ?_
    refine g_iload_n rfl rfl ?_
    refine x_iald (v := (μ.1 77 k)) rfl rfl (by decide) (by omega) (by omega) rfl ?_
    refine x_ireturn rfl rfl ?_
    intro _
    refine g_istore rfl rfl rfl ?_
    refine g_iload rfl rfl ?_
    refine g_if_lt (tgt := 100) rfl (by decide) (fun hx => absurd hx (by omega)) (fun _ => ?_)
    refine g_iload rfl rfl ?_
    refine g_bipush rfl ⟨by decide, by decide⟩ (by decide) ?_
    refine g_icmp_ge (tgt := 100) rfl (by decide) (fun hx => absurd hx (by omega)) (fun _ => ?_)
    refine g_aload_n rfl rfl ?_
    refine x_getF (r := 81) hG rfl rfl (by decide) (Or.inr ⟨_, rfl⟩) rfl ?_
    refine g_iload rfl rfl ?_
    refine g_iload rfl rfl ?_
    refine x_iadd (z := r + (μ.1 77 k)) rfl (by omega) ⟨by omega, by omega⟩ ?_
    refine g_dup2 rfl ?_
    refine x_iald (v := (μ.1 81 (r + μ.1 77 k))) rfl rfl (by decide) (by omega) (by omega) rfl ?_
    refine g_iconst rfl ⟨by decide, by decide⟩ ?_
    refine x_iadd (z := (μ.1 81 (r + μ.1 77 k)) + 1) rfl (by omega) ⟨by omega, by omega⟩ ?_
    refine g_iast rfl rfl (by decide) (by omega) (by omega) ?_
    refine x_iinc (z := k + 1) rfl rfl (by omega) ⟨by omega, by omega⟩ rfl rfl ?_
    refine g_goto (tgt := 57) rfl (by decide) ?_
    exact ih (by omega) _ _ (by omega) (fun a a0 a1 => by
      rw [tp_pi1, q_s1 h0]
      by_cases u : a = μ.1 77 k
      · rw [if_pos ⟨rfl, by omega⟩, show q_is (fun i => A (J i)) a k = 1 from if_pos (by show A (J k) = a; omega), ← hz a a0 a1, u]
      · rw [if_neg (fun z => u (by omega)), show q_is (fun i => A (J i)) a k = 0 from if_neg (fun z => u (by have z : A (J k) = a := z; omega)), ← hz a a0 a1]; omega) (fun j z => by rw [tp_pi_no (by omega)]; exact hlow j z) (q_f1_pi hF)
set_option maxHeartbeats 4000000 in
set_option maxRecDepth 100000 in
theorem l_ad10 {G : tp_G} (hG : tp_Gf G = true) {f A B Y H J : Int → Int} {n p : Int} {s : v_T} (hw : tp_Cw f) (hW : r_W f n A B Y H) {μ0 σ : tp_M} {q : Int × (Int → Int)} (hJ : v_J s n J) (hM0 : p_M A s μ0) (hqb : 0 ≤ q.1 ∧ q.1 ≤ 256) (hf0 : f_M A n σ q μ0) (hOp : ∀ a, q_s (fun j => q_is (fun i => A (J i)) a j) (q_s s.2.2.2 s.2.1) = q_O A n σ p a) {r : Int} (hr : r = 40 * q.1) {g : Int → Int} (hL0 : tp_Lg μ0.1 34 g) : ∀ k, k ≤ 40 → ∀ (μ : tp_M), 0 ≤ k → (∀ a, 0 ≤ a → a < k → μ.1 81 (r + a) = 0) → (∀ j, j < r → μ.1 81 j = μ0.1 81 j) → q_f1 81 μ0 μ → tp_g G mX2_add 30 [some (tR (some 79)), some (tI p), some (tR (some 76)), some (tR (some 34)), some (tI r), some (tI k), none] [] μ (fun r μ' => r = none ∧ (q_fP A n σ g (g 0) p → f_M A n σ (q.1 + 1, v_u q.2 q.1 p) μ') ∧ (¬ q_fP A n σ g (g 0) p → f_M A n σ q μ') ∧ (∀ c, c ≠ 79 → c ≠ 80 → c ≠ 81 → μ'.1 c = μ0.1 c) ∧ μ'.2 = μ0.2) := by
  refine tp_ind _ ?_
  intro k hkN ih μ h0 hz hlow hF
  refine g_iload rfl rfl ?_
  refine g_bipush rfl ⟨by decide, by decide⟩ (by decide) ?_
  refine g_icmp_ge (tgt := 54) rfl (by decide) (fun h1 => ?_) (fun h1 => ?_)
  · refine g_iconst rfl ⟨by decide, by decide⟩ ?_
    refine g_istore rfl rfl rfl ?_
    exact l_ad20 hG hw hW hJ hM0 hqb hf0 hOp hr hL0 0 hJ.2.2.2.2.1.1 _ _ (by omega) (fun a a0 a1 => by rw [hz a a0 (by omega)]; rfl) hlow hF
  · refine g_aload_n rfl rfl ?_
    refine x_getF (r := 81) hG rfl rfl (by decide) (Or.inr ⟨_, rfl⟩) rfl ?_
    refine g_iload rfl rfl ?_
    refine g_iload rfl rfl ?_
    refine x_iadd (z := r + k) rfl (by omega) ⟨by omega, by omega⟩ ?_
    refine g_iconst rfl ⟨by decide, by decide⟩ ?_
    refine g_iast rfl rfl (by decide) (by omega) (by omega) ?_
    refine x_iinc (z := k + 1) rfl rfl (by omega) ⟨by omega, by omega⟩ rfl rfl ?_
    refine g_goto (tgt := 30) rfl (by decide) ?_
    exact ih (by omega) _ (by omega) (fun a a0 a1 => by
      rw [tp_pi1]
      by_cases u : a = k
      · rw [if_pos ⟨rfl, by omega⟩]
      · rw [if_neg (fun z => u (by omega))]; exact hz a a0 (by omega)) (fun j z => by rw [tp_pi_no (by omega)]; exact hlow j z) (q_f1_pi hF)
set_option maxHeartbeats 4000000 in
set_option maxRecDepth 100000 in
theorem s_add0 {G : tp_G} {μ : tp_M} (hG : tp_Gf G = true) {f A B Y H J : Int → Int} {n p : Int} {s : v_T} (hw : tp_Cw f) (hW : r_W f n A B Y H) {σ : tp_M} {q : Int × (Int → Int)} (hJ : v_J s n J) (hM : p_M A s μ) (hqb : 0 ≤ q.1 ∧ q.1 ≤ 256) (hf : f_M A n σ q μ) (hOp : ∀ a, q_s (fun j => q_is (fun i => A (J i)) a j) (q_s s.2.2.2 s.2.1) = q_O A n σ p a) {g : Int → Int} (hL : tp_Lg μ.1 34 g) : tp_k G mX2_add [tR (some 79), tI p, tR (some 76), tR (some 34)] μ (fun r μ' => r = none ∧ (q_fP A n σ g (g 0) p → f_M A n σ (q.1 + 1, v_u q.2 q.1 p) μ') ∧ (¬ q_fP A n σ g (g 0) p → f_M A n σ q μ') ∧ (∀ c, c ≠ 79 → c ≠ 80 → c ≠ 81 → μ'.1 c = μ.1 c) ∧ μ'.2 = μ.2) := by
  refine tp_ok_of mX2_add_ok rfl (Nat.le_refl _) ?_
  have h793 := hf.1
  refine g_aload_n rfl rfl ?_
  refine x_geti (v := (μ.1 79 3)) rfl rfl (by decide) (Or.inl rfl) rfl ?_
  refine g_if_lt (tgt := 17) rfl (by decide) (fun hx => absurd hx (by omega)) (fun _ => ?_)
  refine g_aload_n rfl rfl ?_
  refine x_geti (v := (μ.1 79 3)) rfl rfl (by decide) (Or.inl rfl) rfl ?_
  refine g_sipush rfl ⟨by decide, by decide⟩ (by decide) ?_
  refine g_icmp_lt (tgt := 18) rfl (by decide) (fun _ => ?_) (fun hx => absurd hx (by omega))
  refine g_aload_n rfl rfl ?_
  refine x_geti (v := (μ.1 79 3)) rfl rfl (by decide) (Or.inl rfl) rfl ?_
  refine g_bipush rfl ⟨by decide, by decide⟩ (by decide) ?_
  refine x_imul (z := 40 * (μ.1 79 3)) rfl (by omega) ⟨by omega, by omega⟩ ?_
  refine g_istore rfl rfl rfl ?_
  refine g_iconst rfl ⟨by decide, by decide⟩ ?_
  refine g_istore rfl rfl rfl ?_
  exact l_ad10 hG hw hW hJ hM hqb hf hOp (by omega) hL 0 (by omega) _ (by omega) (fun a a0 a1 => by omega) (fun j z => rfl) q_f1_rf
set_option maxHeartbeats 4000000 in
set_option maxRecDepth 100000 in
theorem l_find0 {G : tp_G} (hG : tp_Gf G = true) {f A B Y H : Int → Int} {n : Int} (hn0 : 0 ≤ n ∧ n ≤ 200) {σ : tp_M} (hp9 : 0 ≤ σ.1 0 9 ∧ σ.1 0 9 ≤ 209) (HH : ∀ p, 0 ≤ p → p < σ.1 0 9 → s_H f A B Y (f 2) n σ p) (hw : tp_Cw f) (hW : r_W f n A B Y H) {g : Int → Int} {μ0 : tp_M} (hsz0 : μ0.1 63 4 = σ.1 0 9) (hB0 : c_B σ μ0) (hpk0 : μ0.2 70 5 = some 63) (hQ0 : w_Q f A B n σ (σ.1 0 9) μ0) (hL0 : tp_Lg μ0.1 34 g) : ∀ k, k ≤ σ.1 0 9 → ∀ (μ : tp_M), -1 ≤ k → f_M A n σ (q_FL A n σ g k) μ → f_F μ0 μ → tp_g G mX2_find 16 [some (tR (some 79)), some (tR (some 70)), some (tR (some 76)), some (tR (some 34)), some (tI k)] [] μ (fun r μ' => r = none ∧ f_M A n σ (q_FL A n σ g (σ.1 0 9)) μ' ∧ f_F μ0 μ') := by
  refine tp_ind _ ?_
  intro k hkN ih μ hk0 hf hF
  have hsz : μ.1 63 4 = σ.1 0 9 := by rw [hF.1 63 (by omega)]; exact hsz0
  have hB : c_B σ μ := fun i z0 z1 => by rw [hF.1 64 (by omega), hF.1 65 (by omega), hF.1 66 (by omega), hF.1 67 (by omega)]; exact hB0 i z0 z1
  have hpk : μ.2 70 5 = some 63 := by rw [hF.2]; exact hpk0
  have hQ : w_Q f A B n σ (σ.1 0 9) μ := by
    have q := hQ0
    unfold w_Q w_P w_X at q ⊢
    rw [hF.1 70 (by omega), hF.1 71 (by omega), hF.1 72 (by omega), hF.1 73 (by omega), hF.1 74 (by omega), hF.1 75 (by omega)]
    exact q
  have hqb := q_FL_b (A := A) (n := n) (σ := σ) (g := g) hk0
  refine g_iload rfl rfl ?_
  refine g_aload_n rfl rfl ?_
  refine x_getM (v := (some 63)) hG rfl rfl (by decide) (Or.inl ⟨_, rfl⟩) rfl (by first | exact hpk | exact hpk0) ?_
  refine x_geti (v := (μ.1 63 4)) rfl rfl (by decide) (Or.inl rfl) rfl ?_
  refine g_icmp_ge (tgt := 50) rfl (by decide) (fun h1 => ?_) (fun h1 => ?_)
  · refine x_return rfl rfl ?_
    exact ⟨rfl, by rw [show σ.1 0 9 = k by omega]; exact hf, hF⟩
  · refine g_aload_n rfl rfl ?_
    refine g_aload_n rfl rfl ?_
    refine g_null rfl ?_
    refine g_iload rfl rfl ?_
    refine g_cV (as := [tR (some 70), tR none, tI k]) (s_siftN (a := k) hG hsz hB hp9 hn0.2 HH hQ hpk) rfl rfl mX4_sift_ok rfl rfl rfl (by decide) rfl rfl rfl ?_
    rintro _ w1 ⟨rfl, hM1, hF9⟩ _
    have hF1 : f_F μ0 w1 := ⟨fun c9 z9 => (hF9.1 c9 (by omega) (by omega) (by omega)).trans (hF.1 c9 z9), hF9.2.trans hF.2⟩
    have hf1 : f_M A n σ (q_FL A n σ g k) w1 := by
      unfold f_M
      rw [hF9.1 79 (by omega) (by omega) (by omega), hF9.1 80 (by omega) (by omega) (by omega), hF9.1 81 (by omega) (by omega) (by omega)]
      exact hf
    have hJ1 := q_Jp_s hn0.1 hp9.1 HH k
    have hL1 : tp_Lg w1.1 34 g := by
      unfold tp_Lg at hL0 ⊢
      rw [hF1.1 34 (by omega), hF1.1 (34 + 1) (by omega), hF1.1 (34 + 2) (by omega)]
      exact hL0
    refine g_aload_n rfl rfl ?_
    refine g_iload rfl rfl ?_
    refine g_aload_n rfl rfl ?_
    refine g_aload_n rfl rfl ?_
    refine g_cV (as := [tI k, tR (some 76), tR (some 34)]) (s_add0 hG (p := k) hw hW hJ1 hM1 (by omega) hf1 (fun a => q_ra_e hJ1.2.2.2.2.1.1 hJ1.2.2.1 hJ1.2.2.2.1) hL1) rfl rfl mX2_add_ok rfl rfl rfl (by decide) rfl rfl rfl ?_
    rintro _ w2 ⟨rfl, hy2, hn2, hF2, hR2⟩ _
    have hF3 : f_F μ0 w2 := ⟨fun c9 z9 => (hF2 c9 (by omega) (by omega) (by omega)).trans (hF1.1 c9 z9), hR2.trans hF1.2⟩
    refine x_iinc (z := k + 1) rfl rfl (by omega) ⟨by omega, by omega⟩ rfl rfl ?_
    refine g_goto (tgt := 16) rfl (by decide) ?_
    refine ih (by omega) _ (by omega) ?_ hF3
    by_cases hP9 : q_fP A n σ g (g 0) k
    · rw [q_FL_y hk0 hP9]; exact hy2 hP9
    · rw [q_FL_n hk0 hP9]; exact hn2 hP9
set_option maxHeartbeats 4000000 in
set_option maxRecDepth 100000 in
theorem s_find0 {G : tp_G} {μ : tp_M} (hG : tp_Gf G = true) {f A B Y H : Int → Int} {n : Int} (hn0 : 0 ≤ n ∧ n ≤ 200) {σ : tp_M} (hp9 : 0 ≤ σ.1 0 9 ∧ σ.1 0 9 ≤ 209) (HH : ∀ p, 0 ≤ p → p < σ.1 0 9 → s_H f A B Y (f 2) n σ p) (hw : tp_Cw f) (hW : r_W f n A B Y H) {g : Int → Int} (hsz : μ.1 63 4 = σ.1 0 9) (hB : c_B σ μ) (hpk : μ.2 70 5 = some 63) (hQ : w_Q f A B n σ (σ.1 0 9) μ) (hL : tp_Lg μ.1 34 g) : tp_k G mX2_find [tR (some 79), tR (some 70), tR (some 76), tR (some 34)] μ (fun r μ' => r = none ∧ f_M A n σ (q_FL A n σ g (σ.1 0 9)) μ' ∧ f_F μ μ') := by
  refine tp_ok_of mX2_find_ok rfl (Nat.le_refl _) ?_
  refine g_aload_n rfl rfl ?_
  refine g_iconst rfl ⟨by decide, by decide⟩ ?_
  refine g_puti rfl rfl (by decide) rfl rfl ?_
  refine g_aload_n rfl rfl ?_
  refine x_getM (v := (some 63)) hG rfl rfl (by decide) (Or.inl ⟨_, rfl⟩) rfl hpk ?_
  refine g_ifnonnull (tgt := 13) rfl (by decide) (fun _ _ => ?_) (fun hx => by cases hx)
  refine g_iconst rfl ⟨by decide, by decide⟩ ?_
  refine g_istore rfl rfl rfl ?_
  refine l_find0 (μ0 := μ) hG hn0 hp9 HH hw hW hsz hB hpk hQ hL (-1) (by omega) _ (by omega) ⟨rfl, fun i i0 i1 => by have i1 : i < 0 := i1; omega, fun i a i0 i1 => by have i1 : i < 0 := i1; omega⟩ ⟨fun c9 z9 => by rw [tp_pi_ne (by omega)], rfl⟩
set_option maxHeartbeats 4000000 in
set_option maxRecDepth 100000 in
theorem l_agr1 {G : tp_G} {μ : tp_M} (hG : tp_Gf G = true) {A : Int → Int} {n p N : Int} {σ : tp_M} (hN : μ.1 79 3 = N) (hNb : 0 ≤ N ∧ N ≤ 256) (hO : ∀ a, 0 ≤ a → a < 40 → μ.1 81 (40 * N + a) = q_O A n σ p a) {g : Int → Int} (hLg : tp_Lg μ.1 37 g) : ∀ k, k ≤ g 0 → 0 ≤ k → q_fP A n σ g k p → tp_g G mX2_agree 2 [some (tR (some 79)), some (tR (some 37)), some (tI k)] [] μ (fun r μ' => ∃ v, r = some (tI v) ∧ (v = 0 ∨ v = 1) ∧ (v = 1 ↔ q_fP A n σ g (g 0) p) ∧ μ' = μ) := by
  refine tp_ind _ ?_
  intro k hkN ih  h0 hz
  have hg1 := hLg.1
  have hg0 := hLg.2.1
  have hgk : ∀ i, 0 ≤ i → i < g 0 → μ.1 38 i = g (1 + 2 * i) ∧ μ.1 39 i = g (2 + 2 * i) ∧ (0 ≤ g (1 + 2 * i) ∧ g (1 + 2 * i) ≤ 39) ∧ (0 ≤ g (2 + 2 * i) ∧ g (2 + 2 * i) ≤ 99) := hLg.2.2
  have hgk2 : k < g 0 → μ.1 38 k = g (1 + 2 * k) ∧ μ.1 39 k = g (2 + 2 * k) ∧ (0 ≤ μ.1 38 k ∧ μ.1 38 k ≤ 39) ∧ μ.1 81 (40 * (μ.1 79 3) + μ.1 38 k) = q_O A n σ p (g (1 + 2 * k)) := fun z => by
    have q := hgk k h0 z
    refine ⟨q.1, q.2.1, by omega, ?_⟩
    rw [hN, q.1]
    exact hO _ q.2.2.1.1 (by omega)
  have hgk3 : k < g 0 → 0 ≤ μ.1 38 k ∧ μ.1 38 k ≤ 39 := fun z => (hgk2 z).2.2.1
  refine g_iload_n rfl rfl ?_
  refine g_aload_n rfl rfl ?_
  refine x_geti (v := (μ.1 37 2)) rfl rfl (by decide) (Or.inl rfl) rfl ?_
  refine g_icmp_ge (tgt := 39) rfl (by decide) (fun h1 => ?_) (fun h1 => ?_)
  · refine g_iconst rfl ⟨by decide, by decide⟩ ?_
    refine x_zreturn rfl rfl (Or.inr rfl) ?_
    exact ⟨1, rfl, Or.inr rfl, ⟨fun _ => by rw [show g 0 = k by omega]; exact hz, fun _ => rfl⟩, rfl⟩
  · refine g_aload_n rfl rfl ?_
    refine g_aload_n rfl rfl ?_
    refine x_geti (v := (μ.1 79 3)) rfl rfl (by decide) (Or.inl rfl) rfl ?_
    refine g_aload_n rfl rfl ?_
    refine g_iload_n rfl rfl ?_
    refine g_iV (as := [tI k]) mX6_value_ok rfl rfl rfl rfl rfl rfl (by decide) rfl rfl rfl ?_
    refine g_iload_n rfl rfl ?_
    refine g_if_lt (tgt := 21) rfl (by decide) (fun hx => absurd hx (by omega)) (fun _ => ?_)
    refine g_iload_n rfl rfl ?_
    refine g_aload_n rfl rfl ?_
    refine x_geti (v := (μ.1 37 2)) rfl rfl (by decide) (Or.inl rfl) rfl ?_
    refine g_icmp_ge (tgt := 21) rfl (by decide) (fun hx => absurd hx (by omega)) (fun _ => ?_)
    refine g_iload_n rfl rfl ?_
    refine g_aload_n rfl rfl ?_
    refine x_getF (r := 38) hG rfl rfl (by decide) (Or.inr ⟨_, rfl⟩) rfl ?_
    refine g_alen (t0 := 0) rfl rfl rfl (by decide) ⟨by decide, by decide⟩ ?_
    refine g_icmp_lt (tgt := 25) rfl (by decide) (fun _ => ?_) (fun hx => absurd hx (by omega))
    refine g_aload_n rfl rfl ?_
    refine x_getF (r := 38) hG rfl rfl (by decide) (Or.inr ⟨_, rfl⟩) rfl ?_
    refine g_iload_n rfl rfl ?_
    refine x_iald (v := (μ.1 38 k)) rfl rfl (by decide) (by omega) (by omega) rfl ?_
    refine x_ireturn rfl rfl ?_
    intro _
    refine g_iV (as := [tI (μ.1 79 3), tI (μ.1 38 k)]) mX2_oftenOf_ok rfl rfl rfl rfl rfl rfl (by decide) rfl rfl rfl ?_
    refine g_iload_n rfl rfl ?_
    refine g_if_lt (tgt := 21) rfl (by decide) (fun hx => absurd hx (by omega)) (fun _ => ?_)
    refine g_iload_n rfl rfl ?_
    refine g_sipush rfl ⟨by decide, by decide⟩ (by decide) ?_
    refine g_icmp_ge (tgt := 21) rfl (by decide) (fun hx => absurd hx (by omega)) (fun _ => ?_)
    refine g_iload_n rfl rfl ?_
    refine g_if_lt (tgt := 21) rfl (by decide) (fun hx => absurd hx (by omega)) (fun _ => ?_)
    refine g_iload_n rfl rfl ?_
    refine g_bipush rfl ⟨by decide, by decide⟩ (by decide) ?_
    refine g_icmp_lt (tgt := 23) rfl (by decide) (fun _ => ?_) (fun hx => absurd hx (by omega))
    refine g_aload_n rfl rfl ?_
    refine x_getF (r := 81) hG rfl rfl (by decide) (Or.inr ⟨_, rfl⟩) rfl ?_
    refine g_iload_n rfl rfl ?_
    refine g_bipush rfl ⟨by decide, by decide⟩ (by decide) ?_
    refine x_imul (z := 40 * (μ.1 79 3)) rfl (by omega) ⟨by omega, by omega⟩ ?_
    refine g_iload_n rfl rfl ?_
    refine x_iadd (z := 40 * (μ.1 79 3) + (μ.1 38 k)) rfl (by omega) ⟨by omega, by omega⟩ ?_
    refine x_iald (v := (μ.1 81 (40 * μ.1 79 3 + μ.1 38 k))) rfl rfl (by decide) (by omega) (by omega) rfl ?_
    refine x_ireturn rfl rfl ?_
    intro _
    refine g_aload_n rfl rfl ?_
    refine g_iload_n rfl rfl ?_
    refine g_iV (as := [tI k]) mX6_often_ok rfl rfl rfl rfl rfl rfl (by decide) rfl rfl rfl ?_
    refine g_iload_n rfl rfl ?_
    refine g_if_lt (tgt := 21) rfl (by decide) (fun hx => absurd hx (by omega)) (fun _ => ?_)
    refine g_iload_n rfl rfl ?_
    refine g_aload_n rfl rfl ?_
    refine x_geti (v := (μ.1 37 2)) rfl rfl (by decide) (Or.inl rfl) rfl ?_
    refine g_icmp_ge (tgt := 21) rfl (by decide) (fun hx => absurd hx (by omega)) (fun _ => ?_)
    refine g_iload_n rfl rfl ?_
    refine g_aload_n rfl rfl ?_
    refine x_getF (r := 39) hG rfl rfl (by decide) (Or.inr ⟨_, rfl⟩) rfl ?_
    refine g_alen (t0 := 0) rfl rfl rfl (by decide) ⟨by decide, by decide⟩ ?_
    refine g_icmp_lt (tgt := 25) rfl (by decide) (fun _ => ?_) (fun hx => absurd hx (by omega))
    refine g_aload_n rfl rfl ?_
    refine x_getF (r := 39) hG rfl rfl (by decide) (Or.inr ⟨_, rfl⟩) rfl ?_
    refine g_iload_n rfl rfl ?_
    refine x_iald (v := (μ.1 39 k)) rfl rfl (by decide) (by omega) (by omega) rfl ?_
    refine x_ireturn rfl rfl ?_
    intro _
    refine g_icmp_eq (tgt := 33) rfl (by decide) (fun h2 => ?_) (fun h2 => ?_)
    · refine x_iinc (z := k + 1) rfl rfl (by omega) ⟨by omega, by omega⟩ rfl rfl ?_
      refine g_goto (tgt := 2) rfl (by decide) ?_
      exact ih (by omega) (by omega) (fun j j0 j1 => by rcases (show j < k ∨ j = k by omega) with u | u; (exact hz j j0 u); (rw [u]; omega))
    · refine g_iconst rfl ⟨by decide, by decide⟩ ?_
      refine x_zreturn rfl rfl (Or.inl rfl) ?_
      refine ⟨0, rfl, Or.inl rfl, ⟨fun z => absurd z (by decide), fun z => ?_⟩, rfl⟩
      have := z k h0 (by omega)
      omega
set_option maxHeartbeats 4000000 in
set_option maxRecDepth 100000 in
theorem s_agr1 {G : tp_G} {μ : tp_M} (hG : tp_Gf G = true) {A : Int → Int} {n p N : Int} {σ : tp_M} (hN : μ.1 79 3 = N) (hNb : 0 ≤ N ∧ N ≤ 256) (hO : ∀ a, 0 ≤ a → a < 40 → μ.1 81 (40 * N + a) = q_O A n σ p a) {g : Int → Int} (hLg : tp_Lg μ.1 37 g) : tp_k G mX2_agree [tR (some 79), tR (some 37)] μ (fun r μ' => ∃ v, r = some (tI v) ∧ (v = 0 ∨ v = 1) ∧ (v = 1 ↔ q_fP A n σ g (g 0) p) ∧ μ' = μ) := by
  refine tp_ok_of mX2_agree_ok rfl (Nat.le_refl _) ?_
  refine g_iconst rfl ⟨by decide, by decide⟩ ?_
  refine g_istore_n rfl rfl rfl ?_
  exact l_agr1 hG hN hNb hO hLg 0 hLg.2.1.1 (by omega) (fun j j0 j1 => by omega)
set_option maxHeartbeats 4000000 in
set_option maxRecDepth 100000 in
theorem l_ad21 {G : tp_G} (hG : tp_Gf G = true) {f A B Y H J : Int → Int} {n p : Int} {s : v_T} (hw : tp_Cw f) (hW : r_W f n A B Y H) {μ0 σ : tp_M} {q : Int × (Int → Int)} (hJ : v_J s n J) (hM0 : p_M A s μ0) (hqb : 0 ≤ q.1 ∧ q.1 ≤ 256) (hf0 : f_M A n σ q μ0) (hOp : ∀ a, q_s (fun j => q_is (fun i => A (J i)) a j) (q_s s.2.2.2 s.2.1) = q_O A n σ p a) {r : Int} (hr : r = 40 * q.1) {g : Int → Int} (hL0 : tp_Lg μ0.1 37 g) : ∀ k, k ≤ q_s s.2.2.2 s.2.1 → ∀ (μ : tp_M) (x6 : Option tp_V), 0 ≤ k → (∀ a, 0 ≤ a → a < 40 → μ.1 81 (r + a) = q_s (fun j => q_is (fun i => A (J i)) a j) k) → (∀ j, j < r → μ.1 81 j = μ0.1 81 j) → q_f1 81 μ0 μ → tp_g G mX2_add 57 [some (tR (some 79)), some (tI p), some (tR (some 76)), some (tR (some 37)), some (tI r), some (tI k), x6] [] μ (fun r μ' => r = none ∧ (q_fP A n σ g (g 0) p → f_M A n σ (q.1 + 1, v_u q.2 q.1 p) μ') ∧ (¬ q_fP A n σ g (g 0) p → f_M A n σ q μ') ∧ (∀ c, c ≠ 79 → c ≠ 80 → c ≠ 81 → μ'.1 c = μ0.1 c) ∧ μ'.2 = μ0.2) := by
  refine tp_ind _ ?_
  intro k hkN ih μ x6 h0 hz hlow hF
  have hsz := hJ.2.2.2.2.1
  have hw0 := hw.1
  have hn0 := hW.1
  have h793 : μ.1 79 3 = q.1 := by rw [hF.1 79 (by omega)]; exact hf0.1
  have h762 : μ.1 76 2 = q_s s.2.2.2 s.2.1 := by rw [hF.1 76 (by omega)]; exact hM0.2.1
  have hLg : tp_Lg μ.1 37 g := by
    unfold tp_Lg at hL0 ⊢
    rw [hF.1 37 (by omega), hF.1 (37 + 1) (by omega), hF.1 (37 + 2) (by omega)]
    exact hL0
  have h77 : k < q_s s.2.2.2 s.2.1 → μ.1 77 k = A (J k) := fun z => by rw [hF.1 77 (by omega)]; exact p_M_J hM0 hJ k h0 z
  have h77b : k < q_s s.2.2.2 s.2.1 → 0 ≤ μ.1 77 k ∧ μ.1 77 k ≤ 39 := fun z => by
    have b := hJ.2.2.2.1 k h0 z
    have r9 := (hW.2.2.2 (J k) b.1 b.2).1.1
    rw [h77 z]; omega
  have h81b : k < q_s s.2.2.2 s.2.1 → 0 ≤ μ.1 81 (r + μ.1 77 k) ∧ μ.1 81 (r + μ.1 77 k) ≤ 200 := fun z => by
    have b := h77b z
    rw [hz _ b.1 (by omega)]
    have q9 := q_s_B (F := fun j => q_is (fun i => A (J i)) (μ.1 77 k) j) (k := k) h0 (fun j => q_is_b _ _ j)
    omega
  have hO9 : q_s s.2.2.2 s.2.1 ≤ k → ∀ a, 0 ≤ a → a < 40 → μ.1 81 (40 * q.1 + a) = q_O A n σ p a := fun z a a0 a1 => by
    rw [← hr, hz a a0 a1, show k = q_s s.2.2.2 s.2.1 by omega]; exact hOp a
  refine g_iload rfl rfl ?_
  refine g_aload_n rfl rfl ?_
  refine x_geti (v := (μ.1 76 2)) rfl rfl (by decide) (Or.inl rfl) rfl ?_
  refine g_icmp_ge (tgt := 106) rfl (by decide) (fun h1 => ?_) (fun h1 => ?_)
  · refine g_aload_n rfl rfl ?_
    refine g_aload_n rfl rfl ?_
    refine g_cV (as := [tR (some 37)]) (s_agr1 hG (p := p) (A := A) (n := n) (σ := σ) h793 hqb (hO9 (by omega)) hLg) rfl rfl mX2_agree_ok rfl rfl rfl (by decide) rfl rfl rfl ?_
    rintro _ w9 ⟨v, rfl, hv01, hvP, hw9⟩ _
    have hw9 := hw9.symm
    subst hw9
    refine g_if_eq (tgt := 134) rfl (by decide) (fun h2 => ?_) (fun h2 => ?_)
    · refine x_return rfl rfl ?_
      have hnP : ¬ q_fP A n σ g (g 0) p := fun z => by have := hvP.2 z; omega
      exact ⟨rfl, fun z => absurd z hnP, fun _ => ⟨h793, fun i i0 i1 => by rw [hF.1 80 (by omega)]; exact hf0.2.1 i i0 i1, fun i a i0 i1 a0 a1 => by rw [hlow _ (by omega)]; exact hf0.2.2 i a i0 i1 a0 a1⟩, fun c9 z1 z2 z3 => hF.1 c9 z3, hF.2⟩
    · refine g_aload_n rfl rfl ?_
      refine x_getF (r := 80) hG rfl rfl (by decide) (Or.inr ⟨_, rfl⟩) rfl ?_
      refine g_aload_n rfl rfl ?_
      refine x_geti (v := (μ.1 79 3)) rfl rfl (by decide) (Or.inl rfl) rfl ?_
      refine g_iload_n rfl rfl ?_
      refine g_iast rfl rfl (by decide) (by omega) (by omega) ?_
      refine g_aload_n rfl rfl ?_
      refine g_dupr rfl ?_
      refine x_geti (v := (μ.1 79 3)) rfl rfl (by decide) (Or.inl rfl) rfl ?_
      refine g_iconst rfl ⟨by decide, by decide⟩ ?_
      refine x_iadd (z := (μ.1 79 3) + 1) rfl (by omega) ⟨by omega, by omega⟩ ?_
      refine g_puti rfl rfl (by decide) rfl rfl ?_
      refine x_return rfl rfl ?_
      have hyP : q_fP A n σ g (g 0) p := hvP.1 (by omega)
      have g80 : ∀ i, ((tp_pi (tp_pi μ 80 (μ.1 79 3) p) 79 3 ((μ.1 79 3) + 1))).1 80 i = if i = q.1 then p else μ.1 80 i := fun i => by
        rw [tp_pi_ne (by omega)]
        by_cases u : i = q.1
        · rw [if_pos u, u, ← h793, tp_pi_at]
        · rw [if_neg u, tp_pi_ix (by omega)]
      have hv9 : ∀ i, i < q.1 → v_u q.2 q.1 p i = q.2 i := fun i z => v_u_ne (by omega)
      exact ⟨rfl, fun _ => ⟨by show μ.1 79 3 + 1 = q.1 + 1; omega, fun i i0 i1 => by
        have i1 : i < q.1 + 1 := i1
        show ((tp_pi (tp_pi μ 80 (μ.1 79 3) p) 79 3 ((μ.1 79 3) + 1))).1 80 i = v_u q.2 q.1 p i
        rw [g80]
        by_cases u : i = q.1
        · rw [if_pos u, u, v_u_at]
        · rw [if_neg u, v_u_ne u, hF.1 80 (by omega)]; exact hf0.2.1 i i0 (by omega), fun i a i0 i1 a0 a1 => by
        have i1 : i < q.1 + 1 := i1
        show μ.1 81 (40 * i + a) = q_O A n σ (v_u q.2 q.1 p i) a
        by_cases u : i = q.1
        · rw [u, v_u_at]; exact hO9 (by omega) a a0 a1
        · rw [v_u_ne u, hlow _ (by omega)]; exact hf0.2.2 i a i0 (by omega) a0 a1⟩, fun z => absurd hyP z, fun c9 z1 z2 z3 => by
        show ((tp_pi (tp_pi μ 80 (μ.1 79 3) p) 79 3 ((μ.1 79 3) + 1))).1 c9 = _
        rw [tp_pi_ne (by omega), tp_pi_ne (by omega)]; exact hF.1 c9 z3, hF.2⟩
  · refine g_aload_n rfl rfl ?_
    refine g_iload rfl rfl ?_
    refine g_iV (as := [tI k]) mX4_address_ok rfl rfl rfl rfl rfl rfl (by decide) rfl rfl rfl ?_
    refine g_iload_n rfl rfl ?_
    refine g_if_lt (tgt := 19) rfl (by decide) (fun hx => absurd hx (by omega)) (fun _ => ?_)
    refine g_iload_n rfl rfl ?_
    refine g_aload_n rfl rfl ?_
    refine x_geti (v := (μ.1 76 2)) rfl rfl (by decide) (Or.inl rfl) rfl ?_
    refine g_icmp_ge (tgt := 19) rfl (by decide) (fun hx => absurd hx (by omega)) (fun _ => ?_)
    refine g_iload_n rfl rfl ?_
    refine g_sipush rfl ⟨by decide, by decide⟩ (by decide) ?_
    refine g_icmp_lt (tgt := 23) rfl (by decide) (fun _ => ?_) (fun hx => absurd hx (by omega))
    refine g_aload_n rfl rfl ?_
    refine x_getF (r := 77) hG rfl rfl (by decide) (Or.inr ⟨_, rfl⟩) rfl ?_
    refine g_iload_n rfl rfl ?_
    refine x_iald (v := (μ.1 77 k)) rfl rfl (by decide) (by omega) (by omega) rfl ?_
    refine x_ireturn rfl rfl ?_
    intro _
    refine g_istore rfl rfl rfl ?_
    refine g_iload rfl rfl ?_
    refine g_if_lt (tgt := 100) rfl (by decide) (fun hx => absurd hx (by omega)) (fun _ => ?_)
    refine g_iload rfl rfl ?_
    refine g_bipush rfl ⟨by decide, by decide⟩ (by decide) ?_
    refine g_icmp_ge (tgt := 100) rfl (by decide) (fun hx => absurd hx (by omega)) (fun _ => ?_)
    refine g_aload_n rfl rfl ?_
    refine x_getF (r := 81) hG rfl rfl (by decide) (Or.inr ⟨_, rfl⟩) rfl ?_
    refine g_iload rfl rfl ?_
    refine g_iload rfl rfl ?_
    refine x_iadd (z := r + (μ.1 77 k)) rfl (by omega) ⟨by omega, by omega⟩ ?_
    refine g_dup2 rfl ?_
    refine x_iald (v := (μ.1 81 (r + μ.1 77 k))) rfl rfl (by decide) (by omega) (by omega) rfl ?_
    refine g_iconst rfl ⟨by decide, by decide⟩ ?_
    refine x_iadd (z := (μ.1 81 (r + μ.1 77 k)) + 1) rfl (by omega) ⟨by omega, by omega⟩ ?_
    refine g_iast rfl rfl (by decide) (by omega) (by omega) ?_
    refine x_iinc (z := k + 1) rfl rfl (by omega) ⟨by omega, by omega⟩ rfl rfl ?_
    refine g_goto (tgt := 57) rfl (by decide) ?_
    exact ih (by omega) _ _ (by omega) (fun a a0 a1 => by
      rw [tp_pi1, q_s1 h0]
      by_cases u : a = μ.1 77 k
      · rw [if_pos ⟨rfl, by omega⟩, show q_is (fun i => A (J i)) a k = 1 from if_pos (by show A (J k) = a; omega), ← hz a a0 a1, u]
      · rw [if_neg (fun z => u (by omega)), show q_is (fun i => A (J i)) a k = 0 from if_neg (fun z => u (by have z : A (J k) = a := z; omega)), ← hz a a0 a1]; omega) (fun j z => by rw [tp_pi_no (by omega)]; exact hlow j z) (q_f1_pi hF)
set_option maxHeartbeats 4000000 in
set_option maxRecDepth 100000 in
theorem l_ad11 {G : tp_G} (hG : tp_Gf G = true) {f A B Y H J : Int → Int} {n p : Int} {s : v_T} (hw : tp_Cw f) (hW : r_W f n A B Y H) {μ0 σ : tp_M} {q : Int × (Int → Int)} (hJ : v_J s n J) (hM0 : p_M A s μ0) (hqb : 0 ≤ q.1 ∧ q.1 ≤ 256) (hf0 : f_M A n σ q μ0) (hOp : ∀ a, q_s (fun j => q_is (fun i => A (J i)) a j) (q_s s.2.2.2 s.2.1) = q_O A n σ p a) {r : Int} (hr : r = 40 * q.1) {g : Int → Int} (hL0 : tp_Lg μ0.1 37 g) : ∀ k, k ≤ 40 → ∀ (μ : tp_M), 0 ≤ k → (∀ a, 0 ≤ a → a < k → μ.1 81 (r + a) = 0) → (∀ j, j < r → μ.1 81 j = μ0.1 81 j) → q_f1 81 μ0 μ → tp_g G mX2_add 30 [some (tR (some 79)), some (tI p), some (tR (some 76)), some (tR (some 37)), some (tI r), some (tI k), none] [] μ (fun r μ' => r = none ∧ (q_fP A n σ g (g 0) p → f_M A n σ (q.1 + 1, v_u q.2 q.1 p) μ') ∧ (¬ q_fP A n σ g (g 0) p → f_M A n σ q μ') ∧ (∀ c, c ≠ 79 → c ≠ 80 → c ≠ 81 → μ'.1 c = μ0.1 c) ∧ μ'.2 = μ0.2) := by
  refine tp_ind _ ?_
  intro k hkN ih μ h0 hz hlow hF
  refine g_iload rfl rfl ?_
  refine g_bipush rfl ⟨by decide, by decide⟩ (by decide) ?_
  refine g_icmp_ge (tgt := 54) rfl (by decide) (fun h1 => ?_) (fun h1 => ?_)
  · refine g_iconst rfl ⟨by decide, by decide⟩ ?_
    refine g_istore rfl rfl rfl ?_
    exact l_ad21 hG hw hW hJ hM0 hqb hf0 hOp hr hL0 0 hJ.2.2.2.2.1.1 _ _ (by omega) (fun a a0 a1 => by rw [hz a a0 (by omega)]; rfl) hlow hF
  · refine g_aload_n rfl rfl ?_
    refine x_getF (r := 81) hG rfl rfl (by decide) (Or.inr ⟨_, rfl⟩) rfl ?_
    refine g_iload rfl rfl ?_
    refine g_iload rfl rfl ?_
    refine x_iadd (z := r + k) rfl (by omega) ⟨by omega, by omega⟩ ?_
    refine g_iconst rfl ⟨by decide, by decide⟩ ?_
    refine g_iast rfl rfl (by decide) (by omega) (by omega) ?_
    refine x_iinc (z := k + 1) rfl rfl (by omega) ⟨by omega, by omega⟩ rfl rfl ?_
    refine g_goto (tgt := 30) rfl (by decide) ?_
    exact ih (by omega) _ (by omega) (fun a a0 a1 => by
      rw [tp_pi1]
      by_cases u : a = k
      · rw [if_pos ⟨rfl, by omega⟩]
      · rw [if_neg (fun z => u (by omega))]; exact hz a a0 (by omega)) (fun j z => by rw [tp_pi_no (by omega)]; exact hlow j z) (q_f1_pi hF)
set_option maxHeartbeats 4000000 in
set_option maxRecDepth 100000 in
theorem s_add1 {G : tp_G} {μ : tp_M} (hG : tp_Gf G = true) {f A B Y H J : Int → Int} {n p : Int} {s : v_T} (hw : tp_Cw f) (hW : r_W f n A B Y H) {σ : tp_M} {q : Int × (Int → Int)} (hJ : v_J s n J) (hM : p_M A s μ) (hqb : 0 ≤ q.1 ∧ q.1 ≤ 256) (hf : f_M A n σ q μ) (hOp : ∀ a, q_s (fun j => q_is (fun i => A (J i)) a j) (q_s s.2.2.2 s.2.1) = q_O A n σ p a) {g : Int → Int} (hL : tp_Lg μ.1 37 g) : tp_k G mX2_add [tR (some 79), tI p, tR (some 76), tR (some 37)] μ (fun r μ' => r = none ∧ (q_fP A n σ g (g 0) p → f_M A n σ (q.1 + 1, v_u q.2 q.1 p) μ') ∧ (¬ q_fP A n σ g (g 0) p → f_M A n σ q μ') ∧ (∀ c, c ≠ 79 → c ≠ 80 → c ≠ 81 → μ'.1 c = μ.1 c) ∧ μ'.2 = μ.2) := by
  refine tp_ok_of mX2_add_ok rfl (Nat.le_refl _) ?_
  have h793 := hf.1
  refine g_aload_n rfl rfl ?_
  refine x_geti (v := (μ.1 79 3)) rfl rfl (by decide) (Or.inl rfl) rfl ?_
  refine g_if_lt (tgt := 17) rfl (by decide) (fun hx => absurd hx (by omega)) (fun _ => ?_)
  refine g_aload_n rfl rfl ?_
  refine x_geti (v := (μ.1 79 3)) rfl rfl (by decide) (Or.inl rfl) rfl ?_
  refine g_sipush rfl ⟨by decide, by decide⟩ (by decide) ?_
  refine g_icmp_lt (tgt := 18) rfl (by decide) (fun _ => ?_) (fun hx => absurd hx (by omega))
  refine g_aload_n rfl rfl ?_
  refine x_geti (v := (μ.1 79 3)) rfl rfl (by decide) (Or.inl rfl) rfl ?_
  refine g_bipush rfl ⟨by decide, by decide⟩ (by decide) ?_
  refine x_imul (z := 40 * (μ.1 79 3)) rfl (by omega) ⟨by omega, by omega⟩ ?_
  refine g_istore rfl rfl rfl ?_
  refine g_iconst rfl ⟨by decide, by decide⟩ ?_
  refine g_istore rfl rfl rfl ?_
  exact l_ad11 hG hw hW hJ hM hqb hf hOp (by omega) hL 0 (by omega) _ (by omega) (fun a a0 a1 => by omega) (fun j z => rfl) q_f1_rf
set_option maxHeartbeats 4000000 in
set_option maxRecDepth 100000 in
theorem l_find1 {G : tp_G} (hG : tp_Gf G = true) {f A B Y H : Int → Int} {n : Int} (hn0 : 0 ≤ n ∧ n ≤ 200) {σ : tp_M} (hp9 : 0 ≤ σ.1 0 9 ∧ σ.1 0 9 ≤ 209) (HH : ∀ p, 0 ≤ p → p < σ.1 0 9 → s_H f A B Y (f 2) n σ p) (hw : tp_Cw f) (hW : r_W f n A B Y H) {g : Int → Int} {μ0 : tp_M} (hsz0 : μ0.1 63 4 = σ.1 0 9) (hB0 : c_B σ μ0) (hpk0 : μ0.2 70 5 = some 63) (hQ0 : w_Q f A B n σ (σ.1 0 9) μ0) (hL0 : tp_Lg μ0.1 37 g) : ∀ k, k ≤ σ.1 0 9 → ∀ (μ : tp_M), -1 ≤ k → f_M A n σ (q_FL A n σ g k) μ → f_F μ0 μ → tp_g G mX2_find 16 [some (tR (some 79)), some (tR (some 70)), some (tR (some 76)), some (tR (some 37)), some (tI k)] [] μ (fun r μ' => r = none ∧ f_M A n σ (q_FL A n σ g (σ.1 0 9)) μ' ∧ f_F μ0 μ') := by
  refine tp_ind _ ?_
  intro k hkN ih μ hk0 hf hF
  have hsz : μ.1 63 4 = σ.1 0 9 := by rw [hF.1 63 (by omega)]; exact hsz0
  have hB : c_B σ μ := fun i z0 z1 => by rw [hF.1 64 (by omega), hF.1 65 (by omega), hF.1 66 (by omega), hF.1 67 (by omega)]; exact hB0 i z0 z1
  have hpk : μ.2 70 5 = some 63 := by rw [hF.2]; exact hpk0
  have hQ : w_Q f A B n σ (σ.1 0 9) μ := by
    have q := hQ0
    unfold w_Q w_P w_X at q ⊢
    rw [hF.1 70 (by omega), hF.1 71 (by omega), hF.1 72 (by omega), hF.1 73 (by omega), hF.1 74 (by omega), hF.1 75 (by omega)]
    exact q
  have hqb := q_FL_b (A := A) (n := n) (σ := σ) (g := g) hk0
  refine g_iload rfl rfl ?_
  refine g_aload_n rfl rfl ?_
  refine x_getM (v := (some 63)) hG rfl rfl (by decide) (Or.inl ⟨_, rfl⟩) rfl (by first | exact hpk | exact hpk0) ?_
  refine x_geti (v := (μ.1 63 4)) rfl rfl (by decide) (Or.inl rfl) rfl ?_
  refine g_icmp_ge (tgt := 50) rfl (by decide) (fun h1 => ?_) (fun h1 => ?_)
  · refine x_return rfl rfl ?_
    exact ⟨rfl, by rw [show σ.1 0 9 = k by omega]; exact hf, hF⟩
  · refine g_aload_n rfl rfl ?_
    refine g_aload_n rfl rfl ?_
    refine g_null rfl ?_
    refine g_iload rfl rfl ?_
    refine g_cV (as := [tR (some 70), tR none, tI k]) (s_siftN (a := k) hG hsz hB hp9 hn0.2 HH hQ hpk) rfl rfl mX4_sift_ok rfl rfl rfl (by decide) rfl rfl rfl ?_
    rintro _ w1 ⟨rfl, hM1, hF9⟩ _
    have hF1 : f_F μ0 w1 := ⟨fun c9 z9 => (hF9.1 c9 (by omega) (by omega) (by omega)).trans (hF.1 c9 z9), hF9.2.trans hF.2⟩
    have hf1 : f_M A n σ (q_FL A n σ g k) w1 := by
      unfold f_M
      rw [hF9.1 79 (by omega) (by omega) (by omega), hF9.1 80 (by omega) (by omega) (by omega), hF9.1 81 (by omega) (by omega) (by omega)]
      exact hf
    have hJ1 := q_Jp_s hn0.1 hp9.1 HH k
    have hL1 : tp_Lg w1.1 37 g := by
      unfold tp_Lg at hL0 ⊢
      rw [hF1.1 37 (by omega), hF1.1 (37 + 1) (by omega), hF1.1 (37 + 2) (by omega)]
      exact hL0
    refine g_aload_n rfl rfl ?_
    refine g_iload rfl rfl ?_
    refine g_aload_n rfl rfl ?_
    refine g_aload_n rfl rfl ?_
    refine g_cV (as := [tI k, tR (some 76), tR (some 37)]) (s_add1 hG (p := k) hw hW hJ1 hM1 (by omega) hf1 (fun a => q_ra_e hJ1.2.2.2.2.1.1 hJ1.2.2.1 hJ1.2.2.2.1) hL1) rfl rfl mX2_add_ok rfl rfl rfl (by decide) rfl rfl rfl ?_
    rintro _ w2 ⟨rfl, hy2, hn2, hF2, hR2⟩ _
    have hF3 : f_F μ0 w2 := ⟨fun c9 z9 => (hF2 c9 (by omega) (by omega) (by omega)).trans (hF1.1 c9 z9), hR2.trans hF1.2⟩
    refine x_iinc (z := k + 1) rfl rfl (by omega) ⟨by omega, by omega⟩ rfl rfl ?_
    refine g_goto (tgt := 16) rfl (by decide) ?_
    refine ih (by omega) _ (by omega) ?_ hF3
    by_cases hP9 : q_fP A n σ g (g 0) k
    · rw [q_FL_y hk0 hP9]; exact hy2 hP9
    · rw [q_FL_n hk0 hP9]; exact hn2 hP9
set_option maxHeartbeats 4000000 in
set_option maxRecDepth 100000 in
theorem s_find1 {G : tp_G} {μ : tp_M} (hG : tp_Gf G = true) {f A B Y H : Int → Int} {n : Int} (hn0 : 0 ≤ n ∧ n ≤ 200) {σ : tp_M} (hp9 : 0 ≤ σ.1 0 9 ∧ σ.1 0 9 ≤ 209) (HH : ∀ p, 0 ≤ p → p < σ.1 0 9 → s_H f A B Y (f 2) n σ p) (hw : tp_Cw f) (hW : r_W f n A B Y H) {g : Int → Int} (hsz : μ.1 63 4 = σ.1 0 9) (hB : c_B σ μ) (hpk : μ.2 70 5 = some 63) (hQ : w_Q f A B n σ (σ.1 0 9) μ) (hL : tp_Lg μ.1 37 g) : tp_k G mX2_find [tR (some 79), tR (some 70), tR (some 76), tR (some 37)] μ (fun r μ' => r = none ∧ f_M A n σ (q_FL A n σ g (σ.1 0 9)) μ' ∧ f_F μ μ') := by
  refine tp_ok_of mX2_find_ok rfl (Nat.le_refl _) ?_
  refine g_aload_n rfl rfl ?_
  refine g_iconst rfl ⟨by decide, by decide⟩ ?_
  refine g_puti rfl rfl (by decide) rfl rfl ?_
  refine g_aload_n rfl rfl ?_
  refine x_getM (v := (some 63)) hG rfl rfl (by decide) (Or.inl ⟨_, rfl⟩) rfl hpk ?_
  refine g_ifnonnull (tgt := 13) rfl (by decide) (fun _ _ => ?_) (fun hx => by cases hx)
  refine g_iconst rfl ⟨by decide, by decide⟩ ?_
  refine g_istore rfl rfl rfl ?_
  refine l_find1 (μ0 := μ) hG hn0 hp9 HH hw hW hsz hB hpk hQ hL (-1) (by omega) _ (by omega) ⟨rfl, fun i i0 i1 => by have i1 : i < 0 := i1; omega, fun i a i0 i1 => by have i1 : i < 0 := i1; omega⟩ ⟨fun c9 z9 => by rw [tp_pi_ne (by omega)], rfl⟩
