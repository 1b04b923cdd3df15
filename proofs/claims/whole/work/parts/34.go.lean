theorem r_to_nn {f : Int → Int} {ch : r_H} {c : r_C} (hw : tp_Cw f) (h : r_ok f c) (hch : (r_cv ch c false = -1 ∨ (0 ≤ r_cv ch c false ∧ r_cv ch c false ≤ 39))) (hto : r_to f ch c ≠ -1) : 0 ≤ r_to f ch c := by
  obtain ⟨⟨h1, h2⟩, ⟨h3, h4⟩, h5, h6⟩ := h
  obtain ⟨⟨w1, w2⟩, w3⟩ := hw.2.1 c.1 h1 h2
  unfold r_to at hto ⊢
  by_cases k0 : f (9 + c.1) = 0
  · rw [if_pos k0]; omega
  · rw [if_neg k0] at hto ⊢
    by_cases k1 : f (9 + c.1) = 1
    · rw [if_pos k1] at hto ⊢
      by_cases q : r_cv ch c true = -1
      · rw [if_pos q] at hto; exact absurd rfl hto
      · rw [if_neg q]
        by_cases q2 : r_cv ch c true = 101
        · rw [if_pos q2]; exact (w3.2.1 (by omega)).1
        · rw [if_neg q2]; omega
    · rw [if_neg k1] at hto ⊢
      by_cases k2 : f (9 + c.1) = 2
      · rw [if_pos k2]; exact (w3.2.1 (by omega)).1
      · rw [if_neg k2] at hto ⊢
        by_cases k3 : f (9 + c.1) = 3
        · rw [if_pos k3] at hto ⊢
          by_cases q : c.2.1 = 9
          · rw [if_pos q] at hto; exact absurd rfl hto
          · rw [if_neg q]; exact (w3.2.1 (by omega)).1
        · rw [if_neg k3] at hto ⊢
          by_cases k4 : f (9 + c.1) = 4
          · rw [if_pos k4] at hto ⊢
            by_cases q : c.2.1 = 0
            · rw [if_pos q] at hto; exact absurd rfl hto
            · rw [if_neg q]
              have := (h5 (c.2.1 - 1) (by omega) (by omega)).1
              omega
          · rw [if_neg k4] at hto ⊢
            by_cases k5 : f (9 + c.1) = 5
            · rw [if_pos k5] at hto ⊢; omega
            · rw [if_neg k5] at hto; exact absurd rfl hto
/-- a run of n steps stands in the cells of a run of the class -/
def r_R (f : Int → Int) (ch : r_H) (s0 : Int) (p n : Nat) (μ : tp_M) : Prop := r_N f ch s0 n ∧ n ≤ 200 ∧ μ.1 p 6 = (n : Int) ∧ (∀ j : Nat, j < n → μ.1 (p + 1) (j : Int) = (r_at f ch s0 j).1 ∧ μ.1 (p + 2) (j : Int) = r_to f ch (r_at f ch s0 j) ∧ μ.1 (p + 3) (j : Int) = r_yes f ch (r_at f ch s0 j)) ∧ μ.1 p 11 = r_E f ch s0 n ∧ μ.1 p 12 = r_dp f ch s0 n ∧ μ.1 p 13 = (r_at f ch s0 n).2.2.2.1 ∧ μ.1 p 14 = r_rt f ch s0 n
/-- only a run's own cells have changed -/
def r_F (p : Nat) (μ μ' : tp_M) : Prop := (∀ c', (c' < p ∨ p + 4 < c') → μ'.1 c' = μ.1 c') ∧ μ'.1 p 9 = μ.1 p 9 ∧ μ'.2 = μ.2
/-- at the head of go's loop, k steps made -/
def r_J (f : Int → Int) (ch : r_H) (s0 : Int) (p : Nat) (μ0 : tp_M) (k : Nat) (μ : tp_M) : Prop :=
  (∀ j, j < k → r_go f ch s0 j) ∧ (∀ j, k = j + 1 → r_to f ch (r_at f ch s0 j) ≠ -1) ∧ r_M (r_at f ch s0 k) p μ ∧ μ.1 p 6 = (k : Int) ∧ (∀ j : Nat, j < k → μ.1 (p + 1) (j : Int) = (r_at f ch s0 j).1 ∧ μ.1 (p + 2) (j : Int) = r_to f ch (r_at f ch s0 j) ∧ μ.1 (p + 3) (j : Int) = r_yes f ch (r_at f ch s0 j)) ∧ μ.1 p 11 = 3 ∧ μ.1 p 12 = r_dp f ch s0 k ∧ μ.1 p 14 = r_rt f ch s0 k ∧ r_F p μ0 μ
theorem r_J_nn {f : Int → Int} {ch : r_H} {s0 : Int} {p : Nat} {μ0 μ : tp_M} {k : Nat} (hw : tp_Cw f) (hs : r_src ch) (h : r_J f ch s0 p μ0 k μ) : 0 ≤ (r_at f ch s0 k).1 := by
  cases k with
  | zero => exact Int.le_refl 0
  | succ j =>
    have h1 := r_all_ok hw hs j (h.1 j (Nat.lt_succ_self j))
    exact r_to_nn hw h1 ((hs _ _ h1.2.2.2).2) (h.2.1 j rfl)
theorem r_J_go {f : Int → Int} {ch : r_H} {s0 : Int} {p : Nat} {μ0 μ : tp_M} {k : Nat} (h : r_J f ch s0 p μ0 k μ) (hk : k < 200) (ha : (r_at f ch s0 k).1 < f 0) : r_go f ch s0 k := by
  cases k with
  | zero => exact ha
  | succ j =>
    refine ⟨h.1 j (Nat.lt_succ_self j), ?_⟩
    have h2 : r_to f ch (r_at f ch s0 j) < f 0 := ha
    unfold r_en
    rw [if_neg (h.2.1 j rfl), if_neg (by omega), if_neg (by omega)]
theorem r_J_stop {f : Int → Int} {ch : r_H} {s0 : Int} {p : Nat} {μ0 μ : tp_M} {k : Nat} (h : r_J f ch s0 p μ0 k μ) (ha : f 0 ≤ (r_at f ch s0 k).1) : r_N f ch s0 k ∧ r_E f ch s0 k = 3 := by
  cases k with
  | zero => exact ⟨⟨fun j hj => absurd hj (Nat.not_lt_zero j), fun q => by have h1 : 0 < f 0 := q; have h2 : f 0 ≤ 0 := ha; omega⟩, rfl⟩
  | succ j =>
    have h2 : f 0 ≤ r_to f ch (r_at f ch s0 j) := ha
    have e : r_en f ch (r_at f ch s0 j) j = 3 := by
      unfold r_en
      rw [if_neg (h.2.1 j rfl), if_pos h2]
    exact ⟨⟨h.1, fun q => by have := q.2; omega⟩, e⟩
/-- the chooser of a run's cells answers as ch does, whatever the memory but for the run's own cells -/
def r_Hc (G : tp_G) (ch : r_H) (p : Nat) (μ0 : tp_M) : Prop := ∀ (μ : tp_M) (a dp us sd : Int) (stk : Int → Int), r_F p μ0 μ → r_M (a, dp, stk, us, sd) p μ → 0 ≤ us → us < 1000 → ∀ b : Bool, tp_k G mX7_chosen [tR (some p), tI (if b = true then 1 else 0)] μ (fun r μ' => r = some (tI (r_cv ch (a, dp, stk, us, sd) b)) ∧ μ' = tp_cho (tp_pi μ p 8 (r_cs ch (a, dp, stk, us, sd) b)) p (r_cv ch (a, dp, stk, us, sd) b))
theorem r_rt_b {f : Int → Int} {ch : r_H} {s0 : Int} : ∀ k : Nat, 0 ≤ r_rt f ch s0 k ∧ r_rt f ch s0 k ≤ (k : Int) := by
  intro k
  induction k with
  | zero => exact ⟨Int.le_refl 0, Int.le_refl 0⟩
  | succ k ih =>
    unfold r_rt
    split <;> omega
theorem r_us_b {f : Int → Int} {ch : r_H} {s0 : Int} : ∀ k : Nat, 0 ≤ (r_at f ch s0 k).2.2.2.1 ∧ (r_at f ch s0 k).2.2.2.1 ≤ (k : Int) := by
  intro k
  induction k with
  | zero => exact ⟨Int.le_refl 0, Int.le_refl 0⟩
  | succ k ih =>
    simp only [r_at, r_nx]
    split <;> omega
set_option maxHeartbeats 4000000 in
set_option maxRecDepth 100000 in
theorem l_go50 {G : tp_G} (hG : tp_Gf G = true) {c : Nat} {f : Int → Int} {ch : r_H} {s0 : Int} {μ0 : tp_M} (hc : tp_SH c = .inl 0) (hcl : c < 37) (hcode : μ0.2 50 5 = some c) (hf0 : μ0.1 c 4 = f 0) (hfk : ∀ i, 0 ≤ i → i < f 0 → μ0.1 (c + 1) i = f (9 + i)) (hft : ∀ i, 0 ≤ i → i < f 0 → μ0.1 (c + 2) i = f (49 + i)) (hw : tp_Cw f) (hsrc : r_src ch) (HC : r_Hc G ch 50 μ0) : ∀ (m k : Nat), k + m = 200 → ∀ μ : tp_M, r_J f ch s0 50 μ0 k μ → tp_g G mX7_go 34 [some (tR (some 50)), some (tI (r_at f ch s0 k).1), some (tI (k : Int))] [] μ (fun r μ' => r = none ∧ (∃ n, r_R f ch s0 50 n μ') ∧ r_F 50 μ0 μ') := by
  intro m
  have hcn : c < 234 := by omega
  have hw0 := hw.1
  induction m with
  | zero =>
    intro k hk μ hJ
    have hk2 : k = 200 := by omega
    subst hk2
    have hnn := r_J_nn hw hsrc hJ
    have hf9 := hJ.2.2.2.2.2.2.2.2
    have hco : μ.2 50 5 = some c := by rw [hf9.2.2]; exact hcode
    have hf02 : μ.1 c 4 = f 0 := by rw [hf9.1 c (by omega)]; exact hf0
    generalize hA : (r_at f ch s0 200).1 = a at hnn ⊢
    by_cases hin : f 0 ≤ a
    · refine g_iload_n rfl rfl ?_
      refine g_sipush rfl ⟨by decide, by decide⟩ (by decide) ?_
      refine g_icmp_ge (tgt := 97) rfl (by decide) (fun _ => ?_) (fun hx => absurd hx (by omega))
      refine g_aload_n rfl rfl ?_
      refine g_iload_n rfl rfl ?_
      refine g_iV (as := [tI a]) mX7_hasInstruction_ok rfl rfl rfl rfl rfl rfl (by decide) rfl rfl rfl ?_
      refine g_aload_n rfl rfl ?_
      refine x_getM (v := (some c)) hG rfl rfl (by decide) (Or.inl ⟨_, rfl⟩) rfl hco ?_
      refine g_ifnull (tgt := 22) rfl (by decide) (fun hx => by cases hx) (fun _ _ => ?_)
      refine g_aload_n rfl rfl ?_
      refine x_getM (v := (some c)) hG rfl rfl (by decide) (Or.inl ⟨_, rfl⟩) rfl hco ?_
      refine g_iload_n rfl rfl ?_
      refine g_cV (as := [tI a]) (s_haso hG hc hcn (Or.inr (by omega))) rfl rfl mX0_has_ok rfl hc rfl hcn rfl rfl rfl ?_
      rintro _ w9 ⟨rfl, hw9⟩ _
      have hw9 := hw9.symm
      subst hw9
      refine g_if_eq (tgt := 22) rfl (by decide) (fun _ => ?_) (fun hx => absurd hx (by omega))
      refine g_iconst rfl ⟨by decide, by decide⟩ ?_
      refine x_zreturn rfl rfl (Or.inl rfl) ?_
      intro _
      refine g_if_eq (tgt := 110) rfl (by decide) (fun _ => ?_) (fun hx => absurd hx (by omega))
      refine x_return rfl rfl ?_
      obtain ⟨z1, z2⟩ := r_J_stop hJ (by rw [hA]; omega)
      exact ⟨rfl, ⟨200, z1, by omega, hJ.2.2.2.1, hJ.2.2.2.2.1, by rw [z2]; exact hJ.2.2.2.2.2.1, hJ.2.2.2.2.2.2.1, hJ.2.2.1.2.2.1, hJ.2.2.2.2.2.2.2.1⟩, hJ.2.2.2.2.2.2.2.2⟩
    · refine g_iload_n rfl rfl ?_
      refine g_sipush rfl ⟨by decide, by decide⟩ (by decide) ?_
      refine g_icmp_ge (tgt := 97) rfl (by decide) (fun _ => ?_) (fun hx => absurd hx (by omega))
      refine g_aload_n rfl rfl ?_
      refine g_iload_n rfl rfl ?_
      refine g_iV (as := [tI a]) mX7_hasInstruction_ok rfl rfl rfl rfl rfl rfl (by decide) rfl rfl rfl ?_
      refine g_aload_n rfl rfl ?_
      refine x_getM (v := (some c)) hG rfl rfl (by decide) (Or.inl ⟨_, rfl⟩) rfl hco ?_
      refine g_ifnull (tgt := 22) rfl (by decide) (fun hx => by cases hx) (fun _ _ => ?_)
      refine g_aload_n rfl rfl ?_
      refine x_getM (v := (some c)) hG rfl rfl (by decide) (Or.inl ⟨_, rfl⟩) rfl hco ?_
      refine g_iload_n rfl rfl ?_
      refine g_cV (as := [tI a]) (s_has hG hc hcn (by omega) (by omega) (by omega)) rfl rfl mX0_has_ok rfl hc rfl hcn rfl rfl rfl ?_
      rintro _ w9 ⟨rfl, hw9⟩ _
      have hw9 := hw9.symm
      subst hw9
      refine g_if_eq (tgt := 22) rfl (by decide) (fun hx => absurd hx (by omega)) (fun _ => ?_)
      refine g_iconst rfl ⟨by decide, by decide⟩ ?_
      refine g_goto (tgt := 23) rfl (by decide) ?_
      refine x_zreturn rfl rfl (Or.inr rfl) ?_
      intro _
      refine g_if_eq (tgt := 110) rfl (by decide) (fun hx => absurd hx (by omega)) (fun _ => ?_)
      refine g_aload_n rfl rfl ?_
      refine g_iconst rfl ⟨by decide, by decide⟩ ?_
      refine g_puti rfl rfl (by decide) rfl rfl ?_
      refine x_return rfl rfl ?_
      have hen : r_en f ch (r_at f ch s0 199) 199 = 5 := by
        have hA2 : r_to f ch (r_at f ch s0 199) = a := hA
        unfold r_en
        rw [if_neg (hJ.2.1 199 rfl), if_neg (by omega), if_pos rfl]
      exact ⟨rfl, ⟨200, ⟨hJ.1, fun q => by have h9 : r_en f ch (r_at f ch s0 199) 199 = 0 := q.2; omega⟩, by omega, hJ.2.2.2.1, hJ.2.2.2.2.1, hen.symm, hJ.2.2.2.2.2.2.1, hJ.2.2.1.2.2.1, hJ.2.2.2.2.2.2.2.1⟩, ⟨fun c' h9 => by rw [tp_pi_ne (by omega)]; exact hJ.2.2.2.2.2.2.2.2.1 c' h9, hJ.2.2.2.2.2.2.2.2.2.1, hJ.2.2.2.2.2.2.2.2.2.2⟩⟩
  | succ m ih =>
    intro k hk μ hJ
    have hnn := r_J_nn hw hsrc hJ
    have hf9 := hJ.2.2.2.2.2.2.2.2
    have hco : μ.2 50 5 = some c := by rw [hf9.2.2]; exact hcode
    have hf02 : μ.1 c 4 = f 0 := by rw [hf9.1 c (by omega)]; exact hf0
    have hfk2 : ∀ i, 0 ≤ i → i < f 0 → μ.1 (c + 1) i = f (9 + i) := by rw [hf9.1 (c + 1) (by omega)]; exact hfk
    have hft2 : ∀ i, 0 ≤ i → i < f 0 → μ.1 (c + 2) i = f (49 + i) := by rw [hf9.1 (c + 2) (by omega)]; exact hft
    by_cases hin : f 0 ≤ (r_at f ch s0 k).1
    · generalize hA : (r_at f ch s0 k).1 = a at hnn hin ⊢
      refine g_iload_n rfl rfl ?_
      refine g_sipush rfl ⟨by decide, by decide⟩ (by decide) ?_
      refine g_icmp_ge (tgt := 97) rfl (by decide) (fun hx => absurd hx (by omega)) (fun _ => ?_)
      refine g_aload_n rfl rfl ?_
      refine g_iload_n rfl rfl ?_
      refine g_iV (as := [tI a]) mX7_hasInstruction_ok rfl rfl rfl rfl rfl rfl (by decide) rfl rfl rfl ?_
      refine g_aload_n rfl rfl ?_
      refine x_getM (v := (some c)) hG rfl rfl (by decide) (Or.inl ⟨_, rfl⟩) rfl hco ?_
      refine g_ifnull (tgt := 22) rfl (by decide) (fun hx => by cases hx) (fun _ _ => ?_)
      refine g_aload_n rfl rfl ?_
      refine x_getM (v := (some c)) hG rfl rfl (by decide) (Or.inl ⟨_, rfl⟩) rfl hco ?_
      refine g_iload_n rfl rfl ?_
      refine g_cV (as := [tI a]) (s_haso hG hc hcn (Or.inr (by omega))) rfl rfl mX0_has_ok rfl hc rfl hcn rfl rfl rfl ?_
      rintro _ w9 ⟨rfl, hw9⟩ _
      have hw9 := hw9.symm
      subst hw9
      refine g_if_eq (tgt := 22) rfl (by decide) (fun _ => ?_) (fun hx => absurd hx (by omega))
      refine g_iconst rfl ⟨by decide, by decide⟩ ?_
      refine x_zreturn rfl rfl (Or.inl rfl) ?_
      intro _
      refine g_if_ne (tgt := 50) rfl (by decide) (fun hx => absurd hx (by omega)) (fun _ => ?_)
      refine x_return rfl rfl ?_
      obtain ⟨z1, z2⟩ := r_J_stop hJ (by rw [hA]; omega)
      exact ⟨rfl, ⟨k, z1, by omega, hJ.2.2.2.1, hJ.2.2.2.2.1, by rw [z2]; exact hJ.2.2.2.2.2.1, hJ.2.2.2.2.2.2.1, hJ.2.2.1.2.2.1, hJ.2.2.2.2.2.2.2.1⟩, hJ.2.2.2.2.2.2.2.2⟩
    · have hgo := r_J_go hJ (by omega) (by omega)
      have hok := r_all_ok hw hsrc k hgo
      have hsr := hsrc _ (r_at f ch s0 k).2.2.2.2 hok.2.2.2
      have hub := r_us_b (f := f) (ch := ch) (s0 := s0) k
      have hrb := r_rt_b (f := f) (ch := ch) (s0 := s0) k
      generalize hA : (r_at f ch s0 k).1 = a at hnn hin ⊢
      have hCfg : (a, (r_at f ch s0 k).2.1, (r_at f ch s0 k).2.2.1, (r_at f ch s0 k).2.2.2.1, (r_at f ch s0 k).2.2.2.2) = r_at f ch s0 k := by rw [← hA]
      have hM1 : r_M (a, (r_at f ch s0 k).2.1, (r_at f ch s0 k).2.2.1, (r_at f ch s0 k).2.2.2.1, (r_at f ch s0 k).2.2.2.2) 50 (tp_pi (tp_pi (tp_pi μ 50 6 ((k : Int) + 1)) 51 (k : Int) a) 53 (k : Int) (tp_z 0)) := ⟨hJ.2.2.1.1, hJ.2.2.1.2.1, hJ.2.2.1.2.2.1, hJ.2.2.1.2.2.2⟩
      have hrt1 : 0 ≤ (tp_pi (tp_pi (tp_pi μ 50 6 ((k : Int) + 1)) 51 (k : Int) a) 53 (k : Int) (tp_z 0)).1 50 14 ∧ (tp_pi (tp_pi (tp_pi μ 50 6 ((k : Int) + 1)) 51 (k : Int) a) 53 (k : Int) (tp_z 0)).1 50 14 < 1000 := by
        show 0 ≤ μ.1 50 14 ∧ μ.1 50 14 < 1000
        rw [hJ.2.2.2.2.2.2.2.1]
        omega
      have HC1 := HC (tp_pi (tp_pi (tp_pi μ 50 6 ((k : Int) + 1)) 51 (k : Int) a) 53 (k : Int) (tp_z 0)) a _ _ _ _ ⟨fun c' h9 => by
        rw [tp_pi_ne (by omega), tp_pi_ne (by omega), tp_pi_ne (by omega)]
        exact hf9.1 c' h9, hf9.2.1, hf9.2.2⟩ hM1 hub.1 (by omega)
      refine g_iload_n rfl rfl ?_
      refine g_sipush rfl ⟨by decide, by decide⟩ (by decide) ?_
      refine g_icmp_ge (tgt := 97) rfl (by decide) (fun hx => absurd hx (by omega)) (fun _ => ?_)
      refine g_aload_n rfl rfl ?_
      refine g_iload_n rfl rfl ?_
      refine g_iV (as := [tI a]) mX7_hasInstruction_ok rfl rfl rfl rfl rfl rfl (by decide) rfl rfl rfl ?_
      refine g_aload_n rfl rfl ?_
      refine x_getM (v := (some c)) hG rfl rfl (by decide) (Or.inl ⟨_, rfl⟩) rfl hco ?_
      refine g_ifnull (tgt := 22) rfl (by decide) (fun hx => by cases hx) (fun _ _ => ?_)
      refine g_aload_n rfl rfl ?_
      refine x_getM (v := (some c)) hG rfl rfl (by decide) (Or.inl ⟨_, rfl⟩) rfl hco ?_
      refine g_iload_n rfl rfl ?_
      refine g_cV (as := [tI a]) (s_has hG hc hcn (by omega) (by omega) (by omega)) rfl rfl mX0_has_ok rfl hc rfl hcn rfl rfl rfl ?_
      rintro _ w9 ⟨rfl, hw9⟩ _
      have hw9 := hw9.symm
      subst hw9
      refine g_if_eq (tgt := 22) rfl (by decide) (fun hx => absurd hx (by omega)) (fun _ => ?_)
      refine g_iconst rfl ⟨by decide, by decide⟩ ?_
      refine g_goto (tgt := 23) rfl (by decide) ?_
      refine x_zreturn rfl rfl (Or.inr rfl) ?_
      intro _
      refine g_if_ne (tgt := 50) rfl (by decide) (fun _ => ?_) (fun hx => absurd hx (by omega))
      refine g_aload_n rfl rfl ?_
      refine g_iload_n rfl rfl ?_
      refine g_iconst rfl ⟨by decide, by decide⟩ ?_
      refine x_iadd (z := (k : Int) + 1) rfl (by omega) ⟨by omega, by omega⟩ ?_
      refine g_puti rfl rfl (by decide) rfl rfl ?_
      refine g_aload_n rfl rfl ?_
      refine x_getF (r := 51) hG rfl rfl (by decide) (Or.inr ⟨_, rfl⟩) rfl ?_
      refine g_iload_n rfl rfl ?_
      refine g_iload_n rfl rfl ?_
      refine g_iast rfl rfl (by decide) (by omega) (by omega) ?_
      refine g_aload_n rfl rfl ?_
      refine x_getF (r := 53) hG rfl rfl (by decide) (Or.inr ⟨_, rfl⟩) rfl ?_
      refine g_iload_n rfl rfl ?_
      refine g_iconst rfl ⟨by decide, by decide⟩ ?_
      refine g_zast rfl rfl (by decide) (by omega) (by omega) ?_
      refine g_aload_n rfl rfl ?_
      refine g_iload_n rfl rfl ?_
      refine g_iload_n rfl rfl ?_
      refine g_cV (as := [tI (k : Int), tI a]) (by
              have q9 := s_lead50 (μ := (tp_pi (tp_pi (tp_pi μ 50 6 ((k : Int) + 1)) 51 (k : Int) a) 53 (k : Int) (tp_z 0))) (f := f) (ch := ch) (k := (k : Int)) hG hc hcl hco (by rw [tp_pi_ne (by omega), tp_pi_ne (by omega), tp_pi_ne (by omega)]; omega) (fun i g1 g2 => by rw [tp_pi_ne (by omega), tp_pi_ne (by omega), tp_pi_ne (by omega)]; exact hfk2 i g1 g2) (fun i g1 g2 => by rw [tp_pi_ne (by omega), tp_pi_ne (by omega), tp_pi_ne (by omega)]; exact hft2 i g1 g2) hw ⟨by omega, by omega⟩ hM1 hok.2.1 (fun i g1 g2 => (hok.2.2.1 i g1 g2).1) ⟨by omega, by omega⟩ hrt1 hsr.1 hsr.2 (HC1 true) (HC1 false)
              rw [hCfg] at q9
              exact q9) rfl rfl mX7_leadFrom_ok rfl rfl rfl (by decide) rfl rfl rfl ?_
      rintro _ w1 ⟨rfl, hL⟩ _
      refine g_istore_n rfl rfl rfl ?_
      refine g_aload_n rfl rfl ?_
      refine x_getF (r := 52) hG rfl rfl (by decide) (Or.inr ⟨_, rfl⟩) rfl ?_
      refine g_iload_n rfl rfl ?_
      refine g_iload_n rfl rfl ?_
      refine g_iast rfl rfl (by decide) (by omega) (by omega) ?_
      refine g_iload_n rfl rfl ?_
      refine g_iconst rfl ⟨by decide, by decide⟩ ?_
      refine g_icmp_ne (tgt := 91) rfl (by decide) (fun h1 => ?_) (fun h1 => ?_)
      · refine x_iinc (z := (k : Int) + 1) rfl rfl (by omega) ⟨by omega, by omega⟩ rfl rfl ?_
        refine g_goto (tgt := 34) rfl (by decide) ?_
        have w10 : ∀ c', c' ≠ 50 → c' ≠ 53 → c' ≠ 54 → w1.1 c' = (tp_pi (tp_pi (tp_pi μ 50 6 ((k : Int) + 1)) 51 (k : Int) a) 53 (k : Int) (tp_z 0)).1 c' := hL.2.2.2.2.2.2.2.2.2.2.1
        have hF2 : r_F 50 μ0 (tp_pi w1 52 (k : Int) (r_to f ch (r_at f ch s0 k))) := ⟨fun c' h9 => by
            rw [tp_pi_ne (by omega), w10 c' (by omega) (by omega) (by omega), tp_pi_ne (by omega), tp_pi_ne (by omega), tp_pi_ne (by omega)]
            exact hJ.2.2.2.2.2.2.2.2.1 c' h9, by
            show w1.1 50 9 = _
            rw [hL.2.2.2.2.2.2.2.2.2.1.2]
            exact hJ.2.2.2.2.2.2.2.2.2.1, by
            show w1.2 = _
            rw [hL.2.2.2.2.2.2.2.2.2.2.2]
            exact hJ.2.2.2.2.2.2.2.2.2.2⟩
        have hA3 : ∀ j : Nat, j < k + 1 → (tp_pi w1 52 (k : Int) (r_to f ch (r_at f ch s0 k))).1 51 (j : Int) = (r_at f ch s0 j).1 ∧ (tp_pi w1 52 (k : Int) (r_to f ch (r_at f ch s0 k))).1 52 (j : Int) = r_to f ch (r_at f ch s0 j) ∧ (tp_pi w1 52 (k : Int) (r_to f ch (r_at f ch s0 k))).1 53 (j : Int) = r_yes f ch (r_at f ch s0 j) := fun j hj => by
            by_cases hjk : j = k
            · subst hjk
              refine ⟨?_, tp_pi_at, ?_⟩
              · rw [tp_pi_ne (by decide), w10 51 (by decide) (by decide) (by decide), tp_pi_ne (by decide), tp_pi_at, hA]
              · rw [tp_pi_ne (by decide)]
                exact hL.2.2.2.2.2.2.2.2.1 (tp_pi_at.trans tp_z0)
            · have ho := hJ.2.2.2.2.1 j (by omega)
              have hji : ¬ (j : Int) = (k : Int) := by omega
              refine ⟨?_, ?_, ?_⟩
              · rw [tp_pi_ne (by decide), w10 51 (by decide) (by decide) (by decide), tp_pi_ne (by decide), tp_pi_ix hji, tp_pi_ne (by decide)]
                exact ho.1
              · rw [tp_pi_ix hji, w10 52 (by decide) (by decide) (by decide), tp_pi_ne (by decide), tp_pi_ne (by decide), tp_pi_ne (by decide)]
                exact ho.2.1
              · rw [tp_pi_ne (by decide)]
                refine (hL.2.2.2.2.2.2.2.1 (j : Int) hji).trans ?_
                rw [tp_pi_ix hji, tp_pi_ne (by decide), tp_pi_ne (by decide)]
                exact ho.2.2
        have hS3 : (tp_pi w1 52 (k : Int) (r_to f ch (r_at f ch s0 k))).1 50 6 = ((k + 1 : Nat) : Int) := by
            show w1.1 50 6 = _
            rw [hL.2.2.2.2.2.2.2.2.2.1.1]
            show (k : Int) + 1 = _
            omega
        have hD3 : w1.1 50 12 = r_dp f ch s0 (k + 1) := by
            rw [hL.2.2.2.2.1]
            show (if _ then max (μ.1 50 12) _ else μ.1 50 12) = _
            rw [hJ.2.2.2.2.2.2.1]
            rfl
        have hR3 : w1.1 50 14 = r_rt f ch s0 (k + 1) := by
            rw [hL.2.2.2.2.2.1]
            show (if _ then μ.1 50 14 + 1 else μ.1 50 14) = _
            rw [hJ.2.2.2.2.2.2.2.1]
            rfl
        have hto : r_to f ch (r_at f ch s0 k) ≠ -1 := by omega
        exact ih (k + 1) (by omega) _ ⟨fun j hj => by rcases Nat.lt_succ_iff_lt_or_eq.mp hj with h9 | h9; exact hJ.1 j h9; rw [h9]; exact hgo, fun j hj => by rw [show j = k by omega]; exact hto, ⟨hL.1, hL.2.1, hL.2.2.1, hL.2.2.2.1⟩, hS3, hA3, by
            show w1.1 50 11 = _
            rw [hL.2.2.2.2.2.2.1, if_neg hto]
            exact hJ.2.2.2.2.2.1, hD3, hR3, hF2⟩
      · refine x_return rfl rfl ?_
        have w10 : ∀ c', c' ≠ 50 → c' ≠ 53 → c' ≠ 54 → w1.1 c' = (tp_pi (tp_pi (tp_pi μ 50 6 ((k : Int) + 1)) 51 (k : Int) a) 53 (k : Int) (tp_z 0)).1 c' := hL.2.2.2.2.2.2.2.2.2.2.1
        have hF2 : r_F 50 μ0 (tp_pi w1 52 (k : Int) (r_to f ch (r_at f ch s0 k))) := ⟨fun c' h9 => by
            rw [tp_pi_ne (by omega), w10 c' (by omega) (by omega) (by omega), tp_pi_ne (by omega), tp_pi_ne (by omega), tp_pi_ne (by omega)]
            exact hJ.2.2.2.2.2.2.2.2.1 c' h9, by
            show w1.1 50 9 = _
            rw [hL.2.2.2.2.2.2.2.2.2.1.2]
            exact hJ.2.2.2.2.2.2.2.2.2.1, by
            show w1.2 = _
            rw [hL.2.2.2.2.2.2.2.2.2.2.2]
            exact hJ.2.2.2.2.2.2.2.2.2.2⟩
        have hA3 : ∀ j : Nat, j < k + 1 → (tp_pi w1 52 (k : Int) (r_to f ch (r_at f ch s0 k))).1 51 (j : Int) = (r_at f ch s0 j).1 ∧ (tp_pi w1 52 (k : Int) (r_to f ch (r_at f ch s0 k))).1 52 (j : Int) = r_to f ch (r_at f ch s0 j) ∧ (tp_pi w1 52 (k : Int) (r_to f ch (r_at f ch s0 k))).1 53 (j : Int) = r_yes f ch (r_at f ch s0 j) := fun j hj => by
            by_cases hjk : j = k
            · subst hjk
              refine ⟨?_, tp_pi_at, ?_⟩
              · rw [tp_pi_ne (by decide), w10 51 (by decide) (by decide) (by decide), tp_pi_ne (by decide), tp_pi_at, hA]
              · rw [tp_pi_ne (by decide)]
                exact hL.2.2.2.2.2.2.2.2.1 (tp_pi_at.trans tp_z0)
            · have ho := hJ.2.2.2.2.1 j (by omega)
              have hji : ¬ (j : Int) = (k : Int) := by omega
              refine ⟨?_, ?_, ?_⟩
              · rw [tp_pi_ne (by decide), w10 51 (by decide) (by decide) (by decide), tp_pi_ne (by decide), tp_pi_ix hji, tp_pi_ne (by decide)]
                exact ho.1
              · rw [tp_pi_ix hji, w10 52 (by decide) (by decide) (by decide), tp_pi_ne (by decide), tp_pi_ne (by decide), tp_pi_ne (by decide)]
                exact ho.2.1
              · rw [tp_pi_ne (by decide)]
                refine (hL.2.2.2.2.2.2.2.1 (j : Int) hji).trans ?_
                rw [tp_pi_ix hji, tp_pi_ne (by decide), tp_pi_ne (by decide)]
                exact ho.2.2
        have hS3 : (tp_pi w1 52 (k : Int) (r_to f ch (r_at f ch s0 k))).1 50 6 = ((k + 1 : Nat) : Int) := by
            show w1.1 50 6 = _
            rw [hL.2.2.2.2.2.2.2.2.2.1.1]
            show (k : Int) + 1 = _
            omega
        have hD3 : w1.1 50 12 = r_dp f ch s0 (k + 1) := by
            rw [hL.2.2.2.2.1]
            show (if _ then max (μ.1 50 12) _ else μ.1 50 12) = _
            rw [hJ.2.2.2.2.2.2.1]
            rfl
        have hR3 : w1.1 50 14 = r_rt f ch s0 (k + 1) := by
            rw [hL.2.2.2.2.2.1]
            show (if _ then μ.1 50 14 + 1 else μ.1 50 14) = _
            rw [hJ.2.2.2.2.2.2.2.1]
            rfl
        have hto : r_to f ch (r_at f ch s0 k) = -1 := (by omega)
        have he : r_en f ch (r_at f ch s0 k) k = r_ek (f (9 + (r_at f ch s0 k).1)) := by unfold r_en; rw [if_pos hto]
        have h0 : r_ek (f (9 + (r_at f ch s0 k).1)) ≠ 0 := by
          unfold r_ek
          split
          · decide
          · split <;> decide
        exact ⟨rfl, ⟨k + 1, ⟨fun j hj => by rcases Nat.lt_succ_iff_lt_or_eq.mp hj with h9 | h9; exact hJ.1 j h9; rw [h9]; exact hgo, fun q => h0 (he ▸ q.2)⟩, by omega, hS3, hA3, by
            show w1.1 50 11 = _
            rw [hL.2.2.2.2.2.2.1, if_pos hto]
            exact he.symm, hD3, hL.2.2.1, hR3⟩, hF2⟩
set_option maxHeartbeats 4000000 in
set_option maxRecDepth 100000 in
theorem l_go56 {G : tp_G} (hG : tp_Gf G = true) {c : Nat} {f : Int → Int} {ch : r_H} {s0 : Int} {μ0 : tp_M} (hc : tp_SH c = .inl 0) (hcl : c < 37) (hcode : μ0.2 56 5 = some c) (hf0 : μ0.1 c 4 = f 0) (hfk : ∀ i, 0 ≤ i → i < f 0 → μ0.1 (c + 1) i = f (9 + i)) (hft : ∀ i, 0 ≤ i → i < f 0 → μ0.1 (c + 2) i = f (49 + i)) (hw : tp_Cw f) (hsrc : r_src ch) (HC : r_Hc G ch 56 μ0) : ∀ (m k : Nat), k + m = 200 → ∀ μ : tp_M, r_J f ch s0 56 μ0 k μ → tp_g G mX7_go 34 [some (tR (some 56)), some (tI (r_at f ch s0 k).1), some (tI (k : Int))] [] μ (fun r μ' => r = none ∧ (∃ n, r_R f ch s0 56 n μ') ∧ r_F 56 μ0 μ') := by
  intro m
  have hcn : c < 234 := by omega
  have hw0 := hw.1
  induction m with
  | zero =>
    intro k hk μ hJ
    have hk2 : k = 200 := by omega
    subst hk2
    have hnn := r_J_nn hw hsrc hJ
    have hf9 := hJ.2.2.2.2.2.2.2.2
    have hco : μ.2 56 5 = some c := by rw [hf9.2.2]; exact hcode
    have hf02 : μ.1 c 4 = f 0 := by rw [hf9.1 c (by omega)]; exact hf0
    generalize hA : (r_at f ch s0 200).1 = a at hnn ⊢
    by_cases hin : f 0 ≤ a
    · refine g_iload_n rfl rfl ?_
      refine g_sipush rfl ⟨by decide, by decide⟩ (by decide) ?_
      refine g_icmp_ge (tgt := 97) rfl (by decide) (fun _ => ?_) (fun hx => absurd hx (by omega))
      refine g_aload_n rfl rfl ?_
      refine g_iload_n rfl rfl ?_
      refine g_iV (as := [tI a]) mX7_hasInstruction_ok rfl rfl rfl rfl rfl rfl (by decide) rfl rfl rfl ?_
      refine g_aload_n rfl rfl ?_
      refine x_getM (v := (some c)) hG rfl rfl (by decide) (Or.inl ⟨_, rfl⟩) rfl hco ?_
      refine g_ifnull (tgt := 22) rfl (by decide) (fun hx => by cases hx) (fun _ _ => ?_)
      refine g_aload_n rfl rfl ?_
      refine x_getM (v := (some c)) hG rfl rfl (by decide) (Or.inl ⟨_, rfl⟩) rfl hco ?_
      refine g_iload_n rfl rfl ?_
      refine g_cV (as := [tI a]) (s_haso hG hc hcn (Or.inr (by omega))) rfl rfl mX0_has_ok rfl hc rfl hcn rfl rfl rfl ?_
      rintro _ w9 ⟨rfl, hw9⟩ _
      have hw9 := hw9.symm
      subst hw9
      refine g_if_eq (tgt := 22) rfl (by decide) (fun _ => ?_) (fun hx => absurd hx (by omega))
      refine g_iconst rfl ⟨by decide, by decide⟩ ?_
      refine x_zreturn rfl rfl (Or.inl rfl) ?_
      intro _
      refine g_if_eq (tgt := 110) rfl (by decide) (fun _ => ?_) (fun hx => absurd hx (by omega))
      refine x_return rfl rfl ?_
      obtain ⟨z1, z2⟩ := r_J_stop hJ (by rw [hA]; omega)
      exact ⟨rfl, ⟨200, z1, by omega, hJ.2.2.2.1, hJ.2.2.2.2.1, by rw [z2]; exact hJ.2.2.2.2.2.1, hJ.2.2.2.2.2.2.1, hJ.2.2.1.2.2.1, hJ.2.2.2.2.2.2.2.1⟩, hJ.2.2.2.2.2.2.2.2⟩
    · refine g_iload_n rfl rfl ?_
      refine g_sipush rfl ⟨by decide, by decide⟩ (by decide) ?_
      refine g_icmp_ge (tgt := 97) rfl (by decide) (fun _ => ?_) (fun hx => absurd hx (by omega))
      refine g_aload_n rfl rfl ?_
      refine g_iload_n rfl rfl ?_
      refine g_iV (as := [tI a]) mX7_hasInstruction_ok rfl rfl rfl rfl rfl rfl (by decide) rfl rfl rfl ?_
      refine g_aload_n rfl rfl ?_
      refine x_getM (v := (some c)) hG rfl rfl (by decide) (Or.inl ⟨_, rfl⟩) rfl hco ?_
      refine g_ifnull (tgt := 22) rfl (by decide) (fun hx => by cases hx) (fun _ _ => ?_)
      refine g_aload_n rfl rfl ?_
      refine x_getM (v := (some c)) hG rfl rfl (by decide) (Or.inl ⟨_, rfl⟩) rfl hco ?_
      refine g_iload_n rfl rfl ?_
      refine g_cV (as := [tI a]) (s_has hG hc hcn (by omega) (by omega) (by omega)) rfl rfl mX0_has_ok rfl hc rfl hcn rfl rfl rfl ?_
      rintro _ w9 ⟨rfl, hw9⟩ _
      have hw9 := hw9.symm
      subst hw9
      refine g_if_eq (tgt := 22) rfl (by decide) (fun hx => absurd hx (by omega)) (fun _ => ?_)
      refine g_iconst rfl ⟨by decide, by decide⟩ ?_
      refine g_goto (tgt := 23) rfl (by decide) ?_
      refine x_zreturn rfl rfl (Or.inr rfl) ?_
      intro _
      refine g_if_eq (tgt := 110) rfl (by decide) (fun hx => absurd hx (by omega)) (fun _ => ?_)
      refine g_aload_n rfl rfl ?_
      refine g_iconst rfl ⟨by decide, by decide⟩ ?_
      refine g_puti rfl rfl (by decide) rfl rfl ?_
      refine x_return rfl rfl ?_
      have hen : r_en f ch (r_at f ch s0 199) 199 = 5 := by
        have hA2 : r_to f ch (r_at f ch s0 199) = a := hA
        unfold r_en
        rw [if_neg (hJ.2.1 199 rfl), if_neg (by omega), if_pos rfl]
      exact ⟨rfl, ⟨200, ⟨hJ.1, fun q => by have h9 : r_en f ch (r_at f ch s0 199) 199 = 0 := q.2; omega⟩, by omega, hJ.2.2.2.1, hJ.2.2.2.2.1, hen.symm, hJ.2.2.2.2.2.2.1, hJ.2.2.1.2.2.1, hJ.2.2.2.2.2.2.2.1⟩, ⟨fun c' h9 => by rw [tp_pi_ne (by omega)]; exact hJ.2.2.2.2.2.2.2.2.1 c' h9, hJ.2.2.2.2.2.2.2.2.2.1, hJ.2.2.2.2.2.2.2.2.2.2⟩⟩
  | succ m ih =>
    intro k hk μ hJ
    have hnn := r_J_nn hw hsrc hJ
    have hf9 := hJ.2.2.2.2.2.2.2.2
    have hco : μ.2 56 5 = some c := by rw [hf9.2.2]; exact hcode
    have hf02 : μ.1 c 4 = f 0 := by rw [hf9.1 c (by omega)]; exact hf0
    have hfk2 : ∀ i, 0 ≤ i → i < f 0 → μ.1 (c + 1) i = f (9 + i) := by rw [hf9.1 (c + 1) (by omega)]; exact hfk
    have hft2 : ∀ i, 0 ≤ i → i < f 0 → μ.1 (c + 2) i = f (49 + i) := by rw [hf9.1 (c + 2) (by omega)]; exact hft
    by_cases hin : f 0 ≤ (r_at f ch s0 k).1
    · generalize hA : (r_at f ch s0 k).1 = a at hnn hin ⊢
      refine g_iload_n rfl rfl ?_
      refine g_sipush rfl ⟨by decide, by decide⟩ (by decide) ?_
      refine g_icmp_ge (tgt := 97) rfl (by decide) (fun hx => absurd hx (by omega)) (fun _ => ?_)
      refine g_aload_n rfl rfl ?_
      refine g_iload_n rfl rfl ?_
      refine g_iV (as := [tI a]) mX7_hasInstruction_ok rfl rfl rfl rfl rfl rfl (by decide) rfl rfl rfl ?_
      refine g_aload_n rfl rfl ?_
      refine x_getM (v := (some c)) hG rfl rfl (by decide) (Or.inl ⟨_, rfl⟩) rfl hco ?_
      refine g_ifnull (tgt := 22) rfl (by decide) (fun hx => by cases hx) (fun _ _ => ?_)
      refine g_aload_n rfl rfl ?_
      refine x_getM (v := (some c)) hG rfl rfl (by decide) (Or.inl ⟨_, rfl⟩) rfl hco ?_
      refine g_iload_n rfl rfl ?_
      refine g_cV (as := [tI a]) (s_haso hG hc hcn (Or.inr (by omega))) rfl rfl mX0_has_ok rfl hc rfl hcn rfl rfl rfl ?_
      rintro _ w9 ⟨rfl, hw9⟩ _
      have hw9 := hw9.symm
      subst hw9
      refine g_if_eq (tgt := 22) rfl (by decide) (fun _ => ?_) (fun hx => absurd hx (by omega))
      refine g_iconst rfl ⟨by decide, by decide⟩ ?_
      refine x_zreturn rfl rfl (Or.inl rfl) ?_
      intro _
      refine g_if_ne (tgt := 50) rfl (by decide) (fun hx => absurd hx (by omega)) (fun _ => ?_)
      refine x_return rfl rfl ?_
      obtain ⟨z1, z2⟩ := r_J_stop hJ (by rw [hA]; omega)
      exact ⟨rfl, ⟨k, z1, by omega, hJ.2.2.2.1, hJ.2.2.2.2.1, by rw [z2]; exact hJ.2.2.2.2.2.1, hJ.2.2.2.2.2.2.1, hJ.2.2.1.2.2.1, hJ.2.2.2.2.2.2.2.1⟩, hJ.2.2.2.2.2.2.2.2⟩
    · have hgo := r_J_go hJ (by omega) (by omega)
      have hok := r_all_ok hw hsrc k hgo
      have hsr := hsrc _ (r_at f ch s0 k).2.2.2.2 hok.2.2.2
      have hub := r_us_b (f := f) (ch := ch) (s0 := s0) k
      have hrb := r_rt_b (f := f) (ch := ch) (s0 := s0) k
      generalize hA : (r_at f ch s0 k).1 = a at hnn hin ⊢
      have hCfg : (a, (r_at f ch s0 k).2.1, (r_at f ch s0 k).2.2.1, (r_at f ch s0 k).2.2.2.1, (r_at f ch s0 k).2.2.2.2) = r_at f ch s0 k := by rw [← hA]
      have hM1 : r_M (a, (r_at f ch s0 k).2.1, (r_at f ch s0 k).2.2.1, (r_at f ch s0 k).2.2.2.1, (r_at f ch s0 k).2.2.2.2) 56 (tp_pi (tp_pi (tp_pi μ 56 6 ((k : Int) + 1)) 57 (k : Int) a) 59 (k : Int) (tp_z 0)) := ⟨hJ.2.2.1.1, hJ.2.2.1.2.1, hJ.2.2.1.2.2.1, hJ.2.2.1.2.2.2⟩
      have hrt1 : 0 ≤ (tp_pi (tp_pi (tp_pi μ 56 6 ((k : Int) + 1)) 57 (k : Int) a) 59 (k : Int) (tp_z 0)).1 56 14 ∧ (tp_pi (tp_pi (tp_pi μ 56 6 ((k : Int) + 1)) 57 (k : Int) a) 59 (k : Int) (tp_z 0)).1 56 14 < 1000 := by
        show 0 ≤ μ.1 56 14 ∧ μ.1 56 14 < 1000
        rw [hJ.2.2.2.2.2.2.2.1]
        omega
      have HC1 := HC (tp_pi (tp_pi (tp_pi μ 56 6 ((k : Int) + 1)) 57 (k : Int) a) 59 (k : Int) (tp_z 0)) a _ _ _ _ ⟨fun c' h9 => by
        rw [tp_pi_ne (by omega), tp_pi_ne (by omega), tp_pi_ne (by omega)]
        exact hf9.1 c' h9, hf9.2.1, hf9.2.2⟩ hM1 hub.1 (by omega)
      refine g_iload_n rfl rfl ?_
      refine g_sipush rfl ⟨by decide, by decide⟩ (by decide) ?_
      refine g_icmp_ge (tgt := 97) rfl (by decide) (fun hx => absurd hx (by omega)) (fun _ => ?_)
      refine g_aload_n rfl rfl ?_
      refine g_iload_n rfl rfl ?_
      refine g_iV (as := [tI a]) mX7_hasInstruction_ok rfl rfl rfl rfl rfl rfl (by decide) rfl rfl rfl ?_
      refine g_aload_n rfl rfl ?_
      refine x_getM (v := (some c)) hG rfl rfl (by decide) (Or.inl ⟨_, rfl⟩) rfl hco ?_
      refine g_ifnull (tgt := 22) rfl (by decide) (fun hx => by cases hx) (fun _ _ => ?_)
      refine g_aload_n rfl rfl ?_
      refine x_getM (v := (some c)) hG rfl rfl (by decide) (Or.inl ⟨_, rfl⟩) rfl hco ?_
      refine g_iload_n rfl rfl ?_
      refine g_cV (as := [tI a]) (s_has hG hc hcn (by omega) (by omega) (by omega)) rfl rfl mX0_has_ok rfl hc rfl hcn rfl rfl rfl ?_
      rintro _ w9 ⟨rfl, hw9⟩ _
      have hw9 := hw9.symm
      subst hw9
      refine g_if_eq (tgt := 22) rfl (by decide) (fun hx => absurd hx (by omega)) (fun _ => ?_)
      refine g_iconst rfl ⟨by decide, by decide⟩ ?_
      refine g_goto (tgt := 23) rfl (by decide) ?_
      refine x_zreturn rfl rfl (Or.inr rfl) ?_
      intro _
      refine g_if_ne (tgt := 50) rfl (by decide) (fun _ => ?_) (fun hx => absurd hx (by omega))
      refine g_aload_n rfl rfl ?_
      refine g_iload_n rfl rfl ?_
      refine g_iconst rfl ⟨by decide, by decide⟩ ?_
      refine x_iadd (z := (k : Int) + 1) rfl (by omega) ⟨by omega, by omega⟩ ?_
      refine g_puti rfl rfl (by decide) rfl rfl ?_
      refine g_aload_n rfl rfl ?_
      refine x_getF (r := 57) hG rfl rfl (by decide) (Or.inr ⟨_, rfl⟩) rfl ?_
      refine g_iload_n rfl rfl ?_
      refine g_iload_n rfl rfl ?_
      refine g_iast rfl rfl (by decide) (by omega) (by omega) ?_
      refine g_aload_n rfl rfl ?_
      refine x_getF (r := 59) hG rfl rfl (by decide) (Or.inr ⟨_, rfl⟩) rfl ?_
      refine g_iload_n rfl rfl ?_
      refine g_iconst rfl ⟨by decide, by decide⟩ ?_
      refine g_zast rfl rfl (by decide) (by omega) (by omega) ?_
      refine g_aload_n rfl rfl ?_
      refine g_iload_n rfl rfl ?_
      refine g_iload_n rfl rfl ?_
      refine g_cV (as := [tI (k : Int), tI a]) (by
              have q9 := s_lead56 (μ := (tp_pi (tp_pi (tp_pi μ 56 6 ((k : Int) + 1)) 57 (k : Int) a) 59 (k : Int) (tp_z 0))) (f := f) (ch := ch) (k := (k : Int)) hG hc hcl hco (by rw [tp_pi_ne (by omega), tp_pi_ne (by omega), tp_pi_ne (by omega)]; omega) (fun i g1 g2 => by rw [tp_pi_ne (by omega), tp_pi_ne (by omega), tp_pi_ne (by omega)]; exact hfk2 i g1 g2) (fun i g1 g2 => by rw [tp_pi_ne (by omega), tp_pi_ne (by omega), tp_pi_ne (by omega)]; exact hft2 i g1 g2) hw ⟨by omega, by omega⟩ hM1 hok.2.1 (fun i g1 g2 => (hok.2.2.1 i g1 g2).1) ⟨by omega, by omega⟩ hrt1 hsr.1 hsr.2 (HC1 true) (HC1 false)
              rw [hCfg] at q9
              exact q9) rfl rfl mX7_leadFrom_ok rfl rfl rfl (by decide) rfl rfl rfl ?_
      rintro _ w1 ⟨rfl, hL⟩ _
      refine g_istore_n rfl rfl rfl ?_
      refine g_aload_n rfl rfl ?_
      refine x_getF (r := 58) hG rfl rfl (by decide) (Or.inr ⟨_, rfl⟩) rfl ?_
      refine g_iload_n rfl rfl ?_
      refine g_iload_n rfl rfl ?_
      refine g_iast rfl rfl (by decide) (by omega) (by omega) ?_
      refine g_iload_n rfl rfl ?_
      refine g_iconst rfl ⟨by decide, by decide⟩ ?_
      refine g_icmp_ne (tgt := 91) rfl (by decide) (fun h1 => ?_) (fun h1 => ?_)
      · refine x_iinc (z := (k : Int) + 1) rfl rfl (by omega) ⟨by omega, by omega⟩ rfl rfl ?_
        refine g_goto (tgt := 34) rfl (by decide) ?_
        have w10 : ∀ c', c' ≠ 56 → c' ≠ 59 → c' ≠ 60 → w1.1 c' = (tp_pi (tp_pi (tp_pi μ 56 6 ((k : Int) + 1)) 57 (k : Int) a) 59 (k : Int) (tp_z 0)).1 c' := hL.2.2.2.2.2.2.2.2.2.2.1
        have hF2 : r_F 56 μ0 (tp_pi w1 58 (k : Int) (r_to f ch (r_at f ch s0 k))) := ⟨fun c' h9 => by
            rw [tp_pi_ne (by omega), w10 c' (by omega) (by omega) (by omega), tp_pi_ne (by omega), tp_pi_ne (by omega), tp_pi_ne (by omega)]
            exact hJ.2.2.2.2.2.2.2.2.1 c' h9, by
            show w1.1 56 9 = _
            rw [hL.2.2.2.2.2.2.2.2.2.1.2]
            exact hJ.2.2.2.2.2.2.2.2.2.1, by
            show w1.2 = _
            rw [hL.2.2.2.2.2.2.2.2.2.2.2]
            exact hJ.2.2.2.2.2.2.2.2.2.2⟩
        have hA3 : ∀ j : Nat, j < k + 1 → (tp_pi w1 58 (k : Int) (r_to f ch (r_at f ch s0 k))).1 57 (j : Int) = (r_at f ch s0 j).1 ∧ (tp_pi w1 58 (k : Int) (r_to f ch (r_at f ch s0 k))).1 58 (j : Int) = r_to f ch (r_at f ch s0 j) ∧ (tp_pi w1 58 (k : Int) (r_to f ch (r_at f ch s0 k))).1 59 (j : Int) = r_yes f ch (r_at f ch s0 j) := fun j hj => by
            by_cases hjk : j = k
            · subst hjk
              refine ⟨?_, tp_pi_at, ?_⟩
              · rw [tp_pi_ne (by decide), w10 57 (by decide) (by decide) (by decide), tp_pi_ne (by decide), tp_pi_at, hA]
              · rw [tp_pi_ne (by decide)]
                exact hL.2.2.2.2.2.2.2.2.1 (tp_pi_at.trans tp_z0)
            · have ho := hJ.2.2.2.2.1 j (by omega)
              have hji : ¬ (j : Int) = (k : Int) := by omega
              refine ⟨?_, ?_, ?_⟩
              · rw [tp_pi_ne (by decide), w10 57 (by decide) (by decide) (by decide), tp_pi_ne (by decide), tp_pi_ix hji, tp_pi_ne (by decide)]
                exact ho.1
              · rw [tp_pi_ix hji, w10 58 (by decide) (by decide) (by decide), tp_pi_ne (by decide), tp_pi_ne (by decide), tp_pi_ne (by decide)]
                exact ho.2.1
              · rw [tp_pi_ne (by decide)]
                refine (hL.2.2.2.2.2.2.2.1 (j : Int) hji).trans ?_
                rw [tp_pi_ix hji, tp_pi_ne (by decide), tp_pi_ne (by decide)]
                exact ho.2.2
        have hS3 : (tp_pi w1 58 (k : Int) (r_to f ch (r_at f ch s0 k))).1 56 6 = ((k + 1 : Nat) : Int) := by
            show w1.1 56 6 = _
            rw [hL.2.2.2.2.2.2.2.2.2.1.1]
            show (k : Int) + 1 = _
            omega
        have hD3 : w1.1 56 12 = r_dp f ch s0 (k + 1) := by
            rw [hL.2.2.2.2.1]
            show (if _ then max (μ.1 56 12) _ else μ.1 56 12) = _
            rw [hJ.2.2.2.2.2.2.1]
            rfl
        have hR3 : w1.1 56 14 = r_rt f ch s0 (k + 1) := by
            rw [hL.2.2.2.2.2.1]
            show (if _ then μ.1 56 14 + 1 else μ.1 56 14) = _
            rw [hJ.2.2.2.2.2.2.2.1]
            rfl
        have hto : r_to f ch (r_at f ch s0 k) ≠ -1 := by omega
        exact ih (k + 1) (by omega) _ ⟨fun j hj => by rcases Nat.lt_succ_iff_lt_or_eq.mp hj with h9 | h9; exact hJ.1 j h9; rw [h9]; exact hgo, fun j hj => by rw [show j = k by omega]; exact hto, ⟨hL.1, hL.2.1, hL.2.2.1, hL.2.2.2.1⟩, hS3, hA3, by
            show w1.1 56 11 = _
            rw [hL.2.2.2.2.2.2.1, if_neg hto]
            exact hJ.2.2.2.2.2.1, hD3, hR3, hF2⟩
      · refine x_return rfl rfl ?_
        have w10 : ∀ c', c' ≠ 56 → c' ≠ 59 → c' ≠ 60 → w1.1 c' = (tp_pi (tp_pi (tp_pi μ 56 6 ((k : Int) + 1)) 57 (k : Int) a) 59 (k : Int) (tp_z 0)).1 c' := hL.2.2.2.2.2.2.2.2.2.2.1
        have hF2 : r_F 56 μ0 (tp_pi w1 58 (k : Int) (r_to f ch (r_at f ch s0 k))) := ⟨fun c' h9 => by
            rw [tp_pi_ne (by omega), w10 c' (by omega) (by omega) (by omega), tp_pi_ne (by omega), tp_pi_ne (by omega), tp_pi_ne (by omega)]
            exact hJ.2.2.2.2.2.2.2.2.1 c' h9, by
            show w1.1 56 9 = _
            rw [hL.2.2.2.2.2.2.2.2.2.1.2]
            exact hJ.2.2.2.2.2.2.2.2.2.1, by
            show w1.2 = _
            rw [hL.2.2.2.2.2.2.2.2.2.2.2]
            exact hJ.2.2.2.2.2.2.2.2.2.2⟩
        have hA3 : ∀ j : Nat, j < k + 1 → (tp_pi w1 58 (k : Int) (r_to f ch (r_at f ch s0 k))).1 57 (j : Int) = (r_at f ch s0 j).1 ∧ (tp_pi w1 58 (k : Int) (r_to f ch (r_at f ch s0 k))).1 58 (j : Int) = r_to f ch (r_at f ch s0 j) ∧ (tp_pi w1 58 (k : Int) (r_to f ch (r_at f ch s0 k))).1 59 (j : Int) = r_yes f ch (r_at f ch s0 j) := fun j hj => by
            by_cases hjk : j = k
            · subst hjk
              refine ⟨?_, tp_pi_at, ?_⟩
              · rw [tp_pi_ne (by decide), w10 57 (by decide) (by decide) (by decide), tp_pi_ne (by decide), tp_pi_at, hA]
              · rw [tp_pi_ne (by decide)]
                exact hL.2.2.2.2.2.2.2.2.1 (tp_pi_at.trans tp_z0)
            · have ho := hJ.2.2.2.2.1 j (by omega)
              have hji : ¬ (j : Int) = (k : Int) := by omega
              refine ⟨?_, ?_, ?_⟩
              · rw [tp_pi_ne (by decide), w10 57 (by decide) (by decide) (by decide), tp_pi_ne (by decide), tp_pi_ix hji, tp_pi_ne (by decide)]
                exact ho.1
              · rw [tp_pi_ix hji, w10 58 (by decide) (by decide) (by decide), tp_pi_ne (by decide), tp_pi_ne (by decide), tp_pi_ne (by decide)]
                exact ho.2.1
              · rw [tp_pi_ne (by decide)]
                refine (hL.2.2.2.2.2.2.2.1 (j : Int) hji).trans ?_
                rw [tp_pi_ix hji, tp_pi_ne (by decide), tp_pi_ne (by decide)]
                exact ho.2.2
        have hS3 : (tp_pi w1 58 (k : Int) (r_to f ch (r_at f ch s0 k))).1 56 6 = ((k + 1 : Nat) : Int) := by
            show w1.1 56 6 = _
            rw [hL.2.2.2.2.2.2.2.2.2.1.1]
            show (k : Int) + 1 = _
            omega
        have hD3 : w1.1 56 12 = r_dp f ch s0 (k + 1) := by
            rw [hL.2.2.2.2.1]
            show (if _ then max (μ.1 56 12) _ else μ.1 56 12) = _
            rw [hJ.2.2.2.2.2.2.1]
            rfl
        have hR3 : w1.1 56 14 = r_rt f ch s0 (k + 1) := by
            rw [hL.2.2.2.2.2.1]
            show (if _ then μ.1 56 14 + 1 else μ.1 56 14) = _
            rw [hJ.2.2.2.2.2.2.2.1]
            rfl
        have hto : r_to f ch (r_at f ch s0 k) = -1 := (by omega)
        have he : r_en f ch (r_at f ch s0 k) k = r_ek (f (9 + (r_at f ch s0 k).1)) := by unfold r_en; rw [if_pos hto]
        have h0 : r_ek (f (9 + (r_at f ch s0 k).1)) ≠ 0 := by
          unfold r_ek
          split
          · decide
          · split <;> decide
        exact ⟨rfl, ⟨k + 1, ⟨fun j hj => by rcases Nat.lt_succ_iff_lt_or_eq.mp hj with h9 | h9; exact hJ.1 j h9; rw [h9]; exact hgo, fun q => h0 (he ▸ q.2)⟩, by omega, hS3, hA3, by
            show w1.1 56 11 = _
            rw [hL.2.2.2.2.2.2.1, if_pos hto]
            exact he.symm, hD3, hL.2.2.1, hR3⟩, hF2⟩
