set_option maxHeartbeats 4000000 in
set_option maxRecDepth 100000 in
theorem s_walk {G : tp_G} {μ : tp_M} (hG : tp_Gf G = true) {c : Nat} {f : Int → Int} {n : Int} {A B Y H : Int → Int} (hc : tp_SH c = .inl 0) (hcl : c < 37) (hw : tp_Cw f) (hW : r_W f n A B Y H) {σ : tp_M} (hCd : tp_Cd c f μ) (hsz : μ.1 63 4 = σ.1 0 9) (hB : c_B σ μ) (hp : 0 ≤ σ.1 0 9 ∧ σ.1 0 9 ≤ 209) (HH : ∀ p, 0 ≤ p → p < σ.1 0 9 → s_H f A B Y (f 2) n σ p) : tp_k G mX10_go [tR (some 70), tR (some c), tR (some 63)] μ (fun r μ' => r = none ∧ w_Q f A B n σ (σ.1 0 9) μ' ∧ (∀ c, (c < 70 ∨ 75 < c) → μ'.1 c = μ.1 c) ∧ μ'.2 = (tp_pr (tp_pr μ 70 4 (some c)) 70 5 (some 63)).2) := by
  refine tp_ok_of mX10_go_ok rfl (Nat.le_refl _) ?_
  have hcn : c < 234 := by omega
  refine g_aload_n rfl rfl ?_
  refine g_aload_n rfl rfl ?_
  refine x_putr rfl rfl (by decide) rfl (Or.inl ⟨_, rfl⟩) rfl ?_
  refine g_aload_n rfl rfl ?_
  refine g_aload_n rfl rfl ?_
  refine x_putr rfl rfl (by decide) rfl (Or.inl ⟨_, rfl⟩) rfl ?_
  refine g_aload_n rfl rfl ?_
  refine g_iconst rfl ⟨by decide, by decide⟩ ?_
  refine g_puti rfl rfl (by decide) rfl rfl ?_
  refine g_aload_n rfl rfl ?_
  refine g_iconst rfl ⟨by decide, by decide⟩ ?_
  refine g_puti rfl rfl (by decide) rfl rfl ?_
  refine g_aload_n rfl rfl ?_
  refine g_ifnull (tgt := 28) rfl (by decide) (fun hx => by cases hx) (fun _ _ => ?_)
  refine g_aload_n rfl rfl ?_
  refine g_ifnonnull (tgt := 29) rfl (by decide) (fun _ _ => ?_) (fun hx => by cases hx)
  refine g_iconst rfl ⟨by decide, by decide⟩ ?_
  refine g_istore_n rfl rfl rfl ?_
  refine tp_conseq (fun r9 μ9 q9 => ?_) (l_walk (μ0 := (tp_pr (tp_pr μ 70 4 (some c)) 70 5 (some 63))) hG hc hcl hw hW hCd rfl hsz hB hp HH 0 (by omega) _ _ (by omega) ⟨rfl, fun z => absurd z.1 (by omega), fun _ => by show (-1 : Int) < 0; decide, fun q q0 q1 => by omega⟩ ⟨fun c9 z9 => by rw [tp_pi_ne (by omega), tp_pi_ne (by omega)]; rfl, rfl⟩)
  exact ⟨q9.1, q9.2.1, q9.2.2.1, q9.2.2.2⟩
/-- the class's pieces, while steps fr on are taken: np pieces, z0 taken ahead, m0 in the last piece -/
def p_t (np z0 m0 fr i : Int) (μ0 μ : tp_M) : Prop := μ.1 76 2 = z0 + (i - fr) ∧ μ.1 76 3 = np ∧ μ.1 78 (np - 1) = m0 + (i - fr) ∧ (∀ j, j ≠ np - 1 → μ.1 78 j = μ0.1 78 j) ∧ (∀ t, 0 ≤ t → t < i - fr → μ.1 77 (z0 + t) = μ0.1 71 (fr + t)) ∧ (∀ j, j < z0 → μ.1 77 j = μ0.1 77 j) ∧ (∀ c, c ≠ 76 → c ≠ 77 → c ≠ 78 → μ.1 c = μ0.1 c) ∧ μ.2 = μ0.2
set_option maxHeartbeats 4000000 in
set_option maxRecDepth 100000 in
theorem l_take {G : tp_G} (hG : tp_Gf G = true) {μ0 : tp_M} {np z0 m0 fr to : Int} (hfr : 0 ≤ fr) (hto : to ≤ μ0.1 70 6 ∧ μ0.1 70 6 ≤ 200) (hz : 0 ≤ z0 ∧ z0 + (to - fr) ≤ 200) (hnp : 1 ≤ np ∧ np ≤ 209) (hm : 0 ≤ m0 ∧ m0 ≤ 200) : ∀ k, k ≤ to → ∀ (μ : tp_M), fr ≤ k → p_t np z0 m0 fr k μ0 μ → tp_g G mX4_take 3 [some (tR (some 76)), some (tR (some 70)), some (tI fr), some (tI to), some (tI k)] [] μ (fun r μ' => r = none ∧ p_t np z0 m0 fr to μ0 μ') := by
  refine tp_ind _ ?_
  intro k hkN ih μ h0 hT
  obtain ⟨t1, t2, t3, t4, t5, t6, t7, t8⟩ := id hT
  have h76 : μ.1 70 6 = μ0.1 70 6 := by rw [t7 70 (by omega) (by omega) (by omega)]
  have t3' : μ.1 78 (μ.1 76 3 - 1) = m0 + (k - fr) := by rw [t2]; exact t3
  refine g_iload rfl rfl ?_
  refine g_iload_n rfl rfl ?_
  refine g_icmp_ge (tgt := 82) rfl (by decide) (fun h1 => ?_) (fun h1 => ?_)
  · refine x_return rfl rfl ?_
    have hkt : k = to := by omega
    rw [hkt] at hT
    exact ⟨rfl, hT⟩
  · refine g_aload_n rfl rfl ?_
    refine x_geti (v := (μ.1 76 2)) rfl rfl (by decide) (Or.inl rfl) rfl ?_
    refine g_sipush rfl ⟨by decide, by decide⟩ (by decide) ?_
    refine g_icmp_ge (tgt := 82) rfl (by decide) (fun hx => absurd hx (by omega)) (fun _ => ?_)
    refine g_aload_n rfl rfl ?_
    refine x_getF (r := 77) hG rfl rfl (by decide) (Or.inr ⟨_, rfl⟩) rfl ?_
    refine g_aload_n rfl rfl ?_
    refine x_geti (v := (μ.1 76 2)) rfl rfl (by decide) (Or.inl rfl) rfl ?_
    refine g_aload_n rfl rfl ?_
    refine g_iload rfl rfl ?_
    refine g_iV (as := [tI k]) mX10_address_ok rfl rfl rfl rfl rfl rfl (by decide) rfl rfl rfl ?_
    refine g_iload_n rfl rfl ?_
    refine g_if_lt (tgt := 19) rfl (by decide) (fun hx => absurd hx (by omega)) (fun _ => ?_)
    refine g_iload_n rfl rfl ?_
    refine g_aload_n rfl rfl ?_
    refine x_geti (v := (μ.1 70 6)) rfl rfl (by decide) (Or.inl rfl) rfl ?_
    refine g_icmp_ge (tgt := 19) rfl (by decide) (fun hx => absurd hx (by omega)) (fun _ => ?_)
    refine g_iload_n rfl rfl ?_
    refine g_sipush rfl ⟨by decide, by decide⟩ (by decide) ?_
    refine g_icmp_lt (tgt := 23) rfl (by decide) (fun _ => ?_) (fun hx => absurd hx (by omega))
    refine g_aload_n rfl rfl ?_
    refine x_getF (r := 71) hG rfl rfl (by decide) (Or.inr ⟨_, rfl⟩) rfl ?_
    refine g_iload_n rfl rfl ?_
    refine x_iald (v := (μ.1 71 k)) rfl rfl (by decide) (by omega) (by omega) rfl ?_
    refine x_ireturn rfl rfl ?_
    intro _
    refine g_iast rfl rfl (by decide) (by omega) (by omega) ?_
    refine g_aload_n rfl rfl ?_
    refine g_dupr rfl ?_
    refine x_geti (v := (μ.1 76 2)) rfl rfl (by decide) (Or.inl rfl) rfl ?_
    refine g_iconst rfl ⟨by decide, by decide⟩ ?_
    refine x_iadd (z := (μ.1 76 2) + 1) rfl (by omega) ⟨by omega, by omega⟩ ?_
    refine g_puti rfl rfl (by decide) rfl rfl ?_
    refine g_aload_n rfl rfl ?_
    refine x_geti (v := (μ.1 76 3)) rfl rfl (by decide) (Or.inl rfl) rfl ?_
    refine g_if_le (tgt := 76) rfl (by decide) (fun hx => absurd hx (by omega)) (fun _ => ?_)
    refine g_aload_n rfl rfl ?_
    refine x_geti (v := (μ.1 76 3)) rfl rfl (by decide) (Or.inl rfl) rfl ?_
    refine g_sipush rfl ⟨by decide, by decide⟩ (by decide) ?_
    refine g_icmp_gt (tgt := 76) rfl (by decide) (fun hx => absurd hx (by omega)) (fun _ => ?_)
    refine g_aload_n rfl rfl ?_
    refine x_getF (r := 78) hG rfl rfl (by decide) (Or.inr ⟨_, rfl⟩) rfl ?_
    refine g_aload_n rfl rfl ?_
    refine x_geti (v := (μ.1 76 3)) rfl rfl (by decide) (Or.inl rfl) rfl ?_
    refine g_iconst rfl ⟨by decide, by decide⟩ ?_
    refine x_isub (z := (μ.1 76 3) - 1) rfl (by omega) ⟨by omega, by omega⟩ ?_
    refine g_dup2 rfl ?_
    refine x_iald (v := (μ.1 78 (μ.1 76 3 - 1))) rfl rfl (by decide) (by omega) (by omega) rfl ?_
    refine g_iconst rfl ⟨by decide, by decide⟩ ?_
    refine x_iadd (z := (μ.1 78 (μ.1 76 3 - 1)) + 1) rfl (by omega) ⟨by omega, by omega⟩ ?_
    refine g_iast rfl rfl (by decide) (by omega) (by omega) ?_
    refine x_iinc (z := k + 1) rfl rfl (by omega) ⟨by omega, by omega⟩ rfl rfl ?_
    refine g_goto (tgt := 3) rfl (by decide) ?_
    have g77 : ∀ j, ((tp_pi (tp_pi (tp_pi μ 77 (μ.1 76 2) (μ.1 71 k)) 76 2 ((μ.1 76 2) + 1)) 78 ((μ.1 76 3) - 1) ((μ.1 78 (μ.1 76 3 - 1)) + 1))).1 77 j = if j = μ.1 76 2 then μ.1 71 k else μ.1 77 j := fun j => by
      rw [tp_pi_ne (by omega), tp_pi_ne (by omega)]
      by_cases q : j = μ.1 76 2
      · rw [if_pos q, q, tp_pi_at]
      · rw [if_neg q, tp_pi_ix q]
    have g78 : ∀ j, ((tp_pi (tp_pi (tp_pi μ 77 (μ.1 76 2) (μ.1 71 k)) 76 2 ((μ.1 76 2) + 1)) 78 ((μ.1 76 3) - 1) ((μ.1 78 (μ.1 76 3 - 1)) + 1))).1 78 j = if j = μ.1 76 3 - 1 then μ.1 78 (μ.1 76 3 - 1) + 1 else μ.1 78 j := fun j => by
      by_cases q : j = μ.1 76 3 - 1
      · rw [if_pos q, q, tp_pi_at]
      · rw [if_neg q, tp_pi_ix q, tp_pi_ne (by omega), tp_pi_ne (by omega)]
    exact ih (by omega) (tp_pi (tp_pi (tp_pi μ 77 (μ.1 76 2) (μ.1 71 k)) 76 2 ((μ.1 76 2) + 1)) 78 ((μ.1 76 3) - 1) ((μ.1 78 (μ.1 76 3 - 1)) + 1)) (by omega) ⟨by show μ.1 76 2 + 1 = z0 + (k + 1 - fr); omega, t2, by rw [g78, if_pos (by omega), show μ.1 76 3 - 1 = np - 1 by omega, t3]; omega, fun j hj => by rw [g78, if_neg (by omega)]; exact t4 j hj, fun t t0 t1 => by
      rw [g77]
      by_cases q : z0 + t = μ.1 76 2
      · rw [if_pos q, t7 71 (by omega) (by omega) (by omega), show fr + t = k by omega]
      · rw [if_neg q]; exact t5 t t0 (by omega), fun j hj => by rw [g77, if_neg (by omega)]; exact t6 j hj, fun c9 z1 z2 z3 => by rw [tp_pi_ne (by omega), tp_pi_ne (by omega), tp_pi_ne (by omega)]; exact t7 c9 z1 z2 z3, t8⟩
set_option maxHeartbeats 4000000 in
set_option maxRecDepth 100000 in
theorem s_take {G : tp_G} {μ : tp_M} (hG : tp_Gf G = true) {np z0 m0 fr to : Int} (hfr : 0 ≤ fr) (hft : fr ≤ to) (hto : to ≤ μ.1 70 6 ∧ μ.1 70 6 ≤ 200) (hz : 0 ≤ z0 ∧ z0 + (to - fr) ≤ 200) (hnp : 1 ≤ np ∧ np ≤ 209) (hm : 0 ≤ m0 ∧ m0 ≤ 200) (h2 : μ.1 76 2 = z0) (h3 : μ.1 76 3 = np) (h8 : μ.1 78 (np - 1) = m0) : tp_k G mX4_take [tR (some 76), tR (some 70), tI fr, tI to] μ (fun r μ' => r = none ∧ p_t np z0 m0 fr to μ μ') := by
  refine tp_ok_of mX4_take_ok rfl (Nat.le_refl _) ?_
  refine g_iload_n rfl rfl ?_
  refine g_istore rfl rfl rfl ?_
  exact l_take hG hfr hto hz hnp hm fr (by omega) _ (by omega) ⟨by rw [h2]; omega, h3, by rw [h8]; omega, fun j hj => rfl, fun t t0 t1 => by omega, fun j hj => rfl, fun c9 z1 z2 z3 => rfl, rfl⟩
def p_M (A : Int → Int) (s : v_T) (μ : tp_M) : Prop := μ.1 76 3 = s.2.1 ∧ μ.1 76 2 = q_s s.2.2.2 s.2.1 ∧ (∀ i, 0 ≤ i → i < s.2.1 → μ.1 78 i = s.2.2.2 i) ∧ ∀ i, 0 ≤ i → i < s.2.1 → ∀ t, 0 ≤ t → t < s.2.2.2 i → μ.1 77 (q_s s.2.2.2 i + t) = A (s.2.2.1 i + t)
/-- a piece begins -/
theorem p_M_b {A : Int → Int} {s : v_T} {μ μ' : tp_M} {st : Int} (h : p_M A s μ) (hnp : 0 ≤ s.2.1) (h3 : μ'.1 76 3 = s.2.1 + 1) (h2 : μ'.1 76 2 = μ.1 76 2) (h8 : ∀ i, μ'.1 78 i = if i = s.2.1 then 0 else μ.1 78 i) (h7 : μ'.1 77 = μ.1 77) : p_M A (1, s.2.1 + 1, v_u s.2.2.1 s.2.1 st, v_u s.2.2.2 s.2.1 0) μ' := by
  have e : ∀ i, i ≤ s.2.1 → q_s (v_u s.2.2.2 s.2.1 0) i = q_s s.2.2.2 i := fun i hi => q_s_c (fun j j0 j1 => v_u_ne (by omega))
  refine ⟨h3, ?_, fun i i0 i1 => ?_, fun i i0 i1 t t0 t1 => ?_⟩
  · show μ'.1 76 2 = q_s (v_u s.2.2.2 s.2.1 0) (s.2.1 + 1)
    rw [q_s1 hnp, v_u_at, e _ (Int.le_refl _), h2, h.2.1]; omega
  · have i1 : i < s.2.1 + 1 := i1
    show μ'.1 78 i = v_u s.2.2.2 s.2.1 0 i
    rw [h8]
    by_cases q : i = s.2.1
    · rw [if_pos q, q, v_u_at]
    · rw [if_neg q, v_u_ne q]; exact h.2.2.1 i i0 (by omega)
  · have i1 : i < s.2.1 + 1 := i1
    have t1 : t < v_u s.2.2.2 s.2.1 0 i := t1
    show μ'.1 77 (q_s (v_u s.2.2.2 s.2.1 0) i + t) = A (v_u s.2.2.1 s.2.1 st i + t)
    by_cases q : i = s.2.1
    · rw [q, v_u_at] at t1; omega
    · rw [v_u_ne q] at t1 ⊢
      rw [e i (by omega), h7]
      exact h.2.2.2 i i0 (by omega) t t0 t1
/-- the last piece goes on -/
theorem p_M_t {A : Int → Int} {s : v_T} {μ μ' : tp_M} {fr to kn1 kn : Int} {x : Int} (h : p_M A s μ) (hnp : 1 ≤ s.2.1) (hpos : ∀ i, 0 ≤ i → i < s.2.1 → 0 ≤ s.2.2.2 i) (hft : fr ≤ to) (hd : to - fr = kn - kn1) (hk : s.2.2.1 (s.2.1 - 1) + s.2.2.2 (s.2.1 - 1) = kn1) (hw : ∀ i, fr ≤ i → i < to → μ.1 71 i = A (kn1 + (i - fr))) (hp : p_t s.2.1 (q_s s.2.2.2 s.2.1) (s.2.2.2 (s.2.1 - 1)) fr to μ μ') : p_M A (x, s.2.1, s.2.2.1, v_u s.2.2.2 (s.2.1 - 1) (kn - s.2.2.1 (s.2.1 - 1))) μ' := by
  obtain ⟨t1, t2, t3, t4, t5, t6, t7, t8⟩ := hp
  have e : ∀ i, i ≤ s.2.1 - 1 → q_s (v_u s.2.2.2 (s.2.1 - 1) (kn - s.2.2.1 (s.2.1 - 1))) i = q_s s.2.2.2 i := fun i hi => q_s_c (fun j j0 j1 => v_u_ne (by omega))
  have el := q_s1 (F := s.2.2.2) (k := s.2.1 - 1) (by omega)
  rw [show s.2.1 - 1 + 1 = s.2.1 by omega] at el
  refine ⟨t2, ?_, fun i i0 i1 => ?_, fun i i0 i1 t g0 g1 => ?_⟩
  · show μ'.1 76 2 = q_s (v_u s.2.2.2 (s.2.1 - 1) (kn - s.2.2.1 (s.2.1 - 1))) s.2.1
    rw [q_s_upd (F := s.2.2.2) (F' := v_u s.2.2.2 (s.2.1 - 1) (kn - s.2.2.1 (s.2.1 - 1))) (h := s.2.1 - 1) (fun j _ _ z => v_u_ne z) (by omega) (by omega), v_u_at]
    omega
  · have i1 : i < s.2.1 := i1
    show μ'.1 78 i = v_u s.2.2.2 (s.2.1 - 1) (kn - s.2.2.1 (s.2.1 - 1)) i
    by_cases q : i = s.2.1 - 1
    · rw [q, v_u_at, t3]; omega
    · rw [v_u_ne q, t4 i q]; exact h.2.2.1 i i0 i1
  · have i1 : i < s.2.1 := i1
    have g1 : t < v_u s.2.2.2 (s.2.1 - 1) (kn - s.2.2.1 (s.2.1 - 1)) i := g1
    show μ'.1 77 (q_s (v_u s.2.2.2 (s.2.1 - 1) (kn - s.2.2.1 (s.2.1 - 1))) i + t) = A (s.2.2.1 i + t)
    rw [e i (by omega)]
    by_cases q : i = s.2.1 - 1
    · rw [q, v_u_at] at g1
      rw [q]
      by_cases u : t < s.2.2.2 (s.2.1 - 1)
      · rw [t6 _ (by omega)]
        exact h.2.2.2 (s.2.1 - 1) (by omega) (by omega) t g0 u
      · rw [show q_s s.2.2.2 (s.2.1 - 1) + t = q_s s.2.2.2 s.2.1 + (t - s.2.2.2 (s.2.1 - 1)) by omega, t5 _ (by omega) (by omega), hw _ (by omega) (by omega)]
        exact congrArg A (by omega)
    · rw [v_u_ne q] at g1
      have m := q_s_mono2 (C := s.2.2.2) (m := i + 1) (n := s.2.1) (by omega) (by omega) hpos
      have e1 := q_s1 (F := s.2.2.2) (k := i) i0
      rw [t6 _ (by omega)]
      exact h.2.2.2 i i0 i1 t g0 g1
/-- what is not told changes nothing -/
theorem p_M_0 {A : Int → Int} {s : v_T} {μ μ' : tp_M} {fr : Int} {x : Int} (h : p_M A s μ) (hnp : 1 ≤ s.2.1) (hpos : ∀ i, 0 ≤ i → i < s.2.1 → 0 ≤ s.2.2.2 i) (hp : p_t s.2.1 (q_s s.2.2.2 s.2.1) (s.2.2.2 (s.2.1 - 1)) fr fr μ μ') : p_M A (x, s.2) μ' := by
  obtain ⟨t1, t2, t3, t4, t5, t6, t7, t8⟩ := hp
  refine ⟨t2, by show μ'.1 76 2 = q_s s.2.2.2 s.2.1; omega, fun i i0 i1 => ?_, fun i i0 i1 t g0 g1 => ?_⟩
  · have i1 : i < s.2.1 := i1
    show μ'.1 78 i = s.2.2.2 i
    by_cases q : i = s.2.1 - 1
    · rw [q, t3]; omega
    · rw [t4 i q]; exact h.2.2.1 i i0 i1
  · have i1 : i < s.2.1 := i1
    have g1 : t < s.2.2.2 i := g1
    have m := q_s_mono2 (C := s.2.2.2) (m := i + 1) (n := s.2.1) (by omega) (by omega) hpos
    have e1 := q_s1 (F := s.2.2.2) (k := i) i0
    show μ'.1 77 (q_s s.2.2.2 i + t) = A (s.2.2.1 i + t)
    rw [t6 _ (by omega)]
    exact h.2.2.2 i i0 i1 t g0 g1
