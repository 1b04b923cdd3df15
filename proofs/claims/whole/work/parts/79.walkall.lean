/-- how many steps a packet tells, and all packets ahead of one -/
def w_d (σ : tp_M) (p : Int) : Int := if (1 ≤ p ∧ σ.1 2 (p - 1) ≤ 2) ∧ σ.1 2 p ≠ 5 then σ.1 6 p - σ.1 6 (p - 1) else 0
def w_U (σ : tp_M) (k : Int) : Int := q_s (w_d σ) k
theorem w_U_s {σ : tp_M} {k : Int} (h : 0 ≤ k) : w_U σ (k + 1) = w_U σ k + w_d σ k := q_s1 h
theorem w_d_y {σ : tp_M} {p : Int} (h : s_kn σ p) (h5 : σ.1 2 p ≠ 5) : w_d σ p = σ.1 6 p - σ.1 6 (p - 1) := if_pos ⟨h, h5⟩
theorem w_d_n {σ : tp_M} {p : Int} (h : ¬ s_kn σ p ∨ σ.1 2 p = 5) : w_d σ p = 0 := if_neg (fun z => by
  rcases h with q | q
  · exact q z.1
  · exact z.2 q)
theorem w_U_b {f A B Y : Int → Int} {dp n : Int} {σ : tp_M} (H : ∀ p, 0 ≤ p → p < σ.1 0 9 → s_H f A B Y dp n σ p) : ∀ k : Nat, (k : Int) ≤ σ.1 0 9 → 0 ≤ w_U σ k ∧ (1 ≤ k → w_U σ k ≤ σ.1 6 ((k : Int) - 1)) := by
  intro k
  induction k with
  | zero => intro _; exact ⟨Int.le_refl 0, fun z => by omega⟩
  | succ k ih =>
    intro hk
    have a := ih (by omega)
    have h := H k (by omega) (by omega)
    have e : w_U σ ((k + 1 : Nat) : Int) = w_U σ k + w_d σ k := by rw [show ((k + 1 : Nat) : Int) = (k : Int) + 1 by omega]; exact w_U_s (by omega)
    rw [e, show ((k + 1 : Nat) : Int) - 1 = (k : Int) by omega]
    have h6 := h.2.1
    have hm := h.2.2.1
    have ha := a.2
    by_cases q : s_kn σ k ∧ σ.1 2 (k : Int) ≠ 5
    · rw [w_d_y q.1 q.2]
      have q1 := q.1.1
      have := hm q1
      have := ha (by omega)
      exact ⟨by omega, fun _ => by omega⟩
    · rw [w_d_n (by by_cases z : s_kn σ k; right; exact Classical.byContradiction (fun t => q ⟨z, t⟩); exact Or.inl z)]
      refine ⟨by omega, fun _ => ?_⟩
      rcases (show k = 0 ∨ 1 ≤ k by omega) with z | z
      · subst z
        show (0 : Int) + 0 ≤ _
        omega
      · have := ha z
        have := hm (by omega)
        omega
theorem w_d_0 {f A B Y : Int → Int} {dp n : Int} {σ : tp_M} {p : Int} (h : s_H f A B Y dp n σ p) : 0 ≤ w_d σ p := by
  by_cases q : s_kn σ p ∧ σ.1 2 p ≠ 5
  · rw [w_d_y q.1 q.2]; have := h.2.2.1 q.1.1; omega
  · rw [w_d_n (by by_cases z : s_kn σ p; right; exact Classical.byContradiction (fun t => q ⟨z, t⟩); exact Or.inl z)]; exact Int.le_refl 0
theorem w_U_m {f A B Y : Int → Int} {dp n : Int} {σ : tp_M} (H : ∀ p, 0 ≤ p → p < σ.1 0 9 → s_H f A B Y dp n σ p) {a b : Int} (h0 : 0 ≤ a) (hab : a ≤ b) (hb : b ≤ σ.1 0 9) : w_U σ a ≤ w_U σ b := by
  have e : ∀ m : Nat, a + (m : Int) ≤ σ.1 0 9 → w_U σ a ≤ w_U σ (a + m) := by
    intro m
    induction m with
    | zero => intro _; rw [show a + ((0 : Nat) : Int) = a by omega]; exact Int.le_refl _
    | succ m ih =>
      intro hm
      have i := ih (by omega)
      have s := w_U_s (σ := σ) (k := a + m) (by omega)
      have d := w_d_0 (H (a + m) (by omega) (by omega))
      rw [show a + ((m + 1 : Nat) : Int) = a + m + 1 by omega, s]
      omega
  have := e (b - a).toNat (by omega)
  rw [show a + (((b - a).toNat : Nat) : Int) = b by omega] at this
  exact this
/-- the walk behind the first k packets -/
def w_Q (f A B : Int → Int) (n : Int) (σ : tp_M) (k : Int) (μ : tp_M) : Prop :=
  μ.1 70 6 = w_U σ k ∧ (s_kn σ k → w_P f A B n (s_s σ (k - 1)) (σ.1 6 (k - 1)) (w_U σ k) μ) ∧ (¬ s_kn σ k → μ.1 70 7 < 0) ∧
  ∀ q, 0 ≤ q → q < k → μ.1 73 q = w_U σ (q + 1) ∧ ∀ i, w_U σ q ≤ i → i < w_U σ (q + 1) → μ.1 71 i = A (σ.1 6 (q - 1) + (i - w_U σ q)) ∧ μ.1 72 i = σ.1 6 (q - 1) + (i - w_U σ q)
theorem w_Q_up {f A B Y : Int → Int} {dp n k : Int} {σ μ μ' : tp_M} (H : ∀ p, 0 ≤ p → p < σ.1 0 9 → s_H f A B Y dp n σ p) (h0 : 0 ≤ k) (hk : k < σ.1 0 9) (hQ : w_Q f A B n σ k μ) (h6 : μ'.1 70 6 = w_U σ (k + 1)) (hk3 : μ'.1 73 k = w_U σ (k + 1)) (h73 : ∀ q, 0 ≤ q → q < k → μ'.1 73 q = μ.1 73 q) (hA : w_A A (σ.1 6 (k - 1)) (w_U σ k) (σ.1 6 (k - 1) + (w_U σ (k + 1) - w_U σ k)) μ μ') (hs1 : σ.1 2 k ≤ 2 → w_P f A B n (s_s σ k) (σ.1 6 k) (w_U σ (k + 1)) μ') (hs2 : ¬ σ.1 2 k ≤ 2 → μ'.1 70 7 < 0) : w_Q f A B n σ (k + 1) μ' := by
  have e : k + 1 - 1 = k := by omega
  refine ⟨h6, fun z => ?_, fun z => ?_, fun q q0 q1 => ?_⟩
  · have z2 := z.2
    rw [e] at z2 ⊢
    exact hs1 z2
  · exact hs2 (fun t => z ⟨by omega, by rw [e]; exact t⟩)
  · rcases (show q < k ∨ q = k by omega) with u | u
    · obtain ⟨g1, g2⟩ := hQ.2.2.2 q q0 u
      refine ⟨by rw [h73 q q0 u]; exact g1, fun i i0 i1 => ?_⟩
      have m := w_U_m H (a := q + 1) (b := k) (by omega) (by omega) (by omega)
      rw [(hA.1 i (by omega)).1, (hA.1 i (by omega)).2]
      exact g2 i i0 i1
    · rw [u]
      exact ⟨hk3, fun i i0 i1 => hA.2 i i0 (by omega)⟩
set_option maxHeartbeats 4000000 in
set_option maxRecDepth 100000 in
theorem l_walk {G : tp_G} (hG : tp_Gf G = true) {c : Nat} {f : Int → Int} {n : Int} {A B Y H : Int → Int} (hc : tp_SH c = .inl 0) (hcl : c < 37) (hw : tp_Cw f) (hW : r_W f n A B Y H) {μ0 σ : tp_M} (hCd0 : tp_Cd c f μ0) (hco0 : μ0.2 70 4 = some c) (hsz0 : μ0.1 63 4 = σ.1 0 9) (hB0 : c_B σ μ0) (hp : 0 ≤ σ.1 0 9 ∧ σ.1 0 9 ≤ 209) (HH : ∀ p, 0 ≤ p → p < σ.1 0 9 → s_H f A B Y (f 2) n σ p) : ∀ k, k ≤ σ.1 0 9 → ∀ (μ : tp_M) (x4 : Option tp_V), 0 ≤ k → w_Q f A B n σ k μ → ((∀ c, (c < 70 ∨ 75 < c) → μ.1 c = μ0.1 c) ∧ μ.2 = μ0.2) → tp_g G mX10_go 31 [some (tR (some 70)), some (tR (some c)), some (tR (some 63)), some (tI k), x4] [] μ (fun r μ' => r = none ∧ w_Q f A B n σ (σ.1 0 9) μ' ∧ ((∀ c, (c < 70 ∨ 75 < c) → μ'.1 c = μ0.1 c) ∧ μ'.2 = μ0.2)) := by
  have hcn : c < 234 := by omega
  have hw0 := hw.1
  have hn0 := hW.1
  refine tp_ind _ ?_
  intro k hkN ih μ x4 h0 hQ hF
  have hUn := w_U_b HH k.toNat (by omega)
  rw [show ((k.toNat : Nat) : Int) = k by omega] at hUn
  have hCd : tp_Cd c f μ := tp_Cd_fr hcl (fun k9 z9 => hF.1 k9 (by omega)) hCd0
  have hco : μ.2 70 4 = some c := by rw [hF.2]; exact hco0
  have hsz : μ.1 63 4 = σ.1 0 9 := by rw [hF.1 63 (by omega)]; exact hsz0
  have hB : c_B σ μ := fun i i0 i1 => by rw [hF.1 64 (by omega), hF.1 65 (by omega), hF.1 66 (by omega), hF.1 67 (by omega)]; exact hB0 i i0 i1

  by_cases hend : k < σ.1 0 9
  case neg =>
    have hkP : k = σ.1 0 9 := by omega
    refine g_iload_n rfl rfl ?_
    refine g_aload_n rfl rfl ?_
    refine x_geti (v := (μ.1 63 4)) rfl rfl (by decide) (Or.inl rfl) rfl ?_
    refine g_icmp_ge (tgt := 155) rfl (by decide) (fun _ => ?_) (fun hx => absurd hx (by omega))
    refine x_return rfl rfl ?_
    exact ⟨rfl, by rw [← hkP]; exact hQ, hF⟩
  have hH := HH k h0 hend
  have hus := w_U_s (σ := σ) (k := k) h0
  have hprev : 1 ≤ k → s_H f A B Y (f 2) n σ (k - 1) := fun z => HH (k - 1) (by omega) (by omega)
  have hkd := hH.1
  have hK6 := hH.2.1
  have hKm := hH.2.2.1
  have hUk := hUn.2
  by_cases hkn : s_kn σ k
  · rcases (show σ.1 2 k = 0 ∨ σ.1 2 k = 1 ∨ σ.1 2 k = 2 ∨ σ.1 2 k = 3 ∨ σ.1 2 k = 4 ∨ σ.1 2 k = 5 by omega) with hkk | hkk | hkk | hkk | hkk | hkk
    · have hk1 := hkn.1
      have hPk := hQ.2.1 hkn
      have hpv := hprev hk1
      have hp6 := hpv.2.1
      have hpS := hpv.2.2.2.1 (by have := hkn.2; omega)
      have hUk1 := hUk (by omega)
      have hKm1 := hKm hk1
      have hc0 := hH.2.2.2.2.1 (by omega)
      have hst0 := hc0.1
      have hv1 : σ.1 3 k = A (σ.1 5 k) := hc0.2.1
      have hkn6 : σ.1 6 k = σ.1 5 k := hc0.2.2.1
      have hsk : s_s σ k = σ.1 5 k := s_s_0 h0 (by omega)
      have hx1 := (hc0.2.2.2.1 hkn).1
      have hst1 := (hc0.2.2.2.1 hkn).2
      have hwd := w_d_y hkn (by omega)
      refine g_iload_n rfl rfl ?_
      refine g_aload_n rfl rfl ?_
      refine x_geti (v := (μ.1 63 4)) rfl rfl (by decide) (Or.inl rfl) rfl ?_
      refine g_icmp_ge (tgt := 155) rfl (by decide) (fun hx => absurd hx (by omega)) (fun _ => ?_)
      refine g_iload_n rfl rfl ?_
      refine g_sipush rfl ⟨by decide, by decide⟩ (by decide) ?_
      refine g_icmp_ge (tgt := 155) rfl (by decide) (fun hx => absurd hx (by omega)) (fun _ => ?_)
      refine g_aload_n rfl rfl ?_
      refine g_iload_n rfl rfl ?_
      refine g_cV (as := [tI k]) (s_pk hG hsz hB hp.2 (by omega) (by omega)) rfl rfl mX3_kind_ok rfl rfl rfl (by decide) rfl rfl rfl ?_
      rintro _ w9 ⟨rfl, hw9⟩ _
      have hw9 := hw9.symm
      subst hw9
      refine g_istore rfl rfl rfl ?_
      refine g_iload rfl rfl ?_
      refine g_if_ne (tgt := 84) rfl (by decide) (fun hx => absurd hx (by omega)) (fun _ => ?_)
      refine g_aload_n rfl rfl ?_
      refine g_aload_n rfl rfl ?_
      refine g_iload_n rfl rfl ?_
      refine g_cV (as := [tI k]) (s_px hG hsz hB hp.2 (by omega) (by omega)) rfl rfl mX3_extra_ok rfl rfl rfl (by decide) rfl rfl rfl ?_
      rintro _ w9 ⟨rfl, hw9⟩ _
      have hw9 := hw9.symm
      subst hw9
      refine g_cV (as := [tI (σ.1 4 k)]) (s_count (S := s_s σ (k - 1)) hG hc hcl hw hW hCd hco (j0 := σ.1 6 (k - 1)) (z0 := w_U σ k) (j1 := σ.1 5 k) (by omega) (by omega) (by omega) hPk (by omega) hx1 hst1) rfl rfl mX10_goToCount_ok rfl rfl rfl (by decide) rfl rfl rfl ?_
      rintro _ w1 ⟨rfl, hP1, hA1, hF9⟩ _
      have hF1 : ((∀ c, (c < 70 ∨ 75 < c) → w1.1 c = μ0.1 c) ∧ w1.2 = μ0.2) := ⟨fun c9 z9 => by rw [hF9.1 c9 (by omega) (by omega) (by omega) (by omega) (by omega)]; exact hF.1 c9 z9, hF9.2.trans hF.2⟩
      have hCd1 : tp_Cd c f w1 := tp_Cd_fr hcl (fun k9 z9 => hF1.1 k9 (by omega)) hCd0
      have hco1 : w1.2 70 4 = some c := by rw [hF1.2]; exact hco0
      have hsz1 : w1.1 63 4 = σ.1 0 9 := by rw [hF1.1 63 (by omega)]; exact hsz0
      have hB1 : c_B σ w1 := fun i i0 i1 => by rw [hF1.1 64 (by omega), hF1.1 65 (by omega), hF1.1 66 (by omega), hF1.1 67 (by omega)]; exact hB0 i i0 i1
      refine g_aload_n rfl rfl ?_
      refine g_aload_n rfl rfl ?_
      refine g_iload_n rfl rfl ?_
      refine g_cV (as := [tI k]) (s_pv hG hsz1 hB1 hp.2 (by omega) (by omega)) rfl rfl mX3_value_ok rfl rfl rfl (by decide) rfl rfl rfl ?_
      rintro _ w9 ⟨rfl, hw9⟩ _
      have hw9 := hw9.symm
      subst hw9
      refine g_aload_n rfl rfl ?_
      refine g_iload_n rfl rfl ?_
      refine g_cV (as := [tI k]) (s_ps hG hsz1 hB1 hp.2 (by omega) (by omega)) rfl rfl mX3_stepOf_ok rfl rfl rfl (by decide) rfl rfl rfl ?_
      rintro _ w9 ⟨rfl, hw9⟩ _
      have hw9 := hw9.symm
      subst hw9
      refine g_iV (as := [tI (σ.1 3 k), tI (σ.1 5 k)]) mX10_begin_ok rfl rfl rfl rfl rfl rfl (by decide) rfl rfl rfl ?_
      refine g_aload_n rfl rfl ?_
      refine g_iload_n rfl rfl ?_
      refine g_puti rfl rfl (by decide) rfl rfl ?_
      refine g_aload_n rfl rfl ?_
      refine g_iload_n rfl rfl ?_
      refine g_puti rfl rfl (by decide) rfl rfl ?_
      refine g_aload_n rfl rfl ?_
      refine g_iconst rfl ⟨by decide, by decide⟩ ?_
      refine g_puti rfl rfl (by decide) rfl rfl ?_
      refine g_aload_n rfl rfl ?_
      refine x_getF (r := 74) hG rfl rfl (by decide) (Or.inl ⟨_, rfl⟩) rfl ?_
      refine g_iV (as := []) mX8_clear_ok rfl rfl rfl rfl rfl rfl (by decide) rfl rfl rfl ?_
      refine g_aload_n rfl rfl ?_
      refine g_iconst rfl ⟨by decide, by decide⟩ ?_
      refine g_puti rfl rfl (by decide) rfl rfl ?_
      refine x_return rfl rfl ?_
      intro _
      refine x_return rfl rfl ?_
      intro _
      refine g_goto (tgt := 139) rfl (by decide) ?_
      refine g_aload_n rfl rfl ?_
      refine x_getF (r := 73) hG rfl rfl (by decide) (Or.inr ⟨_, rfl⟩) rfl ?_
      refine g_iload_n rfl rfl ?_
      refine g_aload_n rfl rfl ?_
      refine x_geti (v := (w1.1 70 6)) rfl rfl (by decide) (Or.inl rfl) rfl ?_
      refine g_iast rfl rfl (by decide) (by omega) (by omega) ?_
      refine x_iinc (z := k + 1) rfl rfl (by omega) ⟨by omega, by omega⟩ rfl rfl ?_
      refine g_goto (tgt := 31) rfl (by decide) ?_
      have hq9 := w_Q_up (μ' := (tp_pi (tp_pi (tp_pi (tp_pi (tp_pi w1 70 7 (σ.1 3 k)) 70 9 (σ.1 5 k)) 70 8 0) 74 1 0) 73 k (w1.1 70 6))) HH h0 (by omega) hQ ((hP1.1).trans (by omega)) ((show _ = _ from tp_pi_at).trans ((hP1.1).trans (by omega))) (fun q q0 q1 => by rw [tp_pi_ix (by omega), tp_pi_ne (by omega), tp_pi_ne (by omega), tp_pi_ne (by omega), tp_pi_ne (by omega)]; exact congrFun (hF9.1 73 (by omega) (by omega) (by omega) (by omega) (by omega)) q) (by rw [show σ.1 6 (k - 1) + (w_U σ (k + 1) - w_U σ k) = σ.1 5 k by omega]; exact hA1) (fun _ => by rw [hsk, hkn6]; refine ⟨hP1.1.trans (by omega), fun _ => hv1, by show (0 : Int) = _; omega, rfl, ?_⟩; rw [s_S_0]; exact ⟨rfl, fun i i0 i1 => by have i1 : i < 0 := i1; omega⟩) (fun z => absurd (show σ.1 2 k ≤ 2 by omega) z)
      exact ih (by omega) _ _ (by omega) hq9 ⟨fun c9 z9 => by rw [tp_pi_ne (by omega), tp_pi_ne (by omega), tp_pi_ne (by omega), tp_pi_ne (by omega), tp_pi_ne (by omega)]; exact hF1.1 c9 z9, hF1.2⟩
    · have hk1 := hkn.1
      have hPk := hQ.2.1 hkn
      have hpv := hprev hk1
      have hp6 := hpv.2.1
      have hpS := hpv.2.2.2.1 (by have := hkn.2; omega)
      have hUk1 := hUk (by omega)
      have hKm1 := hKm hk1
      have hc1 := hH.2.2.2.2.2.1 (by omega)
      have hsk : s_s σ k = s_s σ (k - 1) := s_s_n (by omega) (by omega)
      rw [hsk] at hc1
      have hlt1 := hc1.2.1
      have hev1 := hc1.2.2.1
      have hev2 := hc1.2.2.2.1
      have hmo1 := hc1.2.2.2.2.1
      have hbt1 := hc1.2.2.2.2.2
      have hwd := w_d_y hkn (by omega)
      refine g_iload_n rfl rfl ?_
      refine g_aload_n rfl rfl ?_
      refine x_geti (v := (μ.1 63 4)) rfl rfl (by decide) (Or.inl rfl) rfl ?_
      refine g_icmp_ge (tgt := 155) rfl (by decide) (fun hx => absurd hx (by omega)) (fun _ => ?_)
      refine g_iload_n rfl rfl ?_
      refine g_sipush rfl ⟨by decide, by decide⟩ (by decide) ?_
      refine g_icmp_ge (tgt := 155) rfl (by decide) (fun hx => absurd hx (by omega)) (fun _ => ?_)
      refine g_aload_n rfl rfl ?_
      refine g_iload_n rfl rfl ?_
      refine g_cV (as := [tI k]) (s_pk hG hsz hB hp.2 (by omega) (by omega)) rfl rfl mX3_kind_ok rfl rfl rfl (by decide) rfl rfl rfl ?_
      rintro _ w9 ⟨rfl, hw9⟩ _
      have hw9 := hw9.symm
      subst hw9
      refine g_istore rfl rfl rfl ?_
      refine g_iload rfl rfl ?_
      refine g_if_ne (tgt := 84) rfl (by decide) (fun _ => ?_) (fun hx => absurd hx (by omega))
      refine g_iload rfl rfl ?_
      refine g_iconst rfl ⟨by decide, by decide⟩ ?_
      refine g_icmp_ne (tgt := 107) rfl (by decide) (fun hx => absurd hx (by omega)) (fun _ => ?_)
      refine g_aload_n rfl rfl ?_
      refine g_aload_n rfl rfl ?_
      refine g_iload_n rfl rfl ?_
      refine g_cV (as := [tI k]) (s_pv hG hsz hB hp.2 (by omega) (by omega)) rfl rfl mX3_value_ok rfl rfl rfl (by decide) rfl rfl rfl ?_
      rintro _ w9 ⟨rfl, hw9⟩ _
      have hw9 := hw9.symm
      subst hw9
      refine g_aload_n rfl rfl ?_
      refine g_iload_n rfl rfl ?_
      refine g_cV (as := [tI k]) (s_px hG hsz hB hp.2 (by omega) (by omega)) rfl rfl mX3_extra_ok rfl rfl rfl (by decide) rfl rfl rfl ?_
      rintro _ w9 ⟨rfl, hw9⟩ _
      have hw9 := hw9.symm
      subst hw9
      refine g_cV (as := [tI (σ.1 3 k), tI (σ.1 4 k)]) (s_hearM (S := s_s σ (k - 1)) hG hc hcl hw hW hCd hco (j0 := σ.1 6 (k - 1)) (z0 := w_U σ k) (j1 := σ.1 6 k) (by omega) (by omega) (by omega) hPk (by omega) hlt1 hev1 hev2 hmo1 hbt1) rfl rfl mX10_hearMap_ok rfl rfl rfl (by decide) rfl rfl rfl ?_
      rintro _ w1 ⟨rfl, hP1, hA1, hF9⟩ _
      have hF1 : ((∀ c, (c < 70 ∨ 75 < c) → w1.1 c = μ0.1 c) ∧ w1.2 = μ0.2) := ⟨fun c9 z9 => by rw [hF9.1 c9 (by omega) (by omega) (by omega) (by omega) (by omega)]; exact hF.1 c9 z9, hF9.2.trans hF.2⟩
      have hCd1 : tp_Cd c f w1 := tp_Cd_fr hcl (fun k9 z9 => hF1.1 k9 (by omega)) hCd0
      have hco1 : w1.2 70 4 = some c := by rw [hF1.2]; exact hco0
      have hsz1 : w1.1 63 4 = σ.1 0 9 := by rw [hF1.1 63 (by omega)]; exact hsz0
      have hB1 : c_B σ w1 := fun i i0 i1 => by rw [hF1.1 64 (by omega), hF1.1 65 (by omega), hF1.1 66 (by omega), hF1.1 67 (by omega)]; exact hB0 i i0 i1
      refine g_goto (tgt := 139) rfl (by decide) ?_
      refine g_aload_n rfl rfl ?_
      refine x_getF (r := 73) hG rfl rfl (by decide) (Or.inr ⟨_, rfl⟩) rfl ?_
      refine g_iload_n rfl rfl ?_
      refine g_aload_n rfl rfl ?_
      refine x_geti (v := (w1.1 70 6)) rfl rfl (by decide) (Or.inl rfl) rfl ?_
      refine g_iast rfl rfl (by decide) (by omega) (by omega) ?_
      refine x_iinc (z := k + 1) rfl rfl (by omega) ⟨by omega, by omega⟩ rfl rfl ?_
      refine g_goto (tgt := 31) rfl (by decide) ?_
      have hq9 := w_Q_up (μ' := (tp_pi w1 73 k (w1.1 70 6))) HH h0 (by omega) hQ ((hP1.1).trans (by omega)) ((show _ = _ from tp_pi_at).trans ((hP1.1).trans (by omega))) (fun q q0 q1 => by rw [tp_pi_ix (by omega)]; exact congrFun (hF9.1 73 (by omega) (by omega) (by omega) (by omega) (by omega)) q) (by rw [show σ.1 6 (k - 1) + (w_U σ (k + 1) - w_U σ k) = σ.1 6 k by omega]; exact hA1) (fun _ => by rw [hsk]; have hP2 := hP1; rw [show w_U σ k + (σ.1 6 k - σ.1 6 (k - 1)) = w_U σ (k + 1) by omega] at hP2; exact hP2) (fun z => absurd (show σ.1 2 k ≤ 2 by omega) z)
      exact ih (by omega) _ _ (by omega) hq9 ⟨fun c9 z9 => by rw [tp_pi_ne (by omega)]; exact hF1.1 c9 z9, hF1.2⟩
    · have hk1 := hkn.1
      have hPk := hQ.2.1 hkn
      have hpv := hprev hk1
      have hp6 := hpv.2.1
      have hpS := hpv.2.2.2.1 (by have := hkn.2; omega)
      have hUk1 := hUk (by omega)
      have hKm1 := hKm hk1
      have hc1 := hH.2.2.2.2.2.2.1 (by omega)
      have hsk : s_s σ k = s_s σ (k - 1) := s_s_n (by omega) (by omega)
      rw [hsk] at hc1
      have hkn6 := hc1.2.1
      have hlt1 := hc1.2.2.1
      have hst1 : ∀ j, σ.1 6 (k - 1) ≤ j → j < σ.1 5 k + 1 - 1 → s_st f A B j := fun j g0 g1 => hc1.2.2.2.1 j g0 (by omega)
      have hgo1 : s_go f A B (f 2) (s_s σ (k - 1)) (σ.1 5 k + 1 - 1) := by rw [show σ.1 5 k + 1 - 1 = σ.1 5 k by omega]; exact hc1.2.2.2.2.1
      have had1 : σ.1 3 k = B (σ.1 5 k + 1 - 1) := by rw [show σ.1 5 k + 1 - 1 = σ.1 5 k by omega]; exact hc1.2.2.2.2.2
      have hwd := w_d_y hkn (by omega)
      refine g_iload_n rfl rfl ?_
      refine g_aload_n rfl rfl ?_
      refine x_geti (v := (μ.1 63 4)) rfl rfl (by decide) (Or.inl rfl) rfl ?_
      refine g_icmp_ge (tgt := 155) rfl (by decide) (fun hx => absurd hx (by omega)) (fun _ => ?_)
      refine g_iload_n rfl rfl ?_
      refine g_sipush rfl ⟨by decide, by decide⟩ (by decide) ?_
      refine g_icmp_ge (tgt := 155) rfl (by decide) (fun hx => absurd hx (by omega)) (fun _ => ?_)
      refine g_aload_n rfl rfl ?_
      refine g_iload_n rfl rfl ?_
      refine g_cV (as := [tI k]) (s_pk hG hsz hB hp.2 (by omega) (by omega)) rfl rfl mX3_kind_ok rfl rfl rfl (by decide) rfl rfl rfl ?_
      rintro _ w9 ⟨rfl, hw9⟩ _
      have hw9 := hw9.symm
      subst hw9
      refine g_istore rfl rfl rfl ?_
      refine g_iload rfl rfl ?_
      refine g_if_ne (tgt := 84) rfl (by decide) (fun _ => ?_) (fun hx => absurd hx (by omega))
      refine g_iload rfl rfl ?_
      refine g_iconst rfl ⟨by decide, by decide⟩ ?_
      refine g_icmp_ne (tgt := 107) rfl (by decide) (fun _ => ?_) (fun hx => absurd hx (by omega))
      refine g_iload rfl rfl ?_
      refine g_iconst rfl ⟨by decide, by decide⟩ ?_
      refine g_icmp_ne (tgt := 125) rfl (by decide) (fun hx => absurd hx (by omega)) (fun _ => ?_)
      refine g_aload_n rfl rfl ?_
      refine g_aload_n rfl rfl ?_
      refine g_iload_n rfl rfl ?_
      refine g_cV (as := [tI k]) (s_pv hG hsz hB hp.2 (by omega) (by omega)) rfl rfl mX3_value_ok rfl rfl rfl (by decide) rfl rfl rfl ?_
      rintro _ w9 ⟨rfl, hw9⟩ _
      have hw9 := hw9.symm
      subst hw9
      refine g_cV (as := [tI (σ.1 3 k)]) (s_hearG (S := s_s σ (k - 1)) hG hc hcl hw hW hCd hco (j0 := σ.1 6 (k - 1)) (z0 := w_U σ k) (j1 := σ.1 5 k + 1) (by omega) (by omega) (by omega) hPk (by omega) (by omega) hst1 hgo1 had1) rfl rfl mX10_hearGoto_ok rfl rfl rfl (by decide) rfl rfl rfl ?_
      rintro _ w1 ⟨rfl, hP1, hA1, hF9⟩ _
      have hF1 : ((∀ c, (c < 70 ∨ 75 < c) → w1.1 c = μ0.1 c) ∧ w1.2 = μ0.2) := ⟨fun c9 z9 => by rw [hF9.1 c9 (by omega) (by omega) (by omega) (by omega) (by omega)]; exact hF.1 c9 z9, hF9.2.trans hF.2⟩
      have hCd1 : tp_Cd c f w1 := tp_Cd_fr hcl (fun k9 z9 => hF1.1 k9 (by omega)) hCd0
      have hco1 : w1.2 70 4 = some c := by rw [hF1.2]; exact hco0
      have hsz1 : w1.1 63 4 = σ.1 0 9 := by rw [hF1.1 63 (by omega)]; exact hsz0
      have hB1 : c_B σ w1 := fun i i0 i1 => by rw [hF1.1 64 (by omega), hF1.1 65 (by omega), hF1.1 66 (by omega), hF1.1 67 (by omega)]; exact hB0 i i0 i1
      refine g_goto (tgt := 139) rfl (by decide) ?_
      refine g_aload_n rfl rfl ?_
      refine x_getF (r := 73) hG rfl rfl (by decide) (Or.inr ⟨_, rfl⟩) rfl ?_
      refine g_iload_n rfl rfl ?_
      refine g_aload_n rfl rfl ?_
      refine x_geti (v := (w1.1 70 6)) rfl rfl (by decide) (Or.inl rfl) rfl ?_
      refine g_iast rfl rfl (by decide) (by omega) (by omega) ?_
      refine x_iinc (z := k + 1) rfl rfl (by omega) ⟨by omega, by omega⟩ rfl rfl ?_
      refine g_goto (tgt := 31) rfl (by decide) ?_
      have hq9 := w_Q_up (μ' := (tp_pi w1 73 k (w1.1 70 6))) HH h0 (by omega) hQ ((hP1.1).trans (by omega)) ((show _ = _ from tp_pi_at).trans ((hP1.1).trans (by omega))) (fun q q0 q1 => by rw [tp_pi_ix (by omega)]; exact congrFun (hF9.1 73 (by omega) (by omega) (by omega) (by omega) (by omega)) q) (by rw [show σ.1 6 (k - 1) + (w_U σ (k + 1) - w_U σ k) = σ.1 5 k + 1 by omega]; exact hA1) (fun _ => by rw [hsk, hkn6]; have hP2 := hP1; rw [show w_U σ k + (σ.1 5 k + 1 - σ.1 6 (k - 1)) = w_U σ (k + 1) by omega] at hP2; exact hP2) (fun z => absurd (show σ.1 2 k ≤ 2 by omega) z)
      exact ih (by omega) _ _ (by omega) hq9 ⟨fun c9 z9 => by rw [tp_pi_ne (by omega)]; exact hF1.1 c9 z9, hF1.2⟩
    · have hk1 := hkn.1
      have hPk := hQ.2.1 hkn
      have hpv := hprev hk1
      have hp6 := hpv.2.1
      have hpS := hpv.2.2.2.1 (by have := hkn.2; omega)
      have hUk1 := hUk (by omega)
      have hKm1 := hKm hk1
      have hc1 := hH.2.2.2.2.2.2.2.1 (by omega)
      have hsk : s_s σ k = s_s σ (k - 1) := s_s_n (by omega) (by omega)
      rw [hsk] at hc1
      have hkn6 := hc1.2.1
      have hx1 := hc1.2.2.1
      have hst1 := hc1.2.2.2
      have hwd := w_d_y hkn (by omega)
      refine g_iload_n rfl rfl ?_
      refine g_aload_n rfl rfl ?_
      refine x_geti (v := (μ.1 63 4)) rfl rfl (by decide) (Or.inl rfl) rfl ?_
      refine g_icmp_ge (tgt := 155) rfl (by decide) (fun hx => absurd hx (by omega)) (fun _ => ?_)
      refine g_iload_n rfl rfl ?_
      refine g_sipush rfl ⟨by decide, by decide⟩ (by decide) ?_
      refine g_icmp_ge (tgt := 155) rfl (by decide) (fun hx => absurd hx (by omega)) (fun _ => ?_)
      refine g_aload_n rfl rfl ?_
      refine g_iload_n rfl rfl ?_
      refine g_cV (as := [tI k]) (s_pk hG hsz hB hp.2 (by omega) (by omega)) rfl rfl mX3_kind_ok rfl rfl rfl (by decide) rfl rfl rfl ?_
      rintro _ w9 ⟨rfl, hw9⟩ _
      have hw9 := hw9.symm
      subst hw9
      refine g_istore rfl rfl rfl ?_
      refine g_iload rfl rfl ?_
      refine g_if_ne (tgt := 84) rfl (by decide) (fun _ => ?_) (fun hx => absurd hx (by omega))
      refine g_iload rfl rfl ?_
      refine g_iconst rfl ⟨by decide, by decide⟩ ?_
      refine g_icmp_ne (tgt := 107) rfl (by decide) (fun _ => ?_) (fun hx => absurd hx (by omega))
      refine g_iload rfl rfl ?_
      refine g_iconst rfl ⟨by decide, by decide⟩ ?_
      refine g_icmp_ne (tgt := 125) rfl (by decide) (fun _ => ?_) (fun hx => absurd hx (by omega))
      refine g_aload_n rfl rfl ?_
      refine g_aload_n rfl rfl ?_
      refine g_iload_n rfl rfl ?_
      refine g_cV (as := [tI k]) (s_pv hG hsz hB hp.2 (by omega) (by omega)) rfl rfl mX3_value_ok rfl rfl rfl (by decide) rfl rfl rfl ?_
      rintro _ w9 ⟨rfl, hw9⟩ _
      have hw9 := hw9.symm
      subst hw9
      refine g_cV (as := [tI (σ.1 3 k)]) (s_count (S := s_s σ (k - 1)) hG hc hcl hw hW hCd hco (j0 := σ.1 6 (k - 1)) (z0 := w_U σ k) (j1 := σ.1 5 k) (by omega) (by omega) (by omega) hPk (by omega) hx1 hst1) rfl rfl mX10_goToCount_ok rfl rfl rfl (by decide) rfl rfl rfl ?_
      rintro _ w1 ⟨rfl, hP1, hA1, hF9⟩ _
      have hF1 : ((∀ c, (c < 70 ∨ 75 < c) → w1.1 c = μ0.1 c) ∧ w1.2 = μ0.2) := ⟨fun c9 z9 => by rw [hF9.1 c9 (by omega) (by omega) (by omega) (by omega) (by omega)]; exact hF.1 c9 z9, hF9.2.trans hF.2⟩
      have hCd1 : tp_Cd c f w1 := tp_Cd_fr hcl (fun k9 z9 => hF1.1 k9 (by omega)) hCd0
      have hco1 : w1.2 70 4 = some c := by rw [hF1.2]; exact hco0
      have hsz1 : w1.1 63 4 = σ.1 0 9 := by rw [hF1.1 63 (by omega)]; exact hsz0
      have hB1 : c_B σ w1 := fun i i0 i1 => by rw [hF1.1 64 (by omega), hF1.1 65 (by omega), hF1.1 66 (by omega), hF1.1 67 (by omega)]; exact hB0 i i0 i1
      refine g_aload_n rfl rfl ?_
      refine g_iconst rfl ⟨by decide, by decide⟩ ?_
      refine g_puti rfl rfl (by decide) rfl rfl ?_
      refine g_aload_n rfl rfl ?_
      refine x_getF (r := 73) hG rfl rfl (by decide) (Or.inr ⟨_, rfl⟩) rfl ?_
      refine g_iload_n rfl rfl ?_
      refine g_aload_n rfl rfl ?_
      refine x_geti (v := (w1.1 70 6)) rfl rfl (by decide) (Or.inl rfl) rfl ?_
      refine g_iast rfl rfl (by decide) (by omega) (by omega) ?_
      refine x_iinc (z := k + 1) rfl rfl (by omega) ⟨by omega, by omega⟩ rfl rfl ?_
      refine g_goto (tgt := 31) rfl (by decide) ?_
      have hq9 := w_Q_up (μ' := (tp_pi (tp_pi w1 70 7 (-1)) 73 k (w1.1 70 6))) HH h0 (by omega) hQ ((hP1.1).trans (by omega)) ((show _ = _ from tp_pi_at).trans ((hP1.1).trans (by omega))) (fun q q0 q1 => by rw [tp_pi_ix (by omega), tp_pi_ne (by omega)]; exact congrFun (hF9.1 73 (by omega) (by omega) (by omega) (by omega) (by omega)) q) (by rw [show σ.1 6 (k - 1) + (w_U σ (k + 1) - w_U σ k) = σ.1 5 k by omega]; exact hA1) (fun z => by omega) (fun _ => by show (-1 : Int) < 0; decide)
      exact ih (by omega) _ _ (by omega) hq9 ⟨fun c9 z9 => by rw [tp_pi_ne (by omega), tp_pi_ne (by omega)]; exact hF1.1 c9 z9, hF1.2⟩
    · have hk1 := hkn.1
      have hPk := hQ.2.1 hkn
      have hpv := hprev hk1
      have hp6 := hpv.2.1
      have hpS := hpv.2.2.2.1 (by have := hkn.2; omega)
      have hUk1 := hUk (by omega)
      have hKm1 := hKm hk1
      have hc1 := hH.2.2.2.2.2.2.2.1 (by omega)
      have hsk : s_s σ k = s_s σ (k - 1) := s_s_n (by omega) (by omega)
      rw [hsk] at hc1
      have hkn6 := hc1.2.1
      have hx1 := hc1.2.2.1
      have hst1 := hc1.2.2.2
      have hwd := w_d_y hkn (by omega)
      refine g_iload_n rfl rfl ?_
      refine g_aload_n rfl rfl ?_
      refine x_geti (v := (μ.1 63 4)) rfl rfl (by decide) (Or.inl rfl) rfl ?_
      refine g_icmp_ge (tgt := 155) rfl (by decide) (fun hx => absurd hx (by omega)) (fun _ => ?_)
      refine g_iload_n rfl rfl ?_
      refine g_sipush rfl ⟨by decide, by decide⟩ (by decide) ?_
      refine g_icmp_ge (tgt := 155) rfl (by decide) (fun hx => absurd hx (by omega)) (fun _ => ?_)
      refine g_aload_n rfl rfl ?_
      refine g_iload_n rfl rfl ?_
      refine g_cV (as := [tI k]) (s_pk hG hsz hB hp.2 (by omega) (by omega)) rfl rfl mX3_kind_ok rfl rfl rfl (by decide) rfl rfl rfl ?_
      rintro _ w9 ⟨rfl, hw9⟩ _
      have hw9 := hw9.symm
      subst hw9
      refine g_istore rfl rfl rfl ?_
      refine g_iload rfl rfl ?_
      refine g_if_ne (tgt := 84) rfl (by decide) (fun _ => ?_) (fun hx => absurd hx (by omega))
      refine g_iload rfl rfl ?_
      refine g_iconst rfl ⟨by decide, by decide⟩ ?_
      refine g_icmp_ne (tgt := 107) rfl (by decide) (fun _ => ?_) (fun hx => absurd hx (by omega))
      refine g_iload rfl rfl ?_
      refine g_iconst rfl ⟨by decide, by decide⟩ ?_
      refine g_icmp_ne (tgt := 125) rfl (by decide) (fun _ => ?_) (fun hx => absurd hx (by omega))
      refine g_aload_n rfl rfl ?_
      refine g_aload_n rfl rfl ?_
      refine g_iload_n rfl rfl ?_
      refine g_cV (as := [tI k]) (s_pv hG hsz hB hp.2 (by omega) (by omega)) rfl rfl mX3_value_ok rfl rfl rfl (by decide) rfl rfl rfl ?_
      rintro _ w9 ⟨rfl, hw9⟩ _
      have hw9 := hw9.symm
      subst hw9
      refine g_cV (as := [tI (σ.1 3 k)]) (s_count (S := s_s σ (k - 1)) hG hc hcl hw hW hCd hco (j0 := σ.1 6 (k - 1)) (z0 := w_U σ k) (j1 := σ.1 5 k) (by omega) (by omega) (by omega) hPk (by omega) hx1 hst1) rfl rfl mX10_goToCount_ok rfl rfl rfl (by decide) rfl rfl rfl ?_
      rintro _ w1 ⟨rfl, hP1, hA1, hF9⟩ _
      have hF1 : ((∀ c, (c < 70 ∨ 75 < c) → w1.1 c = μ0.1 c) ∧ w1.2 = μ0.2) := ⟨fun c9 z9 => by rw [hF9.1 c9 (by omega) (by omega) (by omega) (by omega) (by omega)]; exact hF.1 c9 z9, hF9.2.trans hF.2⟩
      have hCd1 : tp_Cd c f w1 := tp_Cd_fr hcl (fun k9 z9 => hF1.1 k9 (by omega)) hCd0
      have hco1 : w1.2 70 4 = some c := by rw [hF1.2]; exact hco0
      have hsz1 : w1.1 63 4 = σ.1 0 9 := by rw [hF1.1 63 (by omega)]; exact hsz0
      have hB1 : c_B σ w1 := fun i i0 i1 => by rw [hF1.1 64 (by omega), hF1.1 65 (by omega), hF1.1 66 (by omega), hF1.1 67 (by omega)]; exact hB0 i i0 i1
      refine g_aload_n rfl rfl ?_
      refine g_iconst rfl ⟨by decide, by decide⟩ ?_
      refine g_puti rfl rfl (by decide) rfl rfl ?_
      refine g_aload_n rfl rfl ?_
      refine x_getF (r := 73) hG rfl rfl (by decide) (Or.inr ⟨_, rfl⟩) rfl ?_
      refine g_iload_n rfl rfl ?_
      refine g_aload_n rfl rfl ?_
      refine x_geti (v := (w1.1 70 6)) rfl rfl (by decide) (Or.inl rfl) rfl ?_
      refine g_iast rfl rfl (by decide) (by omega) (by omega) ?_
      refine x_iinc (z := k + 1) rfl rfl (by omega) ⟨by omega, by omega⟩ rfl rfl ?_
      refine g_goto (tgt := 31) rfl (by decide) ?_
      have hq9 := w_Q_up (μ' := (tp_pi (tp_pi w1 70 7 (-1)) 73 k (w1.1 70 6))) HH h0 (by omega) hQ ((hP1.1).trans (by omega)) ((show _ = _ from tp_pi_at).trans ((hP1.1).trans (by omega))) (fun q q0 q1 => by rw [tp_pi_ix (by omega), tp_pi_ne (by omega)]; exact congrFun (hF9.1 73 (by omega) (by omega) (by omega) (by omega) (by omega)) q) (by rw [show σ.1 6 (k - 1) + (w_U σ (k + 1) - w_U σ k) = σ.1 5 k by omega]; exact hA1) (fun z => by omega) (fun _ => by show (-1 : Int) < 0; decide)
      exact ih (by omega) _ _ (by omega) hq9 ⟨fun c9 z9 => by rw [tp_pi_ne (by omega), tp_pi_ne (by omega)]; exact hF1.1 c9 z9, hF1.2⟩
    · have hk1 := hkn.1
      have hPk := hQ.2.1 hkn
      have hpv := hprev hk1
      have hp6 := hpv.2.1
      have hpS := hpv.2.2.2.1 (by have := hkn.2; omega)
      have hUk1 := hUk (by omega)
      have hKm1 := hKm hk1
      have hv0 := hH.2.2.2.2.2.2.2.2 (by omega)
      have hwd := w_d_n (σ := σ) (p := k) (Or.inr (by omega))
      have hcnt0 := hPk.2.2.1
      refine g_iload_n rfl rfl ?_
      refine g_aload_n rfl rfl ?_
      refine x_geti (v := (μ.1 63 4)) rfl rfl (by decide) (Or.inl rfl) rfl ?_
      refine g_icmp_ge (tgt := 155) rfl (by decide) (fun hx => absurd hx (by omega)) (fun _ => ?_)
      refine g_iload_n rfl rfl ?_
      refine g_sipush rfl ⟨by decide, by decide⟩ (by decide) ?_
      refine g_icmp_ge (tgt := 155) rfl (by decide) (fun hx => absurd hx (by omega)) (fun _ => ?_)
      refine g_aload_n rfl rfl ?_
      refine g_iload_n rfl rfl ?_
      refine g_cV (as := [tI k]) (s_pk hG hsz hB hp.2 (by omega) (by omega)) rfl rfl mX3_kind_ok rfl rfl rfl (by decide) rfl rfl rfl ?_
      rintro _ w9 ⟨rfl, hw9⟩ _
      have hw9 := hw9.symm
      subst hw9
      refine g_istore rfl rfl rfl ?_
      refine g_iload rfl rfl ?_
      refine g_if_ne (tgt := 84) rfl (by decide) (fun _ => ?_) (fun hx => absurd hx (by omega))
      refine g_iload rfl rfl ?_
      refine g_iconst rfl ⟨by decide, by decide⟩ ?_
      refine g_icmp_ne (tgt := 107) rfl (by decide) (fun _ => ?_) (fun hx => absurd hx (by omega))
      refine g_iload rfl rfl ?_
      refine g_iconst rfl ⟨by decide, by decide⟩ ?_
      refine g_icmp_ne (tgt := 125) rfl (by decide) (fun _ => ?_) (fun hx => absurd hx (by omega))
      refine g_aload_n rfl rfl ?_
      refine g_aload_n rfl rfl ?_
      refine g_iload_n rfl rfl ?_
      refine g_cV (as := [tI k]) (s_pv hG hsz hB hp.2 (by omega) (by omega)) rfl rfl mX3_value_ok rfl rfl rfl (by decide) rfl rfl rfl ?_
      rintro _ w9 ⟨rfl, hw9⟩ _
      have hw9 := hw9.symm
      subst hw9
      refine g_cV (as := [tI (σ.1 3 k)]) (s_countZ hG (by omega)) rfl rfl mX10_goToCount_ok rfl rfl rfl (by decide) rfl rfl rfl ?_
      rintro _ w9 ⟨rfl, hw9⟩ _
      have hw9 := hw9.symm
      subst hw9
      refine g_aload_n rfl rfl ?_
      refine g_iconst rfl ⟨by decide, by decide⟩ ?_
      refine g_puti rfl rfl (by decide) rfl rfl ?_
      refine g_aload_n rfl rfl ?_
      refine x_getF (r := 73) hG rfl rfl (by decide) (Or.inr ⟨_, rfl⟩) rfl ?_
      refine g_iload_n rfl rfl ?_
      refine g_aload_n rfl rfl ?_
      refine x_geti (v := (μ.1 70 6)) rfl rfl (by decide) (Or.inl rfl) rfl ?_
      refine g_iast rfl rfl (by decide) (by omega) (by omega) ?_
      refine x_iinc (z := k + 1) rfl rfl (by omega) ⟨by omega, by omega⟩ rfl rfl ?_
      refine g_goto (tgt := 31) rfl (by decide) ?_
      have hq9 := w_Q_up (μ' := (tp_pi (tp_pi μ 70 7 (-1)) 73 k (μ.1 70 6))) HH h0 (by omega) hQ ((hQ.1).trans (by omega)) ((show _ = _ from tp_pi_at).trans ((hQ.1).trans (by omega))) (fun q q0 q1 => by rw [tp_pi_ix (by omega), tp_pi_ne (by omega)]) (by rw [show σ.1 6 (k - 1) + (w_U σ (k + 1) - w_U σ k) = σ.1 6 (k - 1) by omega]; exact w_A_rf) (fun z => by omega) (fun _ => by show (-1 : Int) < 0; decide)
      exact ih (by omega) _ _ (by omega) hq9 ⟨fun c9 z9 => by rw [tp_pi_ne (by omega), tp_pi_ne (by omega)]; exact hF.1 c9 z9, hF.2⟩
  · rcases (show σ.1 2 k = 0 ∨ σ.1 2 k = 1 ∨ σ.1 2 k = 2 ∨ σ.1 2 k = 3 ∨ σ.1 2 k = 4 ∨ σ.1 2 k = 5 by omega) with hkk | hkk | hkk | hkk | hkk | hkk
    · have hun := hQ.2.2.1 hkn
      have hc0 := hH.2.2.2.2.1 (by omega)
      have hst0 := hc0.1
      have hv1 : σ.1 3 k = A (σ.1 5 k) := hc0.2.1
      have hkn6 : σ.1 6 k = σ.1 5 k := hc0.2.2.1
      have hsk : s_s σ k = σ.1 5 k := s_s_0 h0 (by omega)
      have hwd := w_d_n (Or.inl hkn)
      refine g_iload_n rfl rfl ?_
      refine g_aload_n rfl rfl ?_
      refine x_geti (v := (μ.1 63 4)) rfl rfl (by decide) (Or.inl rfl) rfl ?_
      refine g_icmp_ge (tgt := 155) rfl (by decide) (fun hx => absurd hx (by omega)) (fun _ => ?_)
      refine g_iload_n rfl rfl ?_
      refine g_sipush rfl ⟨by decide, by decide⟩ (by decide) ?_
      refine g_icmp_ge (tgt := 155) rfl (by decide) (fun hx => absurd hx (by omega)) (fun _ => ?_)
      refine g_aload_n rfl rfl ?_
      refine g_iload_n rfl rfl ?_
      refine g_cV (as := [tI k]) (s_pk hG hsz hB hp.2 (by omega) (by omega)) rfl rfl mX3_kind_ok rfl rfl rfl (by decide) rfl rfl rfl ?_
      rintro _ w9 ⟨rfl, hw9⟩ _
      have hw9 := hw9.symm
      subst hw9
      refine g_istore rfl rfl rfl ?_
      refine g_iload rfl rfl ?_
      refine g_if_ne (tgt := 84) rfl (by decide) (fun hx => absurd hx (by omega)) (fun _ => ?_)
      refine g_aload_n rfl rfl ?_
      refine g_aload_n rfl rfl ?_
      refine g_iload_n rfl rfl ?_
      refine g_cV (as := [tI k]) (s_px hG hsz hB hp.2 (by omega) (by omega)) rfl rfl mX3_extra_ok rfl rfl rfl (by decide) rfl rfl rfl ?_
      rintro _ w9 ⟨rfl, hw9⟩ _
      have hw9 := hw9.symm
      subst hw9
      refine g_cV (as := [tI (σ.1 4 k)]) (s_count0 hG hc hcl hw hCd hco hun) rfl rfl mX10_goToCount_ok rfl rfl rfl (by decide) rfl rfl rfl ?_
      rintro _ w9 ⟨rfl, hw9⟩ _
      have hw9 := hw9.symm
      subst hw9
      refine g_aload_n rfl rfl ?_
      refine g_aload_n rfl rfl ?_
      refine g_iload_n rfl rfl ?_
      refine g_cV (as := [tI k]) (s_pv hG hsz hB hp.2 (by omega) (by omega)) rfl rfl mX3_value_ok rfl rfl rfl (by decide) rfl rfl rfl ?_
      rintro _ w9 ⟨rfl, hw9⟩ _
      have hw9 := hw9.symm
      subst hw9
      refine g_aload_n rfl rfl ?_
      refine g_iload_n rfl rfl ?_
      refine g_cV (as := [tI k]) (s_ps hG hsz hB hp.2 (by omega) (by omega)) rfl rfl mX3_stepOf_ok rfl rfl rfl (by decide) rfl rfl rfl ?_
      rintro _ w9 ⟨rfl, hw9⟩ _
      have hw9 := hw9.symm
      subst hw9
      refine g_iV (as := [tI (σ.1 3 k), tI (σ.1 5 k)]) mX10_begin_ok rfl rfl rfl rfl rfl rfl (by decide) rfl rfl rfl ?_
      refine g_aload_n rfl rfl ?_
      refine g_iload_n rfl rfl ?_
      refine g_puti rfl rfl (by decide) rfl rfl ?_
      refine g_aload_n rfl rfl ?_
      refine g_iload_n rfl rfl ?_
      refine g_puti rfl rfl (by decide) rfl rfl ?_
      refine g_aload_n rfl rfl ?_
      refine g_iconst rfl ⟨by decide, by decide⟩ ?_
      refine g_puti rfl rfl (by decide) rfl rfl ?_
      refine g_aload_n rfl rfl ?_
      refine x_getF (r := 74) hG rfl rfl (by decide) (Or.inl ⟨_, rfl⟩) rfl ?_
      refine g_iV (as := []) mX8_clear_ok rfl rfl rfl rfl rfl rfl (by decide) rfl rfl rfl ?_
      refine g_aload_n rfl rfl ?_
      refine g_iconst rfl ⟨by decide, by decide⟩ ?_
      refine g_puti rfl rfl (by decide) rfl rfl ?_
      refine x_return rfl rfl ?_
      intro _
      refine x_return rfl rfl ?_
      intro _
      refine g_goto (tgt := 139) rfl (by decide) ?_
      refine g_aload_n rfl rfl ?_
      refine x_getF (r := 73) hG rfl rfl (by decide) (Or.inr ⟨_, rfl⟩) rfl ?_
      refine g_iload_n rfl rfl ?_
      refine g_aload_n rfl rfl ?_
      refine x_geti (v := (μ.1 70 6)) rfl rfl (by decide) (Or.inl rfl) rfl ?_
      refine g_iast rfl rfl (by decide) (by omega) (by omega) ?_
      refine x_iinc (z := k + 1) rfl rfl (by omega) ⟨by omega, by omega⟩ rfl rfl ?_
      refine g_goto (tgt := 31) rfl (by decide) ?_
      have hq9 := w_Q_up (μ' := (tp_pi (tp_pi (tp_pi (tp_pi (tp_pi μ 70 7 (σ.1 3 k)) 70 9 (σ.1 5 k)) 70 8 0) 74 1 0) 73 k (μ.1 70 6))) HH h0 (by omega) hQ ((hQ.1).trans (by omega)) ((show _ = _ from tp_pi_at).trans ((hQ.1).trans (by omega))) (fun q q0 q1 => by rw [tp_pi_ix (by omega), tp_pi_ne (by omega), tp_pi_ne (by omega), tp_pi_ne (by omega), tp_pi_ne (by omega)]) (by rw [show σ.1 6 (k - 1) + (w_U σ (k + 1) - w_U σ k) = σ.1 6 (k - 1) by omega]; exact w_A_rf) (fun _ => by rw [hsk, hkn6]; refine ⟨hQ.1.trans (by omega), fun _ => hv1, by show (0 : Int) = _; omega, rfl, ?_⟩; rw [s_S_0]; exact ⟨rfl, fun i i0 i1 => by have i1 : i < 0 := i1; omega⟩) (fun z => absurd (show σ.1 2 k ≤ 2 by omega) z)
      exact ih (by omega) _ _ (by omega) hq9 ⟨fun c9 z9 => by rw [tp_pi_ne (by omega), tp_pi_ne (by omega), tp_pi_ne (by omega), tp_pi_ne (by omega), tp_pi_ne (by omega)]; exact hF.1 c9 z9, hF.2⟩
    · exact absurd (hH.2.2.2.2.2.1 hkk).1 hkn
    · exact absurd (hH.2.2.2.2.2.2.1 hkk).1 hkn
    · exact absurd (hH.2.2.2.2.2.2.2.1 (Or.inl hkk)).1 hkn
    · exact absurd (hH.2.2.2.2.2.2.2.1 (Or.inr hkk)).1 hkn
    · have hun := hQ.2.2.1 hkn
      have hv0 := hH.2.2.2.2.2.2.2.2 (by omega)
      have hwd := w_d_n (σ := σ) (p := k) (Or.inr (by omega))
      refine g_iload_n rfl rfl ?_
      refine g_aload_n rfl rfl ?_
      refine x_geti (v := (μ.1 63 4)) rfl rfl (by decide) (Or.inl rfl) rfl ?_
      refine g_icmp_ge (tgt := 155) rfl (by decide) (fun hx => absurd hx (by omega)) (fun _ => ?_)
      refine g_iload_n rfl rfl ?_
      refine g_sipush rfl ⟨by decide, by decide⟩ (by decide) ?_
      refine g_icmp_ge (tgt := 155) rfl (by decide) (fun hx => absurd hx (by omega)) (fun _ => ?_)
      refine g_aload_n rfl rfl ?_
      refine g_iload_n rfl rfl ?_
      refine g_cV (as := [tI k]) (s_pk hG hsz hB hp.2 (by omega) (by omega)) rfl rfl mX3_kind_ok rfl rfl rfl (by decide) rfl rfl rfl ?_
      rintro _ w9 ⟨rfl, hw9⟩ _
      have hw9 := hw9.symm
      subst hw9
      refine g_istore rfl rfl rfl ?_
      refine g_iload rfl rfl ?_
      refine g_if_ne (tgt := 84) rfl (by decide) (fun _ => ?_) (fun hx => absurd hx (by omega))
      refine g_iload rfl rfl ?_
      refine g_iconst rfl ⟨by decide, by decide⟩ ?_
      refine g_icmp_ne (tgt := 107) rfl (by decide) (fun _ => ?_) (fun hx => absurd hx (by omega))
      refine g_iload rfl rfl ?_
      refine g_iconst rfl ⟨by decide, by decide⟩ ?_
      refine g_icmp_ne (tgt := 125) rfl (by decide) (fun _ => ?_) (fun hx => absurd hx (by omega))
      refine g_aload_n rfl rfl ?_
      refine g_aload_n rfl rfl ?_
      refine g_iload_n rfl rfl ?_
      refine g_cV (as := [tI k]) (s_pv hG hsz hB hp.2 (by omega) (by omega)) rfl rfl mX3_value_ok rfl rfl rfl (by decide) rfl rfl rfl ?_
      rintro _ w9 ⟨rfl, hw9⟩ _
      have hw9 := hw9.symm
      subst hw9
      refine g_cV (as := [tI (σ.1 3 k)]) (s_count0 hG hc hcl hw hCd hco hun) rfl rfl mX10_goToCount_ok rfl rfl rfl (by decide) rfl rfl rfl ?_
      rintro _ w9 ⟨rfl, hw9⟩ _
      have hw9 := hw9.symm
      subst hw9
      refine g_aload_n rfl rfl ?_
      refine g_iconst rfl ⟨by decide, by decide⟩ ?_
      refine g_puti rfl rfl (by decide) rfl rfl ?_
      refine g_aload_n rfl rfl ?_
      refine x_getF (r := 73) hG rfl rfl (by decide) (Or.inr ⟨_, rfl⟩) rfl ?_
      refine g_iload_n rfl rfl ?_
      refine g_aload_n rfl rfl ?_
      refine x_geti (v := (μ.1 70 6)) rfl rfl (by decide) (Or.inl rfl) rfl ?_
      refine g_iast rfl rfl (by decide) (by omega) (by omega) ?_
      refine x_iinc (z := k + 1) rfl rfl (by omega) ⟨by omega, by omega⟩ rfl rfl ?_
      refine g_goto (tgt := 31) rfl (by decide) ?_
      have hq9 := w_Q_up (μ' := (tp_pi (tp_pi μ 70 7 (-1)) 73 k (μ.1 70 6))) HH h0 (by omega) hQ ((hQ.1).trans (by omega)) ((show _ = _ from tp_pi_at).trans ((hQ.1).trans (by omega))) (fun q q0 q1 => by rw [tp_pi_ix (by omega), tp_pi_ne (by omega)]) (by rw [show σ.1 6 (k - 1) + (w_U σ (k + 1) - w_U σ k) = σ.1 6 (k - 1) by omega]; exact w_A_rf) (fun z => by omega) (fun _ => by show (-1 : Int) < 0; decide)
      exact ih (by omega) _ _ (by omega) hq9 ⟨fun c9 z9 => by rw [tp_pi_ne (by omega), tp_pi_ne (by omega)]; exact hF.1 c9 z9, hF.2⟩
