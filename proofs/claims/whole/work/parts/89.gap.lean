/-- the row of steps that are traced and not rebuilt; the longest so far -/
def q_gw (f A J : Int → Int) (m : Int) : Nat → Int × Int
  | 0 => (0, 0)
  | k + 1 => if q_tr f (A k) = 1 ∧ q_im J m k ≠ 1 then ((q_gw f A J m k).1 + 1, max (q_gw f A J m k).2 ((q_gw f A J m k).1 + 1)) else (0, max (q_gw f A J m k).2 0)
def q_gW (f A J : Int → Int) (m k : Int) : Int × Int := q_gw f A J m k.toNat
theorem q_gW_y {f A J : Int → Int} {m k : Int} (h0 : 0 ≤ k) (h : q_tr f (A k) = 1 ∧ q_im J m k ≠ 1) : q_gW f A J m (k + 1) = ((q_gW f A J m k).1 + 1, max (q_gW f A J m k).2 ((q_gW f A J m k).1 + 1)) := by
  unfold q_gW
  rw [show (k + 1).toNat = k.toNat + 1 by omega]
  exact if_pos (by rw [show ((k.toNat : Nat) : Int) = k by omega]; exact h)
theorem q_gW_n {f A J : Int → Int} {m k : Int} (h0 : 0 ≤ k) (h : ¬ (q_tr f (A k) = 1 ∧ q_im J m k ≠ 1)) : q_gW f A J m (k + 1) = (0, max (q_gW f A J m k).2 0) := by
  unfold q_gW
  rw [show (k + 1).toNat = k.toNat + 1 by omega]
  exact if_neg (by rw [show ((k.toNat : Nat) : Int) = k by omega]; exact h)
theorem q_gW_b {f A J : Int → Int} {m k : Int} (h0 : 0 ≤ k) : (0 ≤ (q_gW f A J m k).1 ∧ (q_gW f A J m k).1 ≤ k) ∧ (0 ≤ (q_gW f A J m k).2 ∧ (q_gW f A J m k).2 ≤ k) := by
  have e : ∀ x : Nat, (0 ≤ (q_gw f A J m x).1 ∧ (q_gw f A J m x).1 ≤ (x : Int)) ∧ (0 ≤ (q_gw f A J m x).2 ∧ (q_gw f A J m x).2 ≤ (x : Int)) := by
    intro x
    induction x with
    | zero => exact ⟨⟨Int.le_refl 0, Int.le_refl 0⟩, ⟨Int.le_refl 0, Int.le_refl 0⟩⟩
    | succ x ih =>
      unfold q_gw
      split
      · show (0 ≤ (q_gw f A J m x).1 + 1 ∧ (q_gw f A J m x).1 + 1 ≤ ((x + 1 : Nat) : Int)) ∧ (0 ≤ max (q_gw f A J m x).2 ((q_gw f A J m x).1 + 1) ∧ max (q_gw f A J m x).2 ((q_gw f A J m x).1 + 1) ≤ ((x + 1 : Nat) : Int))
        omega
      · show (0 ≤ (0 : Int) ∧ (0 : Int) ≤ ((x + 1 : Nat) : Int)) ∧ (0 ≤ max (q_gw f A J m x).2 0 ∧ max (q_gw f A J m x).2 0 ≤ ((x + 1 : Nat) : Int))
        omega
  have := e k.toNat
  rw [show ((k.toNat : Nat) : Int) = k by omega] at this
  exact this
/-- where a pointer into a rising row stands -/
theorem q_im_at {J : Int → Int} {m k t : Int} (hm : 0 ≤ m) (hup : ∀ j j', 0 ≤ j → j < j' → j' < m → J j < J j') (ht : 0 ≤ t ∧ t ≤ m) (hlt : ∀ j, 0 ≤ j → j < t → J j < k) (hge : t < m → k ≤ J t) : q_im J m k = 1 ↔ (t < m ∧ J t = k) := by
  rw [q_im_i hm]
  constructor
  · rintro ⟨j, a, b, c⟩
    rcases Int.lt_trichotomy j t with q | q | q
    · have := hlt j a q; omega
    · rw [← q]; exact ⟨b, c⟩
    · have h1 := hge (by omega)
      have h2 := hup t j ht.1 q b
      omega
  · rintro ⟨a, b⟩; exact ⟨t, ht.1, a, b⟩
/-- the walk's own numbers of steps are the row without a loss -/
theorem w_Q_J {f A B Y : Int → Int} {dp n : Int} {σ μ : tp_M} {J : Int → Int} (H : ∀ p, 0 ≤ p → p < σ.1 0 9 → s_H f A B Y dp n σ p) (hp : 0 ≤ σ.1 0 9) (hQ : w_Q f A B n σ (σ.1 0 9) μ) (hJ : v_J (v_S (v_1 (-1)) σ (σ.1 0 9)) n J) : q_s (v_S (v_1 (-1)) σ (σ.1 0 9)).2.2.2 (v_S (v_1 (-1)) σ (σ.1 0 9)).2.1 = μ.1 70 6 ∧ ∀ j, 0 ≤ j → j < μ.1 70 6 → μ.1 72 j = J j := by
  have hu := v_U (l := v_1 (-1)) H (fun i i0 i1 => if_neg (by omega)) (σ.1 0 9).toNat (by omega)
  rw [show (((σ.1 0 9).toNat : Nat) : Int) = σ.1 0 9 by omega] at hu
  have e := hu.2.1.trans hQ.1.symm
  refine ⟨e, fun j j0 j1 => ?_⟩
  obtain ⟨i, t, a, b, c, d⟩ := hJ.2.1 j j0 (by omega)
  rw [d, c]
  exact hu.2.2 (μ.1 72) (fun q q0 q1 i i0 i1 => ((hQ.2.2.2 q q0 q1).2 i i0 i1).2) i a.1 a.2 t b.1 b.2
set_option maxHeartbeats 4000000 in
set_option maxRecDepth 100000 in
theorem l_gap {G : tp_G} {μ : tp_M} (hG : tp_Gf G = true) {c : Nat} {f : Int → Int} {n : Int} {A B Y H : Int → Int} {E D U T : Int} (hc : tp_SH c = .inl 0) (hcl : c < 37) (hw : tp_Cw f) (hW : r_W f n A B Y H) (hT : c_T 50 n A B Y E D U T μ) (hCd : tp_Cd c f μ) (hco : μ.2 50 5 = some c) {s : v_T} {J : Int → Int} (hJ : v_J s n J) (h706 : q_s s.2.2.2 s.2.1 = μ.1 70 6) (h72 : ∀ j, 0 ≤ j → j < μ.1 70 6 → μ.1 72 j = J j) : ∀ k, k ≤ n → ∀ (lo ro to : Int) (x5 : Option tp_V), 0 ≤ k → lo = (q_gW f A J (q_s s.2.2.2 s.2.1) k).2 → ro = (q_gW f A J (q_s s.2.2.2 s.2.1) k).1 → (0 ≤ to ∧ to ≤ q_s s.2.2.2 s.2.1) → (∀ j, 0 ≤ j → j < to → J j < k) → (to < q_s s.2.2.2 s.2.1 → k ≤ J to) → tp_g G mX11_gap 30 [some (tR (some 0)), some (tI lo), some (tI ro), some (tI to), some (tI k), x5] [] μ (fun r μ' => r = some (tI (q_gW f A J (q_s s.2.2.2 s.2.1) n).2) ∧ μ' = μ) := by
  have hcn : c < 234 := by omega
  have hw0 := hw.1
  have hn0 := hW.1
  have hn6 := hT.1
  have hsz := hJ.2.2.2.2.1
  refine tp_ind _ ?_
  intro k hkN ih lo ro to x5 h0 hlo hro hto hlt hge
  have hb := q_gW_b (f := f) (A := A) (J := J) (m := q_s s.2.2.2 s.2.1) h0
  rw [← hlo, ← hro] at hb
  have hIm := q_im_at hsz.1 hJ.2.2.1 hto hlt hge
  have h72t : to < q_s s.2.2.2 s.2.1 → μ.1 72 to = J to := fun z => h72 to hto.1 (by omega)
  refine g_iload rfl rfl ?_
  refine g_aload_n rfl rfl ?_
  refine x_getF (r := 50) hG rfl rfl (by decide) (Or.inl ⟨_, rfl⟩) rfl ?_
  refine x_geti (v := (μ.1 50 6)) rfl rfl (by decide) (Or.inl rfl) rfl ?_
  refine g_icmp_ge (tgt := 118) rfl (by decide) (fun h1 => ?_) (fun h1 => ?_)
  · refine g_iload_n rfl rfl ?_
    refine x_ireturn rfl rfl ?_
    exact ⟨by rw [hlo, show k = n by omega], rfl⟩
  · refine g_iload_n rfl rfl ?_
    refine g_aload_n rfl rfl ?_
    refine x_getF (r := 70) hG rfl rfl (by decide) (Or.inl ⟨_, rfl⟩) rfl ?_
    refine x_geti (v := (μ.1 70 6)) rfl rfl (by decide) (Or.inl rfl) rfl ?_
    refine g_icmp_ge (tgt := 70) rfl (by decide) (fun h2 => ?_) (fun h2 => ?_)
    · refine g_iconst rfl ⟨by decide, by decide⟩ ?_
      refine g_istore rfl rfl rfl ?_
      refine g_iload rfl rfl ?_
      refine g_if_eq (tgt := 81) rfl (by decide) (fun _ => ?_) (fun hx => absurd hx (by omega))
      refine g_aload_n rfl rfl ?_
      refine x_getF (r := 50) hG rfl rfl (by decide) (Or.inl ⟨_, rfl⟩) rfl ?_
      refine g_iload rfl rfl ?_
      refine g_cV (as := [tI k]) (s_isTraced50 hG hc hcl hw hW hT hCd hco (by omega) (by omega)) rfl rfl mX7_isTraced_ok rfl rfl rfl (by decide) rfl rfl rfl ?_
      rintro _ w9 ⟨rfl, hw9⟩ _
      have hw9 := hw9.symm
      subst hw9
      have hq1 := q_tr_b f (A k)
      refine g_if_eq (tgt := 104) rfl (by decide) (fun h3 => ?_) (fun h3 => ?_)
      · refine g_iconst rfl ⟨by decide, by decide⟩ ?_
        refine g_istore_n rfl rfl rfl ?_
        refine g_iload_n rfl rfl ?_
        refine g_iload_n rfl rfl ?_
        refine g_max rfl rfl ?_
        refine g_istore_n rfl rfl rfl ?_
        refine x_iinc (z := k + 1) rfl rfl (by omega) ⟨by omega, by omega⟩ rfl rfl ?_
        refine g_goto (tgt := 30) rfl (by decide) ?_
        exact ih (by omega) _ _ _ _ (by omega) (by rw [q_gW_n h0 (by omega), hlo]) (by rw [q_gW_n h0 (by omega)]) (by omega) (fun j j0 j1 => by have := hlt j j0 j1; omega) (fun z => by have := hge z; have := h72t z; omega)
      · refine g_iload rfl rfl ?_
        refine g_if_ne (tgt := 104) rfl (by decide) (fun hx => absurd hx (by omega)) (fun _ => ?_)
        refine g_iload_n rfl rfl ?_
        refine g_iconst rfl ⟨by decide, by decide⟩ ?_
        refine x_iadd (z := ro + 1) rfl (by omega) ⟨by omega, by omega⟩ ?_
        refine g_goto (tgt := 105) rfl (by decide) ?_
        refine g_istore_n rfl rfl rfl ?_
        refine g_iload_n rfl rfl ?_
        refine g_iload_n rfl rfl ?_
        refine g_max rfl rfl ?_
        refine g_istore_n rfl rfl rfl ?_
        refine x_iinc (z := k + 1) rfl rfl (by omega) ⟨by omega, by omega⟩ rfl rfl ?_
        refine g_goto (tgt := 30) rfl (by decide) ?_
        exact ih (by omega) _ _ _ _ (by omega) (by rw [q_gW_y h0 (by omega), hlo, hro]) (by rw [q_gW_y h0 (by omega), hro]) (by omega) (fun j j0 j1 => by have := hlt j j0 j1; omega) (fun z => by have := hge z; have := h72t z; omega)
    · refine g_aload_n rfl rfl ?_
      refine x_getF (r := 70) hG rfl rfl (by decide) (Or.inl ⟨_, rfl⟩) rfl ?_
      refine g_iload_n rfl rfl ?_
      refine g_iV (as := [tI to]) mX10_stepAt_ok rfl rfl rfl rfl rfl rfl (by decide) rfl rfl rfl ?_
      refine g_iload_n rfl rfl ?_
      refine g_if_lt (tgt := 19) rfl (by decide) (fun hx => absurd hx (by omega)) (fun _ => ?_)
      refine g_iload_n rfl rfl ?_
      refine g_aload_n rfl rfl ?_
      refine x_geti (v := (μ.1 70 6)) rfl rfl (by decide) (Or.inl rfl) rfl ?_
      refine g_icmp_ge (tgt := 19) rfl (by decide) (fun hx => absurd hx (by omega)) (fun _ => ?_)
      refine g_iload_n rfl rfl ?_
      refine g_sipush rfl ⟨by decide, by decide⟩ (by decide) ?_
      refine g_icmp_lt (tgt := 23) rfl (by decide) (fun _ => ?_) (fun hx => absurd hx (by omega))
      refine g_aload_n rfl rfl ?_
      refine x_getF (r := 72) hG rfl rfl (by decide) (Or.inr ⟨_, rfl⟩) rfl ?_
      refine g_iload_n rfl rfl ?_
      refine x_iald (v := (μ.1 72 to)) rfl rfl (by decide) (by omega) (by omega) rfl ?_
      refine x_ireturn rfl rfl ?_
      intro _
      refine g_iload rfl rfl ?_
      refine g_icmp_ne (tgt := 70) rfl (by decide) (fun h4 => ?_) (fun h4 => ?_)
      · refine g_iconst rfl ⟨by decide, by decide⟩ ?_
        refine g_istore rfl rfl rfl ?_
        refine g_iload rfl rfl ?_
        refine g_if_eq (tgt := 81) rfl (by decide) (fun _ => ?_) (fun hx => absurd hx (by omega))
        refine g_aload_n rfl rfl ?_
        refine x_getF (r := 50) hG rfl rfl (by decide) (Or.inl ⟨_, rfl⟩) rfl ?_
        refine g_iload rfl rfl ?_
        refine g_cV (as := [tI k]) (s_isTraced50 hG hc hcl hw hW hT hCd hco (by omega) (by omega)) rfl rfl mX7_isTraced_ok rfl rfl rfl (by decide) rfl rfl rfl ?_
        rintro _ w9 ⟨rfl, hw9⟩ _
        have hw9 := hw9.symm
        subst hw9
        have hq1 := q_tr_b f (A k)
        refine g_if_eq (tgt := 104) rfl (by decide) (fun h5 => ?_) (fun h5 => ?_)
        · refine g_iconst rfl ⟨by decide, by decide⟩ ?_
          refine g_istore_n rfl rfl rfl ?_
          refine g_iload_n rfl rfl ?_
          refine g_iload_n rfl rfl ?_
          refine g_max rfl rfl ?_
          refine g_istore_n rfl rfl rfl ?_
          refine x_iinc (z := k + 1) rfl rfl (by omega) ⟨by omega, by omega⟩ rfl rfl ?_
          refine g_goto (tgt := 30) rfl (by decide) ?_
          exact ih (by omega) _ _ _ _ (by omega) (by rw [q_gW_n h0 (by omega), hlo]) (by rw [q_gW_n h0 (by omega)]) (by omega) (fun j j0 j1 => by have := hlt j j0 j1; omega) (fun z => by have := hge z; have := h72t z; omega)
        · refine g_iload rfl rfl ?_
          refine g_if_ne (tgt := 104) rfl (by decide) (fun hx => absurd hx (by omega)) (fun _ => ?_)
          refine g_iload_n rfl rfl ?_
          refine g_iconst rfl ⟨by decide, by decide⟩ ?_
          refine x_iadd (z := ro + 1) rfl (by omega) ⟨by omega, by omega⟩ ?_
          refine g_goto (tgt := 105) rfl (by decide) ?_
          refine g_istore_n rfl rfl rfl ?_
          refine g_iload_n rfl rfl ?_
          refine g_iload_n rfl rfl ?_
          refine g_max rfl rfl ?_
          refine g_istore_n rfl rfl rfl ?_
          refine x_iinc (z := k + 1) rfl rfl (by omega) ⟨by omega, by omega⟩ rfl rfl ?_
          refine g_goto (tgt := 30) rfl (by decide) ?_
          exact ih (by omega) _ _ _ _ (by omega) (by rw [q_gW_y h0 (by omega), hlo, hro]) (by rw [q_gW_y h0 (by omega), hro]) (by omega) (fun j j0 j1 => by have := hlt j j0 j1; omega) (fun z => by have := hge z; have := h72t z; omega)
      · refine g_iconst rfl ⟨by decide, by decide⟩ ?_
        refine g_goto (tgt := 71) rfl (by decide) ?_
        refine g_istore rfl rfl rfl ?_
        refine g_iload rfl rfl ?_
        refine g_if_eq (tgt := 81) rfl (by decide) (fun hx => absurd hx (by omega)) (fun _ => ?_)
        refine x_iinc (z := to + 1) rfl rfl (by omega) ⟨by omega, by omega⟩ rfl rfl ?_
        refine g_aload_n rfl rfl ?_
        refine x_getF (r := 50) hG rfl rfl (by decide) (Or.inl ⟨_, rfl⟩) rfl ?_
        refine g_iload rfl rfl ?_
        refine g_cV (as := [tI k]) (s_isTraced50 hG hc hcl hw hW hT hCd hco (by omega) (by omega)) rfl rfl mX7_isTraced_ok rfl rfl rfl (by decide) rfl rfl rfl ?_
        rintro _ w9 ⟨rfl, hw9⟩ _
        have hw9 := hw9.symm
        subst hw9
        have hq1 := q_tr_b f (A k)
        refine g_if_eq (tgt := 104) rfl (by decide) (fun h6 => ?_) (fun h6 => ?_)
        · refine g_iconst rfl ⟨by decide, by decide⟩ ?_
          refine g_istore_n rfl rfl rfl ?_
          refine g_iload_n rfl rfl ?_
          refine g_iload_n rfl rfl ?_
          refine g_max rfl rfl ?_
          refine g_istore_n rfl rfl rfl ?_
          refine x_iinc (z := k + 1) rfl rfl (by omega) ⟨by omega, by omega⟩ rfl rfl ?_
          refine g_goto (tgt := 30) rfl (by decide) ?_
          exact ih (by omega) _ _ _ _ (by omega) (by rw [q_gW_n h0 (by omega), hlo]) (by rw [q_gW_n h0 (by omega)]) (by omega) (fun j j0 j1 => by rcases (show j < to ∨ j = to by omega) with u | u; (have := hlt j j0 u; omega); (rw [u]; omega)) (fun z => by have := hJ.2.2.1 to (to + 1) (by omega) (by omega) (by omega); omega)
        · refine g_iload rfl rfl ?_
          refine g_if_ne (tgt := 104) rfl (by decide) (fun _ => ?_) (fun hx => absurd hx (by omega))
          refine g_iconst rfl ⟨by decide, by decide⟩ ?_
          refine g_istore_n rfl rfl rfl ?_
          refine g_iload_n rfl rfl ?_
          refine g_iload_n rfl rfl ?_
          refine g_max rfl rfl ?_
          refine g_istore_n rfl rfl rfl ?_
          refine x_iinc (z := k + 1) rfl rfl (by omega) ⟨by omega, by omega⟩ rfl rfl ?_
          refine g_goto (tgt := 30) rfl (by decide) ?_
          exact ih (by omega) _ _ _ _ (by omega) (by rw [q_gW_n h0 (by omega), hlo]) (by rw [q_gW_n h0 (by omega)]) (by omega) (fun j j0 j1 => by rcases (show j < to ∨ j = to by omega) with u | u; (have := hlt j j0 u; omega); (rw [u]; omega)) (fun z => by have := hJ.2.2.1 to (to + 1) (by omega) (by omega) (by omega); omega)
set_option maxHeartbeats 4000000 in
set_option maxRecDepth 100000 in
theorem s_gap {G : tp_G} {μ : tp_M} (hG : tp_Gf G = true) {c : Nat} {f : Int → Int} {n : Int} {A B Y H : Int → Int} {E D U T : Int} (hc : tp_SH c = .inl 0) (hcl : c < 37) (hw : tp_Cw f) (hW : r_W f n A B Y H) (hT : c_T 50 n A B Y E D U T μ) (hCd : tp_Cd c f μ) (hco : μ.2 50 5 = some c) {σ : tp_M} (hsz3 : μ.1 63 4 = σ.1 0 9) (hB3 : c_B σ μ) (hp9 : 0 ≤ σ.1 0 9 ∧ σ.1 0 9 ≤ 209) (HH : ∀ p, 0 ≤ p → p < σ.1 0 9 → s_H f A B Y (f 2) n σ p) {J : Int → Int} (hJ : v_J (v_S (v_1 (-1)) σ (σ.1 0 9)) n J) : tp_k G mX11_gap [tR (some 0)] μ (fun r μ' => r = some (tI (q_gW f A J (q_s (v_S (v_1 (-1)) σ (σ.1 0 9)).2.2.2 (v_S (v_1 (-1)) σ (σ.1 0 9)).2.1) n).2) ∧ ∀ c, (c < 70 ∨ 75 < c) → μ'.1 c = μ.1 c) := by
  refine tp_ok_of mX11_gap_ok rfl (Nat.le_refl _) ?_
  have hcn : c < 234 := by omega
  have hw0 := hw.1
  have hn0 := hW.1
  refine g_aload_n rfl rfl ?_
  refine x_getF (r := 70) hG rfl rfl (by decide) (Or.inl ⟨_, rfl⟩) rfl ?_
  refine g_aload_n rfl rfl ?_
  refine x_getF (r := 50) hG rfl rfl (by decide) (Or.inl ⟨_, rfl⟩) rfl ?_
  refine x_getM (v := (some c)) hG rfl rfl (by decide) (Or.inl ⟨_, rfl⟩) rfl hco ?_
  refine g_aload_n rfl rfl ?_
  refine x_getF (r := 62) hG rfl rfl (by decide) (Or.inl ⟨_, rfl⟩) rfl ?_
  refine x_getF (r := 63) hG rfl rfl (by decide) (Or.inl ⟨_, rfl⟩) rfl ?_
  refine g_cV (as := [tR (some c), tR (some 63)]) (s_walk hG hc hcl hw hW hCd hsz3 hB3 hp9 HH) rfl rfl mX10_go_ok rfl rfl rfl (by decide) rfl rfl rfl ?_
  rintro _ w5 ⟨rfl, hQ5, hF5, hP5⟩ _
  have hT5 : c_T 50 n A B Y E D U T w5 := c_T_fr (fun c9 z1 z2 => hF5 c9 (by omega)) hT
  have hCd5 : tp_Cd c f w5 := tp_Cd_fr hcl (fun k9 z9 => hF5 k9 (by omega)) hCd
  have hco5 : w5.2 50 5 = some c := by rw [hP5]; exact hco
  have h5 := w_Q_J HH hp9.1 hQ5 hJ
  refine g_iconst rfl ⟨by decide, by decide⟩ ?_
  refine g_istore_n rfl rfl rfl ?_
  refine g_iconst rfl ⟨by decide, by decide⟩ ?_
  refine g_istore_n rfl rfl rfl ?_
  refine g_iconst rfl ⟨by decide, by decide⟩ ?_
  refine g_istore_n rfl rfl rfl ?_
  refine g_iconst rfl ⟨by decide, by decide⟩ ?_
  refine g_istore rfl rfl rfl ?_
  refine tp_conseq (fun r9 μ9 q9 => ?_) (l_gap hG hc hcl hw hW hT5 hCd5 hco5 hJ h5.1 h5.2 0 (by omega) 0 0 0 _ (by omega) rfl rfl ⟨by omega, hJ.2.2.2.2.1.1⟩ (fun j j0 j1 => by omega) (fun z => (hJ.2.2.2.1 0 (by omega) z).1))
  obtain ⟨rfl, e9⟩ := q9
  rw [e9]
  exact ⟨rfl, hF5⟩
set_option maxHeartbeats 4000000 in
set_option maxRecDepth 100000 in
theorem l_gapM {G : tp_G} {μ : tp_M} (hG : tp_Gf G = true) {ck : Int} {f : Int → Int} {n : Int} {A B Y H : Int → Int} {E D U T : Int} (hw : tp_Cw f) (hW : r_W f n A B Y H) (hT : m_T n A B Y E D U T μ) (hMc : tp_Mc ck f μ) {J : Int → Int} {m : Int} (hI : ∀ i, 0 ≤ i → i < n → μ.1 226 i = q_im J m i) : ∀ k, k ≤ n → ∀ (lo ro : Int), 0 ≤ k → lo = (q_gW f A J m k).2 → ro = (q_gW f A J m k).1 → tp_g G mX12_gap 15 [some (tR (some 201)), some (tI lo), some (tI ro), some (tI k)] [] μ (fun r μ' => r = some (tI (q_gW f A J m n).2) ∧ μ' = μ) := by
  have hw0 := hw.1
  have hn0 := hW.1
  have hn6 := hT.1
  refine tp_ind _ ?_
  intro k hkN ih lo ro h0 hlo hro
  have hb := q_gW_b (f := f) (A := A) (J := J) (m := m) h0
  rw [← hlo, ← hro] at hb
  have hIk : k < n → μ.1 226 k = q_im J m k := fun z => hI k h0 z
  have hIb := q_im_b J m k
  refine g_iload_n rfl rfl ?_
  refine g_aload_n rfl rfl ?_
  refine x_geti (v := (μ.1 201 27)) rfl rfl (by decide) (Or.inl rfl) rfl ?_
  refine g_icmp_ge (tgt := 60) rfl (by decide) (fun h1 => ?_) (fun h1 => ?_)
  · refine g_iload_n rfl rfl ?_
    refine x_ireturn rfl rfl ?_
    exact ⟨by rw [hlo, show k = n by omega], rfl⟩
  · refine g_aload_n rfl rfl ?_
    refine g_iload_n rfl rfl ?_
    refine g_cV (as := [tI k]) (s_isTracedM hG hw hW hT hMc (by omega) (by omega)) rfl rfl mX12_isTraced_ok rfl rfl rfl (by decide) rfl rfl rfl ?_
    rintro _ w9 ⟨rfl, hw9⟩ _
    have hw9 := hw9.symm
    subst hw9
    have hq1 := q_tr_b f (A k)
    refine g_if_eq (tgt := 46) rfl (by decide) (fun h2 => ?_) (fun h2 => ?_)
    · refine g_iconst rfl ⟨by decide, by decide⟩ ?_
      refine g_istore_n rfl rfl rfl ?_
      refine g_iload_n rfl rfl ?_
      refine g_iload_n rfl rfl ?_
      refine g_iS (as := [tI lo, tI 0]) mX12_greater_ok rfl rfl rfl rfl rfl rfl rfl ?_
      refine g_iload_n rfl rfl ?_
      refine g_iload_n rfl rfl ?_
      refine g_icmp_le (tgt := 9) rfl (by decide) (fun h3 => ?_) (fun h3 => ?_)
      · refine g_iload_n rfl rfl ?_
        refine x_ireturn rfl rfl ?_
        intro _
        refine g_istore_n rfl rfl rfl ?_
        refine x_iinc (z := k + 1) rfl rfl (by omega) ⟨by omega, by omega⟩ rfl rfl ?_
        refine g_goto (tgt := 15) rfl (by decide) ?_
        exact ih (by omega) _ _ (by omega) (by rw [q_gW_n h0 (by omega)]; show _ = max _ _; omega) (by rw [q_gW_n h0 (by omega)])
      · refine g_iload_n rfl rfl ?_
        refine g_goto (tgt := 10) rfl (by decide) ?_
        refine x_ireturn rfl rfl ?_
        intro _
        refine g_istore_n rfl rfl rfl ?_
        refine x_iinc (z := k + 1) rfl rfl (by omega) ⟨by omega, by omega⟩ rfl rfl ?_
        refine g_goto (tgt := 15) rfl (by decide) ?_
        exact ih (by omega) _ _ (by omega) (by rw [q_gW_n h0 (by omega)]; show _ = max _ _; omega) (by rw [q_gW_n h0 (by omega)])
    · refine g_aload_n rfl rfl ?_
      refine x_getF (r := 226) hG rfl rfl (by decide) (Or.inr ⟨_, rfl⟩) rfl ?_
      refine g_iload_n rfl rfl ?_
      refine g_zald rfl rfl (by decide) (by omega) (by omega) ?_
      refine g_if_ne (tgt := 46) rfl (by decide) (fun h4 => ?_) (fun h4 => ?_)
      · refine g_iconst rfl ⟨by decide, by decide⟩ ?_
        refine g_istore_n rfl rfl rfl ?_
        refine g_iload_n rfl rfl ?_
        refine g_iload_n rfl rfl ?_
        refine g_iS (as := [tI lo, tI 0]) mX12_greater_ok rfl rfl rfl rfl rfl rfl rfl ?_
        refine g_iload_n rfl rfl ?_
        refine g_iload_n rfl rfl ?_
        refine g_icmp_le (tgt := 9) rfl (by decide) (fun h5 => ?_) (fun h5 => ?_)
        · refine g_iload_n rfl rfl ?_
          refine x_ireturn rfl rfl ?_
          intro _
          refine g_istore_n rfl rfl rfl ?_
          refine x_iinc (z := k + 1) rfl rfl (by omega) ⟨by omega, by omega⟩ rfl rfl ?_
          refine g_goto (tgt := 15) rfl (by decide) ?_
          exact ih (by omega) _ _ (by omega) (by rw [q_gW_n h0 (by omega)]; show _ = max _ _; omega) (by rw [q_gW_n h0 (by omega)])
        · refine g_iload_n rfl rfl ?_
          refine g_goto (tgt := 10) rfl (by decide) ?_
          refine x_ireturn rfl rfl ?_
          intro _
          refine g_istore_n rfl rfl rfl ?_
          refine x_iinc (z := k + 1) rfl rfl (by omega) ⟨by omega, by omega⟩ rfl rfl ?_
          refine g_goto (tgt := 15) rfl (by decide) ?_
          exact ih (by omega) _ _ (by omega) (by rw [q_gW_n h0 (by omega)]; show _ = max _ _; omega) (by rw [q_gW_n h0 (by omega)])
      · refine g_iload_n rfl rfl ?_
        refine g_iconst rfl ⟨by decide, by decide⟩ ?_
        refine x_iadd (z := ro + 1) rfl (by omega) ⟨by omega, by omega⟩ ?_
        refine g_goto (tgt := 47) rfl (by decide) ?_
        refine g_istore_n rfl rfl rfl ?_
        refine g_iload_n rfl rfl ?_
        refine g_iload_n rfl rfl ?_
        refine g_iS (as := [tI lo, tI (ro + 1)]) mX12_greater_ok rfl rfl rfl rfl rfl rfl rfl ?_
        refine g_iload_n rfl rfl ?_
        refine g_iload_n rfl rfl ?_
        refine g_icmp_le (tgt := 9) rfl (by decide) (fun h6 => ?_) (fun h6 => ?_)
        · refine g_iload_n rfl rfl ?_
          refine x_ireturn rfl rfl ?_
          intro _
          refine g_istore_n rfl rfl rfl ?_
          refine x_iinc (z := k + 1) rfl rfl (by omega) ⟨by omega, by omega⟩ rfl rfl ?_
          refine g_goto (tgt := 15) rfl (by decide) ?_
          exact ih (by omega) _ _ (by omega) (by rw [q_gW_y h0 (by omega)]; show _ = max _ _; omega) (by rw [q_gW_y h0 (by omega), hro])
        · refine g_iload_n rfl rfl ?_
          refine g_goto (tgt := 10) rfl (by decide) ?_
          refine x_ireturn rfl rfl ?_
          intro _
          refine g_istore_n rfl rfl rfl ?_
          refine x_iinc (z := k + 1) rfl rfl (by omega) ⟨by omega, by omega⟩ rfl rfl ?_
          refine g_goto (tgt := 15) rfl (by decide) ?_
          exact ih (by omega) _ _ (by omega) (by rw [q_gW_y h0 (by omega)]; show _ = max _ _; omega) (by rw [q_gW_y h0 (by omega), hro])
/-- what the reference's marks change -/
def v_G2 (μ0 μ : tp_M) : Prop := (∀ c, c ≠ 201 → c ≠ 223 → c ≠ 224 → c ≠ 225 → c ≠ 226 → μ.1 c = μ0.1 c) ∧ (∀ j, j ≠ 62 → j ≠ 63 → μ.1 201 j = μ0.1 201 j)
theorem v_G2_i {μ μ1 μ2 : tp_M} (h : v_G μ μ1) (h2 : q_f1 226 μ1 μ2) : v_G2 μ μ2 := ⟨fun c z1 z2 z3 z4 z5 => (h2.1 c z5).trans (h.1 c z1 z2 z3 z4), fun j z1 z2 => (congrFun (h2.1 201 (by omega)) j).trans (h.2 j z1 z2)⟩
theorem m_T_G2 {n : Int} {A B Y : Int → Int} {E D U T : Int} {μ μ' : tp_M} (h : v_G2 μ μ') (hT : m_T n A B Y E D U T μ) : m_T n A B Y E D U T μ' := by
  unfold m_T
  rw [h.2 27 (by omega) (by omega), h.2 28 (by omega) (by omega), h.2 30 (by omega) (by omega), h.2 31 (by omega) (by omega), h.2 32 (by omega) (by omega), h.1 212 (by omega) (by omega) (by omega) (by omega) (by omega), h.1 213 (by omega) (by omega) (by omega) (by omega) (by omega), h.1 214 (by omega) (by omega) (by omega) (by omega) (by omega)]
  exact hT
theorem tp_Mc_G2 {k : Int} {f : Int → Int} {μ μ' : tp_M} (h : v_G2 μ μ') (hM : tp_Mc k f μ) : tp_Mc k f μ' := by
  unfold tp_Mc
  rw [h.2 24 (by omega) (by omega), h.2 26 (by omega) (by omega), h.1 207 (by omega) (by omega) (by omega) (by omega) (by omega)]
  exact hM
theorem v_Q_G2 {σ μ μ' : tp_M} (h : v_G2 μ μ') (hQ : v_Q σ μ) : v_Q σ μ' := by
  unfold v_Q
  rw [h.2 47 (by omega) (by omega), h.1 216 (by omega) (by omega) (by omega) (by omega) (by omega), h.1 220 (by omega) (by omega) (by omega) (by omega) (by omega), h.1 221 (by omega) (by omega) (by omega) (by omega) (by omega)]
  exact hQ
theorem v_G2_rf {μ : tp_M} : v_G2 μ μ := ⟨fun _ _ _ _ _ _ => rfl, fun _ _ _ => rfl⟩
theorem v_G2_tr {μ μ1 μ2 : tp_M} (h : v_G2 μ μ1) (h2 : v_G2 μ1 μ2) : v_G2 μ μ2 := ⟨fun c z1 z2 z3 z4 z5 => (h2.1 c z1 z2 z3 z4 z5).trans (h.1 c z1 z2 z3 z4 z5), fun j z1 z2 => (h2.2 j z1 z2).trans (h.2 j z1 z2)⟩
theorem v_G2_G {μ μ1 : tp_M} (h : v_G μ μ1) : v_G2 μ μ1 := ⟨fun c z1 z2 z3 z4 z5 => h.1 c z1 z2 z3 z4, h.2⟩
theorem v_G2_kp {μ μ1 μ2 : tp_M} (h : tp_kp μ μ1) (h2 : v_G2 μ1 μ2) : tp_kp μ μ2 := fun k hk => (h2.1 k (by unfold tp_tl at hk; omega) (by unfold tp_tl at hk; omega) (by unfold tp_tl at hk; omega) (by unfold tp_tl at hk; omega) (by unfold tp_tl at hk; omega)).trans (h k hk)
set_option maxHeartbeats 4000000 in
set_option maxRecDepth 100000 in
theorem s_gapM {G : tp_G} {μ : tp_M} (hG : tp_Gf G = true) {ck : Int} {f : Int → Int} {n : Int} {A B Y H : Int → Int} {E D U T : Int} (hw : tp_Cw f) (hW : r_W f n A B Y H) (hT : m_T n A B Y E D U T μ) (hMc : tp_Mc ck f μ) {σ : tp_M} (hQ : v_Q σ μ) (hp9 : 0 ≤ σ.1 0 9 ∧ σ.1 0 9 ≤ 209) (HH : ∀ p, 0 ≤ p → p < σ.1 0 9 → s_H f A B Y (f 2) n σ p) {J : Int → Int} (hJ : v_J (v_S (v_1 (-1)) σ (σ.1 0 9)) n J) : tp_k G mX12_gap [tR (some 201)] μ (fun r μ' => r = some (tI (q_gW f A J (q_s (v_S (v_1 (-1)) σ (σ.1 0 9)).2.2.2 (v_S (v_1 (-1)) σ (σ.1 0 9)).2.1) n).2) ∧ v_G2 μ μ') := by
  refine tp_ok_of mX12_gap_ok rfl (Nat.le_refl _) ?_
  have hw0 := hw.1
  have hn0 := hW.1
  refine g_aload_n rfl rfl ?_
  refine g_iconst rfl ⟨by decide, by decide⟩ ?_
  refine g_cV (as := [tI (-1)]) (s_but (a := -1) hG hQ hp9 hn0.2 HH) rfl rfl mX12_rebuildsBut_ok rfl rfl rfl (by decide) rfl rfl rfl ?_
  rintro _ w7 ⟨rfl, hM7, hs7, hG7⟩ _
  have hnp7 := (v_I_all (l := v_1 (-1)) HH hp9.1 (Int.le_refl _)).2.1
  have hn7 : w7.1 201 27 = n := by rw [hG7.2 27 (by omega) (by omega)]; exact hT.1
  refine g_aload_n rfl rfl ?_
  refine g_cV (as := []) (s_marks hG hJ (by omega) hn0.2 hM7 hn7 hs7) rfl rfl mX12_marks_ok rfl rfl rfl (by decide) rfl rfl rfl ?_
  rintro _ w8 ⟨rfl, hI8, hF8⟩ _
  have hG8 := v_G2_i hG7 hF8
  refine g_iconst rfl ⟨by decide, by decide⟩ ?_
  refine g_istore_n rfl rfl rfl ?_
  refine g_iconst rfl ⟨by decide, by decide⟩ ?_
  refine g_istore_n rfl rfl rfl ?_
  refine g_iconst rfl ⟨by decide, by decide⟩ ?_
  refine g_istore_n rfl rfl rfl ?_
  refine tp_conseq (fun r9 μ9 q9 => ?_) (l_gapM hG hw hW (m_T_G2 hG8 hT) (tp_Mc_G2 hG8 hMc) hI8 0 (by omega) 0 0 (by omega) rfl rfl)
  obtain ⟨rfl, e9⟩ := q9
  rw [e9]
  exact ⟨rfl, hG8⟩
