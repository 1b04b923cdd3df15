def t_cont (so : Int) (D : Int → Int) (μ : tp_M) : Prop :=
  if so = 0 then μ.1 42 4 = D 0 ∧ (∀ a, 0 ≤ a → a < D 0 → μ.1 43 a = D (9 + a) ∧ μ.1 44 a = D (49 + a) ∧ μ.1 45 a = D (89 + a)) ∧ (∀ i, 0 ≤ i → i < 8 → μ.1 46 i = D (1 + i))
  else if so = 1 then μ.1 47 2 = D 0 ∧ ∀ i, 0 ≤ i → i < D 0 → μ.1 48 i = D (1 + i)
  else if so = 2 then tp_Lo μ.1 47 D
  else μ.1 47 2 = D 0 ∧ ∀ i, 0 ≤ i → i < D 0 → μ.1 48 i = D (1 + 2 * i) ∧ μ.1 49 i = D (2 + 2 * i)
theorem t_cont_F {so : Int} {D : Int → Int} {μ μ' : tp_M} (h : ∀ c, c ≠ 41 → μ'.1 c = μ.1 c) (hc : t_cont so D μ) : t_cont so D μ' := by
  unfold t_cont tp_Lo at hc ⊢
  rw [h 42 (by omega), h 43 (by omega), h 44 (by omega), h 45 (by omega), h 46 (by omega), h 47 (by omega), h 48 (by omega), h 49 (by omega)]
  exact hc
def c_Rel (so : Int) (st : t_S) (μ : tp_M) : Prop := c_f st.1 st.2.1 μ ∧ μ.1 41 6 = st.2.2.1 ∧ (st.1 = 0 → μ.1 41 7 = st.2.2.2.1 ∧ t_cont so st.2.2.2.2.2 μ)
/-- what a line of the class leaves alone -/
def o_F (μ0 μ : tp_M) : Prop := (∀ c, (c < 41 ∨ 49 < c) → μ.1 c = μ0.1 c) ∧ (∀ j, (j < 2 ∨ 9 < j) → μ.1 41 j = μ0.1 41 j) ∧ μ.2 = μ0.2
theorem o_F_rf {μ : tp_M} : o_F μ μ := ⟨fun _ _ => rfl, fun _ _ => rfl, rfl⟩
theorem o_F_tr {μ μ1 μ2 : tp_M} (h : o_F μ μ1) (h2 : o_F μ1 μ2) : o_F μ μ2 := ⟨fun c z => (h2.1 c z).trans (h.1 c z), fun j z => (h2.2.1 j z).trans (h.2.1 j z), h2.2.2.trans h.2.2⟩
theorem o_F_r {μ μ1 : tp_M} (h : rF μ μ1) : o_F μ μ1 := ⟨fun c z => h.1 c (by omega), fun j z => h.2.1 j (by omega), h.2.2⟩
theorem o_F_pi {μ μ1 : tp_M} {c : Nat} {j v : Int} (hc : 42 ≤ c ∧ c ≤ 49) (h : o_F μ μ1) : o_F μ (tp_pi μ1 c j v) := ⟨fun k z => by rw [tp_pi_ne (by omega)]; exact h.1 k z, fun i z => by rw [tp_pi_ne (by omega)]; exact h.2.1 i z, h.2.2⟩
theorem o_F_pm {μ μ1 : tp_M} {v : Int} (h : o_F μ μ1) : o_F μ (tp_pi μ1 41 7 v) := ⟨fun k z => by rw [tp_pi_ne (by omega)]; exact h.1 k z, fun i z => by rw [tp_pi_ix (by omega)]; exact h.2.1 i z, h.2.2⟩
def o_P (so : Int) (res : (Int × Int) × t_S) (μ0 : tp_M) (r : Option tp_V) (μ' : tp_M) : Prop := r = some (tI res.1.1) ∧ (res.1.1 = 0 → μ'.1 41 4 = res.1.2) ∧ (res.1.1 = 1 → μ'.1 41 2 = res.1.2 ∧ c_Rel so res.2 μ') ∧ o_F μ0 μ'
/-! what is told, as it grows -/
theorem t_D_a {w rd v2 m : Int} {D : Int → Int} (hw : w < 7) (h : D 0 < 40) : t_D w rd v2 m D = v_u (v_u (v_u (v_u D (9 + D 0) w) (49 + D 0) rd) (89 + D 0) m) 0 (D 0 + 1) := by unfold t_D; rw [if_pos hw, if_pos h]
theorem t_D_r {w rd v2 m : Int} {D : Int → Int} (hw : 8 ≤ w ∧ w < 16) : t_D w rd v2 m D = v_u D (w - 7) rd := by unfold t_D; rw [if_neg (by omega), if_neg (by omega), if_pos hw.2]
theorem t_D_d {w rd v2 m : Int} {D : Int → Int} (hw : 16 ≤ w ∧ w < 19) (h : D 0 < 60) : t_D w rd v2 m D = v_u (v_u D 0 (D 0 + 1)) (D 0 + 1) rd := by unfold t_D; rw [if_neg (by omega), if_neg (by omega), if_neg (by omega), if_pos hw.2, if_pos h]
theorem t_D_l {rd v2 m : Int} {D : Int → Int} : t_D 19 rd v2 m D = v_u (v_u D 0 (D 0 + (if D (1 + rd) = 0 then 1 else 0))) (1 + rd) 1 := rfl
theorem t_D_s {rd v2 m : Int} {D : Int → Int} (h : D 0 < 8) : t_D 20 rd v2 m D = v_u (v_u (v_u D (1 + 2 * D 0) rd) (2 + 2 * D 0) v2) 0 (D 0 + 1) := by
  show (if D 0 < 8 then _ else D) = _
  rw [if_pos h]
theorem cont_a {w rd m : Int} {D : Int → Int} {μ : tp_M} (h : t_cont 0 D μ) (h0 : 0 ≤ D 0) (h1 : D 0 < 40) : t_cont 0 (v_u (v_u (v_u (v_u D (9 + D 0) w) (49 + D 0) rd) (89 + D 0) m) 0 (D 0 + 1)) (tp_pi (tp_pi (tp_pi (tp_pi μ 43 (D 0) w) 44 (D 0) rd) 45 (D 0) m) 42 4 (D 0 + 1)) := by
  obtain ⟨a1, a2, a3⟩ := h
  have hb : ∀ a, a < v_u (v_u (v_u (v_u D (9 + D 0) w) (49 + D 0) rd) (89 + D 0) m) 0 (D 0 + 1) 0 → a < D 0 + 1 := fun a z => by rw [v_u_at] at z; exact z
  refine ⟨by rw [v_u_at]; rfl, fun a b0 b1 => ⟨?_, ?_, ?_⟩, fun i i0 i1 => ?_⟩
  · have b1 := hb a b1
    rw [tp_pi_ne (by omega), tp_pi_ne (by omega), tp_pi_ne (by omega), v_u_ne (by omega), v_u_ne (by omega), v_u_ne (by omega)]
    by_cases q : a = D 0
    · rw [q, tp_pi_at, v_u_at]
    · rw [tp_pi_ix q, v_u_ne (by omega)]; exact (a2 a b0 (by omega)).1
  · have b1 := hb a b1
    rw [tp_pi_ne (by omega), tp_pi_ne (by omega), v_u_ne (by omega), v_u_ne (by omega)]
    by_cases q : a = D 0
    · rw [q, tp_pi_at, v_u_at]
    · rw [tp_pi_ix q, tp_pi_ne (by omega), v_u_ne (by omega), v_u_ne (by omega)]; exact (a2 a b0 (by omega)).2.1
  · have b1 := hb a b1
    rw [tp_pi_ne (by omega), v_u_ne (by omega)]
    by_cases q : a = D 0
    · rw [q, tp_pi_at, v_u_at]
    · rw [tp_pi_ix q, tp_pi_ne (by omega), tp_pi_ne (by omega), v_u_ne (by omega), v_u_ne (by omega), v_u_ne (by omega)]; exact (a2 a b0 (by omega)).2.2
  · rw [tp_pi_ne (by omega), tp_pi_ne (by omega), tp_pi_ne (by omega), tp_pi_ne (by omega), v_u_ne (by omega), v_u_ne (by omega), v_u_ne (by omega), v_u_ne (by omega)]
    exact a3 i i0 i1
theorem cont_r {r x : Int} {D : Int → Int} {μ : tp_M} (h : t_cont 0 D μ) (hr : 1 ≤ r ∧ r ≤ 8) : t_cont 0 (v_u D r x) (tp_pi μ 46 (r - 1) x) := by
  obtain ⟨a1, a2, a3⟩ := h
  refine ⟨by rw [v_u_ne (by omega), tp_pi_ne (by omega)]; exact a1, fun a b0 b1 => ?_, fun i i0 i1 => ?_⟩
  · rw [v_u_ne (by omega)] at b1
    rw [v_u_ne (by omega), v_u_ne (by omega), v_u_ne (by omega), tp_pi_ne (by omega), tp_pi_ne (by omega), tp_pi_ne (by omega)]
    exact a2 a b0 b1
  · by_cases q : i = r - 1
    · rw [q, show 1 + (r - 1) = r by omega, v_u_at, tp_pi_at]
    · rw [v_u_ne (by omega), tp_pi_ix q]; exact a3 i i0 i1
theorem cont_d {x y : Int} {D : Int → Int} {μ : tp_M} (h : t_cont 1 D μ) (h0 : 0 ≤ D 0) : t_cont 1 (v_u (v_u D 0 (D 0 + 1)) (D 0 + 1) x) (tp_pi (tp_pi (tp_pi μ 48 (D 0) x) 49 (D 0) y) 47 2 (D 0 + 1)) := by
  obtain ⟨a1, a2⟩ := h
  refine ⟨by rw [v_u_ne (by omega), v_u_at]; rfl, fun i i0 i1 => ?_⟩
  rw [v_u_ne (by omega), v_u_at] at i1
  rw [tp_pi_ne (by omega), tp_pi_ne (by omega)]
  by_cases q : i = D 0
  · rw [q, show 1 + D 0 = D 0 + 1 by omega, v_u_at, tp_pi_at]
  · rw [v_u_ne (by omega), v_u_ne (by omega), tp_pi_ix q]; exact a2 i i0 (by omega)
theorem cont_s {x y : Int} {D : Int → Int} {μ : tp_M} (h : t_cont 3 D μ) (h0 : 0 ≤ D 0) : t_cont 3 (v_u (v_u (v_u D (1 + 2 * D 0) x) (2 + 2 * D 0) y) 0 (D 0 + 1)) (tp_pi (tp_pi (tp_pi μ 48 (D 0) x) 49 (D 0) y) 47 2 (D 0 + 1)) := by
  obtain ⟨a1, a2⟩ := h
  have hb : ∀ a, a < v_u (v_u (v_u D (1 + 2 * D 0) x) (2 + 2 * D 0) y) 0 (D 0 + 1) 0 → a < D 0 + 1 := fun a z => by rw [v_u_at] at z; exact z
  refine ⟨by rw [v_u_at]; rfl, fun i i0 i1 => ⟨?_, ?_⟩⟩
  · have i1 := hb i i1
    rw [tp_pi_ne (by omega), tp_pi_ne (by omega), v_u_ne (by omega), v_u_ne (by omega)]
    by_cases q : i = D 0
    · rw [q, tp_pi_at, v_u_at]
    · rw [tp_pi_ix q, v_u_ne (by omega)]; exact (a2 i i0 (by omega)).1
  · have i1 := hb i i1
    rw [tp_pi_ne (by omega), v_u_ne (by omega)]
    by_cases q : i = D 0
    · rw [q, tp_pi_at, v_u_at]
    · rw [tp_pi_ix q, tp_pi_ne (by omega), v_u_ne (by omega), v_u_ne (by omega)]; exact (a2 i i0 (by omega)).2
/-- a packet more in a loss -/
theorem Lo_ins {A A' : Nat → Int → Int} {c : Nat} {D : Int → Int} {v k : Int} (h : tp_Lo A c D) (hv : 0 ≤ v ∧ v < 100) (hD : D (1 + v) = 0) (hn : D 0 < 12) (hk : 0 ≤ k ∧ k ≤ D 0) (hlo : ∀ j, 0 ≤ j → j < k → A (c + 1) j < v) (hhi : ∀ j, k ≤ j → j < D 0 → v < A (c + 1) j) (h2 : A' c 2 = D 0 + 1) (a1 : ∀ j, 0 ≤ j → j < k → A' (c + 1) j = A (c + 1) j) (a2 : A' (c + 1) k = v) (a3 : ∀ j, k < j → j ≤ D 0 → A' (c + 1) j = A (c + 1) (j - 1)) : tp_Lo A' c (v_u (v_u D 0 (D 0 + 1)) (1 + v) 1) := by
  obtain ⟨b1, b2, b3, b4, b5⟩ := h
  have e0 : v_u (v_u D 0 (D 0 + 1)) (1 + v) 1 0 = D 0 + 1 := by rw [v_u_ne (by omega), v_u_at]
  have em : ∀ x, 0 ≤ x → x ≠ v → v_u (v_u D 0 (D 0 + 1)) (1 + v) 1 (1 + x) = D (1 + x) := fun x x0 x1 => by rw [v_u_ne (by omega), v_u_ne (by omega)]
  have ev : v_u (v_u D 0 (D 0 + 1)) (1 + v) 1 (1 + v) = 1 := v_u_at
  refine ⟨by rw [e0]; exact h2, by rw [e0]; omega, fun i j i0 ij j1 => ?_, fun i i0 i1 => ?_, fun p p0 p1 => ?_⟩
  · rw [e0] at j1
    rcases (show (i < k ∧ j < k) ∨ (i < k ∧ j = k) ∨ (i < k ∧ k < j) ∨ (i = k ∧ k < j) ∨ (k < i ∧ k < j) by omega) with u | u | u | u | u
    · rw [a1 i i0 u.1, a1 j (by omega) u.2]; exact b3 i j i0 ij (by omega)
    · rw [a1 i i0 u.1, u.2, a2]; exact hlo i i0 u.1
    · rw [a1 i i0 u.1, a3 j u.2 (by omega)]
      have := hlo i i0 u.1
      have := hhi (j - 1) (by omega) (by omega)
      omega
    · rw [u.1, a2, a3 j u.2 (by omega)]; exact hhi (j - 1) (by omega) (by omega)
    · rw [a3 i u.1 (by omega), a3 j u.2 (by omega)]; exact b3 (i - 1) (j - 1) (by omega) (by omega) (by omega)
  · rw [e0] at i1
    rcases (show i < k ∨ i = k ∨ k < i by omega) with u | u | u
    · rw [a1 i i0 u]
      have q := b4 i i0 (by omega)
      have q2 := hlo i i0 u
      rw [em _ q.1 (by omega)]; exact q
    · rw [u, a2, ev]; exact ⟨hv.1, hv.2, rfl⟩
    · rw [a3 i u (by omega)]
      have q := b4 (i - 1) (by omega) (by omega)
      have q2 := hhi (i - 1) (by omega) (by omega)
      rw [em _ q.1 (by omega)]; exact q
  · by_cases u : p = v
    · rw [u, ev, e0]
      exact Or.inr ⟨rfl, k, hk.1, by omega, a2⟩
    · rw [em p p0 u, e0]
      rcases b5 p p0 p1 with q | ⟨q, i, i0, i1, i2⟩
      · exact Or.inl q
      · refine Or.inr ⟨q, ?_⟩
        rcases (show i < k ∨ k ≤ i by omega) with z | z
        · exact ⟨i, i0, by omega, by rw [a1 i i0 z]; exact i2⟩
        · exact ⟨i + 1, by omega, by omega, by rw [a3 (i + 1) (by omega) (by omega), show i + 1 - 1 = i by omega]; exact i2⟩
theorem Lo_same {A : Nat → Int → Int} {c : Nat} {D : Int → Int} {v : Int} (h : tp_Lo A c D) (hv : 0 ≤ v) (hD : D (1 + v) = 1) : tp_Lo A c (v_u (v_u D 0 (D 0 + 0)) (1 + v) 1) := by
  have e : v_u (v_u D 0 (D 0 + 0)) (1 + v) 1 = D := by
    funext x
    by_cases q : x = 1 + v
    · rw [q, v_u_at, hD]
    · rw [v_u_ne q]
      by_cases q2 : x = 0
      · rw [q2, v_u_at]; omega
      · rw [v_u_ne q2]
  rw [e]; exact h
set_option maxHeartbeats 4000000 in
set_option maxRecDepth 100000 in
theorem l_holdsR {G : tp_G} {μ : tp_M} (hG : tp_Gf G = true) {g : Int → Int} {v : Int} (hL : tp_Lo μ.1 47 g) (hv : 0 ≤ v) : ∀ k, k ≤ g 0 → 0 ≤ k → (∀ i, 0 ≤ i → i < k → μ.1 48 i ≠ v) → tp_g G mX6_holds 2 [some (tR (some 47)), some (tI v), some (tI k)] [] μ (fun r μ' => r = some (tI (v_2 g v)) ∧ μ' = μ) := by
  refine tp_ind _ ?_
  intro k hkN ih  h0 hb
  have hL0 := hL.1
  have hL1 := hL.2.1
  have hLv : ∀ i, 0 ≤ i → i < g 0 → 0 ≤ μ.1 48 i ∧ μ.1 48 i < 100 ∧ g (1 + μ.1 48 i) = 1 := hL.2.2.2.1
  have hLm : ∀ p, 0 ≤ p → p < 100 → g (1 + p) = 0 ∨ (g (1 + p) = 1 ∧ ∃ i, 0 ≤ i ∧ i < g 0 ∧ μ.1 48 i = p) := hL.2.2.2.2
  refine g_iload_n rfl rfl ?_
  refine g_aload_n rfl rfl ?_
  refine x_geti (v := (μ.1 47 2)) rfl rfl (by decide) (Or.inl rfl) rfl ?_
  refine g_icmp_ge (tgt := 37) rfl (by decide) (fun h1 => ?_) (fun h1 => ?_)
  · refine g_iconst rfl ⟨by decide, by decide⟩ ?_
    refine x_zreturn rfl rfl (Or.inl rfl) ?_
    have hz0 : v_2 g v = 0 := by
      refine if_neg (fun z => ?_)
      rcases hLm v hv z.1 with t | ⟨t, i, i0, i1, i2⟩
      · omega
      · exact hb i i0 (by omega) i2
    exact ⟨by rw [hz0], rfl⟩
  · refine g_iload_n rfl rfl ?_
    refine g_aload_n rfl rfl ?_
    refine x_getF (r := 48) hG rfl rfl (by decide) (Or.inr ⟨_, rfl⟩) rfl ?_
    refine g_alen (t0 := 0) rfl rfl rfl (by decide) ⟨by decide, by decide⟩ ?_
    refine g_icmp_ge (tgt := 31) rfl (by decide) (fun hx => absurd hx (by omega)) (fun _ => ?_)
    refine g_aload_n rfl rfl ?_
    refine x_getF (r := 48) hG rfl rfl (by decide) (Or.inr ⟨_, rfl⟩) rfl ?_
    refine g_iload_n rfl rfl ?_
    refine x_iald (v := (μ.1 48 k)) rfl rfl (by decide) (by omega) (by omega) rfl ?_
    refine g_iload_n rfl rfl ?_
    refine g_icmp_ne (tgt := 31) rfl (by decide) (fun h2 => ?_) (fun h2 => ?_)
    · refine x_iinc (z := k + 1) rfl rfl (by omega) ⟨by omega, by omega⟩ rfl rfl ?_
      refine g_goto (tgt := 2) rfl (by decide) ?_
      exact ih (by omega) (by omega) (fun i i0 i1 => by rcases (show i < k ∨ i = k by omega) with u | u; (exact hb i i0 u); (rw [u]; omega))
    · refine g_iconst rfl ⟨by decide, by decide⟩ ?_
      refine x_zreturn rfl rfl (Or.inr rfl) ?_
      have q1 := hLv k h0 (by omega)
      exact ⟨by rw [show v_2 g v = 1 from if_pos ⟨by omega, by rw [show v = μ.1 48 k by omega]; exact q1.2.2⟩], rfl⟩
set_option maxHeartbeats 4000000 in
set_option maxRecDepth 100000 in
theorem s_holdsR {G : tp_G} {μ : tp_M} (hG : tp_Gf G = true) {g : Int → Int} {v : Int} (hL : tp_Lo μ.1 47 g) (hv : 0 ≤ v) : tp_k G mX6_holds [tR (some 47), tI v] μ (fun r μ' => r = some (tI (v_2 g v)) ∧ μ' = μ) := by
  refine tp_ok_of mX6_holds_ok rfl (Nat.le_refl _) ?_
  refine g_iconst rfl ⟨by decide, by decide⟩ ?_
  refine g_istore_n rfl rfl rfl ?_
  exact l_holdsR hG hL hv 0 hL.2.1.1 (by omega) (fun i i0 i1 => by omega)
set_option maxHeartbeats 4000000 in
set_option maxRecDepth 100000 in
theorem l_ris {G : tp_G} (hG : tp_Gf G = true) {μ0 : tp_M} {D : Int → Int} {v : Int} (hL : tp_Lo μ0.1 47 D) (hv : 0 ≤ v ∧ v < 100) (hD : D (1 + v) = 0) (hn : D 0 < 12) (hnv : ∀ j, 0 ≤ j → j < D 0 → μ0.1 48 j ≠ v) : ∀ k : Nat, ∀ μ : tp_M, (k : Int) ≤ D 0 → (∀ j, 0 ≤ j → j < (k : Int) → μ.1 48 j = μ0.1 48 j) → (∀ j, (k : Int) < j → j ≤ D 0 → μ.1 48 j = μ0.1 48 (j - 1)) → (∀ j, (k : Int) ≤ j → j < D 0 → v < μ0.1 48 j) → q_f1 48 μ0 μ → tp_g G mX6_addRising 33 [some (tR (some 47)), some (tI v), some (tI (k : Int))] [] μ (fun r μ' => r = none ∧ tp_Lo μ'.1 47 (v_u (v_u D 0 (D 0 + (if D (1 + v) = 0 then 1 else 0))) (1 + v) 1) ∧ (∀ c, c ≠ 47 → c ≠ 48 → μ'.1 c = μ0.1 c) ∧ μ'.2 = μ0.2) := by
  intro k
  induction k with
  | zero =>
    intro μ hkn hlow hup hhi hF
    have h472 : μ.1 47 2 = D 0 := by rw [hF.1 47 (by omega)]; exact hL.1
    have hD0 := hL.2.1
    show tp_g G mX6_addRising 33 [some (tR (some 47)), some (tI v), some (tI 0)] [] μ _
    have hkn : (0 : Int) ≤ D 0 := hD0.1
    have hhi : ∀ j, (0 : Int) ≤ j → j < D 0 → v < μ0.1 48 j := hhi
    have hup : ∀ j, (0 : Int) < j → j ≤ D 0 → μ.1 48 j = μ0.1 48 (j - 1) := hup
    have hlow : ∀ j, 0 ≤ j → j < (0 : Int) → μ.1 48 j = μ0.1 48 j := hlow
    refine g_iload_n rfl rfl ?_
    refine g_if_le (tgt := 69) rfl (by decide) (fun _ => ?_) (fun hx => absurd hx (by omega))
    refine g_aload_n rfl rfl ?_
    refine x_getF (r := 48) hG rfl rfl (by decide) (Or.inr ⟨_, rfl⟩) rfl ?_
    refine g_iload_n rfl rfl ?_
    refine g_iload_n rfl rfl ?_
    refine g_iast rfl rfl (by decide) (by decide) (by decide) ?_
    refine g_aload_n rfl rfl ?_
    refine g_dupr rfl ?_
    refine x_geti (v := (D 0)) rfl rfl (by decide) (Or.inl rfl) h472 ?_
    refine g_iconst rfl ⟨by decide, by decide⟩ ?_
    refine x_iadd (z := (D 0) + 1) rfl (by omega) ⟨by omega, by omega⟩ ?_
    refine g_puti rfl rfl (by decide) rfl rfl ?_
    refine x_return rfl rfl ?_
    refine ⟨rfl, ?_, fun c9 z1 z2 => by rw [tp_pi_ne (by omega), tp_pi_ne (by omega)]; exact hF.1 c9 z2, hF.2⟩
    rw [if_pos hD]
    refine Lo_ins (k := (0 : Int)) hL hv hD hn ⟨by omega, hkn⟩ (fun j j0 j1 => ?_) hhi rfl (fun j j0 j1 => ?_) ?_ (fun j j0 j1 => ?_)
    · have q := hlow ((0 : Int) - 1) (by omega) (by omega)
      have nv := hnv ((0 : Int) - 1) (by omega) (by omega)
      rcases (show j = (0 : Int) - 1 ∨ j < (0 : Int) - 1 by omega) with u | u
      · show μ0.1 48 j < v
        rw [u]; omega
      · have := hL.2.2.1 j ((0 : Int) - 1) j0 u (by omega)
        show μ0.1 48 j < v
        have h9 : μ0.1 48 j < μ0.1 48 ((0 : Int) - 1) := this
        omega
    · show ((tp_pi (tp_pi μ 48 0 v) 47 2 ((D 0) + 1))).1 48 j = μ0.1 48 j
      rw [tp_pi_ne (by omega), tp_pi_ix (by omega)]; exact hlow j j0 j1
    · show ((tp_pi (tp_pi μ 48 0 v) 47 2 ((D 0) + 1))).1 48 (0 : Int) = v
      rw [tp_pi_ne (by omega)]; exact tp_pi_at
    · show ((tp_pi (tp_pi μ 48 0 v) 47 2 ((D 0) + 1))).1 48 j = μ0.1 48 (j - 1)
      rw [tp_pi_ne (by omega), tp_pi_ix (by omega)]; exact hup j j0 j1
  | succ k' ih =>
    intro μ hkn hlow hup hhi hF
    have h472 : μ.1 47 2 = D 0 := by rw [hF.1 47 (by omega)]; exact hL.1
    have hD0 := hL.2.1
    obtain ⟨kk, hkk⟩ : ∃ kk, kk = ((k' + 1 : Nat) : Int) := ⟨_, rfl⟩
    rw [← hkk] at hkn hlow hup hhi ⊢
    have hlow9 := hlow (kk - 1) (by omega) (by omega)
    refine g_iload_n rfl rfl ?_
    refine g_if_le (tgt := 69) rfl (by decide) (fun hx => absurd hx (by omega)) (fun _ => ?_)
    refine g_aload_n rfl rfl ?_
    refine x_getF (r := 48) hG rfl rfl (by decide) (Or.inr ⟨_, rfl⟩) rfl ?_
    refine g_iload_n rfl rfl ?_
    refine g_iconst rfl ⟨by decide, by decide⟩ ?_
    refine x_isub (z := kk - 1) rfl (by omega) ⟨by omega, by omega⟩ ?_
    refine x_iald (v := (μ.1 48 (kk - 1))) rfl rfl (by decide) (by omega) (by omega) rfl ?_
    refine g_iload_n rfl rfl ?_
    refine g_icmp_le (tgt := 69) rfl (by decide) (fun h1 => ?_) (fun h1 => ?_)
    · refine g_aload_n rfl rfl ?_
      refine x_getF (r := 48) hG rfl rfl (by decide) (Or.inr ⟨_, rfl⟩) rfl ?_
      refine g_iload_n rfl rfl ?_
      refine g_iload_n rfl rfl ?_
      refine g_iast rfl rfl (by decide) (by omega) (by omega) ?_
      refine g_aload_n rfl rfl ?_
      refine g_dupr rfl ?_
      refine x_geti (v := (D 0)) rfl rfl (by decide) (Or.inl rfl) h472 ?_
      refine g_iconst rfl ⟨by decide, by decide⟩ ?_
      refine x_iadd (z := (D 0) + 1) rfl (by omega) ⟨by omega, by omega⟩ ?_
      refine g_puti rfl rfl (by decide) rfl rfl ?_
      refine x_return rfl rfl ?_
      refine ⟨rfl, ?_, fun c9 z1 z2 => by rw [tp_pi_ne (by omega), tp_pi_ne (by omega)]; exact hF.1 c9 z2, hF.2⟩
      rw [if_pos hD]
      refine Lo_ins (k := kk) hL hv hD hn ⟨by omega, hkn⟩ (fun j j0 j1 => ?_) hhi rfl (fun j j0 j1 => ?_) ?_ (fun j j0 j1 => ?_)
      · have q := hlow (kk - 1) (by omega) (by omega)
        have nv := hnv (kk - 1) (by omega) (by omega)
        rcases (show j = kk - 1 ∨ j < kk - 1 by omega) with u | u
        · show μ0.1 48 j < v
          rw [u]; omega
        · have := hL.2.2.1 j (kk - 1) j0 u (by omega)
          show μ0.1 48 j < v
          have h9 : μ0.1 48 j < μ0.1 48 (kk - 1) := this
          omega
      · show ((tp_pi (tp_pi μ 48 kk v) 47 2 ((D 0) + 1))).1 48 j = μ0.1 48 j
        rw [tp_pi_ne (by omega), tp_pi_ix (by omega)]; exact hlow j j0 j1
      · show ((tp_pi (tp_pi μ 48 kk v) 47 2 ((D 0) + 1))).1 48 kk = v
        rw [tp_pi_ne (by omega)]; exact tp_pi_at
      · show ((tp_pi (tp_pi μ 48 kk v) 47 2 ((D 0) + 1))).1 48 j = μ0.1 48 (j - 1)
        rw [tp_pi_ne (by omega), tp_pi_ix (by omega)]; exact hup j j0 j1
    · refine g_aload_n rfl rfl ?_
      refine x_getF (r := 48) hG rfl rfl (by decide) (Or.inr ⟨_, rfl⟩) rfl ?_
      refine g_iload_n rfl rfl ?_
      refine g_aload_n rfl rfl ?_
      refine x_getF (r := 48) hG rfl rfl (by decide) (Or.inr ⟨_, rfl⟩) rfl ?_
      refine g_iload_n rfl rfl ?_
      refine g_iconst rfl ⟨by decide, by decide⟩ ?_
      refine x_isub (z := kk - 1) rfl (by omega) ⟨by omega, by omega⟩ ?_
      refine x_iald (v := (μ.1 48 (kk - 1))) rfl rfl (by decide) (by omega) (by omega) rfl ?_
      refine g_iast rfl rfl (by decide) (by omega) (by omega) ?_
      refine x_iinc (z := kk - 1) rfl rfl (by omega) ⟨by omega, by omega⟩ rfl rfl ?_
      refine g_goto (tgt := 33) rfl (by decide) ?_
      have hkk2 : kk - 1 = (k' : Int) := by omega
      rw [hkk2]
      exact ih _ (by omega) (fun j j0 j1 => by rw [tp_pi_ix (by omega)]; exact hlow j j0 (by omega)) (fun j j0 j1 => by
        by_cases u : j = kk
        · rw [u, tp_pi_at]; exact (congrArg (μ.1 48) (by omega)).trans (hlow (kk - 1) (by omega) (by omega))
        · rw [tp_pi_ix u]; exact hup j (by omega) j1) (fun j j0 j1 => by
        rcases (show j = kk - 1 ∨ kk ≤ j by omega) with u | u
        · have q := hlow (kk - 1) (by omega) (by omega)
          rw [u]; omega
        · exact hhi j u j1) (q_f1_pi hF)
set_option maxHeartbeats 4000000 in
set_option maxRecDepth 100000 in
theorem s_ris {G : tp_G} {μ : tp_M} (hG : tp_Gf G = true) {D : Int → Int} {v : Int} (hL : tp_Lo μ.1 47 D) (hv : 0 ≤ v ∧ v < 100) (hn : D 0 < 12) : tp_k G mX6_addRising [tR (some 47), tI v] μ (fun r μ' => r = none ∧ tp_Lo μ'.1 47 (v_u (v_u D 0 (D 0 + (if D (1 + v) = 0 then 1 else 0))) (1 + v) 1) ∧ (∀ c, c ≠ 47 → c ≠ 48 → μ'.1 c = μ.1 c) ∧ μ'.2 = μ.2) := by
  refine tp_ok_of mX6_addRising_ok rfl (Nat.le_refl _) ?_
  have h472 : μ.1 47 2 = D 0 := hL.1
  have hD0 := hL.2.1
  refine g_aload_n rfl rfl ?_
  refine x_geti (v := (D 0)) rfl rfl (by decide) (Or.inl rfl) h472 ?_
  refine g_if_lt (tgt := 27) rfl (by decide) (fun hx => absurd hx (by omega)) (fun _ => ?_)
  refine g_aload_n rfl rfl ?_
  refine x_geti (v := (D 0)) rfl rfl (by decide) (Or.inl rfl) h472 ?_
  refine g_aload_n rfl rfl ?_
  refine x_getF (r := 48) hG rfl rfl (by decide) (Or.inr ⟨_, rfl⟩) rfl ?_
  refine g_alen (t0 := 0) rfl rfl rfl (by decide) ⟨by decide, by decide⟩ ?_
  refine g_icmp_ge (tgt := 27) rfl (by decide) (fun hx => absurd hx (by omega)) (fun _ => ?_)
  refine g_aload_n rfl rfl ?_
  refine g_iload_n rfl rfl ?_
  refine g_cV (as := [tI v]) (s_holdsR hG hL hv.1) rfl rfl mX6_holds_ok rfl rfl rfl (by decide) rfl rfl rfl ?_
  rintro _ w9 ⟨rfl, hw9⟩ _
  have hw9 := hw9.symm
  subst hw9
  have hvb := v_2_b D v
  refine g_if_eq (tgt := 28) rfl (by decide) (fun h1 => ?_) (fun h1 => ?_)
  · refine g_aload_n rfl rfl ?_
    refine x_geti (v := (D 0)) rfl rfl (by decide) (Or.inl rfl) h472 ?_
    refine g_istore_n rfl rfl rfl ?_
    have hD1 : D (1 + v) = 0 := by
      rcases hL.2.2.2.2 v hv.1 hv.2 with q | q
      · exact q
      · have u : v_2 D v = 1 := if_pos ⟨hv.2, q.1⟩
        omega
    have hnv : ∀ j, 0 ≤ j → j < D 0 → μ.1 48 j ≠ v := fun j j0 j1 z => by
      have q := (hL.2.2.2.1 j j0 j1).2.2
      have q2 : D (1 + μ.1 48 j) = 1 := q
      rw [z] at q2
      omega
    have e := l_ris hG hL hv hD1 hn hnv (D 0).toNat μ (by omega) (fun j j0 j1 => rfl) (fun j j0 j1 => by omega) (fun j j0 j1 => by omega) q_f1_rf
    rw [show (((D 0).toNat : Nat) : Int) = D 0 by omega] at e
    exact e
  · refine x_return rfl rfl ?_
    have hD1 : D (1 + v) = 1 := by
      have u : v_2 D v = 1 := by omega
      unfold v_2 at u
      split at u
      · rename_i q; exact q.2
      · omega
    exact ⟨rfl, by rw [if_neg (by omega)]; exact Lo_same hL hv.1 hD1, fun c9 z1 z2 => rfl, rfl⟩
