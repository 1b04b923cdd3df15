/-- the whole of a state: what is copied of A into A' -/
def q_kS (A A' : Nat → Int → Int) : Prop := (A' 0 1 = A 0 1 ∧ A' 0 2 = A 0 2 ∧ A' 0 3 = A 0 3) ∧ (∀ j, 0 ≤ j → j < 600 → A' 1 j = A 1 j) ∧ (∀ t, 0 ≤ t → t < 4 → A' 4 t = A 4 t) ∧ (∀ k : Nat, k < 2 → q_kc (5 + 5 * k) (5 + 5 * k) A A') ∧ (∀ k : Nat, k < 2 → q_kr (21 + 3 * k) (21 + 3 * k) 60 A A') ∧ (∀ k : Nat, k < 2 → q_kr (27 + 3 * k) (27 + 3 * k) 12 A A') ∧ (∀ k : Nat, k < 2 → q_kr (33 + 3 * k) (33 + 3 * k) 8 A A')
theorem tp_St_cp {A A' B : Nat → Int → Int} {q : Int} (h : tp_St A B q) (k : q_kS A A') : tp_St A' B q := by
  obtain ⟨h1, h2, h3, h4, h5, h6, h7, h8⟩ := h
  obtain ⟨k1, k2, k3, k5, k6, k7, k8⟩ := k
  refine ⟨by rw [k1.1]; exact h1, fun j j0 j1 => ?_, by rw [k1.2.1, k1.2.2]; exact h3, fun t t0 t1 => by rw [k3 t t0 t1]; exact h4 t t0 t1, fun k hk hk1 => ?_, fun k hk hk1 => ?_, fun k hk hk1 => ?_, fun k hk hk1 => ?_⟩
  · rw [k1.1] at j1
    rw [k2 j j0 (by omega)]
    exact h2 j j0 j1
  · rw [k3 0 (by omega) (by omega)] at hk1
    have e := h5 k hk hk1
    have c := k5 k hk
    have hb := e.2.2.2.1
    refine ⟨by rw [c.1]; exact e.1, fun a a0 a1 => ?_, fun i i0 i1 => by rw [c.2.2 i i0 i1]; exact e.2.2.1 i i0 i1, e.2.2.2⟩
    rw [(c.2.1 a a0 (by omega)).1, (c.2.1 a a0 (by omega)).2.1, (c.2.1 a a0 (by omega)).2.2]
    exact e.2.1 a a0 a1
  · rw [k3 1 (by omega) (by omega)] at hk1
    have e := h6 k hk hk1
    have hb := e.2.2.1
    have c := k6 k hk (by rw [e.1]; exact hb.1) (by rw [e.1]; exact hb.2)
    refine ⟨by rw [c.1]; exact e.1, fun i i0 i1 => ?_, e.2.2⟩
    rw [(c.2 i i0 (by rw [e.1]; exact i1)).1]
    exact e.2.1 i i0 i1
  · rw [k3 2 (by omega) (by omega)] at hk1
    have e := h7 k hk hk1
    have hb := e.2.1
    have c := k7 k hk (by rw [e.1]; exact hb.1) (by rw [e.1]; exact hb.2)
    have ev : ∀ i, 0 ≤ i → i < B 7 (202 * q + 101 * k + 0) → A' (27 + 3 * k + 1) i = A (27 + 3 * k + 1) i := fun i i0 i1 => (c.2 i i0 (by rw [e.1]; exact i1)).1
    refine ⟨by rw [c.1]; exact e.1, hb, fun i j i0 ij j1 => ?_, fun i i0 i1 => ?_, fun p p0 p1 => ?_⟩
    · rw [ev i i0 (Int.lt_trans ij j1), ev j (by omega) j1]
      exact e.2.2.1 i j i0 ij j1
    · rw [ev i i0 i1]
      exact e.2.2.2.1 i i0 i1
    · rcases e.2.2.2.2 p p0 p1 with t | ⟨t, i, i0, i1, i2⟩
      · exact Or.inl t
      · exact Or.inr ⟨t, i, i0, i1, by rw [ev i i0 i1]; exact i2⟩
  · rw [k3 3 (by omega) (by omega)] at hk1
    have e := h8 k hk hk1
    have hb := e.2.1
    have c := k8 k hk (by rw [e.1]; exact hb.1) (by rw [e.1]; exact hb.2)
    refine ⟨by rw [c.1]; exact e.1, hb, fun i i0 i1 => ?_⟩
    rw [(c.2 i i0 (by rw [e.1]; exact i1)).1, (c.2 i i0 (by rw [e.1]; exact i1)).2]
    exact e.2.2 i i0 i1
/-- how wide the reference's rows are -/
def q_wd (i : Nat) : Int := if i = 0 then 600 else if i = 4 then 4 else if i = 5 then 258 else if i = 6 then 122 else if i = 7 then 202 else if i = 8 then 34 else 1
def q_mv (B B' : Nat → Int → Int) (q q' : Int) : Prop := ∀ i : Nat, i < 9 → ∀ j, 0 ≤ j → j < q_wd i → B' i (q_wd i * q' + j) = B i (q_wd i * q + j)
theorem tp_Co_f {A : Nat → Int → Int} {c : Nat} {f f' : Int → Int} (h : ∀ i, 0 ≤ i → i < 129 → f' i = f i) (q : tp_Co A c f) : tp_Co A c f' := by
  obtain ⟨h1, h2, h3, h4, h5, h6⟩ := q
  have e0 := h 0 (by omega) (by omega)
  refine ⟨by rw [e0]; exact h1, fun a a0 a1 => ?_, fun i i0 i1 => by rw [h (1 + i) (by omega) (by omega)]; exact h3 i i0 i1, ⟨by rw [e0]; exact h4, fun a a0 a1 => ?_, ?_⟩⟩
  · rw [e0] at a1
    rw [h (9 + a) (by omega) (by omega), h (49 + a) (by omega) (by omega), h (89 + a) (by omega) (by omega)]
    exact h2 a a0 a1
  · rw [e0] at a1
    rw [h (9 + a) (by omega) (by omega), h (49 + a) (by omega) (by omega), h (89 + a) (by omega) (by omega), e0]
    exact h5 a a0 a1
  · rw [h 1 (by omega) (by omega), h 2 (by omega) (by omega), h 3 (by omega) (by omega), h 4 (by omega) (by omega), h 5 (by omega) (by omega), h 6 (by omega) (by omega), h 7 (by omega) (by omega), h 8 (by omega) (by omega)]
    exact h6
theorem tp_Dr_f {A : Nat → Int → Int} {c : Nat} {f f' : Int → Int} (h : ∀ i, 0 ≤ i → i < 61 → f' i = f i) (q : tp_Dr A c f) : tp_Dr A c f' := by
  obtain ⟨h1, h2, h3, h4⟩ := q
  have e0 := h 0 (by omega) (by omega)
  refine ⟨by rw [e0]; exact h1, fun i i0 i1 => ?_, by rw [e0]; exact h3, fun i i0 i1 => ?_⟩
  · rw [e0] at i1
    rw [h (1 + i) (by omega) (by omega)]
    exact h2 i i0 i1
  · rw [e0] at i1
    rw [h (1 + i) (by omega) (by omega)]
    exact h4 i i0 i1
theorem tp_Lo_f {A : Nat → Int → Int} {c : Nat} {f f' : Int → Int} (h : ∀ i, 0 ≤ i → i < 101 → f' i = f i) (q : tp_Lo A c f) : tp_Lo A c f' := by
  obtain ⟨h1, h2, h3, h4, h5⟩ := q
  have e0 := h 0 (by omega) (by omega)
  refine ⟨by rw [e0]; exact h1, by rw [e0]; exact h2, fun i j i0 ij j1 => h3 i j i0 ij (by rw [e0] at j1; exact j1), fun i i0 i1 => ?_, fun p p0 p1 => ?_⟩
  · rw [e0] at i1
    have z := h4 i i0 i1
    rw [h (1 + A (c + 1) i) (by omega) (by omega)]
    exact z
  · rw [h (1 + p) (by omega) (by omega), e0]
    exact h5 p p0 p1
theorem tp_Lg_f {A : Nat → Int → Int} {c : Nat} {f f' : Int → Int} (h : ∀ i, 0 ≤ i → i < 17 → f' i = f i) (q : tp_Lg A c f) : tp_Lg A c f' := by
  obtain ⟨h1, h2, h3⟩ := q
  have e0 := h 0 (by omega) (by omega)
  refine ⟨by rw [e0]; exact h1, by rw [e0]; exact h2, fun i i0 i1 => ?_⟩
  rw [e0] at i1
  rw [h (1 + 2 * i) (by omega) (by omega), h (2 + 2 * i) (by omega) (by omega)]
  exact h3 i i0 i1
theorem tp_St_mv {A B B' : Nat → Int → Int} {q q' : Int} (h : tp_St A B q) (m : q_mv B B' q q') : tp_St A B' q' := by
  obtain ⟨h1, h2, h3, h4, h5, h6, h7, h8⟩ := h
  have m0 : ∀ j, 0 ≤ j → j < 600 → B' 0 (600 * q' + j) = B 0 (600 * q + j) := m 0 (by omega)
  have m1 : B' 1 q' = B 1 q := by have z : B' 1 (1 * q' + 0) = B 1 (1 * q + 0) := m 1 (by omega) 0 (by omega) (by decide); rw [show (1 : Int) * q' + 0 = q' by omega, show (1 : Int) * q + 0 = q by omega] at z; exact z
  have m2 : B' 2 q' = B 2 q := by have z : B' 2 (1 * q' + 0) = B 2 (1 * q + 0) := m 2 (by omega) 0 (by omega) (by decide); rw [show (1 : Int) * q' + 0 = q' by omega, show (1 : Int) * q + 0 = q by omega] at z; exact z
  have m3 : B' 3 q' = B 3 q := by have z : B' 3 (1 * q' + 0) = B 3 (1 * q + 0) := m 3 (by omega) 0 (by omega) (by decide); rw [show (1 : Int) * q' + 0 = q' by omega, show (1 : Int) * q + 0 = q by omega] at z; exact z
  have m4 : ∀ j, 0 ≤ j → j < 4 → B' 4 (4 * q' + j) = B 4 (4 * q + j) := m 4 (by omega)
  have m5 : ∀ j, 0 ≤ j → j < 258 → B' 5 (258 * q' + j) = B 5 (258 * q + j) := m 5 (by omega)
  have m6 : ∀ j, 0 ≤ j → j < 122 → B' 6 (122 * q' + j) = B 6 (122 * q + j) := m 6 (by omega)
  have m7 : ∀ j, 0 ≤ j → j < 202 → B' 7 (202 * q' + j) = B 7 (202 * q + j) := m 7 (by omega)
  have m8 : ∀ j, 0 ≤ j → j < 34 → B' 8 (34 * q' + j) = B 8 (34 * q + j) := m 8 (by omega)
  refine ⟨by rw [m1]; exact h1, fun j j0 j1 => by rw [m0 j j0 (by omega)]; exact h2 j j0 j1, by rw [m2, m3]; exact h3, fun t t0 t1 => by rw [m4 t t0 t1]; exact h4 t t0 t1, fun k hk hk1 => tp_Co_f (fun i i0 i1 => ?_) (h5 k hk hk1), fun k hk hk1 => tp_Dr_f (fun i i0 i1 => ?_) (h6 k hk hk1), fun k hk hk1 => tp_Lo_f (fun i i0 i1 => ?_) (h7 k hk hk1), fun k hk hk1 => tp_Lg_f (fun i i0 i1 => ?_) (h8 k hk hk1)⟩
  · show B' 5 (258 * q' + 129 * k + i) = B 5 (258 * q + 129 * k + i)
    rw [Int.add_assoc, Int.add_assoc]
    exact m5 _ (by omega) (by omega)
  · show B' 6 (122 * q' + 61 * k + i) = B 6 (122 * q + 61 * k + i)
    rw [Int.add_assoc, Int.add_assoc]
    exact m6 _ (by omega) (by omega)
  · show B' 7 (202 * q' + 101 * k + i) = B 7 (202 * q + 101 * k + i)
    rw [Int.add_assoc, Int.add_assoc]
    exact m7 _ (by omega) (by omega)
  · show B' 8 (34 * q' + 17 * k + i) = B 8 (34 * q + 17 * k + i)
    rw [Int.add_assoc, Int.add_assoc]
    exact m8 _ (by omega) (by omega)
set_option maxHeartbeats 4000000 in
set_option maxRecDepth 100000 in
theorem l_cpR203 {G : tp_G} (hG : tp_Gf G = true) {a b : Int} {μ0 : tp_M} (ha : 0 ≤ a ∧ a ≤ 3) (hb : 0 ≤ b ∧ b ≤ 3) (hab : a ≠ b) : ∀ k, k ≤ 1 → ∀ (μ : tp_M), 0 ≤ k → (∀ j, 0 ≤ j → j < k → μ.1 203 (1 * b + j) = μ0.1 203 (1 * a + j)) → (∀ j, (j < 1 * b ∨ 1 * b + 1 ≤ j) → μ.1 203 j = μ0.1 203 j) → (∀ c, c ≠ 203 → μ.1 c = μ0.1 c) → tp_g G mX12_copyRow 3 [some (tR (some 203)), some (tI 1), some (tI a), some (tI b), some (tI k)] [] μ (fun r μ' => r = none ∧ (∀ j, 0 ≤ j → j < 1 → μ'.1 203 (1 * b + j) = μ0.1 203 (1 * a + j)) ∧ (∀ j, (j < 1 * b ∨ 1 * b + 1 ≤ j) → μ'.1 203 j = μ0.1 203 j) ∧ ∀ c, c ≠ 203 → μ'.1 c = μ0.1 c) := by
  refine tp_ind _ ?_
  intro k hkN ih μ h0 hz hO hF
  refine g_iload rfl rfl ?_
  refine g_iload_n rfl rfl ?_
  refine g_icmp_ge (tgt := 31) rfl (by decide) (fun h1 => ?_) (fun h1 => ?_)
  · refine x_return rfl rfl ?_
    exact ⟨rfl, fun j j0 j1 => hz j j0 (by omega), hO, hF⟩
  · refine g_aload_n rfl rfl ?_
    refine g_iload_n rfl rfl ?_
    refine g_iload_n rfl rfl ?_
    refine x_imul (z := b) rfl (by omega) ⟨by omega, by omega⟩ ?_
    refine g_iload rfl rfl ?_
    refine x_iadd (z := b + k) rfl (by omega) ⟨by omega, by omega⟩ ?_
    refine g_aload_n rfl rfl ?_
    refine g_iload_n rfl rfl ?_
    refine g_iload_n rfl rfl ?_
    refine x_imul (z := a) rfl (by omega) ⟨by omega, by omega⟩ ?_
    refine g_iload rfl rfl ?_
    refine x_iadd (z := a + k) rfl (by omega) ⟨by omega, by omega⟩ ?_
    refine x_iald (v := (μ.1 203 (a + k))) rfl rfl (by decide) (by omega) (by omega) rfl ?_
    refine g_iast rfl rfl (by decide) (by omega) (by omega) ?_
    refine x_iinc (z := k + 1) rfl rfl (by omega) ⟨by omega, by omega⟩ rfl rfl ?_
    refine g_goto (tgt := 3) rfl (by decide) ?_
    exact ih (by omega) _ (by omega) (fun j j0 j1 => by
      by_cases q : j = k
      · rw [q, show 1 * b + k = b + k by omega, tp_pi_at]
        have e9 := hO (1 * a + k) (by omega)
        rw [← e9, show (1 : Int) * a = a by omega]
      · rw [tp_pi_ix (by omega)]; exact hz j j0 (by omega)) (fun j hj => by rw [tp_pi_ix (by omega)]; exact hO j hj) (fun c9 z9 => by rw [tp_pi_ne z9]; exact hF c9 z9)
set_option maxHeartbeats 4000000 in
set_option maxRecDepth 100000 in
theorem s_cpR203 {G : tp_G} {μ : tp_M} (hG : tp_Gf G = true) {a b : Int} (ha : 0 ≤ a ∧ a ≤ 3) (hb : 0 ≤ b ∧ b ≤ 3) (hab : a ≠ b) : tp_k G mX12_copyRow [tR (some 203), tI 1, tI a, tI b] μ (fun r μ' => r = none ∧ (∀ j, 0 ≤ j → j < 1 → μ'.1 203 (1 * b + j) = μ.1 203 (1 * a + j)) ∧ (∀ j, (j < 1 * b ∨ 1 * b + 1 ≤ j) → μ'.1 203 j = μ.1 203 j) ∧ ∀ c, c ≠ 203 → μ'.1 c = μ.1 c) := by
  refine tp_ok_of mX12_copyRow_ok rfl (Nat.le_refl _) ?_
  refine g_iconst rfl ⟨by decide, by decide⟩ ?_
  refine g_istore rfl rfl rfl ?_
  exact l_cpR203 hG ha hb hab 0 (by omega) _ (by omega) (fun j j0 j1 => by omega) (fun j hj => rfl) (fun c hc => rfl)
set_option maxHeartbeats 4000000 in
set_option maxRecDepth 100000 in
theorem l_cpR204 {G : tp_G} (hG : tp_Gf G = true) {a b : Int} {μ0 : tp_M} (ha : 0 ≤ a ∧ a ≤ 3) (hb : 0 ≤ b ∧ b ≤ 3) (hab : a ≠ b) : ∀ k, k ≤ 1 → ∀ (μ : tp_M), 0 ≤ k → (∀ j, 0 ≤ j → j < k → μ.1 204 (1 * b + j) = μ0.1 204 (1 * a + j)) → (∀ j, (j < 1 * b ∨ 1 * b + 1 ≤ j) → μ.1 204 j = μ0.1 204 j) → (∀ c, c ≠ 204 → μ.1 c = μ0.1 c) → tp_g G mX12_copyRow 3 [some (tR (some 204)), some (tI 1), some (tI a), some (tI b), some (tI k)] [] μ (fun r μ' => r = none ∧ (∀ j, 0 ≤ j → j < 1 → μ'.1 204 (1 * b + j) = μ0.1 204 (1 * a + j)) ∧ (∀ j, (j < 1 * b ∨ 1 * b + 1 ≤ j) → μ'.1 204 j = μ0.1 204 j) ∧ ∀ c, c ≠ 204 → μ'.1 c = μ0.1 c) := by
  refine tp_ind _ ?_
  intro k hkN ih μ h0 hz hO hF
  refine g_iload rfl rfl ?_
  refine g_iload_n rfl rfl ?_
  refine g_icmp_ge (tgt := 31) rfl (by decide) (fun h1 => ?_) (fun h1 => ?_)
  · refine x_return rfl rfl ?_
    exact ⟨rfl, fun j j0 j1 => hz j j0 (by omega), hO, hF⟩
  · refine g_aload_n rfl rfl ?_
    refine g_iload_n rfl rfl ?_
    refine g_iload_n rfl rfl ?_
    refine x_imul (z := b) rfl (by omega) ⟨by omega, by omega⟩ ?_
    refine g_iload rfl rfl ?_
    refine x_iadd (z := b + k) rfl (by omega) ⟨by omega, by omega⟩ ?_
    refine g_aload_n rfl rfl ?_
    refine g_iload_n rfl rfl ?_
    refine g_iload_n rfl rfl ?_
    refine x_imul (z := a) rfl (by omega) ⟨by omega, by omega⟩ ?_
    refine g_iload rfl rfl ?_
    refine x_iadd (z := a + k) rfl (by omega) ⟨by omega, by omega⟩ ?_
    refine x_iald (v := (μ.1 204 (a + k))) rfl rfl (by decide) (by omega) (by omega) rfl ?_
    refine g_iast rfl rfl (by decide) (by omega) (by omega) ?_
    refine x_iinc (z := k + 1) rfl rfl (by omega) ⟨by omega, by omega⟩ rfl rfl ?_
    refine g_goto (tgt := 3) rfl (by decide) ?_
    exact ih (by omega) _ (by omega) (fun j j0 j1 => by
      by_cases q : j = k
      · rw [q, show 1 * b + k = b + k by omega, tp_pi_at]
        have e9 := hO (1 * a + k) (by omega)
        rw [← e9, show (1 : Int) * a = a by omega]
      · rw [tp_pi_ix (by omega)]; exact hz j j0 (by omega)) (fun j hj => by rw [tp_pi_ix (by omega)]; exact hO j hj) (fun c9 z9 => by rw [tp_pi_ne z9]; exact hF c9 z9)
set_option maxHeartbeats 4000000 in
set_option maxRecDepth 100000 in
theorem s_cpR204 {G : tp_G} {μ : tp_M} (hG : tp_Gf G = true) {a b : Int} (ha : 0 ≤ a ∧ a ≤ 3) (hb : 0 ≤ b ∧ b ≤ 3) (hab : a ≠ b) : tp_k G mX12_copyRow [tR (some 204), tI 1, tI a, tI b] μ (fun r μ' => r = none ∧ (∀ j, 0 ≤ j → j < 1 → μ'.1 204 (1 * b + j) = μ.1 204 (1 * a + j)) ∧ (∀ j, (j < 1 * b ∨ 1 * b + 1 ≤ j) → μ'.1 204 j = μ.1 204 j) ∧ ∀ c, c ≠ 204 → μ'.1 c = μ.1 c) := by
  refine tp_ok_of mX12_copyRow_ok rfl (Nat.le_refl _) ?_
  refine g_iconst rfl ⟨by decide, by decide⟩ ?_
  refine g_istore rfl rfl rfl ?_
  exact l_cpR204 hG ha hb hab 0 (by omega) _ (by omega) (fun j j0 j1 => by omega) (fun j hj => rfl) (fun c hc => rfl)
set_option maxHeartbeats 4000000 in
set_option maxRecDepth 100000 in
theorem l_cpR205 {G : tp_G} (hG : tp_Gf G = true) {a b : Int} {μ0 : tp_M} (ha : 0 ≤ a ∧ a ≤ 3) (hb : 0 ≤ b ∧ b ≤ 3) (hab : a ≠ b) : ∀ k, k ≤ 1 → ∀ (μ : tp_M), 0 ≤ k → (∀ j, 0 ≤ j → j < k → μ.1 205 (1 * b + j) = μ0.1 205 (1 * a + j)) → (∀ j, (j < 1 * b ∨ 1 * b + 1 ≤ j) → μ.1 205 j = μ0.1 205 j) → (∀ c, c ≠ 205 → μ.1 c = μ0.1 c) → tp_g G mX12_copyRow 3 [some (tR (some 205)), some (tI 1), some (tI a), some (tI b), some (tI k)] [] μ (fun r μ' => r = none ∧ (∀ j, 0 ≤ j → j < 1 → μ'.1 205 (1 * b + j) = μ0.1 205 (1 * a + j)) ∧ (∀ j, (j < 1 * b ∨ 1 * b + 1 ≤ j) → μ'.1 205 j = μ0.1 205 j) ∧ ∀ c, c ≠ 205 → μ'.1 c = μ0.1 c) := by
  refine tp_ind _ ?_
  intro k hkN ih μ h0 hz hO hF
  refine g_iload rfl rfl ?_
  refine g_iload_n rfl rfl ?_
  refine g_icmp_ge (tgt := 31) rfl (by decide) (fun h1 => ?_) (fun h1 => ?_)
  · refine x_return rfl rfl ?_
    exact ⟨rfl, fun j j0 j1 => hz j j0 (by omega), hO, hF⟩
  · refine g_aload_n rfl rfl ?_
    refine g_iload_n rfl rfl ?_
    refine g_iload_n rfl rfl ?_
    refine x_imul (z := b) rfl (by omega) ⟨by omega, by omega⟩ ?_
    refine g_iload rfl rfl ?_
    refine x_iadd (z := b + k) rfl (by omega) ⟨by omega, by omega⟩ ?_
    refine g_aload_n rfl rfl ?_
    refine g_iload_n rfl rfl ?_
    refine g_iload_n rfl rfl ?_
    refine x_imul (z := a) rfl (by omega) ⟨by omega, by omega⟩ ?_
    refine g_iload rfl rfl ?_
    refine x_iadd (z := a + k) rfl (by omega) ⟨by omega, by omega⟩ ?_
    refine x_iald (v := (μ.1 205 (a + k))) rfl rfl (by decide) (by omega) (by omega) rfl ?_
    refine g_iast rfl rfl (by decide) (by omega) (by omega) ?_
    refine x_iinc (z := k + 1) rfl rfl (by omega) ⟨by omega, by omega⟩ rfl rfl ?_
    refine g_goto (tgt := 3) rfl (by decide) ?_
    exact ih (by omega) _ (by omega) (fun j j0 j1 => by
      by_cases q : j = k
      · rw [q, show 1 * b + k = b + k by omega, tp_pi_at]
        have e9 := hO (1 * a + k) (by omega)
        rw [← e9, show (1 : Int) * a = a by omega]
      · rw [tp_pi_ix (by omega)]; exact hz j j0 (by omega)) (fun j hj => by rw [tp_pi_ix (by omega)]; exact hO j hj) (fun c9 z9 => by rw [tp_pi_ne z9]; exact hF c9 z9)
set_option maxHeartbeats 4000000 in
set_option maxRecDepth 100000 in
theorem s_cpR205 {G : tp_G} {μ : tp_M} (hG : tp_Gf G = true) {a b : Int} (ha : 0 ≤ a ∧ a ≤ 3) (hb : 0 ≤ b ∧ b ≤ 3) (hab : a ≠ b) : tp_k G mX12_copyRow [tR (some 205), tI 1, tI a, tI b] μ (fun r μ' => r = none ∧ (∀ j, 0 ≤ j → j < 1 → μ'.1 205 (1 * b + j) = μ.1 205 (1 * a + j)) ∧ (∀ j, (j < 1 * b ∨ 1 * b + 1 ≤ j) → μ'.1 205 j = μ.1 205 j) ∧ ∀ c, c ≠ 205 → μ'.1 c = μ.1 c) := by
  refine tp_ok_of mX12_copyRow_ok rfl (Nat.le_refl _) ?_
  refine g_iconst rfl ⟨by decide, by decide⟩ ?_
  refine g_istore rfl rfl rfl ?_
  exact l_cpR205 hG ha hb hab 0 (by omega) _ (by omega) (fun j j0 j1 => by omega) (fun j hj => rfl) (fun c hc => rfl)
set_option maxHeartbeats 4000000 in
set_option maxRecDepth 100000 in
theorem l_cpR206 {G : tp_G} (hG : tp_Gf G = true) {a b : Int} {μ0 : tp_M} (ha : 0 ≤ a ∧ a ≤ 3) (hb : 0 ≤ b ∧ b ≤ 3) (hab : a ≠ b) : ∀ k, k ≤ 4 → ∀ (μ : tp_M), 0 ≤ k → (∀ j, 0 ≤ j → j < k → μ.1 206 (4 * b + j) = μ0.1 206 (4 * a + j)) → (∀ j, (j < 4 * b ∨ 4 * b + 4 ≤ j) → μ.1 206 j = μ0.1 206 j) → (∀ c, c ≠ 206 → μ.1 c = μ0.1 c) → tp_g G mX12_copyRow 3 [some (tR (some 206)), some (tI 4), some (tI a), some (tI b), some (tI k)] [] μ (fun r μ' => r = none ∧ (∀ j, 0 ≤ j → j < 4 → μ'.1 206 (4 * b + j) = μ0.1 206 (4 * a + j)) ∧ (∀ j, (j < 4 * b ∨ 4 * b + 4 ≤ j) → μ'.1 206 j = μ0.1 206 j) ∧ ∀ c, c ≠ 206 → μ'.1 c = μ0.1 c) := by
  refine tp_ind _ ?_
  intro k hkN ih μ h0 hz hO hF
  refine g_iload rfl rfl ?_
  refine g_iload_n rfl rfl ?_
  refine g_icmp_ge (tgt := 31) rfl (by decide) (fun h1 => ?_) (fun h1 => ?_)
  · refine x_return rfl rfl ?_
    exact ⟨rfl, fun j j0 j1 => hz j j0 (by omega), hO, hF⟩
  · refine g_aload_n rfl rfl ?_
    refine g_iload_n rfl rfl ?_
    refine g_iload_n rfl rfl ?_
    refine x_imul (z := 4 * b) rfl (by omega) ⟨by omega, by omega⟩ ?_
    refine g_iload rfl rfl ?_
    refine x_iadd (z := 4 * b + k) rfl (by omega) ⟨by omega, by omega⟩ ?_
    refine g_aload_n rfl rfl ?_
    refine g_iload_n rfl rfl ?_
    refine g_iload_n rfl rfl ?_
    refine x_imul (z := 4 * a) rfl (by omega) ⟨by omega, by omega⟩ ?_
    refine g_iload rfl rfl ?_
    refine x_iadd (z := 4 * a + k) rfl (by omega) ⟨by omega, by omega⟩ ?_
    refine x_iald (v := (μ.1 206 (4 * a + k))) rfl rfl (by decide) (by omega) (by omega) rfl ?_
    refine g_iast rfl rfl (by decide) (by omega) (by omega) ?_
    refine x_iinc (z := k + 1) rfl rfl (by omega) ⟨by omega, by omega⟩ rfl rfl ?_
    refine g_goto (tgt := 3) rfl (by decide) ?_
    exact ih (by omega) _ (by omega) (fun j j0 j1 => by
      by_cases q : j = k
      · rw [q, show 4 * b + k = 4 * b + k by omega, tp_pi_at]
        have e9 := hO (4 * a + k) (by omega)
        rw [← e9]
      · rw [tp_pi_ix (by omega)]; exact hz j j0 (by omega)) (fun j hj => by rw [tp_pi_ix (by omega)]; exact hO j hj) (fun c9 z9 => by rw [tp_pi_ne z9]; exact hF c9 z9)
set_option maxHeartbeats 4000000 in
set_option maxRecDepth 100000 in
theorem s_cpR206 {G : tp_G} {μ : tp_M} (hG : tp_Gf G = true) {a b : Int} (ha : 0 ≤ a ∧ a ≤ 3) (hb : 0 ≤ b ∧ b ≤ 3) (hab : a ≠ b) : tp_k G mX12_copyRow [tR (some 206), tI 4, tI a, tI b] μ (fun r μ' => r = none ∧ (∀ j, 0 ≤ j → j < 4 → μ'.1 206 (4 * b + j) = μ.1 206 (4 * a + j)) ∧ (∀ j, (j < 4 * b ∨ 4 * b + 4 ≤ j) → μ'.1 206 j = μ.1 206 j) ∧ ∀ c, c ≠ 206 → μ'.1 c = μ.1 c) := by
  refine tp_ok_of mX12_copyRow_ok rfl (Nat.le_refl _) ?_
  refine g_iconst rfl ⟨by decide, by decide⟩ ?_
  refine g_istore rfl rfl rfl ?_
  exact l_cpR206 hG ha hb hab 0 (by omega) _ (by omega) (fun j j0 j1 => by omega) (fun j hj => rfl) (fun c hc => rfl)
set_option maxHeartbeats 4000000 in
set_option maxRecDepth 100000 in
theorem l_cpR207 {G : tp_G} (hG : tp_Gf G = true) {a b : Int} {μ0 : tp_M} (ha : 0 ≤ a ∧ a ≤ 3) (hb : 0 ≤ b ∧ b ≤ 3) (hab : a ≠ b) : ∀ k, k ≤ 258 → ∀ (μ : tp_M), 0 ≤ k → (∀ j, 0 ≤ j → j < k → μ.1 207 (258 * b + j) = μ0.1 207 (258 * a + j)) → (∀ j, (j < 258 * b ∨ 258 * b + 258 ≤ j) → μ.1 207 j = μ0.1 207 j) → (∀ c, c ≠ 207 → μ.1 c = μ0.1 c) → tp_g G mX12_copyRow 3 [some (tR (some 207)), some (tI 258), some (tI a), some (tI b), some (tI k)] [] μ (fun r μ' => r = none ∧ (∀ j, 0 ≤ j → j < 258 → μ'.1 207 (258 * b + j) = μ0.1 207 (258 * a + j)) ∧ (∀ j, (j < 258 * b ∨ 258 * b + 258 ≤ j) → μ'.1 207 j = μ0.1 207 j) ∧ ∀ c, c ≠ 207 → μ'.1 c = μ0.1 c) := by
  refine tp_ind _ ?_
  intro k hkN ih μ h0 hz hO hF
  refine g_iload rfl rfl ?_
  refine g_iload_n rfl rfl ?_
  refine g_icmp_ge (tgt := 31) rfl (by decide) (fun h1 => ?_) (fun h1 => ?_)
  · refine x_return rfl rfl ?_
    exact ⟨rfl, fun j j0 j1 => hz j j0 (by omega), hO, hF⟩
  · refine g_aload_n rfl rfl ?_
    refine g_iload_n rfl rfl ?_
    refine g_iload_n rfl rfl ?_
    refine x_imul (z := 258 * b) rfl (by omega) ⟨by omega, by omega⟩ ?_
    refine g_iload rfl rfl ?_
    refine x_iadd (z := 258 * b + k) rfl (by omega) ⟨by omega, by omega⟩ ?_
    refine g_aload_n rfl rfl ?_
    refine g_iload_n rfl rfl ?_
    refine g_iload_n rfl rfl ?_
    refine x_imul (z := 258 * a) rfl (by omega) ⟨by omega, by omega⟩ ?_
    refine g_iload rfl rfl ?_
    refine x_iadd (z := 258 * a + k) rfl (by omega) ⟨by omega, by omega⟩ ?_
    refine x_iald (v := (μ.1 207 (258 * a + k))) rfl rfl (by decide) (by omega) (by omega) rfl ?_
    refine g_iast rfl rfl (by decide) (by omega) (by omega) ?_
    refine x_iinc (z := k + 1) rfl rfl (by omega) ⟨by omega, by omega⟩ rfl rfl ?_
    refine g_goto (tgt := 3) rfl (by decide) ?_
    exact ih (by omega) _ (by omega) (fun j j0 j1 => by
      by_cases q : j = k
      · rw [q, show 258 * b + k = 258 * b + k by omega, tp_pi_at]
        have e9 := hO (258 * a + k) (by omega)
        rw [← e9]
      · rw [tp_pi_ix (by omega)]; exact hz j j0 (by omega)) (fun j hj => by rw [tp_pi_ix (by omega)]; exact hO j hj) (fun c9 z9 => by rw [tp_pi_ne z9]; exact hF c9 z9)
set_option maxHeartbeats 4000000 in
set_option maxRecDepth 100000 in
theorem s_cpR207 {G : tp_G} {μ : tp_M} (hG : tp_Gf G = true) {a b : Int} (ha : 0 ≤ a ∧ a ≤ 3) (hb : 0 ≤ b ∧ b ≤ 3) (hab : a ≠ b) : tp_k G mX12_copyRow [tR (some 207), tI 258, tI a, tI b] μ (fun r μ' => r = none ∧ (∀ j, 0 ≤ j → j < 258 → μ'.1 207 (258 * b + j) = μ.1 207 (258 * a + j)) ∧ (∀ j, (j < 258 * b ∨ 258 * b + 258 ≤ j) → μ'.1 207 j = μ.1 207 j) ∧ ∀ c, c ≠ 207 → μ'.1 c = μ.1 c) := by
  refine tp_ok_of mX12_copyRow_ok rfl (Nat.le_refl _) ?_
  refine g_iconst rfl ⟨by decide, by decide⟩ ?_
  refine g_istore rfl rfl rfl ?_
  exact l_cpR207 hG ha hb hab 0 (by omega) _ (by omega) (fun j j0 j1 => by omega) (fun j hj => rfl) (fun c hc => rfl)
set_option maxHeartbeats 4000000 in
set_option maxRecDepth 100000 in
theorem l_cpR208 {G : tp_G} (hG : tp_Gf G = true) {a b : Int} {μ0 : tp_M} (ha : 0 ≤ a ∧ a ≤ 3) (hb : 0 ≤ b ∧ b ≤ 3) (hab : a ≠ b) : ∀ k, k ≤ 122 → ∀ (μ : tp_M), 0 ≤ k → (∀ j, 0 ≤ j → j < k → μ.1 208 (122 * b + j) = μ0.1 208 (122 * a + j)) → (∀ j, (j < 122 * b ∨ 122 * b + 122 ≤ j) → μ.1 208 j = μ0.1 208 j) → (∀ c, c ≠ 208 → μ.1 c = μ0.1 c) → tp_g G mX12_copyRow 3 [some (tR (some 208)), some (tI 122), some (tI a), some (tI b), some (tI k)] [] μ (fun r μ' => r = none ∧ (∀ j, 0 ≤ j → j < 122 → μ'.1 208 (122 * b + j) = μ0.1 208 (122 * a + j)) ∧ (∀ j, (j < 122 * b ∨ 122 * b + 122 ≤ j) → μ'.1 208 j = μ0.1 208 j) ∧ ∀ c, c ≠ 208 → μ'.1 c = μ0.1 c) := by
  refine tp_ind _ ?_
  intro k hkN ih μ h0 hz hO hF
  refine g_iload rfl rfl ?_
  refine g_iload_n rfl rfl ?_
  refine g_icmp_ge (tgt := 31) rfl (by decide) (fun h1 => ?_) (fun h1 => ?_)
  · refine x_return rfl rfl ?_
    exact ⟨rfl, fun j j0 j1 => hz j j0 (by omega), hO, hF⟩
  · refine g_aload_n rfl rfl ?_
    refine g_iload_n rfl rfl ?_
    refine g_iload_n rfl rfl ?_
    refine x_imul (z := 122 * b) rfl (by omega) ⟨by omega, by omega⟩ ?_
    refine g_iload rfl rfl ?_
    refine x_iadd (z := 122 * b + k) rfl (by omega) ⟨by omega, by omega⟩ ?_
    refine g_aload_n rfl rfl ?_
    refine g_iload_n rfl rfl ?_
    refine g_iload_n rfl rfl ?_
    refine x_imul (z := 122 * a) rfl (by omega) ⟨by omega, by omega⟩ ?_
    refine g_iload rfl rfl ?_
    refine x_iadd (z := 122 * a + k) rfl (by omega) ⟨by omega, by omega⟩ ?_
    refine x_iald (v := (μ.1 208 (122 * a + k))) rfl rfl (by decide) (by omega) (by omega) rfl ?_
    refine g_iast rfl rfl (by decide) (by omega) (by omega) ?_
    refine x_iinc (z := k + 1) rfl rfl (by omega) ⟨by omega, by omega⟩ rfl rfl ?_
    refine g_goto (tgt := 3) rfl (by decide) ?_
    exact ih (by omega) _ (by omega) (fun j j0 j1 => by
      by_cases q : j = k
      · rw [q, show 122 * b + k = 122 * b + k by omega, tp_pi_at]
        have e9 := hO (122 * a + k) (by omega)
        rw [← e9]
      · rw [tp_pi_ix (by omega)]; exact hz j j0 (by omega)) (fun j hj => by rw [tp_pi_ix (by omega)]; exact hO j hj) (fun c9 z9 => by rw [tp_pi_ne z9]; exact hF c9 z9)
set_option maxHeartbeats 4000000 in
set_option maxRecDepth 100000 in
theorem s_cpR208 {G : tp_G} {μ : tp_M} (hG : tp_Gf G = true) {a b : Int} (ha : 0 ≤ a ∧ a ≤ 3) (hb : 0 ≤ b ∧ b ≤ 3) (hab : a ≠ b) : tp_k G mX12_copyRow [tR (some 208), tI 122, tI a, tI b] μ (fun r μ' => r = none ∧ (∀ j, 0 ≤ j → j < 122 → μ'.1 208 (122 * b + j) = μ.1 208 (122 * a + j)) ∧ (∀ j, (j < 122 * b ∨ 122 * b + 122 ≤ j) → μ'.1 208 j = μ.1 208 j) ∧ ∀ c, c ≠ 208 → μ'.1 c = μ.1 c) := by
  refine tp_ok_of mX12_copyRow_ok rfl (Nat.le_refl _) ?_
  refine g_iconst rfl ⟨by decide, by decide⟩ ?_
  refine g_istore rfl rfl rfl ?_
  exact l_cpR208 hG ha hb hab 0 (by omega) _ (by omega) (fun j j0 j1 => by omega) (fun j hj => rfl) (fun c hc => rfl)
set_option maxHeartbeats 4000000 in
set_option maxRecDepth 100000 in
theorem l_cpR209 {G : tp_G} (hG : tp_Gf G = true) {a b : Int} {μ0 : tp_M} (ha : 0 ≤ a ∧ a ≤ 3) (hb : 0 ≤ b ∧ b ≤ 3) (hab : a ≠ b) : ∀ k, k ≤ 202 → ∀ (μ : tp_M), 0 ≤ k → (∀ j, 0 ≤ j → j < k → μ.1 209 (202 * b + j) = μ0.1 209 (202 * a + j)) → (∀ j, (j < 202 * b ∨ 202 * b + 202 ≤ j) → μ.1 209 j = μ0.1 209 j) → (∀ c, c ≠ 209 → μ.1 c = μ0.1 c) → tp_g G mX12_copyRow 3 [some (tR (some 209)), some (tI 202), some (tI a), some (tI b), some (tI k)] [] μ (fun r μ' => r = none ∧ (∀ j, 0 ≤ j → j < 202 → μ'.1 209 (202 * b + j) = μ0.1 209 (202 * a + j)) ∧ (∀ j, (j < 202 * b ∨ 202 * b + 202 ≤ j) → μ'.1 209 j = μ0.1 209 j) ∧ ∀ c, c ≠ 209 → μ'.1 c = μ0.1 c) := by
  refine tp_ind _ ?_
  intro k hkN ih μ h0 hz hO hF
  refine g_iload rfl rfl ?_
  refine g_iload_n rfl rfl ?_
  refine g_icmp_ge (tgt := 31) rfl (by decide) (fun h1 => ?_) (fun h1 => ?_)
  · refine x_return rfl rfl ?_
    exact ⟨rfl, fun j j0 j1 => hz j j0 (by omega), hO, hF⟩
  · refine g_aload_n rfl rfl ?_
    refine g_iload_n rfl rfl ?_
    refine g_iload_n rfl rfl ?_
    refine x_imul (z := 202 * b) rfl (by omega) ⟨by omega, by omega⟩ ?_
    refine g_iload rfl rfl ?_
    refine x_iadd (z := 202 * b + k) rfl (by omega) ⟨by omega, by omega⟩ ?_
    refine g_aload_n rfl rfl ?_
    refine g_iload_n rfl rfl ?_
    refine g_iload_n rfl rfl ?_
    refine x_imul (z := 202 * a) rfl (by omega) ⟨by omega, by omega⟩ ?_
    refine g_iload rfl rfl ?_
    refine x_iadd (z := 202 * a + k) rfl (by omega) ⟨by omega, by omega⟩ ?_
    refine x_iald (v := (μ.1 209 (202 * a + k))) rfl rfl (by decide) (by omega) (by omega) rfl ?_
    refine g_iast rfl rfl (by decide) (by omega) (by omega) ?_
    refine x_iinc (z := k + 1) rfl rfl (by omega) ⟨by omega, by omega⟩ rfl rfl ?_
    refine g_goto (tgt := 3) rfl (by decide) ?_
    exact ih (by omega) _ (by omega) (fun j j0 j1 => by
      by_cases q : j = k
      · rw [q, show 202 * b + k = 202 * b + k by omega, tp_pi_at]
        have e9 := hO (202 * a + k) (by omega)
        rw [← e9]
      · rw [tp_pi_ix (by omega)]; exact hz j j0 (by omega)) (fun j hj => by rw [tp_pi_ix (by omega)]; exact hO j hj) (fun c9 z9 => by rw [tp_pi_ne z9]; exact hF c9 z9)
set_option maxHeartbeats 4000000 in
set_option maxRecDepth 100000 in
theorem s_cpR209 {G : tp_G} {μ : tp_M} (hG : tp_Gf G = true) {a b : Int} (ha : 0 ≤ a ∧ a ≤ 3) (hb : 0 ≤ b ∧ b ≤ 3) (hab : a ≠ b) : tp_k G mX12_copyRow [tR (some 209), tI 202, tI a, tI b] μ (fun r μ' => r = none ∧ (∀ j, 0 ≤ j → j < 202 → μ'.1 209 (202 * b + j) = μ.1 209 (202 * a + j)) ∧ (∀ j, (j < 202 * b ∨ 202 * b + 202 ≤ j) → μ'.1 209 j = μ.1 209 j) ∧ ∀ c, c ≠ 209 → μ'.1 c = μ.1 c) := by
  refine tp_ok_of mX12_copyRow_ok rfl (Nat.le_refl _) ?_
  refine g_iconst rfl ⟨by decide, by decide⟩ ?_
  refine g_istore rfl rfl rfl ?_
  exact l_cpR209 hG ha hb hab 0 (by omega) _ (by omega) (fun j j0 j1 => by omega) (fun j hj => rfl) (fun c hc => rfl)
set_option maxHeartbeats 4000000 in
set_option maxRecDepth 100000 in
theorem l_cpR210 {G : tp_G} (hG : tp_Gf G = true) {a b : Int} {μ0 : tp_M} (ha : 0 ≤ a ∧ a ≤ 3) (hb : 0 ≤ b ∧ b ≤ 3) (hab : a ≠ b) : ∀ k, k ≤ 34 → ∀ (μ : tp_M), 0 ≤ k → (∀ j, 0 ≤ j → j < k → μ.1 210 (34 * b + j) = μ0.1 210 (34 * a + j)) → (∀ j, (j < 34 * b ∨ 34 * b + 34 ≤ j) → μ.1 210 j = μ0.1 210 j) → (∀ c, c ≠ 210 → μ.1 c = μ0.1 c) → tp_g G mX12_copyRow 3 [some (tR (some 210)), some (tI 34), some (tI a), some (tI b), some (tI k)] [] μ (fun r μ' => r = none ∧ (∀ j, 0 ≤ j → j < 34 → μ'.1 210 (34 * b + j) = μ0.1 210 (34 * a + j)) ∧ (∀ j, (j < 34 * b ∨ 34 * b + 34 ≤ j) → μ'.1 210 j = μ0.1 210 j) ∧ ∀ c, c ≠ 210 → μ'.1 c = μ0.1 c) := by
  refine tp_ind _ ?_
  intro k hkN ih μ h0 hz hO hF
  refine g_iload rfl rfl ?_
  refine g_iload_n rfl rfl ?_
  refine g_icmp_ge (tgt := 31) rfl (by decide) (fun h1 => ?_) (fun h1 => ?_)
  · refine x_return rfl rfl ?_
    exact ⟨rfl, fun j j0 j1 => hz j j0 (by omega), hO, hF⟩
  · refine g_aload_n rfl rfl ?_
    refine g_iload_n rfl rfl ?_
    refine g_iload_n rfl rfl ?_
    refine x_imul (z := 34 * b) rfl (by omega) ⟨by omega, by omega⟩ ?_
    refine g_iload rfl rfl ?_
    refine x_iadd (z := 34 * b + k) rfl (by omega) ⟨by omega, by omega⟩ ?_
    refine g_aload_n rfl rfl ?_
    refine g_iload_n rfl rfl ?_
    refine g_iload_n rfl rfl ?_
    refine x_imul (z := 34 * a) rfl (by omega) ⟨by omega, by omega⟩ ?_
    refine g_iload rfl rfl ?_
    refine x_iadd (z := 34 * a + k) rfl (by omega) ⟨by omega, by omega⟩ ?_
    refine x_iald (v := (μ.1 210 (34 * a + k))) rfl rfl (by decide) (by omega) (by omega) rfl ?_
    refine g_iast rfl rfl (by decide) (by omega) (by omega) ?_
    refine x_iinc (z := k + 1) rfl rfl (by omega) ⟨by omega, by omega⟩ rfl rfl ?_
    refine g_goto (tgt := 3) rfl (by decide) ?_
    exact ih (by omega) _ (by omega) (fun j j0 j1 => by
      by_cases q : j = k
      · rw [q, show 34 * b + k = 34 * b + k by omega, tp_pi_at]
        have e9 := hO (34 * a + k) (by omega)
        rw [← e9]
      · rw [tp_pi_ix (by omega)]; exact hz j j0 (by omega)) (fun j hj => by rw [tp_pi_ix (by omega)]; exact hO j hj) (fun c9 z9 => by rw [tp_pi_ne z9]; exact hF c9 z9)
set_option maxHeartbeats 4000000 in
set_option maxRecDepth 100000 in
theorem s_cpR210 {G : tp_G} {μ : tp_M} (hG : tp_Gf G = true) {a b : Int} (ha : 0 ≤ a ∧ a ≤ 3) (hb : 0 ≤ b ∧ b ≤ 3) (hab : a ≠ b) : tp_k G mX12_copyRow [tR (some 210), tI 34, tI a, tI b] μ (fun r μ' => r = none ∧ (∀ j, 0 ≤ j → j < 34 → μ'.1 210 (34 * b + j) = μ.1 210 (34 * a + j)) ∧ (∀ j, (j < 34 * b ∨ 34 * b + 34 ≤ j) → μ'.1 210 j = μ.1 210 j) ∧ ∀ c, c ≠ 210 → μ'.1 c = μ.1 c) := by
  refine tp_ok_of mX12_copyRow_ok rfl (Nat.le_refl _) ?_
  refine g_iconst rfl ⟨by decide, by decide⟩ ?_
  refine g_istore rfl rfl rfl ?_
  exact l_cpR210 hG ha hb hab 0 (by omega) _ (by omega) (fun j j0 j1 => by omega) (fun j hj => rfl) (fun c hc => rfl)
