/-! what holds ahead of each line: it is kept -/
theorem t_wf_r {V : Int} : ∀ (m : Nat) (w : Int), t_wf V m w = -1 ∨ (w ≤ t_wf V m w ∧ t_wf V m w < w + m) := by
  intro m
  induction m with
  | zero => intro w; exact Or.inl rfl
  | succ m ih =>
    intro w
    by_cases q : V = t_wc w
    · right
      have e : t_wf V (m + 1) w = w := if_pos q
      rw [e]; omega
    · have e : t_wf V (m + 1) w = t_wf V m (w + 1) := if_neg q
      rw [e]
      rcases ih (w + 1) with u | u
      · exact Or.inl u
      · right; omega
theorem t_wx_r {so : Int} {T : Int → Int} {len i : Int} (hs : 0 ≤ so ∧ so ≤ 3) : t_wx so T len i = -1 ∨ (so = 0 ∧ 0 ≤ t_wx so T len i ∧ t_wx so T len i < 16) ∨ (so = 1 ∧ 16 ≤ t_wx so T len i ∧ t_wx so T len i < 19) ∨ (so = 2 ∧ t_wx so T len i = 19) ∨ (so = 3 ∧ t_wx so T len i = 20) := by
  unfold t_wx
  by_cases q : t_k T len i = 1
  · rw [if_pos q]
    generalize t_wv T (t_s T len i) (t_e T len i) = V
    rcases (show so = 0 ∨ so = 1 ∨ so = 2 ∨ so = 3 by omega) with u | u | u | u <;> subst u
    · have e : t_wi 0 V = t_wf V 16 0 := rfl
      rw [e]; have := t_wf_r (V := V) 16 0; omega
    · have e : t_wi 1 V = t_wf V 3 16 := rfl
      rw [e]; have := t_wf_r (V := V) 3 16; omega
    · have e : t_wi 2 V = t_wf V 1 19 := rfl
      rw [e]; have := t_wf_r (V := V) 1 19; omega
    · have e : t_wi 3 V = t_wf V 1 20 := rfl
      rw [e]; have := t_wf_r (V := V) 1 20; omega
  · rw [if_neg q]; exact Or.inl rfl
theorem t_cl_b {w v : Int} (h : t_lo w ≤ t_hi w) : t_lo w ≤ t_cl w v ∧ t_cl w v ≤ t_hi w := by
  unfold t_cl
  split <;> omega
theorem t_rw_a {w v : Int} (h : 1 ≤ w ∧ w ≤ 3) : 0 ≤ t_rw w v ∧ t_rw w v ≤ 39 := by
  rcases (show w = 1 ∨ w = 2 ∨ w = 3 by omega) with u | u | u <;> subst u
  · exact t_cl_b (w := 1) (v := v) (by decide)
  · exact t_cl_b (w := 2) (v := v) (by decide)
  · exact t_cl_b (w := 3) (v := v) (by decide)
theorem t_rw_n {w v : Int} (h : w = 0 ∨ (4 ≤ w ∧ w ≤ 6)) : t_rw w v = -1 := if_pos h
/-- the sort 0: instructions -/
theorem t_tk_a {i i' w v1 f p it m ft f1 p1 : Int} {D : Int → Int} (hw : 0 ≤ w ∧ w < 7) (hi : i < i') (h : t_I 0 i (f, p, it, m, ft, D)) (hf : f1 = 0 ∨ f1 = 2 ∨ f1 = 3) (hz : f1 = 0 → f = 0 ∧ it < 40) (hp : f1 ≠ 0 → 0 ≤ p1 ∧ p1 < i') : t_I 0 i' (t_tk w v1 0 (f1, p1, it + 1, m, ft, D)) := by
  obtain ⟨-, h2, h3, -, -, h6, -, h8, h9, h10⟩ := h
  have h2 : 0 ≤ it ∧ it ≤ i := h2
  have h3 : D 0 = min 40 it := h3 (by decide)
  have h6 : m = 0 ∨ m = 1 := h6
  have h9 : -1 ≤ ft ∧ ft ≤ 39 := h9
  obtain ⟨w1, w2⟩ : t_W 0 D := h8
  have hx1 : 1 ≤ w ∧ w ≤ 3 → 0 ≤ t_rw w v1 ∧ t_rw w v1 ≤ 39 := t_rw_a
  have hx2 : ¬ (1 ≤ w ∧ w ≤ 3) → t_rw w v1 = -1 := fun z => t_rw_n (by omega)
  have hft : (if 1 ≤ w ∧ w ≤ 3 then max ft (t_rw w v1) else ft) = max ft (t_rw w v1) := by
    by_cases q : 1 ≤ w ∧ w ≤ 3
    · rw [if_pos q]
    · rw [if_neg q, hx2 q]; omega
  have hrx : -1 ≤ t_rw w v1 ∧ t_rw w v1 ≤ 39 := by
    by_cases q : 1 ≤ w ∧ w ≤ 3
    · have := hx1 q; omega
    · rw [hx2 q]; omega
  generalize hx : t_rw w v1 = x at *
  have e1 : t_tk w v1 0 (f1, p1, it + 1, m, ft, D) = (f1, p1, it + 1, m, max ft x, t_D w x 0 m D) := by
    show (f1, p1, it + 1, (if w = 7 then t_rw w v1 else m), (if 1 ≤ w ∧ w ≤ 3 then max ft (t_rw w v1) else ft), t_D w (t_rw w v1) 0 m D) = _
    rw [hx, hft, if_neg (by omega)]
  rw [e1]
  by_cases q : D 0 < 40
  · rw [t_D_a hw.2 q]
    have g0 : ∀ D9 : Int → Int, D9 = v_u (v_u (v_u (v_u D (9 + D 0) w) (49 + D 0) x) (89 + D 0) m) 0 (D 0 + 1) → D9 0 = D 0 + 1 ∧ (∀ a, 0 ≤ a → a < D 0 + 1 → D9 (9 + a) = (if a = D 0 then w else D (9 + a)) ∧ D9 (49 + a) = (if a = D 0 then x else D (49 + a)) ∧ D9 (89 + a) = (if a = D 0 then m else D (89 + a))) ∧ (∀ j, 1 ≤ j → j ≤ 8 → D9 j = D j) := by
      intro D9 hD9
      subst hD9
      refine ⟨v_u_at, fun a a0 a1 => ⟨?_, ?_, ?_⟩, fun j j0 j1 => ?_⟩
      · rw [v_u_ne (by omega), v_u_ne (by omega), v_u_ne (by omega)]
        by_cases u : a = D 0
        · rw [if_pos u, u, v_u_at]
        · rw [if_neg u, v_u_ne (by omega)]
      · rw [v_u_ne (by omega), v_u_ne (by omega)]
        by_cases u : a = D 0
        · rw [if_pos u, u, v_u_at]
        · rw [if_neg u, v_u_ne (by omega), v_u_ne (by omega)]
      · rw [v_u_ne (by omega)]
        by_cases u : a = D 0
        · rw [if_pos u, u, v_u_at]
        · rw [if_neg u, v_u_ne (by omega), v_u_ne (by omega), v_u_ne (by omega)]
      · rw [v_u_ne (by omega), v_u_ne (by omega), v_u_ne (by omega), v_u_ne (by omega)]
    generalize hD9 : v_u (v_u (v_u (v_u D (9 + D 0) w) (49 + D 0) x) (89 + D 0) m) 0 (D 0 + 1) = D9
    obtain ⟨z0, z1, z2⟩ := g0 D9 hD9.symm
    clear g0 hD9
    refine ⟨hf, by show 0 ≤ it + 1 ∧ it + 1 ≤ i'; omega, fun _ => by show D9 0 = min 40 (it + 1); omega, fun z => absurd z (by decide), fun z => by show it + 1 ≤ 40; have := hz z; omega, h6, hp, ⟨fun a a0 a1 => ?_, ?_⟩, by show -1 ≤ max ft x ∧ max ft x ≤ 39; omega, fun _ zf => ⟨fun a a0 a1 => ?_, ?_⟩⟩
    · have a1 : a < D9 0 := a1
      rw [z0] at a1
      obtain ⟨k1, k2, k3⟩ := z1 a a0 a1
      dsimp only
      rw [k1, k2, k3]
      by_cases u : a = D 0
      · rw [if_pos u, if_pos u, if_pos u]
        exact ⟨by omega, h6, hx1, hx2⟩
      · rw [if_neg u, if_neg u, if_neg u]; exact w1 a a0 (by omega)
    · dsimp only
      rw [z2 1 (by omega) (by omega), z2 2 (by omega) (by omega), z2 3 (by omega) (by omega), z2 4 (by omega) (by omega), z2 5 (by omega) (by omega), z2 6 (by omega) (by omega), z2 7 (by omega) (by omega), z2 8 (by omega) (by omega)]
      exact w2
    · show D9 (49 + a) ≤ max ft x
      have a1 : a < D9 0 := a1
      rw [z0] at a1
      rw [(z1 a a0 a1).2.1]
      by_cases u : a = D 0
      · rw [if_pos u]; omega
      · rw [if_neg u]
        have := (h10 rfl (hz zf).1).1 a a0 (by show a < D 0; omega)
        have : D (49 + a) ≤ ft := this
        omega
    · show max ft x = -1 ∨ ∃ a, 0 ≤ a ∧ a < D9 0 ∧ D9 (49 + a) = max ft x
      rw [z0]
      by_cases u : ft ≤ x
      · refine Or.inr ⟨D 0, by omega, by omega, ?_⟩
        rw [(z1 (D 0) (by omega) (by omega)).2.1, if_pos rfl]; omega
      · rcases (h10 rfl (hz zf).1).2 with g | ⟨a, b0, b1, b2⟩
        · have g : ft = -1 := g
          omega
        · have b1 : a < D 0 := b1
          have b2 : D (49 + a) = ft := b2
          refine Or.inr ⟨a, b0, by omega, ?_⟩
          rw [(z1 a b0 (by omega)).2.1, if_neg (by omega)]; omega
  · have e2 : t_D w x 0 m D = D := by unfold t_D; rw [if_pos hw.2, if_neg q]
    rw [e2]
    refine ⟨hf, by show 0 ≤ it + 1 ∧ it + 1 ≤ i'; omega, fun _ => by show D 0 = min 40 (it + 1); omega, fun z => absurd z (by decide), fun z => by show it + 1 ≤ 40; have := hz z; omega, h6, hp, ⟨w1, w2⟩, by show -1 ≤ max ft x ∧ max ft x ≤ 39; omega, fun _ zf => by have := hz zf; omega⟩
/-- the sort 0: modes and rules -/
theorem t_tk_r {i i' w v1 f p it m ft f1 p1 : Int} {D : Int → Int} (hw : 7 ≤ w ∧ w < 16) (hi : i < i') (h : t_I 0 i (f, p, it, m, ft, D)) (hf : f1 = 0 ∨ f1 = 2 ∨ f1 = 3) (hz : f1 = 0 → f = 0) (hp : f1 ≠ 0 → 0 ≤ p1 ∧ p1 < i') : t_I 0 i' (t_tk w v1 0 (f1, p1, it, m, ft, D)) := by
  obtain ⟨-, h2, h3, -, h5, h6, -, h8, h9, h10⟩ := h
  have h2 : 0 ≤ it ∧ it ≤ i := h2
  have h3 : D 0 = min 40 it := h3 (by decide)
  obtain ⟨w1, w2⟩ : t_W 0 D := h8
  have e1 : t_tk w v1 0 (f1, p1, it, m, ft, D) = (f1, p1, it, (if w = 7 then t_rw w v1 else m), ft, t_D w (t_rw w v1) 0 m D) := by
    show (f1, p1, it, (if w = 7 then t_rw w v1 else m), (if 1 ≤ w ∧ w ≤ 3 then max ft (t_rw w v1) else ft), t_D w (t_rw w v1) 0 m D) = _
    rw [if_neg (show ¬ (1 ≤ w ∧ w ≤ 3) by omega)]
  rw [e1]
  have hx : t_rw w v1 = t_cl w v1 := by unfold t_rw; rw [if_neg (by omega), if_neg (by omega), if_neg (by omega)]
  have hb : t_lo w ≤ t_cl w v1 ∧ t_cl w v1 ≤ t_hi w := t_cl_b (by
    rcases (show w = 7 ∨ w = 8 ∨ w = 9 ∨ w = 10 ∨ w = 11 ∨ w = 12 ∨ w = 13 ∨ w = 14 ∨ w = 15 by omega) with u | u | u | u | u | u | u | u | u <;> subst u <;> decide)
  rw [← hx] at hb
  generalize t_rw w v1 = x at *
  have key : ∀ D9 : Int → Int, (∀ j, j = 0 ∨ 9 ≤ j → D9 j = D j) → ((1 ≤ D9 1 ∧ D9 1 ≤ 9) ∧ (0 ≤ D9 2 ∧ D9 2 ≤ 4) ∧ (2 ≤ D9 3 ∧ D9 3 ≤ 99) ∧ (0 ≤ D9 4 ∧ D9 4 ≤ 39) ∧ (0 ≤ D9 5 ∧ D9 5 ≤ 39) ∧ (0 ≤ D9 6 ∧ D9 6 ≤ 2) ∧ (3 ≤ D9 7 ∧ D9 7 ≤ 9) ∧ (1 ≤ D9 8 ∧ D9 8 ≤ 9)) → ∀ m9, (m9 = 0 ∨ m9 = 1) → t_I 0 i' (f1, p1, it, m9, ft, D9) := by
    intro D9 g1 g2 m9 hm9
    refine ⟨hf, by show 0 ≤ it ∧ it ≤ i'; omega, fun _ => by show D9 0 = min 40 it; rw [g1 0 (Or.inl rfl)]; exact h3, fun z => absurd z (by decide), fun z => h5 (hz z), hm9, hp, ⟨fun a a0 a1 => ?_, g2⟩, h9, fun _ zf => ?_⟩
    · have a1 : a < D9 0 := a1
      rw [g1 0 (Or.inl rfl)] at a1
      dsimp only
      rw [g1 (9 + a) (by omega), g1 (49 + a) (by omega), g1 (89 + a) (by omega)]
      exact w1 a a0 a1
    · obtain ⟨q1, q2⟩ := h10 rfl (hz zf)
      refine ⟨fun a a0 a1 => ?_, ?_⟩
      · have a1 : a < D9 0 := a1
        rw [g1 0 (Or.inl rfl)] at a1
        show D9 (49 + a) ≤ ft
        rw [g1 (49 + a) (by omega)]; exact q1 a a0 a1
      · rcases q2 with q | ⟨a, b0, b1, b2⟩
        · exact Or.inl q
        · refine Or.inr ⟨a, b0, ?_, ?_⟩
          · show a < D9 0
            rw [g1 0 (Or.inl rfl)]; exact b1
          · show D9 (49 + a) = ft
            rw [g1 (49 + a) (by omega)]; exact b2
  by_cases q : w = 7
  · subst q
    have hb2 : 0 ≤ x ∧ x ≤ 1 := hb
    exact key D (fun j _ => rfl) w2 x (by omega)
  · rw [t_D_r (by omega), if_neg q]
    refine key _ (fun j hj => v_u_ne (by omega)) ?_ m h6
    rcases (show w = 8 ∨ w = 9 ∨ w = 10 ∨ w = 11 ∨ w = 12 ∨ w = 13 ∨ w = 14 ∨ w = 15 by omega) with u | u | u | u | u | u | u | u <;> subst u
    · have hb2 : 1 ≤ x ∧ x ≤ 9 := hb
      exact ⟨hb2, w2.2⟩
    · have hb2 : 0 ≤ x ∧ x ≤ 4 := hb
      exact ⟨w2.1, hb2, w2.2.2⟩
    · have hb2 : 2 ≤ x ∧ x ≤ 99 := hb
      exact ⟨w2.1, w2.2.1, hb2, w2.2.2.2⟩
    · have hb2 : 0 ≤ x ∧ x ≤ 39 := hb
      exact ⟨w2.1, w2.2.1, w2.2.2.1, hb2, w2.2.2.2.2⟩
    · have hb2 : 0 ≤ x ∧ x ≤ 39 := hb
      exact ⟨w2.1, w2.2.1, w2.2.2.1, w2.2.2.2.1, hb2, w2.2.2.2.2.2⟩
    · have hb2 : 0 ≤ x ∧ x ≤ 2 := hb
      exact ⟨w2.1, w2.2.1, w2.2.2.1, w2.2.2.2.1, w2.2.2.2.2.1, hb2, w2.2.2.2.2.2.2⟩
    · have hb2 : 3 ≤ x ∧ x ≤ 9 := hb
      exact ⟨w2.1, w2.2.1, w2.2.2.1, w2.2.2.2.1, w2.2.2.2.2.1, w2.2.2.2.2.2.1, hb2, w2.2.2.2.2.2.2.2⟩
    · have hb2 : 1 ≤ x ∧ x ≤ 9 := hb
      exact ⟨w2.1, w2.2.1, w2.2.2.1, w2.2.2.2.1, w2.2.2.2.2.1, w2.2.2.2.2.2.1, w2.2.2.2.2.2.2.1, hb2⟩
/-- a drive's choices -/
theorem t_tk_d {i i' w v1 f p it m ft f1 p1 : Int} {D : Int → Int} (hw : 16 ≤ w ∧ w < 19) (hi : i < i') (h : t_I 1 i (f, p, it, m, ft, D)) (hf : f1 = 0 ∨ f1 = 2 ∨ f1 = 3) (hz : f1 = 0 → f = 0 ∧ it < 60) (hp : f1 ≠ 0 → 0 ≤ p1 ∧ p1 < i') : t_I 1 i' (t_tk w v1 0 (f1, p1, it + 1, m, ft, D)) := by
  obtain ⟨-, h2, h3, -, -, h6, -, h8, h9, -⟩ := h
  have h2 : 0 ≤ it ∧ it ≤ i := h2
  have h3 : D 0 = min 60 it := h3 (by decide)
  have h8 : ∀ i, 0 ≤ i → i < D 0 → (0 ≤ D (1 + i) ∧ D (1 + i) ≤ 39) ∨ D (1 + i) = 100 ∨ D (1 + i) = 101 := h8
  have hx : (0 ≤ t_rw w v1 ∧ t_rw w v1 ≤ 39) ∨ t_rw w v1 = 100 ∨ t_rw w v1 = 101 := by
    rcases (show w = 16 ∨ w = 17 ∨ w = 18 by omega) with u | u | u <;> subst u
    · exact Or.inr (Or.inl rfl)
    · exact Or.inr (Or.inr rfl)
    · exact Or.inl (t_cl_b (w := 18) (v := v1) (by decide))
  have e1 : t_tk w v1 0 (f1, p1, it + 1, m, ft, D) = (f1, p1, it + 1, m, ft, t_D w (t_rw w v1) 0 m D) := by
    show (f1, p1, it + 1, (if w = 7 then t_rw w v1 else m), (if 1 ≤ w ∧ w ≤ 3 then max ft (t_rw w v1) else ft), t_D w (t_rw w v1) 0 m D) = _
    rw [if_neg (show ¬ (1 ≤ w ∧ w ≤ 3) by omega), if_neg (show ¬ w = 7 by omega)]
  rw [e1]
  generalize t_rw w v1 = x at *
  by_cases q : D 0 < 60
  · rw [t_D_d hw q]
    have e0 : v_u (v_u D 0 (D 0 + 1)) (D 0 + 1) x 0 = D 0 + 1 := by rw [v_u_ne (by omega), v_u_at]
    refine ⟨hf, by show 0 ≤ it + 1 ∧ it + 1 ≤ i'; omega, fun _ => by show v_u (v_u D 0 (D 0 + 1)) (D 0 + 1) x 0 = min 60 (it + 1); rw [e0]; omega, fun z => absurd z (by decide), fun z => by show it + 1 ≤ 60; have := hz z; omega, h6, hp, ?_, h9, fun z => absurd z (by decide)⟩
    show ∀ i, 0 ≤ i → i < v_u (v_u D 0 (D 0 + 1)) (D 0 + 1) x 0 → (0 ≤ v_u (v_u D 0 (D 0 + 1)) (D 0 + 1) x (1 + i) ∧ v_u (v_u D 0 (D 0 + 1)) (D 0 + 1) x (1 + i) ≤ 39) ∨ v_u (v_u D 0 (D 0 + 1)) (D 0 + 1) x (1 + i) = 100 ∨ v_u (v_u D 0 (D 0 + 1)) (D 0 + 1) x (1 + i) = 101
    intro j j0 j1
    rw [e0] at j1
    by_cases u : j = D 0
    · rw [u, show 1 + D 0 = D 0 + 1 by omega, v_u_at]; exact hx
    · rw [v_u_ne (by omega), v_u_ne (by omega)]; exact h8 j j0 (by omega)
  · have e2 : t_D w x 0 m D = D := by unfold t_D; rw [if_neg (by omega), if_neg (by omega), if_neg (by omega), if_pos hw.2, if_neg q]
    rw [e2]
    exact ⟨hf, by show 0 ≤ it + 1 ∧ it + 1 ≤ i'; omega, fun _ => by show D 0 = min 60 (it + 1); omega, fun z => absurd z (by decide), fun z => by show it + 1 ≤ 60; have := hz z; omega, h6, hp, h8, h9, fun z => absurd z (by decide)⟩
/-- a loss's packets -/
theorem t_tk_l {i i' v1 f p it m ft f1 p1 : Int} {D : Int → Int} (hi : i < i') (h : t_I 2 i (f, p, it, m, ft, D)) (hf : f1 = 0 ∨ f1 = 2 ∨ f1 = 3) (hz : f1 = 0 → f = 0 ∧ it < 12) (hp : f1 ≠ 0 → 0 ≤ p1 ∧ p1 < i') : t_I 2 i' (t_tk 19 v1 0 (f1, p1, it + 1, m, ft, D)) := by
  obtain ⟨-, h2, -, h4, -, h6, -, h8, h9, -⟩ := h
  have h2 : 0 ≤ it ∧ it ≤ i := h2
  have h4 : 0 ≤ D 0 ∧ D 0 ≤ it := h4 rfl
  have h8 : ∀ p, 0 ≤ p → p < 100 → D (1 + p) = 0 ∨ D (1 + p) = 1 := h8
  have hx : 0 ≤ t_rw 19 v1 ∧ t_rw 19 v1 ≤ 99 := t_cl_b (w := 19) (v := v1) (by decide)
  have e1 : t_tk 19 v1 0 (f1, p1, it + 1, m, ft, D) = (f1, p1, it + 1, m, ft, t_D 19 (t_rw 19 v1) 0 m D) := rfl
  rw [e1, t_D_l]
  generalize t_rw 19 v1 = x at *
  have hd : 0 ≤ (if D (1 + x) = 0 then (1 : Int) else 0) ∧ (if D (1 + x) = 0 then (1 : Int) else 0) ≤ 1 := by split <;> omega
  generalize (if D (1 + x) = 0 then (1 : Int) else 0) = y at *
  have e0 : v_u (v_u D 0 (D 0 + y)) (1 + x) 1 0 = D 0 + y := by rw [v_u_ne (by omega), v_u_at]
  refine ⟨hf, by show 0 ≤ it + 1 ∧ it + 1 ≤ i'; omega, fun z => absurd rfl z, fun _ => by show 0 ≤ v_u (v_u D 0 (D 0 + y)) (1 + x) 1 0 ∧ v_u (v_u D 0 (D 0 + y)) (1 + x) 1 0 ≤ it + 1; rw [e0]; omega, fun z => by show it + 1 ≤ 12; have := hz z; omega, h6, hp, ?_, h9, fun z => absurd z (by decide)⟩
  show ∀ p, 0 ≤ p → p < 100 → v_u (v_u D 0 (D 0 + y)) (1 + x) 1 (1 + p) = 0 ∨ v_u (v_u D 0 (D 0 + y)) (1 + x) 1 (1 + p) = 1
  intro j j0 j1
  by_cases u : j = x
  · rw [u, v_u_at]; exact Or.inr rfl
  · rw [v_u_ne (by omega), v_u_ne (by omega)]; exact h8 j j0 j1
/-- a log's facts -/
theorem t_tk_s {i i' v1 v2 f p it m ft f1 p1 : Int} {D : Int → Int} (hv2 : 0 ≤ v2 ∧ v2 ≤ 99) (hi : i < i') (h : t_I 3 i (f, p, it, m, ft, D)) (hf : f1 = 0 ∨ f1 = 2 ∨ f1 = 3) (hz : f1 = 0 → f = 0 ∧ it < 8) (hp : f1 ≠ 0 → 0 ≤ p1 ∧ p1 < i') : t_I 3 i' (t_tk 20 v1 v2 (f1, p1, it + 1, m, ft, D)) := by
  obtain ⟨-, h2, h3, -, -, h6, -, h8, h9, -⟩ := h
  have h2 : 0 ≤ it ∧ it ≤ i := h2
  have h3 : D 0 = min 8 it := h3 (by decide)
  have h8 : ∀ i, 0 ≤ i → i < D 0 → (0 ≤ D (1 + 2 * i) ∧ D (1 + 2 * i) ≤ 39) ∧ (0 ≤ D (2 + 2 * i) ∧ D (2 + 2 * i) ≤ 99) := h8
  have hx : 0 ≤ t_rw 20 v1 ∧ t_rw 20 v1 ≤ 39 := t_cl_b (w := 20) (v := v1) (by decide)
  have e1 : t_tk 20 v1 v2 (f1, p1, it + 1, m, ft, D) = (f1, p1, it + 1, m, ft, t_D 20 (t_rw 20 v1) v2 m D) := rfl
  rw [e1]
  generalize t_rw 20 v1 = x at *
  by_cases q : D 0 < 8
  · rw [t_D_s q]
    have e0 : v_u (v_u (v_u D (1 + 2 * D 0) x) (2 + 2 * D 0) v2) 0 (D 0 + 1) 0 = D 0 + 1 := v_u_at
    refine ⟨hf, by show 0 ≤ it + 1 ∧ it + 1 ≤ i'; omega, fun _ => by show v_u (v_u (v_u D (1 + 2 * D 0) x) (2 + 2 * D 0) v2) 0 (D 0 + 1) 0 = min 8 (it + 1); rw [e0]; omega, fun z => absurd z (by decide), fun z => by show it + 1 ≤ 8; have := hz z; omega, h6, hp, ?_, h9, fun z => absurd z (by decide)⟩
    show ∀ i, 0 ≤ i → i < v_u (v_u (v_u D (1 + 2 * D 0) x) (2 + 2 * D 0) v2) 0 (D 0 + 1) 0 → (0 ≤ v_u (v_u (v_u D (1 + 2 * D 0) x) (2 + 2 * D 0) v2) 0 (D 0 + 1) (1 + 2 * i) ∧ v_u (v_u (v_u D (1 + 2 * D 0) x) (2 + 2 * D 0) v2) 0 (D 0 + 1) (1 + 2 * i) ≤ 39) ∧ (0 ≤ v_u (v_u (v_u D (1 + 2 * D 0) x) (2 + 2 * D 0) v2) 0 (D 0 + 1) (2 + 2 * i) ∧ v_u (v_u (v_u D (1 + 2 * D 0) x) (2 + 2 * D 0) v2) 0 (D 0 + 1) (2 + 2 * i) ≤ 99)
    intro j j0 j1
    rw [e0] at j1
    have d1 : v_u (v_u (v_u D (1 + 2 * D 0) x) (2 + 2 * D 0) v2) 0 (D 0 + 1) (1 + 2 * j) = if j = D 0 then x else D (1 + 2 * j) := by
      rw [v_u_ne (by omega), v_u_ne (by omega)]
      by_cases u : j = D 0
      · rw [if_pos u, u, v_u_at]
      · rw [if_neg u, v_u_ne (by omega)]
    have d2 : v_u (v_u (v_u D (1 + 2 * D 0) x) (2 + 2 * D 0) v2) 0 (D 0 + 1) (2 + 2 * j) = if j = D 0 then v2 else D (2 + 2 * j) := by
      rw [v_u_ne (by omega)]
      by_cases u : j = D 0
      · rw [if_pos u, u, v_u_at]
      · rw [if_neg u, v_u_ne (by omega), v_u_ne (by omega)]
    rw [d1, d2]
    by_cases u : j = D 0
    · rw [if_pos u, if_pos u]; exact ⟨hx, hv2⟩
    · rw [if_neg u, if_neg u]; exact h8 j j0 (by omega)
  · have e2 : t_D 20 x v2 m D = D := by show (if D 0 < 8 then _ else D) = D; rw [if_neg q]
    rw [e2]
    exact ⟨hf, by show 0 ≤ it + 1 ∧ it + 1 ≤ i'; omega, fun _ => by show D 0 = min 8 (it + 1); omega, fun z => absurd z (by decide), fun z => by show it + 1 ≤ 8; have := hz z; omega, h6, hp, h8, h9, fun z => absurd z (by decide)⟩
