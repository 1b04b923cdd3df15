/-! what is rebuilt as one rising row of steps -/
/-- J is the row of the steps that the pieces s have, of n steps -/
def v_J (s : v_T) (n : Int) (J : Int → Int) : Prop :=
  (∀ i t, 0 ≤ i → i < s.2.1 → 0 ≤ t → t < s.2.2.2 i → J (q_s s.2.2.2 i + t) = s.2.2.1 i + t) ∧
  (∀ j, 0 ≤ j → j < q_s s.2.2.2 s.2.1 → ∃ i t, (0 ≤ i ∧ i < s.2.1) ∧ (0 ≤ t ∧ t < s.2.2.2 i) ∧ j = q_s s.2.2.2 i + t ∧ J j = s.2.2.1 i + t) ∧
  (∀ j j', 0 ≤ j → j < j' → j' < q_s s.2.2.2 s.2.1 → J j < J j') ∧ (∀ j, 0 ≤ j → j < q_s s.2.2.2 s.2.1 → 0 ≤ J j ∧ J j < n) ∧ (0 ≤ q_s s.2.2.2 s.2.1 ∧ q_s s.2.2.2 s.2.1 ≤ n) ∧ 0 ≤ s.2.1 ∧ ∀ i, 0 ≤ i → i < s.2.1 → 0 ≤ s.2.2.1 i ∧ 0 ≤ s.2.2.2 i ∧ s.2.2.1 i + s.2.2.2 i ≤ n
theorem v_J_e {F M : Int → Int} : ∀ p : Nat, (∀ i, 0 ≤ i → i < (p : Int) → 0 ≤ M i) → ∃ J : Int → Int, (∀ i t, 0 ≤ i → i < (p : Int) → 0 ≤ t → t < M i → J (q_s M i + t) = F i + t) ∧ ∀ j, 0 ≤ j → j < q_s M p → ∃ i t, (0 ≤ i ∧ i < (p : Int)) ∧ (0 ≤ t ∧ t < M i) ∧ j = q_s M i + t ∧ J j = F i + t := by
  intro p
  induction p with
  | zero => intro _; exact ⟨fun _ => 0, fun i t i0 i1 => by omega, fun j j0 j1 => by have j1 : j < 0 := j1; omega⟩
  | succ p ih =>
    intro h
    obtain ⟨J, h1, h2⟩ := ih (fun i i0 i1 => h i i0 (by omega))
    have hp := h p (by omega) (by omega)
    have es : q_s M ((p + 1 : Nat) : Int) = q_s M p + M p := by rw [show ((p + 1 : Nat) : Int) = (p : Int) + 1 by omega]; exact q_s1 (by omega)
    refine ⟨fun j => if j < q_s M p then J j else F p + (j - q_s M p), fun i t i0 i1 t0 t1 => ?_, fun j j0 j1 => ?_⟩
    · show (if q_s M i + t < q_s M p then J (q_s M i + t) else F p + (q_s M i + t - q_s M p)) = F i + t
      rcases (show i < (p : Int) ∨ i = (p : Int) by omega) with q | q
      · have m := q_s_mono2 (C := M) (m := i + 1) (n := p) (by omega) (by omega) (fun a a0 a1 => h a a0 (by omega))
        have e := q_s1 (F := M) (k := i) i0
        rw [if_pos (by omega)]
        exact h1 i t i0 q t0 t1
      · rw [q, if_neg (by omega)]; omega
    · rw [es] at j1
      by_cases q : j < q_s M p
      · obtain ⟨i, t, a, b, c, d⟩ := h2 j j0 q
        exact ⟨i, t, ⟨a.1, by omega⟩, b, c, by show (if j < q_s M p then J j else _) = _; rw [if_pos q]; exact d⟩
      · exact ⟨p, j - q_s M p, ⟨by omega, by omega⟩, ⟨by omega, by omega⟩, by omega, by show (if j < q_s M p then J j else F p + (j - q_s M p)) = _; rw [if_neg q]⟩
theorem v_J_ex {σ : tp_M} {n p : Int} {s : v_T} (h : v_I σ p s) (hk : v_K σ p ≤ n) : ∃ J, v_J s n J := by
  obtain ⟨h1, h2, h3, h4, h5, h6⟩ := h
  have hpos : ∀ i, 0 ≤ i → i < s.2.1 → 0 ≤ s.2.2.2 i := fun i i0 i1 => (h4 i i0 i1).2.1
  obtain ⟨J, g1, g2⟩ := v_J_e (F := s.2.2.1) (M := s.2.2.2) s.2.1.toNat (fun i i0 i1 => hpos i i0 (by omega))
  rw [show ((s.2.1.toNat : Nat) : Int) = s.2.1 by omega] at g1 g2
  have hq0 := q_s_nn (C := s.2.2.2) (n := s.2.1) hpos
  refine ⟨J, g1, g2, fun j j' j0 jj j1 => ?_, fun j j0 j1 => ?_, ⟨hq0, by omega⟩, h2.1, fun i i0 i1 => ?_⟩
  · obtain ⟨i, t, a, b, c, d⟩ := g2 j j0 (by omega)
    obtain ⟨i', t', a', b', c', d'⟩ := g2 j' (by omega) j1
    rw [d, d']
    rcases Int.lt_trichotomy i i' with q | q | q
    · have := h5 i i' a.1 q a'.2; omega
    · subst q; omega
    · have m := q_s_mono2 (C := s.2.2.2) (m := i' + 1) (n := i) (by omega) (by omega) (fun a9 z0 z1 => hpos a9 z0 (by omega))
      have e := q_s1 (F := s.2.2.2) (k := i') a'.1
      omega
  · obtain ⟨i, t, a, b, c, d⟩ := g2 j j0 j1
    have := h4 i a.1 a.2
    omega
  · have := h4 i i0 i1; omega
/-- the class's pieces by that row -/
theorem p_M_J {A J : Int → Int} {s : v_T} {n : Int} {μ : tp_M} (h : p_M A s μ) (hJ : v_J s n J) : ∀ j, 0 ≤ j → j < q_s s.2.2.2 s.2.1 → μ.1 77 j = A (J j) := fun j j0 j1 => by
  obtain ⟨i, t, a, b, c, d⟩ := hJ.2.1 j j0 j1
  rw [d, c]
  exact h.2.2.2 i a.1 a.2 t b.1 b.2
/-- without a loss all is rebuilt that the packets tell -/
theorem v_U {f A B Y : Int → Int} {dp n : Int} {l : Int → Int} {σ : tp_M} (H : ∀ p, 0 ≤ p → p < σ.1 0 9 → s_H f A B Y dp n σ p) (hl : ∀ i, 0 ≤ i → i < σ.1 0 9 → l i = 0) : ∀ p : Nat, (p : Int) ≤ σ.1 0 9 → ((v_S l σ p).1 = 1 ↔ s_kn σ p) ∧ q_s (v_S l σ p).2.2.2 (v_S l σ p).2.1 = w_U σ p ∧ ∀ X : Int → Int, (∀ q, 0 ≤ q → q < (p : Int) → ∀ i, w_U σ q ≤ i → i < w_U σ (q + 1) → X i = σ.1 6 (q - 1) + (i - w_U σ q)) → ∀ i, 0 ≤ i → i < (v_S l σ p).2.1 → ∀ t, 0 ≤ t → t < (v_S l σ p).2.2.2 i → X (q_s (v_S l σ p).2.2.2 i + t) = (v_S l σ p).2.2.1 i + t := by
  intro p
  induction p with
  | zero =>
    intro _
    refine ⟨⟨fun z => ?_, fun z => ?_⟩, rfl, fun X hX i i0 i1 => ?_⟩
    · have z : (0 : Int) = 1 := z
      omega
    · have := z.1; omega
    · have i1 : i < 0 := i1
      omega
  | succ p ih =>
    intro hp
    obtain ⟨h1, h2, h3⟩ := ih (by omega)
    have hI := v_I_all (l := l) H (p := p) (by omega) (by omega)
    have hH := H p (by omega) (by omega)
    have hlp := hl p (by omega) (by omega)
    have hs := v_S_s (l := l) (σ := σ) (p := p) (by omega)
    have hU := w_U_s (σ := σ) (k := p) (by omega)
    rw [show ((p + 1 : Nat) : Int) = (p : Int) + 1 by omega]
    rw [hs]
    generalize hv : v_S l σ (p : Int) = s at *
    obtain ⟨i1, i2, i3, i4, i5, i6⟩ := hI
    have hkd := hH.1
    have e1 : (p : Int) + 1 - 1 = p := by omega
    have kn1 : s_kn σ ((p : Int) + 1) ↔ σ.1 2 p ≤ 2 := ⟨fun z => by have := z.2; rw [e1] at this; exact this, fun z => ⟨by omega, by rw [e1]; exact z⟩⟩
    rw [kn1]
    by_cases q5 : σ.1 2 (p : Int) = 5
    · rw [v_n_l (Or.inr q5)]
      refine ⟨⟨fun z => ?_, fun z => ?_⟩, ?_, fun X hX i i0 i1' t t0 t1 => ?_⟩
      · have z : (0 : Int) = 1 := z
        omega
      · omega
      · show q_s s.2.2.2 s.2.1 = _
        rw [hU, w_d_n (Or.inr q5), h2]; omega
      · exact h3 X (fun q q0 q1 => hX q q0 (by omega)) i i0 i1' t t0 t1
    by_cases qb : σ.1 2 (p : Int) = 0 ∧ s.1 = 0
    · rw [v_n_b (by omega) qb]
      have nk : ¬ s_kn σ p := fun z => by have := h1.2 z; omega
      have ec : ∀ i, i ≤ s.2.1 → q_s (v_u s.2.2.2 s.2.1 0) i = q_s s.2.2.2 i := fun i hi => q_s_c (fun j j0 j1 => v_u_ne (by omega))
      refine ⟨⟨fun _ => by omega, fun _ => rfl⟩, ?_, fun X hX i i0 i1' t t0 t1 => ?_⟩
      · show q_s (v_u s.2.2.2 s.2.1 0) (s.2.1 + 1) = _
        rw [q_s1 i2.1, v_u_at, ec _ (Int.le_refl _), hU, w_d_n (Or.inl nk), h2]
      · have i1' : i < s.2.1 + 1 := i1'
        have t1 : t < v_u s.2.2.2 s.2.1 0 i := t1
        show X (q_s (v_u s.2.2.2 s.2.1 0) i + t) = v_u s.2.2.1 s.2.1 (σ.1 5 p) i + t
        by_cases z : i = s.2.1
        · rw [z, v_u_at] at t1; omega
        · rw [v_u_ne z] at t1 ⊢
          rw [ec i (by omega)]
          exact h3 X (fun q q0 q1 => hX q q0 (by omega)) i i0 (by omega) t t0 t1
    have hk : s_kn σ p := by
      rcases (show σ.1 2 (p : Int) = 0 ∨ σ.1 2 (p : Int) = 1 ∨ σ.1 2 (p : Int) = 2 ∨ σ.1 2 (p : Int) = 3 ∨ σ.1 2 (p : Int) = 4 by omega) with z | z | z | z | z
      · rcases i1 with z2 | z2
        · exact absurd ⟨z, z2⟩ qb
        · exact h1.1 z2
      · exact (hH.2.2.2.2.2.1 z).1
      · exact (hH.2.2.2.2.2.2.1 z).1
      · exact (hH.2.2.2.2.2.2.2.1 (Or.inl z)).1
      · exact (hH.2.2.2.2.2.2.2.1 (Or.inr z)).1
    have z1 := h1.2 hk
    obtain ⟨g1, g2, g3⟩ := i3 z1
    have hpos : ∀ i, 0 ≤ i → i < s.2.1 → 0 ≤ s.2.2.2 i := fun i a b => (i4 i a b).2.1
    have km := hH.2.2.1 hk.1
    rw [v_n_t (by omega) z1]
    have ec : ∀ i, i ≤ s.2.1 - 1 → q_s (v_u s.2.2.2 (s.2.1 - 1) (σ.1 6 p - s.2.2.1 (s.2.1 - 1))) i = q_s s.2.2.2 i := fun i hi => q_s_c (fun j j0 j1 => v_u_ne (by omega))
    have el := q_s1 (F := s.2.2.2) (k := s.2.1 - 1) (by omega)
    rw [show s.2.1 - 1 + 1 = s.2.1 by omega] at el
    refine ⟨⟨fun z => ?_, fun z => ?_⟩, ?_, fun X hX i i0 i1' t t0 t1 => ?_⟩
    · have z : (if σ.1 2 (p : Int) = 3 ∨ σ.1 2 (p : Int) = 4 then (0 : Int) else 1) = 1 := z
      by_cases u : σ.1 2 (p : Int) = 3 ∨ σ.1 2 (p : Int) = 4
      · rw [if_pos u] at z; omega
      · omega
    · show (if σ.1 2 (p : Int) = 3 ∨ σ.1 2 (p : Int) = 4 then (0 : Int) else 1) = 1
      rw [if_neg (by omega)]
    · show q_s (v_u s.2.2.2 (s.2.1 - 1) (σ.1 6 p - s.2.2.1 (s.2.1 - 1))) s.2.1 = _
      rw [q_s_upd (F := s.2.2.2) (F' := v_u s.2.2.2 (s.2.1 - 1) (σ.1 6 p - s.2.2.1 (s.2.1 - 1))) (h := s.2.1 - 1) (fun j _ _ z => v_u_ne z) (by omega) (by omega), v_u_at, hU, w_d_y hk q5, h2]
      omega
    · have i1' : i < s.2.1 := i1'
      have t1 : t < v_u s.2.2.2 (s.2.1 - 1) (σ.1 6 p - s.2.2.1 (s.2.1 - 1)) i := t1
      show X (q_s (v_u s.2.2.2 (s.2.1 - 1) (σ.1 6 p - s.2.2.1 (s.2.1 - 1))) i + t) = s.2.2.1 i + t
      rw [ec i (by omega)]
      by_cases z : i = s.2.1 - 1
      · rw [z, v_u_at] at t1
        by_cases u : t < s.2.2.2 (s.2.1 - 1)
        · rw [z]
          exact h3 X (fun q q0 q1 => hX q q0 (by omega)) (s.2.1 - 1) (by omega) (by omega) t t0 u
        · have hw := w_d_y hk q5
          rw [z, hX p (by omega) (by omega) (q_s s.2.2.2 (s.2.1 - 1) + t) (by omega) (by omega)]
          omega
      · rw [v_u_ne z] at t1
        exact h3 X (fun q q0 q1 => hX q q0 (by omega)) i i0 i1' t t0 t1
/-- the steps of a row, marked -/
def q_IM (J : Int → Int) : Nat → Int → Int
  | 0, _ => 0
  | m + 1, k => if J m = k then 1 else q_IM J m k
def q_im (J : Int → Int) (m k : Int) : Int := q_IM J m.toNat k
theorem q_im_0 {J : Int → Int} {k : Int} : q_im J 0 k = 0 := rfl
theorem q_im_s {J : Int → Int} {m k : Int} (h : 0 ≤ m) : q_im J (m + 1) k = if J m = k then 1 else q_im J m k := by
  unfold q_im
  rw [show (m + 1).toNat = m.toNat + 1 by omega]
  show (if J (m.toNat : Int) = k then (1 : Int) else q_IM J m.toNat k) = _
  rw [show ((m.toNat : Nat) : Int) = m by omega]
theorem q_im_b (J : Int → Int) (m k : Int) : q_im J m k = 0 ∨ q_im J m k = 1 := by
  unfold q_im
  generalize m.toNat = x
  induction x with
  | zero => exact Or.inl rfl
  | succ x ih =>
    show (if J x = k then (1 : Int) else q_IM J x k) = 0 ∨ (if J x = k then (1 : Int) else q_IM J x k) = 1
    split
    · exact Or.inr rfl
    · exact ih
theorem q_im_i {J : Int → Int} {m k : Int} (hm : 0 ≤ m) : q_im J m k = 1 ↔ ∃ j, 0 ≤ j ∧ j < m ∧ J j = k := by
  have e : ∀ x : Nat, q_IM J x k = 1 ↔ ∃ j, 0 ≤ j ∧ j < (x : Int) ∧ J j = k := by
    intro x
    induction x with
    | zero => exact ⟨fun z => by have z : (0 : Int) = 1 := z; omega, fun ⟨j, a, b, _⟩ => by omega⟩
    | succ x ih =>
      show (if J x = k then (1 : Int) else q_IM J x k) = 1 ↔ _
      by_cases q : J x = k
      · rw [if_pos q]; exact ⟨fun _ => ⟨x, by omega, by omega, q⟩, fun _ => rfl⟩
      · rw [if_neg q, ih]
        constructor
        · rintro ⟨j, a, b, c⟩; exact ⟨j, a, by omega, c⟩
        · rintro ⟨j, a, b, c⟩
          refine ⟨j, a, ?_, c⟩
          rcases (show j < (x : Int) ∨ j = (x : Int) by omega) with u | u
          · exact u
          · rw [u] at c; exact absurd c q
  have := e m.toNat
  rw [show ((m.toNat : Nat) : Int) = m by omega] at this
  exact this
/-- how often an address is rebuilt -/
def q_ra (A J : Int → Int) (m a k : Int) : Int := if A k = a ∧ q_im J m k = 1 then 1 else 0
theorem q_ra_b (A J : Int → Int) (m a k : Int) : 0 ≤ q_ra A J m a k ∧ q_ra A J m a k ≤ 1 := by unfold q_ra; split <;> omega
theorem q_ra_s {A J : Int → Int} {n a : Int} : ∀ m : Nat, (∀ j j', 0 ≤ j → j < j' → j' < (m : Int) → J j < J j') → (∀ j, 0 ≤ j → j < (m : Int) → 0 ≤ J j ∧ J j < n) → q_s (fun j => q_is (fun i => A (J i)) a j) m = q_s (q_ra A J m a) n := by
  intro m
  induction m with
  | zero =>
    intro _ _
    show (0 : Int) = _
    rw [q_s_z (fun j _ _ => ?_)]
    unfold q_ra
    rw [if_neg (fun z => ?_)]
    have := z.2
    rw [show ((0 : Nat) : Int) = 0 from rfl, q_im_0] at this
    omega
  | succ m ih =>
    intro h1 h2
    have i := ih (fun j j' a b c => h1 j j' a b (by omega)) (fun j a b => h2 j a (by omega))
    have hm := h2 m (by omega) (by omega)
    rw [show ((m + 1 : Nat) : Int) = (m : Int) + 1 by omega, q_s1 (by omega), i]
    have nz : q_im J m (J m) ≠ 1 := fun z => by
      obtain ⟨j, a, b, c⟩ := (q_im_i (by omega)).1 z
      have := h1 j m a b (by omega)
      omega
    have e := q_s_upd (F := q_ra A J m a) (F' := q_ra A J ((m : Int) + 1) a) (h := J m) (n := n) (fun j _ _ z => by
      have ee : q_im J ((m : Int) + 1) j = q_im J m j := by rw [q_im_s (by omega), if_neg (fun u => z u.symm)]
      unfold q_ra
      rw [ee]) hm.1 hm.2
    rw [e]
    have e0 : q_ra A J m a (J m) = 0 := if_neg (fun z => nz z.2)
    have e1 : q_ra A J ((m : Int) + 1) a (J m) = q_is (fun i => A (J i)) a m := by
      have e2 : q_im J ((m : Int) + 1) (J m) = 1 := by rw [q_im_s (by omega), if_pos rfl]
      unfold q_ra q_is
      rw [e2]
      by_cases u : A (J m) = a
      · rw [if_pos ⟨u, rfl⟩, if_pos u]
      · rw [if_neg (fun z => u z.1), if_neg u]
    rw [e0, e1]
    omega
theorem q_ra_e {A J : Int → Int} {n m a : Int} (h0 : 0 ≤ m) (h1 : ∀ j j', 0 ≤ j → j < j' → j' < m → J j < J j') (h2 : ∀ j, 0 ≤ j → j < m → 0 ≤ J j ∧ J j < n) : q_s (fun j => q_is (fun i => A (J i)) a j) m = q_s (q_ra A J m a) n := by
  have e := q_ra_s (A := A) (J := J) (n := n) (a := a) m.toNat (fun j j' x y z => h1 j j' x y (by omega)) (fun j x y => h2 j x (by omega))
  rw [show ((m.toNat : Nat) : Int) = m by omega] at e
  exact e
