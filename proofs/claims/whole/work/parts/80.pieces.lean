/-! what is rebuilt without some packets: pieces, from which step, how many -/
def v_u (F : Int → Int) (i v : Int) : Int → Int := fun j => if j = i then v else F j
theorem v_u_at {F : Int → Int} {i v : Int} : v_u F i v i = v := if_pos rfl
theorem v_u_ne {F : Int → Int} {i v j : Int} (h : j ≠ i) : v_u F i v j = F j := if_neg h
/-- is it known where the run is; pieces; from; how many -/
abbrev v_T : Type := Int × Int × (Int → Int) × (Int → Int)
def v_n (l : Int → Int) (σ : tp_M) (p : Int) (s : v_T) : v_T :=
  if l p = 1 ∨ σ.1 2 p = 5 then (0, s.2)
  else if σ.1 2 p = 0 ∧ s.1 = 0 then (1, s.2.1 + 1, v_u s.2.2.1 s.2.1 (σ.1 5 p), v_u s.2.2.2 s.2.1 0)
  else if s.1 = 1 then (if σ.1 2 p = 3 ∨ σ.1 2 p = 4 then 0 else 1, s.2.1, s.2.2.1, v_u s.2.2.2 (s.2.1 - 1) (σ.1 6 p - s.2.2.1 (s.2.1 - 1)))
  else s
def v_s (l : Int → Int) (σ : tp_M) : Nat → v_T
  | 0 => (0, 0, fun _ => 0, fun _ => 0)
  | p + 1 => v_n l σ p (v_s l σ p)
def v_S (l : Int → Int) (σ : tp_M) (p : Int) : v_T := v_s l σ p.toNat
theorem v_S_s {l : Int → Int} {σ : tp_M} {p : Int} (h : 0 ≤ p) : v_S l σ (p + 1) = v_n l σ p (v_S l σ p) := by
  unfold v_S
  rw [show (p + 1).toNat = p.toNat + 1 by omega]
  show v_n l σ (p.toNat : Int) (v_s l σ p.toNat) = _
  rw [show ((p.toNat : Nat) : Int) = p by omega]
def v_K (σ : tp_M) (p : Int) : Int := if 1 ≤ p then σ.1 6 (p - 1) else 0
def v_I (σ : tp_M) (p : Int) (s : v_T) : Prop :=
  (s.1 = 0 ∨ s.1 = 1) ∧ (0 ≤ s.2.1 ∧ s.2.1 ≤ p) ∧ (s.1 = 1 → 1 ≤ s.2.1 ∧ s_kn σ p ∧ s.2.2.1 (s.2.1 - 1) + s.2.2.2 (s.2.1 - 1) = σ.1 6 (p - 1)) ∧
  (∀ i, 0 ≤ i → i < s.2.1 → 0 ≤ s.2.2.1 i ∧ 0 ≤ s.2.2.2 i ∧ s.2.2.1 i + s.2.2.2 i ≤ v_K σ p) ∧ (∀ i j, 0 ≤ i → i < j → j < s.2.1 → s.2.2.1 i + s.2.2.2 i ≤ s.2.2.1 j) ∧ q_s s.2.2.2 s.2.1 ≤ v_K σ p
theorem v_K_m {f A B Y : Int → Int} {dp n p : Int} {σ : tp_M} (h0 : 0 ≤ p) (h : s_H f A B Y dp n σ p) : v_K σ p ≤ v_K σ (p + 1) ∧ v_K σ (p + 1) = σ.1 6 p := by
  have e : v_K σ (p + 1) = σ.1 6 p := by unfold v_K; rw [if_pos (by omega), show p + 1 - 1 = p by omega]
  refine ⟨?_, e⟩
  rw [e]
  unfold v_K
  split
  · rename_i q; exact h.2.2.1 q
  · exact h.2.1.1
theorem v_n_l {l : Int → Int} {σ : tp_M} {p : Int} {s : v_T} (h : l p = 1 ∨ σ.1 2 p = 5) : v_n l σ p s = (0, s.2) := if_pos h
theorem v_n_b {l : Int → Int} {σ : tp_M} {p : Int} {s : v_T} (h : ¬ (l p = 1 ∨ σ.1 2 p = 5)) (h2 : σ.1 2 p = 0 ∧ s.1 = 0) : v_n l σ p s = (1, s.2.1 + 1, v_u s.2.2.1 s.2.1 (σ.1 5 p), v_u s.2.2.2 s.2.1 0) := by unfold v_n; rw [if_neg h, if_pos h2]
theorem v_n_t {l : Int → Int} {σ : tp_M} {p : Int} {s : v_T} (h : ¬ (l p = 1 ∨ σ.1 2 p = 5)) (h2 : s.1 = 1) : v_n l σ p s = (if σ.1 2 p = 3 ∨ σ.1 2 p = 4 then 0 else 1, s.2.1, s.2.2.1, v_u s.2.2.2 (s.2.1 - 1) (σ.1 6 p - s.2.2.1 (s.2.1 - 1))) := by unfold v_n; rw [if_neg h, if_neg (fun z => by omega), if_pos h2]
theorem v_n_o {l : Int → Int} {σ : tp_M} {p : Int} {s : v_T} (h : ¬ (l p = 1 ∨ σ.1 2 p = 5)) (h2 : σ.1 2 p ≠ 0) (h3 : s.1 = 0) : v_n l σ p s = s := by unfold v_n; rw [if_neg h, if_neg (fun z => h2 z.1), if_neg (by omega)]
theorem v_I_s {f A B Y : Int → Int} {dp n p : Int} {l : Int → Int} {σ : tp_M} {s : v_T} (h0 : 0 ≤ p) (hH : s_H f A B Y dp n σ p) (h : v_I σ p s) : v_I σ (p + 1) (v_n l σ p s) := by
  obtain ⟨h1, h2, h3, h4, h5, h6⟩ := h
  obtain ⟨k1, k2⟩ := v_K_m h0 hH
  have hk := hH.1
  by_cases q1 : l p = 1 ∨ σ.1 2 p = 5
  · rw [v_n_l q1]
    exact ⟨Or.inl rfl, ⟨h2.1, by show s.2.1 ≤ p + 1; omega⟩, fun z => by have z : (0 : Int) = 1 := z; omega, fun i i0 i1 => by have := h4 i i0 i1; exact ⟨this.1, this.2.1, by show s.2.2.1 i + s.2.2.2 i ≤ _; omega⟩, h5, by show q_s s.2.2.2 s.2.1 ≤ _; omega⟩
  by_cases q2 : σ.1 2 p = 0 ∧ s.1 = 0
  · rw [v_n_b q1 q2]
    have c := hH.2.2.2.2.1 q2.1
    have c6 := c.2.2.1
    have c0 := c.1
    refine ⟨Or.inr rfl, by show 0 ≤ s.2.1 + 1 ∧ s.2.1 + 1 ≤ p + 1; omega, fun _ => ⟨by show 1 ≤ s.2.1 + 1; omega, ⟨by omega, by rw [show p + 1 - 1 = p by omega]; omega⟩, ?_⟩, fun i i0 i1 => ?_, fun i j i0 ij j1 => ?_, ?_⟩
    · show v_u s.2.2.1 s.2.1 (σ.1 5 p) (s.2.1 + 1 - 1) + v_u s.2.2.2 s.2.1 0 (s.2.1 + 1 - 1) = σ.1 6 (p + 1 - 1)
      rw [show s.2.1 + 1 - 1 = s.2.1 by omega, show p + 1 - 1 = p by omega, v_u_at, v_u_at]
      omega
    · have i1 : i < s.2.1 + 1 := i1
      show 0 ≤ v_u s.2.2.1 s.2.1 (σ.1 5 p) i ∧ 0 ≤ v_u s.2.2.2 s.2.1 0 i ∧ v_u s.2.2.1 s.2.1 (σ.1 5 p) i + v_u s.2.2.2 s.2.1 0 i ≤ v_K σ (p + 1)
      by_cases z : i = s.2.1
      · rw [z, v_u_at, v_u_at]; omega
      · rw [v_u_ne z, v_u_ne z]
        have := h4 i i0 (by omega)
        omega
    · have j1 : j < s.2.1 + 1 := j1
      show v_u s.2.2.1 s.2.1 (σ.1 5 p) i + v_u s.2.2.2 s.2.1 0 i ≤ v_u s.2.2.1 s.2.1 (σ.1 5 p) j
      rw [v_u_ne (show i ≠ s.2.1 by omega), v_u_ne (show i ≠ s.2.1 by omega)]
      by_cases z : j = s.2.1
      · rw [z, v_u_at]
        have := h4 i i0 (by omega)
        omega
      · rw [v_u_ne z]; exact h5 i j i0 ij (by omega)
    · show q_s (v_u s.2.2.2 s.2.1 0) (s.2.1 + 1) ≤ v_K σ (p + 1)
      rw [q_s1 h2.1, v_u_at, q_s_c (F := v_u s.2.2.2 s.2.1 0) (F' := s.2.2.2) (fun j j0 j1 => v_u_ne (by omega))]
      omega
  rcases h1 with z1 | z1
  · rw [v_n_o q1 (fun z => q2 ⟨z, z1⟩) z1]
    exact ⟨Or.inl z1, by omega, fun z => by omega, fun i i0 i1 => by have := h4 i i0 i1; omega, h5, by omega⟩
  · rw [v_n_t q1 z1]
    obtain ⟨g1, g2, g3⟩ := h3 z1
    have km := hH.2.2.1 g2.1
    have g4 := h4 (s.2.1 - 1) (by omega) (by omega)
    have vk : v_K σ p = σ.1 6 (p - 1) := if_pos g2.1
    refine ⟨?_, by show 0 ≤ s.2.1 ∧ s.2.1 ≤ p + 1; omega, fun z => ⟨g1, ⟨by omega, ?_⟩, ?_⟩, fun i i0 i1 => ?_, fun i j i0 ij j1 => ?_, ?_⟩
    · show (if σ.1 2 p = 3 ∨ σ.1 2 p = 4 then (0 : Int) else 1) = 0 ∨ (if σ.1 2 p = 3 ∨ σ.1 2 p = 4 then (0 : Int) else 1) = 1
      split
      · exact Or.inl rfl
      · exact Or.inr rfl
    · have z : (if σ.1 2 p = 3 ∨ σ.1 2 p = 4 then (0 : Int) else 1) = 1 := z
      rw [show p + 1 - 1 = p by omega]
      by_cases t : σ.1 2 p = 3 ∨ σ.1 2 p = 4
      · rw [if_pos t] at z; omega
      · omega
    · show s.2.2.1 (s.2.1 - 1) + v_u s.2.2.2 (s.2.1 - 1) (σ.1 6 p - s.2.2.1 (s.2.1 - 1)) (s.2.1 - 1) = σ.1 6 (p + 1 - 1)
      rw [v_u_at, show p + 1 - 1 = p by omega]
      omega
    · have i1 : i < s.2.1 := i1
      show 0 ≤ s.2.2.1 i ∧ 0 ≤ v_u s.2.2.2 (s.2.1 - 1) (σ.1 6 p - s.2.2.1 (s.2.1 - 1)) i ∧ s.2.2.1 i + v_u s.2.2.2 (s.2.1 - 1) (σ.1 6 p - s.2.2.1 (s.2.1 - 1)) i ≤ v_K σ (p + 1)
      by_cases z : i = s.2.1 - 1
      · rw [z, v_u_at]; omega
      · rw [v_u_ne z]
        have := h4 i i0 i1
        omega
    · have j1 : j < s.2.1 := j1
      show s.2.2.1 i + v_u s.2.2.2 (s.2.1 - 1) (σ.1 6 p - s.2.2.1 (s.2.1 - 1)) i ≤ s.2.2.1 j
      rw [v_u_ne (by omega)]
      exact h5 i j i0 ij j1
    · show q_s (v_u s.2.2.2 (s.2.1 - 1) (σ.1 6 p - s.2.2.1 (s.2.1 - 1))) s.2.1 ≤ v_K σ (p + 1)
      rw [q_s_upd (F := s.2.2.2) (F' := v_u s.2.2.2 (s.2.1 - 1) (σ.1 6 p - s.2.2.1 (s.2.1 - 1))) (h := s.2.1 - 1) (fun j _ _ z => v_u_ne z) (by omega) (by omega), v_u_at]
      omega
theorem v_I_all {f A B Y : Int → Int} {dp n : Int} {l : Int → Int} {σ : tp_M} (H : ∀ p, 0 ≤ p → p < σ.1 0 9 → s_H f A B Y dp n σ p) {p : Int} (h0 : 0 ≤ p) (h1 : p ≤ σ.1 0 9) : v_I σ p (v_S l σ p) := by
  have e : ∀ m : Nat, (m : Int) ≤ σ.1 0 9 → v_I σ m (v_s l σ m) := by
    intro m
    induction m with
    | zero => intro _; exact ⟨Or.inl rfl, ⟨Int.le_refl 0, Int.le_refl 0⟩, fun z => by have z : (0 : Int) = 1 := z; omega, fun i i0 i1 => by have i1 : i < 0 := i1; omega, fun i j i0 ij j1 => by have j1 : j < 0 := j1; omega, Int.le_refl 0⟩
    | succ m ih =>
      intro hm
      have s := v_I_s (l := l) (by omega) (H m (by omega) (by omega)) (ih (by omega))
      rw [show ((m + 1 : Nat) : Int) = (m : Int) + 1 by omega]
      exact s
  have := e p.toNat (by omega)
  rw [show ((p.toNat : Nat) : Int) = p by omega] at this
  exact this
/-- what comes of a packet depends on it and on those ahead alone -/
theorem v_s_c {l l' : Int → Int} {σ : tp_M} : ∀ p : Nat, (∀ i, 0 ≤ i → i < (p : Int) → l i = l' i) → v_s l σ p = v_s l' σ p := by
  intro p
  induction p with
  | zero => intro _; rfl
  | succ p ih =>
    intro h
    show v_n l σ p (v_s l σ p) = v_n l' σ p (v_s l' σ p)
    rw [ih (fun i i0 i1 => h i i0 (by omega))]
    unfold v_n
    rw [h p (by omega) (by omega)]
theorem v_S_c {l l' : Int → Int} {σ : tp_M} {p : Int} (h : ∀ i, 0 ≤ i → i < p → l i = l' i) : v_S l σ p = v_S l' σ p := v_s_c p.toNat (fun i i0 i1 => h i i0 (by omega))
