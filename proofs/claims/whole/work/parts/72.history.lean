/-! the packets that were put: what each tells, by the steps of the run -/
def s_sy (σ : tp_M) : Nat → Int
  | 0 => σ.1 5 0
  | p + 1 => if σ.1 2 ((p + 1 : Nat) : Int) = 0 then σ.1 5 ((p + 1 : Nat) : Int) else s_sy σ p
/-- the step of the last sync up to a packet -/
def s_s (σ : tp_M) (p : Int) : Int := s_sy σ p.toNat
theorem s_s_0 {σ : tp_M} {p : Int} (h0 : 0 ≤ p) (h : σ.1 2 p = 0) : s_s σ p = σ.1 5 p := by
  obtain ⟨p, rfl⟩ : ∃ a : Nat, p = (a : Int) := ⟨p.toNat, by omega⟩
  cases p with
  | zero => rfl
  | succ p => exact if_pos h
theorem s_s_n {σ : tp_M} {p : Int} (h0 : 1 ≤ p) (h : σ.1 2 p ≠ 0) : s_s σ p = s_s σ (p - 1) := by
  obtain ⟨p, rfl⟩ : ∃ a : Nat, p = ((a + 1 : Nat) : Int) := ⟨(p - 1).toNat, by omega⟩
  unfold s_s
  rw [show (((p + 1 : Nat) : Int) - 1).toNat = p by omega, Int.toNat_natCast]
  exact if_neg h
theorem s_sy_c {σ σ' : tp_M} : ∀ p : Nat, (∀ i, 0 ≤ i → i ≤ (p : Int) → σ'.1 2 i = σ.1 2 i ∧ σ'.1 5 i = σ.1 5 i) → s_sy σ' p = s_sy σ p := by
  intro p
  induction p with
  | zero => intro h; exact (h 0 (by omega) (by omega)).2
  | succ p ih =>
    intro h
    unfold s_sy
    rw [(h ((p + 1 : Nat) : Int) (by omega) (by omega)).1, (h ((p + 1 : Nat) : Int) (by omega) (by omega)).2, ih (fun i i0 i1 => h i i0 (by omega))]
theorem s_s_c {σ σ' : tp_M} {p : Int} (h0 : 0 ≤ p) (h : ∀ i, 0 ≤ i → i ≤ p → σ'.1 2 i = σ.1 2 i ∧ σ'.1 5 i = σ.1 5 i) : s_s σ' p = s_s σ p := s_sy_c p.toNat (fun i i0 i1 => h i i0 (by omega))
def s_y (f A Y : Int → Int) (j : Int) : Int := if f (9 + A j) = 1 then Y j else 1
/-- the bits M tell the events from a to b -/
def s_bt (f A B Y : Int → Int) (dp M s a b : Int) : Prop := ∀ j, a ≤ j → j < b → s_ev f A B dp s j = 1 → tp_and (tp_ishr M (s_n f A B dp s j - s_n f A B dp s a)) 1 = s_y f A Y j
def s_go (f A B : Int → Int) (dp s j : Int) : Prop := B j ≠ -1 ∧ (f (9 + A j) = 5 ∨ (f (9 + A j) = 4 ∧ s_top (s_S f A B dp s j) ≠ B j))
/-- ahead of packet p it is known where the run is -/
def s_kn (σ : tp_M) (p : Int) : Prop := 1 ≤ p ∧ σ.1 2 (p - 1) ≤ 2
def s_H (f A B Y : Int → Int) (dp n : Int) (σ : tp_M) (p : Int) : Prop :=
  (0 ≤ σ.1 2 p ∧ σ.1 2 p ≤ 5) ∧ (0 ≤ σ.1 6 p ∧ σ.1 6 p ≤ n) ∧ (1 ≤ p → σ.1 6 (p - 1) ≤ σ.1 6 p) ∧ (σ.1 2 p ≤ 4 → 0 ≤ s_s σ p ∧ s_s σ p ≤ σ.1 6 p) ∧
  (σ.1 2 p = 0 → (0 ≤ σ.1 5 p ∧ σ.1 5 p < n) ∧ σ.1 3 p = A (σ.1 5 p) ∧ σ.1 6 p = σ.1 5 p ∧ (s_kn σ p → σ.1 4 p = σ.1 5 p - s_s σ (p - 1) ∧ ∀ j, σ.1 6 (p - 1) ≤ j → j < σ.1 5 p → s_st f A B j) ∧ (¬ s_kn σ p → σ.1 4 p = 0)) ∧
  (σ.1 2 p = 1 → s_kn σ p ∧ σ.1 6 (p - 1) < σ.1 6 p ∧ s_ev f A B dp (s_s σ p) (σ.1 6 p - 1) = 1 ∧ (∀ j, σ.1 6 (p - 1) ≤ j → j < σ.1 6 p → s_ev f A B dp (s_s σ p) j = 1 ∨ s_st f A B j) ∧ σ.1 4 p = s_n f A B dp (s_s σ p) (σ.1 6 p) - s_n f A B dp (s_s σ p) (σ.1 6 (p - 1)) ∧ s_bt f A B Y dp (σ.1 3 p) (s_s σ p) (σ.1 6 (p - 1)) (σ.1 6 p)) ∧
  (σ.1 2 p = 2 → s_kn σ p ∧ σ.1 6 p = σ.1 5 p + 1 ∧ σ.1 6 (p - 1) ≤ σ.1 5 p ∧ (∀ j, σ.1 6 (p - 1) ≤ j → j < σ.1 5 p → s_st f A B j) ∧ s_go f A B dp (s_s σ p) (σ.1 5 p) ∧ σ.1 3 p = B (σ.1 5 p)) ∧
  (σ.1 2 p = 3 ∨ σ.1 2 p = 4 → s_kn σ p ∧ σ.1 6 p = σ.1 5 p ∧ σ.1 3 p = σ.1 5 p - s_s σ p ∧ ∀ j, σ.1 6 (p - 1) ≤ j → j < σ.1 5 p → s_st f A B j) ∧
  (σ.1 2 p = 5 → σ.1 3 p = 0)
theorem s_H_c {f A B Y : Int → Int} {dp n p : Int} {σ σ' : tp_M} (h0 : 0 ≤ p) (hc : ∀ c : Nat, 2 ≤ c → c ≤ 6 → ∀ i, 0 ≤ i → i ≤ p → σ'.1 c i = σ.1 c i) (h : s_H f A B Y dp n σ p) : s_H f A B Y dp n σ' p := by
  have e : s_s σ' p = s_s σ p := s_s_c h0 (fun i i0 i1 => ⟨hc 2 (by omega) (by omega) i i0 i1, hc 5 (by omega) (by omega) i i0 i1⟩)
  have e2 := hc 2 (by omega) (by omega) p h0 (Int.le_refl _)
  have e3 := hc 3 (by omega) (by omega) p h0 (Int.le_refl _)
  have e4 := hc 4 (by omega) (by omega) p h0 (Int.le_refl _)
  have e5 := hc 5 (by omega) (by omega) p h0 (Int.le_refl _)
  have e6 := hc 6 (by omega) (by omega) p h0 (Int.le_refl _)
  by_cases q : 1 ≤ p
  · have g : s_s σ' (p - 1) = s_s σ (p - 1) := s_s_c (by omega) (fun i i0 i1 => ⟨hc 2 (by omega) (by omega) i i0 (by omega), hc 5 (by omega) (by omega) i i0 (by omega)⟩)
    have g2 := hc 2 (by omega) (by omega) (p - 1) (by omega) (by omega)
    have g6 := hc 6 (by omega) (by omega) (p - 1) (by omega) (by omega)
    unfold s_H s_kn
    rw [e, e2, e3, e4, e5, e6, g, g2, g6]
    exact h
  · obtain ⟨h1, h2, h3, h4, h5, h6, h7, h8, h9⟩ := h
    have nk : ¬ s_kn σ p := fun z => q z.1
    have nk' : ¬ s_kn σ' p := fun z => q z.1
    refine ⟨by rw [e2]; exact h1, by rw [e6]; exact h2, fun z => absurd z q, by rw [e, e2, e6]; exact h4, fun z => ?_, fun z => absurd (h6 (by rw [← e2]; exact z)).1 nk, fun z => absurd (h7 (by rw [← e2]; exact z)).1 nk, fun z => absurd (h8 (by rw [← e2]; exact z)).1 nk, by rw [e2, e3]; exact h9⟩
    have a := h5 (by rw [← e2]; exact z)
    exact ⟨by rw [e5]; exact a.1, by rw [e3, e5]; exact a.2.1, by rw [e6, e5]; exact a.2.2.1, fun t => absurd t nk', fun _ => by rw [e4]; exact a.2.2.2.2 nk⟩
/-- the state of the encoding ahead of step k, with as many counted as if c steps were through -/
def s_D1 (f A B Y : Int → Int) (dp k c : Int) (G : Int → s_X) (σ : tp_M) (S K : Int) : Prop :=
  σ.1 0 4 = c - S ∧ (0 ≤ S ∧ S ≤ K) ∧ s_eq (e_X σ) (G S) ∧ (∀ j, K ≤ j → j < k → s_ev f A B dp S j = 1 ∨ s_st f A B j) ∧ σ.1 0 2 = s_n f A B dp S k - s_n f A B dp S K ∧ (0 ≤ σ.1 0 1 ∧ σ.1 0 1 < 2 ^ (σ.1 0 2).toNat) ∧ s_bt f A B Y dp (σ.1 0 1) S K k ∧ (σ.1 0 2 ≠ 0 → K < σ.1 0 11 ∧ σ.1 0 11 ≤ k ∧ s_ev f A B dp S (σ.1 0 11 - 1) = 1 ∧ ∀ j, σ.1 0 11 ≤ j → j < k → s_st f A B j)
def s_D (f A B Y : Int → Int) (dp n k c : Int) (G : Int → s_X) (σ : tp_M) : Prop :=
  (∀ p, 0 ≤ p → p < σ.1 0 9 → s_H f A B Y dp n σ p) ∧ (1 ≤ σ.1 0 9 → σ.1 6 (σ.1 0 9 - 1) ≤ k) ∧ (σ.1 0 5 = 0 → σ.1 0 2 = 0 ∧ σ.1 0 1 = 0) ∧ (σ.1 0 5 = 0 → σ.1 0 6 = 0 → 1 ≤ σ.1 0 9 → 2 < σ.1 2 (σ.1 0 9 - 1)) ∧
  (σ.1 0 5 = 1 → (1 ≤ σ.1 0 9 ∧ σ.1 2 (σ.1 0 9 - 1) ≤ 2) ∧ s_D1 f A B Y dp k c G σ (s_s σ (σ.1 0 9 - 1)) (σ.1 6 (σ.1 0 9 - 1)))
theorem H_fr {f A B Y : Int → Int} {dp n : Int} {σ σ' : tp_M} (hr : ∀ c : Nat, 2 ≤ c → c ≤ 6 → σ'.1 c = σ.1 c) {p : Int} (p0 : 0 ≤ p) (h : s_H f A B Y dp n σ p) : s_H f A B Y dp n σ' p := s_H_c p0 (fun c c2 c6 i _ _ => by rw [hr c c2 c6]) h
theorem s_s_fr {σ σ' : tp_M} (hr : ∀ c : Nat, 2 ≤ c → c ≤ 6 → σ'.1 c = σ.1 c) {p : Int} (p0 : 0 ≤ p) : s_s σ' p = s_s σ p := s_s_c p0 (fun i _ _ => by rw [hr 2 (by omega) (by omega), hr 5 (by omega) (by omega)]; exact ⟨rfl, rfl⟩)
theorem D_fr {f A B Y : Int → Int} {dp n k c : Int} {G : Int → s_X} {σ σ' : tp_M} (hr : ∀ c : Nat, 2 ≤ c → c ≤ 6 → σ'.1 c = σ.1 c) (h9 : σ'.1 0 9 = σ.1 0 9) (h5 : σ'.1 0 5 = σ.1 0 5) (h6 : σ'.1 0 6 = σ.1 0 6) (h2 : σ'.1 0 2 = σ.1 0 2) (h1 : σ'.1 0 1 = σ.1 0 1) (h4 : σ'.1 0 4 = σ.1 0 4) (h11 : σ'.1 0 11 = σ.1 0 11) (hx : e_X σ' = e_X σ) (h : s_D f A B Y dp n k c G σ) : s_D f A B Y dp n k c G σ' := by
  obtain ⟨a1, a2, a3, a4, a5⟩ := h
  refine ⟨fun p p0 p1 => H_fr hr p0 (a1 p p0 (by rw [← h9]; exact p1)), fun z => ?_, fun z => ?_, fun z z2 z3 => ?_, fun z => ?_⟩
  · rw [h9] at z ⊢; rw [hr 6 (by omega) (by omega)]; exact a2 z
  · rw [h2, h1]; exact a3 (by rw [← h5]; exact z)
  · rw [h9] at z3 ⊢; rw [hr 2 (by omega) (by omega)]; exact a4 (by rw [← h5]; exact z) (by rw [← h6]; exact z2) z3
  · have b := a5 (by rw [← h5]; exact z)
    rw [h9, hr 2 (by omega) (by omega), hr 6 (by omega) (by omega), s_s_fr hr (by omega)]
    refine ⟨b.1, ?_⟩
    unfold s_D1
    rw [h4, h2, h1, h11, hx]
    exact b.2
/-- what was dropped leaves the packets as they are -/
theorem D_drop {f A B Y : Int → Int} {dp n k c : Int} {G : Int → s_X} {σ : tp_M} (h : s_D f A B Y dp n k c G σ) : s_D f A B Y dp n k c G (e_drop σ) := by
  have hr : ∀ c : Nat, 2 ≤ c → c ≤ 6 → (e_drop σ).1 c = σ.1 c := fun c c2 _ => by unfold e_drop; rw [tp_pi_ne (by omega), tp_pi_ne (by omega), tp_pi_ne (by omega), tp_pi_ne (by omega), tp_pi_ne (by omega)]
  refine ⟨fun p p0 p1 => H_fr hr p0 (h.1 p p0 p1), fun z => ?_, fun _ => ⟨rfl, rfl⟩, fun _ z => by have z : (1 : Int) = 0 := z; omega, fun z => by have z : (0 : Int) = 1 := z; omega⟩
  rw [hr 6 (by omega) (by omega)]
  exact h.2.1 z
theorem s_H_add {f A B Y : Int → Int} {dp n p kd v x b t kn : Int} {σ : tp_M} (h0 : 0 ≤ p) (h1 : p < σ.1 0 9) (h : s_H f A B Y dp n σ p) : s_H f A B Y dp n (e_add kd v x b t kn σ) p := s_H_c h0 (fun c c2 c6 i i0 i1 => e_add_ne (by omega) c (by omega)) h
theorem s_s_add {p kd v x b t kn : Int} {σ : tp_M} (h0 : 0 ≤ p) (h1 : p < σ.1 0 9) : s_s (e_add kd v x b t kn σ) p = s_s σ p := s_s_c h0 (fun i i0 i1 => ⟨e_add_ne (by omega) 2 (by omega), e_add_ne (by omega) 5 (by omega)⟩)
/-- if no bit waits, all that is not told yet is straight -/
theorem D1_st {f A B Y : Int → Int} {dp k c S K : Int} {G : Int → s_X} {σ : tp_M} (h : s_D1 f A B Y dp k c G σ S K) (hm : σ.1 0 2 = 0) (hK : 0 ≤ K) : ∀ j, K ≤ j → j < k → s_st f A B j := by
  obtain ⟨_, _, _, h4, h5, _⟩ := h
  intro j j0 j1
  rcases h4 j j0 j1 with q | q
  · exfalso
    have a := s_n_m (f := f) (A := A) (B := B) (dp := dp) (s := S) (j := K) (k := j) hK j0
    have b := s_n_s (f := f) (A := A) (B := B) (dp := dp) (s := S) (k := j) (by omega)
    have d := s_n_m (f := f) (A := A) (B := B) (dp := dp) (s := S) (j := j + 1) (k := k) (by omega) (by omega)
    omega
  · exact q
/-- a map is put: it tells up to its last bit -/
theorem D_map {f A B Y : Int → Int} {dp n k c t : Int} {G : Int → s_X} {σ : tp_M} (hk : k ≤ n) (hon : σ.1 0 5 = 1) (h : s_D f A B Y dp n k c G σ) : s_D f A B Y dp n k c G (e_pm f t σ) := by
  by_cases hm : σ.1 0 2 = 0
  · rw [e_pm_0 hm]; exact h
  rw [e_pm_1 hm]
  by_cases q : σ.1 0 0 = f 7
  · rw [e_put_n q]
    exact D_fr (σ := e_drop σ) (fun c c2 _ => by rw [tp_pi_ne (by omega), tp_pi_ne (by omega)]) rfl rfl rfl rfl rfl rfl rfl rfl (D_drop h)
  rw [e_put_y q]
  obtain ⟨a1, a2, a3, a4, a5⟩ := h
  obtain ⟨⟨p1, pk⟩, d1, d2, d3, d4, d5, d6, d7, d8⟩ := a5 hon
  obtain ⟨m1, m2, m3, m4⟩ := d8 hm
  obtain ⟨P, hP⟩ : ∃ P, P = σ.1 0 9 := ⟨_, rfl⟩
  obtain ⟨S, hS⟩ : ∃ S, S = s_s σ (σ.1 0 9 - 1) := ⟨_, rfl⟩
  obtain ⟨K, hK⟩ : ∃ K, K = σ.1 6 (σ.1 0 9 - 1) := ⟨_, rfl⟩
  rw [← hS] at d1 d2 d3 d4 d5 d7 m3
  rw [← hK] at d2 d4 d5 d7 m1
  obtain ⟨τ, hτ⟩ : ∃ τ, τ = e_add 1 (σ.1 0 1) (σ.1 0 2) (4 + σ.1 0 2) t (σ.1 0 11) σ := ⟨_, rfl⟩
  have r2 : τ.1 2 P = 1 := by rw [hτ]; exact (e_add_at hP).1
  have r3 : τ.1 3 P = σ.1 0 1 := by rw [hτ]; exact (e_add_at hP).2.1
  have r4 : τ.1 4 P = σ.1 0 2 := by rw [hτ]; exact (e_add_at hP).2.2.1
  have r6 : τ.1 6 P = σ.1 0 11 := by rw [hτ]; exact (e_add_at hP).2.2.2.2.1
  have rp : ∀ c : Nat, 2 ≤ c → τ.1 c (P - 1) = σ.1 c (P - 1) := fun c c2 => by rw [hτ]; exact e_add_ne (by omega) c (by omega)
  have rs1 : s_s τ (P - 1) = S := by rw [hτ, hS, hP]; exact s_s_add (by omega) (by omega)
  have rs : s_s τ P = S := by rw [s_s_n (by omega) (by rw [r2]; omega), rs1]
  have r9 : τ.1 0 9 = P + 1 := by rw [hτ, hP]; rfl
  have rK : τ.1 6 (P - 1) = K := by rw [rp 6 (by omega), hK, hP]
  have hKn := a1 (P - 1) (by omega) (by omega)
  have hK0 : 0 ≤ K ∧ K ≤ n := by rw [hK, ← hP]; exact hKn.2.1
  have en : s_n f A B dp S k = s_n f A B dp S (σ.1 0 11) := s_n_0 (by omega) m2 (fun i i0 i1 => s_st_ev (m4 i i0 i1))
  rw [← hτ]
  have hHp : s_H f A B Y dp n τ P := by
    refine ⟨by rw [r2]; omega, by rw [r6]; omega, fun _ => by rw [r6, rK]; omega, fun _ => by rw [rs, r6]; omega, fun z => by rw [r2] at z; omega, fun _ => ?_, fun z => by rw [r2] at z; omega, fun z => by rw [r2] at z; omega, fun z => by rw [r2] at z; omega⟩
    rw [rs, r6, rK, r3, r4]
    refine ⟨⟨by omega, by rw [rp 2 (by omega), hP]; exact pk⟩, m1, m3, fun j j0 j1 => d4 j j0 (by omega), by omega, fun j j0 j1 => d7 j j0 (by omega)⟩
  refine D_fr (σ := tp_pi (tp_pi τ 0 1 0) 0 2 0) (fun c c2 _ => rfl) rfl rfl rfl rfl rfl rfl rfl rfl ?_
  have hr : ∀ c : Nat, 2 ≤ c → c ≤ 6 → (tp_pi (tp_pi τ 0 1 0) 0 2 0).1 c = τ.1 c := fun c c2 _ => by rw [tp_pi_ne (by omega), tp_pi_ne (by omega)]
  have g9 : (tp_pi (tp_pi τ 0 1 0) 0 2 0).1 0 9 = P + 1 := r9
  have g5 : (tp_pi (tp_pi τ 0 1 0) 0 2 0).1 0 5 = 1 := by show τ.1 0 5 = 1; rw [hτ]; exact hon
  refine ⟨fun p p0 p1 => ?_, fun _ => ?_, fun _ => ⟨rfl, rfl⟩, fun z => by rw [g5] at z; omega, fun _ => ?_⟩
  · rw [g9] at p1
    refine H_fr hr p0 ?_
    rcases (show p < P ∨ p = P by omega) with u | u
    · rw [hτ]; exact s_H_add p0 (by omega) (a1 p p0 (by omega))
    · rw [u]; exact hHp
  · rw [g9, show P + 1 - 1 = P by omega, hr 6 (by omega) (by omega), r6]; exact m2
  · rw [g9, show P + 1 - 1 = P by omega, hr 2 (by omega) (by omega), hr 6 (by omega) (by omega), s_s_fr hr (by omega), rs, r6, r2]
    have ex : e_X (tp_pi (tp_pi τ 0 1 0) 0 2 0) = e_X σ := by
      rw [hτ]
      show (σ.1 0 10, (e_add 1 (σ.1 0 1) (σ.1 0 2) (4 + σ.1 0 2) t (σ.1 0 11) σ).1 1) = (σ.1 0 10, σ.1 1)
      have z := (e_put_kp (kd := 1) (v := σ.1 0 1) (x := σ.1 0 2) (b := 4 + σ.1 0 2) (t := t) (kn := σ.1 0 11) (e_ok_y q)).2.2.2.2.2
      rw [e_put_y q] at z
      rw [z]
    have ec : (tp_pi (tp_pi τ 0 1 0) 0 2 0).1 0 4 = σ.1 0 4 := by rw [hτ]; rfl
    refine ⟨⟨by omega, by omega⟩, by rw [ec]; exact d1, ⟨d2.1, by omega⟩, by rw [ex]; exact d3, fun j j0 j1 => Or.inr (m4 j j0 j1), by show (0 : Int) = _; omega, ⟨Int.le_refl 0, by show (0 : Int) < 2 ^ 0; decide⟩, fun j j0 j1 z => by rw [s_st_ev (m4 j j0 j1)] at z; omega, fun z => absurd rfl z⟩
