/-! each way on of the encoding -/
theorem H_add {f A B Y : Int → Int} {dp n kd v x b t kn : Int} {σ : tp_M} (h : ∀ p, 0 ≤ p → p < σ.1 0 9 → s_H f A B Y dp n σ p) (hn : s_H f A B Y dp n (e_add kd v x b t kn σ) (σ.1 0 9)) : ∀ p, 0 ≤ p → p < σ.1 0 9 + 1 → s_H f A B Y dp n (e_add kd v x b t kn σ) p := fun p p0 p1 => by
  rcases (show p < σ.1 0 9 ∨ p = σ.1 0 9 by omega) with q | q
  · exact s_H_add p0 q (h p p0 q)
  · rw [q]; exact hn
theorem e_X_add {kd v x b t kn : Int} {σ : tp_M} : e_X (e_add kd v x b t kn σ) = e_X σ := by
  have z : (e_add kd v x b t kn σ).1 1 = σ.1 1 := by
    unfold e_add
    rw [tp_pi_ne (by omega), tp_pi_ne (by omega), tp_pi_ne (by omega), tp_pi_ne (by omega), tp_pi_ne (by omega), tp_pi_ne (by omega), tp_pi_ne (by omega), tp_pi_ne (by omega), tp_pi_ne (by omega), tp_pi_ne (by omega)]
  show (σ.1 0 10, (e_add kd v x b t kn σ).1 1) = (σ.1 0 10, σ.1 1)
  rw [z]
theorem D_sync {f A B Y : Int → Int} {dp n k x : Int} {G : Int → s_X} {σ : tp_M} (hk : 0 ≤ k ∧ k < n) (hp : 0 ≤ σ.1 0 9) (h : s_D f A B Y dp n k k G σ) (hm : σ.1 0 2 = 0) (hb : σ.1 0 6 = 0) (h01 : σ.1 0 5 = 0 ∨ σ.1 0 5 = 1) (hx1 : σ.1 0 5 = 1 → x = σ.1 0 4) (hx0 : σ.1 0 5 = 0 → x = 0) : s_D f A B Y dp n k k (fun S => s_S f A B dp S k) (e_on (A k) (e_add 0 (A k) x 16 k k σ)) := by
  obtain ⟨a1, a2, a3, a4, a5⟩ := h
  obtain ⟨P, hP⟩ : ∃ P, P = σ.1 0 9 := ⟨_, rfl⟩
  obtain ⟨τ, hτ⟩ : ∃ τ, τ = e_add 0 (A k) x 16 k k σ := ⟨_, rfl⟩
  have r2 : τ.1 2 P = 0 := by rw [hτ]; exact (e_add_at hP).1
  have r3 : τ.1 3 P = A k := by rw [hτ]; exact (e_add_at hP).2.1
  have r4 : τ.1 4 P = x := by rw [hτ]; exact (e_add_at hP).2.2.1
  have r5 : τ.1 5 P = k := by rw [hτ]; exact (e_add_at hP).2.2.2.1
  have r6 : τ.1 6 P = k := by rw [hτ]; exact (e_add_at hP).2.2.2.2.1
  have rp : ∀ c : Nat, 2 ≤ c → τ.1 c (P - 1) = σ.1 c (P - 1) := fun c c2 => by rw [hτ]; exact e_add_ne (by omega) c (by omega)
  have rs : s_s τ P = k := by rw [s_s_0 (by omega) r2, r5]
  have hm1 : σ.1 0 1 = 0 := by
    rcases h01 with q | q
    · exact (a3 q).2
    · have z := (a5 q).2.2.2.2.2.2.1
      rw [hm] at z
      have z2 : σ.1 0 1 < 1 := z.2
      omega
  have hHp : s_H f A B Y dp n τ P := by
    refine ⟨by rw [r2]; omega, by rw [r6]; omega, fun z => by rw [r6, rp 6 (by omega), hP]; exact a2 (by omega), fun _ => by rw [rs, r6]; omega, fun _ => ?_, fun z => by rw [r2] at z; omega, fun z => by rw [r2] at z; omega, fun z => by rw [r2] at z; omega, fun z => by rw [r2] at z; omega⟩
    rw [r5, r3, r6, r4]
    refine ⟨hk, rfl, rfl, fun z => ?_, fun z => ?_⟩
    · have z1 := z.1
      have z2 := z.2
      rw [rp 2 (by omega)] at z2
      rcases h01 with q | q
      · have := a4 q hb (by omega)
        rw [← hP] at this
        omega
      · have d := (a5 q).2
        have hKn := (a1 (P - 1) (by omega) (by omega)).2.1
        have rs1 : s_s τ (P - 1) = s_s σ (σ.1 0 9 - 1) := by rw [hτ, hP]; exact s_s_add (by omega) (by omega)
        refine ⟨by rw [rs1, hx1 q]; exact d.1, ?_⟩
        rw [rp 6 (by omega)]
        have e := D1_st d hm (by rw [← hP]; exact hKn.1)
        rw [← hP] at e
        exact e
    · rcases h01 with q | q
      · exact hx0 q
      · refine absurd ⟨?_, ?_⟩ z
        · have := (a5 q).1.1; omega
        · rw [rp 2 (by omega), hP]; exact (a5 q).1.2
  have hH := H_add (kd := 0) (v := A k) (x := x) (b := 16) (t := k) (kn := k) a1 (by rw [← hτ, ← hP]; exact hHp)
  rw [← hτ, ← hP] at hH
  rw [← hτ]
  have hr : ∀ c : Nat, 2 ≤ c → c ≤ 6 → (e_on (A k) τ).1 c = τ.1 c := fun c c2 _ => by unfold e_on; rw [tp_pi_ne (by omega), tp_pi_ne (by omega), tp_pi_ne (by omega), tp_pi_ne (by omega)]
  have g9 : (e_on (A k) τ).1 0 9 = P + 1 := by show τ.1 0 9 = P + 1; rw [hτ, hP]; rfl
  have g2 : (e_on (A k) τ).1 0 2 = 0 := by show τ.1 0 2 = 0; rw [hτ]; exact hm
  have g1 : (e_on (A k) τ).1 0 1 = 0 := by show τ.1 0 1 = 0; rw [hτ]; exact hm1
  refine ⟨fun p p0 p1 => H_fr hr p0 (hH p p0 (by rw [← g9]; exact p1)), fun _ => ?_, fun z => by have z : (1 : Int) = 0 := z; omega, fun z => by have z : (1 : Int) = 0 := z; omega, fun _ => ?_⟩
  · rw [g9, show P + 1 - 1 = P by omega, hr 6 (by omega) (by omega), r6]; exact Int.le_refl _
  · rw [g9, show P + 1 - 1 = P by omega, hr 2 (by omega) (by omega), hr 6 (by omega) (by omega), s_s_fr hr (by omega), rs, r6, r2]
    refine ⟨⟨by omega, by omega⟩, by show (0 : Int) = k - k; omega, ⟨hk.1, Int.le_refl _⟩, ?_, fun j j0 j1 => by omega, by rw [g2]; omega, by rw [g1, g2]; exact ⟨Int.le_refl 0, by decide⟩, fun j j0 j1 => by omega, fun z => absurd g2 z⟩
    show s_eq (e_X (e_on (A k) τ)) (s_S f A B dp k k)
    rw [s_S_0]
    exact ⟨rfl, fun i i0 i1 => by have i1 : i < 0 := i1; omega⟩
theorem D_off {f A B Y : Int → Int} {dp n k kd v : Int} {G : Int → s_X} {σ : tp_M} (hkd : kd = 3 ∨ kd = 4) (hk : 0 ≤ k ∧ k ≤ n) (h : s_D f A B Y dp n k k G σ) (hm : σ.1 0 2 = 0) (hon : σ.1 0 5 = 1) (hv : v = σ.1 0 4) : s_H f A B Y dp n (e_add kd v 0 10 k k σ) (σ.1 0 9) ∧ σ.1 0 1 = 0 := by
  obtain ⟨a1, a2, a3, a4, a5⟩ := h
  obtain ⟨⟨p1, pk⟩, d⟩ := a5 hon
  obtain ⟨P, hP⟩ : ∃ P, P = σ.1 0 9 := ⟨_, rfl⟩
  obtain ⟨τ, hτ⟩ : ∃ τ, τ = e_add kd v 0 10 k k σ := ⟨_, rfl⟩
  have r2 : τ.1 2 P = kd := by rw [hτ]; exact (e_add_at hP).1
  have r3 : τ.1 3 P = v := by rw [hτ]; exact (e_add_at hP).2.1
  have r5 : τ.1 5 P = k := by rw [hτ]; exact (e_add_at hP).2.2.2.1
  have r6 : τ.1 6 P = k := by rw [hτ]; exact (e_add_at hP).2.2.2.2.1
  have rp : ∀ c : Nat, 2 ≤ c → τ.1 c (P - 1) = σ.1 c (P - 1) := fun c c2 => by rw [hτ]; exact e_add_ne (by omega) c (by omega)
  have rs : s_s τ P = s_s σ (σ.1 0 9 - 1) := by
    rw [s_s_n (by omega) (by rw [r2]; omega), hτ, hP]
    exact s_s_add (by omega) (by omega)
  have hKn := a1 (σ.1 0 9 - 1) (by omega) (by omega)
  have hSn := hKn.2.2.2.1 (by omega)
  have hK2 := a2 p1
  have z := d.2.2.2.2.2.1
  rw [hm] at z
  have z2 : σ.1 0 1 < 1 := z.2
  refine ⟨?_, by omega⟩
  rw [← hτ, ← hP]
  refine ⟨by rw [r2]; omega, by rw [r6]; exact hk, fun _ => by rw [r6, rp 6 (by omega), hP]; exact hK2, fun _ => by rw [rs, r6]; omega, fun z => by rw [r2] at z; omega, fun z => by rw [r2] at z; omega, fun z => by rw [r2] at z; omega, fun _ => ?_, fun z => by rw [r2] at z; omega⟩
  refine ⟨⟨by omega, by rw [rp 2 (by omega), hP]; exact pk⟩, by rw [r6, r5], by rw [r3, r5, rs, hv]; exact d.1, ?_⟩
  rw [r5, rp 6 (by omega)]
  have e := D1_st d hm hKn.2.1.1
  rw [← hP] at e
  exact e
theorem D_gto {f A B Y : Int → Int} {dp n k x b l : Int} {G : Int → s_X} {σ : tp_M} (hk : 0 ≤ k ∧ k < n) (h : s_D f A B Y dp n k k G σ) (hm : σ.1 0 2 = 0) (hon : σ.1 0 5 = 1) (hgo : s_go f A B dp (s_s σ (σ.1 0 9 - 1)) k) : s_D f A B Y dp n (k + 1) k G (tp_pi (e_add 2 (B k) x b k (k + 1) σ) 0 3 l) := by
  obtain ⟨a1, a2, a3, a4, a5⟩ := h
  obtain ⟨⟨p1, pk⟩, d⟩ := a5 hon
  obtain ⟨P, hP⟩ : ∃ P, P = σ.1 0 9 := ⟨_, rfl⟩
  obtain ⟨τ, hτ⟩ : ∃ τ, τ = e_add 2 (B k) x b k (k + 1) σ := ⟨_, rfl⟩
  have r2 : τ.1 2 P = 2 := by rw [hτ]; exact (e_add_at hP).1
  have r3 : τ.1 3 P = B k := by rw [hτ]; exact (e_add_at hP).2.1
  have r5 : τ.1 5 P = k := by rw [hτ]; exact (e_add_at hP).2.2.2.1
  have r6 : τ.1 6 P = k + 1 := by rw [hτ]; exact (e_add_at hP).2.2.2.2.1
  have rp : ∀ c : Nat, 2 ≤ c → τ.1 c (P - 1) = σ.1 c (P - 1) := fun c c2 => by rw [hτ]; exact e_add_ne (by omega) c (by omega)
  have rs : s_s τ P = s_s σ (σ.1 0 9 - 1) := by
    rw [s_s_n (by omega) (by rw [r2]; omega), hτ, hP]
    exact s_s_add (by omega) (by omega)
  have hKn := a1 (σ.1 0 9 - 1) (by omega) (by omega)
  have hSn := hKn.2.2.2.1 (by omega)
  have hK2 := a2 p1
  have hm1 : σ.1 0 1 = 0 := by
    have z := d.2.2.2.2.2.1
    rw [hm] at z
    have z2 : σ.1 0 1 < 1 := z.2
    omega
  have hHp : s_H f A B Y dp n τ P := by
    refine ⟨by rw [r2]; omega, by rw [r6]; omega, fun _ => by rw [r6, rp 6 (by omega), hP]; omega, fun _ => by rw [rs, r6]; omega, fun z => by rw [r2] at z; omega, fun z => by rw [r2] at z; omega, fun _ => ?_, fun z => by rw [r2] at z; omega, fun z => by rw [r2] at z; omega⟩
    refine ⟨⟨by omega, by rw [rp 2 (by omega), hP]; exact pk⟩, by rw [r6, r5], by rw [r5, rp 6 (by omega), hP]; exact hK2, ?_, by rw [r5, rs]; exact hgo, by rw [r3, r5]⟩
    rw [r5, rp 6 (by omega)]
    have e := D1_st d hm hKn.2.1.1
    rw [← hP] at e
    exact e
  have hH := H_add (kd := 2) (v := B k) (x := x) (b := b) (t := k) (kn := k + 1) a1 (by rw [← hτ, ← hP]; exact hHp)
  rw [← hτ, ← hP] at hH
  rw [← hτ]
  have hr : ∀ c : Nat, 2 ≤ c → c ≤ 6 → (tp_pi τ 0 3 l).1 c = τ.1 c := fun c c2 _ => by rw [tp_pi_ne (by omega)]
  have g9 : (tp_pi τ 0 3 l).1 0 9 = P + 1 := by show τ.1 0 9 = P + 1; rw [hτ, hP]; rfl
  have g2 : (tp_pi τ 0 3 l).1 0 2 = 0 := by show τ.1 0 2 = 0; rw [hτ]; exact hm
  have g1 : (tp_pi τ 0 3 l).1 0 1 = 0 := by show τ.1 0 1 = 0; rw [hτ]; exact hm1
  have g5 : (tp_pi τ 0 3 l).1 0 5 = 1 := by show τ.1 0 5 = 1; rw [hτ]; exact hon
  have g4 : (tp_pi τ 0 3 l).1 0 4 = σ.1 0 4 := by show τ.1 0 4 = _; rw [hτ]; rfl
  have gx : e_X (tp_pi τ 0 3 l) = e_X σ := by show e_X τ = _; rw [hτ]; exact e_X_add
  refine ⟨fun p p0 p1 => H_fr hr p0 (hH p p0 (by rw [← g9]; exact p1)), fun _ => ?_, fun z => by rw [g5] at z; omega, fun z => by rw [g5] at z; omega, fun _ => ?_⟩
  · rw [g9, show P + 1 - 1 = P by omega, hr 6 (by omega) (by omega), r6]; exact Int.le_refl _
  · rw [g9, show P + 1 - 1 = P by omega, hr 2 (by omega) (by omega), hr 6 (by omega) (by omega), s_s_fr hr (by omega), rs, r6, r2]
    refine ⟨⟨by omega, by omega⟩, by rw [g4]; exact d.1, ⟨d.2.1.1, by omega⟩, by rw [gx]; exact d.2.2.1, fun j j0 j1 => by omega, by rw [g2]; omega, by rw [g1, g2]; exact ⟨Int.le_refl 0, by decide⟩, fun j j0 j1 => by omega, fun z => absurd g2 z⟩
theorem D_bit {f A B Y : Int → Int} {dp n k y : Int} {G : Int → s_X} {σ : tp_M} (hk : 0 ≤ k) (h : s_D f A B Y dp n k k G σ) (hm : 0 ≤ σ.1 0 2 ∧ σ.1 0 2 ≤ 8) (hon : σ.1 0 5 = 1) (hev : s_ev f A B dp (s_s σ (σ.1 0 9 - 1)) k = 1) (hy : y = s_y f A Y k) (hy01 : y = 0 ∨ y = 1) : s_D f A B Y dp n (k + 1) k G (e_bit y k σ) := by
  obtain ⟨a1, a2, a3, a4, a5⟩ := h
  obtain ⟨⟨p1, pk⟩, d1, d2, d3, d4, d5, d6, d7, d8⟩ := a5 hon
  have hr : ∀ c : Nat, 2 ≤ c → c ≤ 6 → (e_bit y k σ).1 c = σ.1 c := fun c c2 _ => by unfold e_bit; rw [tp_pi_ne (by omega), tp_pi_ne (by omega), tp_pi_ne (by omega)]
  have hKn := a1 (σ.1 0 9 - 1) (by omega) (by omega)
  have hK2 := a2 p1
  have bo := b_or hm d6 hy01
  refine ⟨fun p p0 p1 => H_fr hr p0 (a1 p p0 p1), fun z => ?_, fun z => by have z : σ.1 0 5 = 0 := z; omega, fun z => by have z : σ.1 0 5 = 0 := z; omega, fun _ => ?_⟩
  · rw [hr 6 (by omega) (by omega)]
    show σ.1 6 (σ.1 0 9 - 1) ≤ k + 1
    omega
  · rw [hr 2 (by omega) (by omega), hr 6 (by omega) (by omega)]
    show (1 ≤ σ.1 0 9 ∧ σ.1 2 (σ.1 0 9 - 1) ≤ 2) ∧ s_D1 f A B Y dp (k + 1) k G (e_bit y k σ) (s_s (e_bit y k σ) (σ.1 0 9 - 1)) (σ.1 6 (σ.1 0 9 - 1))
    rw [s_s_fr hr (by omega)]
    generalize s_s σ (σ.1 0 9 - 1) = S at *
    generalize hKK : σ.1 6 (σ.1 0 9 - 1) = K at *
    have sn := s_n_s (f := f) (A := A) (B := B) (dp := dp) (s := S) (k := k) hk
    refine ⟨⟨p1, pk⟩, d1, d2, d3, fun j j0 j1 => ?_, ?_, bo.1, fun j j0 j1 z => ?_, fun _ => ⟨?_, ?_, ?_, fun j j0 j1 => ?_⟩⟩
    · rcases (show j < k ∨ j = k by omega) with u | u
      · exact d4 j j0 u
      · rw [u]; exact Or.inl hev
    · show σ.1 0 2 + 1 = _
      omega
    · show tp_and (tp_ishr (tp_or (σ.1 0 1) (tp_ishl y (σ.1 0 2))) _) 1 = _
      rcases (show j < k ∨ j = k by omega) with u | u
      · have s1 := s_n_s (f := f) (A := A) (B := B) (dp := dp) (s := S) (k := j) (by omega)
        have s2 := s_n_m (f := f) (A := A) (B := B) (dp := dp) (s := S) (j := j + 1) (k := k) (by omega) (by omega)
        have s3 := s_n_m (f := f) (A := A) (B := B) (dp := dp) (s := S) (j := K) (k := j) (by omega) j0
        rw [bo.2.2 _ (by omega) (by omega)]
        exact d7 j j0 u z
      · rw [u, show s_n f A B dp S k - s_n f A B dp S K = σ.1 0 2 by omega, bo.2.1]
        exact hy
    · show K < k + 1; omega
    · show k + 1 ≤ k + 1; omega
    · show s_ev f A B dp S (k + 1 - 1) = 1
      rw [show k + 1 - 1 = k by omega]; exact hev
    · have j0 : k + 1 ≤ j := j0
      omega
