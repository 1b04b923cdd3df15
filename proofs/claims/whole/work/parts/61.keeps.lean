theorem J_trn {f : Int → Int} {m k k' a : Int} {σ : tp_M} (hk : 0 ≤ k) (ha : 0 ≤ a ∧ a ≤ 40) (hJ : e_J f m k σ) (hb : σ.1 0 6 = 0) : e_J f m k (e_trn f a k' σ) := by
  unfold e_trn
  split
  · split
    · exact hJ
    · split
      · rename_i q
        have e := e_ppk_y q
        obtain ⟨h1, h2, h3, h4, h5, h6, h7, h8, h9⟩ := J_pp (kd := 0) (v := a) (x := e_cn σ) (b := 16) (t := k') (kn := k') hJ
        have hbl : (e_pp f 0 a (e_cn σ) 16 k' k' σ).1 0 6 = 0 := by
          rw [e_pp_y e.1, (e_put_kp e.2).2.1, (e_pm_kp e.1).2.1]; exact hb
        exact ⟨h1, h2, h3, ⟨Int.le_refl 0, by show (0 : Int) ≤ 4; decide⟩, Or.inr rfl, h6, fun z => by have z : (e_pp f 0 a (e_cn σ) 16 k' k' σ).1 0 6 = 1 := z; omega, ⟨Int.le_refl 0, hk⟩, fun _ => ha⟩
      · exact J_pp hJ
  · split
    · split
      · obtain ⟨h1, h2, h3, h4, h5, h6, h7, h8, h9⟩ := J_pp (kd := 3) (v := σ.1 0 4) (x := 0) (b := 10) (t := k') (kn := k') hJ
        exact ⟨h1, h2, h3, h4, Or.inl rfl, h6, fun _ => rfl, h8, fun z => by have z : (0 : Int) = 1 := z; omega⟩
      · exact J_pp hJ
    · exact hJ
theorem J_gto {f : Int → Int} {m k k' b : Int} {σ : tp_M} (hb : 0 ≤ b ∧ b ≤ 40) (hJ : e_J f m k σ) : e_J f m k (e_gto f b k' σ) := by
  unfold e_gto
  split
  · obtain ⟨h1, h2, h3, h4, h5, h6, h7, h8, h9⟩ := J_pp (kd := 2) (v := b) (x := e_dg b σ) (b := 4 + 3 * e_dg b σ) (t := k') (kn := k' + 1) hJ
    exact ⟨h1, h2, h3, h4, h5, h6, h7, h8, fun _ => hb⟩
  · exact J_pp hJ
theorem J_bit {f : Int → Int} {m k k' y : Int} {σ : tp_M} (hm : σ.1 0 2 < 9) (hJ : e_J f m k σ) : e_J f m k (e_bit y k' σ) := by
  obtain ⟨h1, h2, h3, h4, h5, h6, h7, h8, h9⟩ := hJ
  exact ⟨h1, h2, by show 0 ≤ σ.1 0 2 + 1 ∧ σ.1 0 2 + 1 ≤ 9; omega, h4, h5, h6, h7, h8, h9⟩
theorem J_psh {f : Int → Int} {m k a dp : Int} {σ : tp_M} (hd : dp ≤ 4) (hJ : e_J f m k σ) : e_J f m k (e_psh a dp σ) := by
  unfold e_psh
  obtain ⟨h1, h2, h3, h4, h5, h6, h7, h8, h9⟩ := hJ
  split
  · exact ⟨h1, h2, h3, h4, h5, h6, h7, h8, h9⟩
  · exact ⟨h1, h2, h3, by show 0 ≤ σ.1 0 10 + 1 ∧ σ.1 0 10 + 1 ≤ 4; omega, h5, h6, h7, h8, h9⟩
theorem J_pop {f : Int → Int} {m k : Int} {σ : tp_M} (hJ : e_J f m k σ) : e_J f m k (e_pop σ) := by
  unfold e_pop
  split
  · obtain ⟨h1, h2, h3, h4, h5, h6, h7, h8, h9⟩ := hJ
    exact ⟨h1, h2, h3, by show 0 ≤ σ.1 0 10 - 1 ∧ σ.1 0 10 - 1 ≤ 4; omega, h5, h6, h7, h8, h9⟩
  · exact hJ
theorem e_pop_kp {σ : tp_M} : (e_pop σ).1 0 2 = σ.1 0 2 ∧ (e_pop σ).1 0 5 = σ.1 0 5 ∧ (e_pop σ).1 0 3 = σ.1 0 3 := by
  unfold e_pop
  split <;> exact ⟨rfl, rfl, rfl⟩
theorem J_tel {f : Int → Int} {m k k' a b y dp : Int} {σ : tp_M} (hd : dp ≤ 4) (hb : b = -1 ∨ (0 ≤ b ∧ b ≤ 40)) (hm : σ.1 0 2 < 9) (hJ : e_J f m k σ) : e_J f m k (e_tel f a b y dp k' σ) := by
  unfold e_tel
  split
  · exact J_psh hd hJ
  · split
    · exact hJ
    · split
      · exact J_bit hm hJ
      · split
        · split
          · exact J_bit (by rw [e_pop_kp.1]; exact hm) (J_pop hJ)
          · exact J_gto (by omega) (J_pop hJ)
        · split
          · exact J_gto (by omega) hJ
          · exact hJ
theorem J_out {f : Int → Int} {k : Int} {σ : tp_M} (hk : 0 ≤ k) (hJ : e_J f (max (k - 1) 0) k σ) : e_J f k k (e_out f k σ) := by
  unfold e_out
  obtain ⟨h1, h2, h3, h4, h5, h6, h7, h8, h9⟩ := hJ
  split
  · exact ⟨by show 0 ≤ σ.1 0 0 - 1 ∧ σ.1 0 0 - 1 ≤ f 7; omega, by show 0 ≤ σ.1 0 9 ∧ σ.1 0 9 ≤ σ.1 0 0 - 1 + k; omega, h3, h4, h5, h6, h7, h8, h9⟩
  · exact ⟨h1, by omega, h3, h4, h5, h6, h7, h8, h9⟩
theorem J_see {f : Int → Int} {m k k' : Int} {σ : tp_M} (hJ : e_J f m k σ) : e_J f m k (e_see f k' σ) := by
  unfold e_see
  split
  · rename_i q
    have hp := J_put (kd := 5) (v := 0) (x := 0) (b := 4) (t := k') (kn := k') hJ
    obtain ⟨h1, h2, h3, h4, h5, h6, h7, h8, h9⟩ := hp
    refine ⟨h1, h2, h3, h4, h5, Or.inl rfl, fun z => ?_, h8, h9⟩
    have z : (0 : Int) = 1 := z
    omega
  · exact hJ
theorem J_0 {f : Int → Int} (h : 0 ≤ f 7) : e_J f 0 0 e_0 := ⟨⟨Int.le_refl 0, h⟩, ⟨Int.le_refl 0, Int.le_refl 0⟩, ⟨Int.le_refl 0, by show (0 : Int) ≤ 9; decide⟩, ⟨Int.le_refl 0, by show (0 : Int) ≤ 4; decide⟩, Or.inl rfl, Or.inl rfl, fun _ => rfl, ⟨Int.le_refl 0, Int.le_refl 0⟩, fun z => by have z : (0 : Int) = 1 := z; omega⟩
/-- the map is shorter than its most, ahead of a step -/
theorem L_out {f : Int → Int} {k : Int} {σ : tp_M} : (e_out f k σ).1 0 2 = σ.1 0 2 := by unfold e_out; split <;> rfl
theorem L_see {f : Int → Int} {k bt : Int} {σ : tp_M} (h0 : 0 < bt) (h : σ.1 0 2 < bt) : (e_see f k σ).1 0 2 < bt := by
  unfold e_see
  split
  · show (e_put f 5 0 0 4 k k σ).1 0 2 < bt
    by_cases q : σ.1 0 0 = f 7
    · rw [e_put_n q]; exact h0
    · rw [e_put_y q]; exact h
  · exact h
theorem L_trn {f : Int → Int} {k a bt : Int} {σ : tp_M} (h0 : 0 < bt) (h : σ.1 0 2 < bt) : (e_trn f a k σ).1 0 2 < bt := by
  unfold e_trn
  split
  · split
    · exact h
    · split
      · show (e_pp f 0 a (e_cn σ) 16 k k σ).1 0 2 < bt
        rw [e_pp_mm]; exact h0
      · rw [e_pp_mm]; exact h0
  · split
    · split
      · show (e_pp f 3 (σ.1 0 4) 0 10 k k σ).1 0 2 < bt
        rw [e_pp_mm]; exact h0
      · rw [e_pp_mm]; exact h0
    · exact h
theorem L_s3 {f : Int → Int} {k a bt : Int} {σ : tp_M} (h0 : 0 < bt) (h : σ.1 0 2 < bt) : (e_s3 f a k σ).1 0 2 < bt := by
  unfold e_s3
  split
  · exact h
  · exact L_trn h0 h
theorem L_gto {f : Int → Int} {k b : Int} {σ : tp_M} : (e_gto f b k σ).1 0 2 = 0 := by
  unfold e_gto
  split
  · show (e_pp f 2 b (e_dg b σ) (4 + 3 * e_dg b σ) k (k + 1) σ).1 0 2 = 0
    exact e_pp_mm
  · exact e_pp_mm
theorem L_tel {f : Int → Int} {k a b y dp bt : Int} {σ : tp_M} (h0 : 0 < bt) (h : σ.1 0 2 < bt) : (e_tel f a b y dp k σ).1 0 2 ≤ bt := by
  unfold e_tel
  split
  · unfold e_psh
    split
    · show σ.1 0 2 ≤ bt; omega
    · show σ.1 0 2 ≤ bt; omega
  · split
    · omega
    · split
      · show σ.1 0 2 + 1 ≤ bt; omega
      · split
        · split
          · show (e_pop σ).1 0 2 + 1 ≤ bt
            rw [e_pop_kp.1]; omega
          · rw [L_gto]; omega
        · split
          · rw [L_gto]; omega
          · omega
theorem L_s6 {σ : tp_M} : (e_s6 σ).1 0 2 = σ.1 0 2 := by unfold e_s6; split <;> rfl
theorem e_gto_off {f : Int → Int} {b k : Int} {σ : tp_M} (h : e_ppk f k σ = 0) : (e_gto f b k σ).1 0 5 = 0 := by
  unfold e_gto
  rw [if_neg (by omega)]
  exact e_pp_off h
theorem J_s3 {f : Int → Int} {m k k' a : Int} {σ : tp_M} (hk : 0 ≤ k) (ha : 0 ≤ a ∧ a ≤ 40) (hJ : e_J f m k σ) : e_J f m k (e_s3 f a k' σ) := by
  unfold e_s3
  split
  · exact hJ
  · exact J_trn hk ha hJ (by have := hJ.2.2.2.2.2.1; omega)
theorem J_s4 {f : Int → Int} {m k k' a b y dp : Int} {σ : tp_M} (hd : dp ≤ 4) (hb : b = -1 ∨ (0 ≤ b ∧ b ≤ 40)) (hm : σ.1 0 2 < 9) (hJ : e_J f m k σ) : e_J f m k (e_s4 f a b y dp k' σ) := by
  unfold e_s4
  split
  · exact J_tel hd hb hm hJ
  · exact hJ
theorem J_s5 {f : Int → Int} {m k k' bt : Int} {σ : tp_M} (hJ : e_J f m k σ) : e_J f m k (e_s5 f bt k' σ) := by
  unfold e_s5
  split
  · exact J_pm hJ
  · exact hJ
theorem J_s6 {f : Int → Int} {m k : Int} {σ : tp_M} (hJ : e_J f m k σ) : e_J f m (k + 1) (e_s6 σ) := by
  unfold e_s6
  obtain ⟨h1, h2, h3, h4, h5, h6, h7, h8, h9⟩ := hJ
  split
  · exact ⟨h1, h2, h3, h4, h5, h6, h7, by show 0 ≤ σ.1 0 4 + 1 ∧ σ.1 0 4 + 1 ≤ k + 1; omega, h9⟩
  · exact ⟨h1, h2, h3, h4, h5, h6, h7, by omega, h9⟩
theorem L_s5 {f : Int → Int} {k bt : Int} {σ : tp_M} (h0 : 0 < bt) (h : σ.1 0 5 = 1 → σ.1 0 2 ≤ bt) (h' : σ.1 0 5 ≠ 1 → σ.1 0 2 < bt) : (e_s5 f bt k σ).1 0 2 < bt := by
  unfold e_s5
  by_cases q : σ.1 0 5 = 1
  · by_cases t : σ.1 0 2 = bt
    · rw [if_pos ⟨q, t⟩, e_pm_mm]; exact h0
    · rw [if_neg (fun z => t z.2)]; have := h q; omega
  · rw [if_neg (fun z => q z.1)]; exact h' q
/-! the class's cells, and the reference's, hold a state of the encoding -/
def c_A (σ μ : tp_M) : Prop := μ.1 62 7 = σ.1 0 0 ∧ μ.1 62 8 = σ.1 0 1 ∧ μ.1 62 9 = σ.1 0 2 ∧ μ.1 62 11 = σ.1 0 4 ∧ μ.1 62 12 = σ.1 0 5 ∧ μ.1 62 13 = σ.1 0 6 ∧ μ.1 62 14 = σ.1 0 7 ∧ μ.1 62 15 = σ.1 0 8 ∧ μ.1 63 4 = σ.1 0 9 ∧ μ.1 68 1 = σ.1 0 10 ∧ (σ.1 0 5 = 1 → μ.1 62 10 = σ.1 0 3)
def c_B (σ μ : tp_M) : Prop := ∀ i, 0 ≤ i → i < σ.1 0 9 → μ.1 64 i = σ.1 2 i ∧ μ.1 65 i = σ.1 3 i ∧ μ.1 66 i = σ.1 4 i ∧ μ.1 67 i = σ.1 5 i
def c_S (σ μ : tp_M) : Prop := ∀ i, 0 ≤ i → i < σ.1 0 10 → μ.1 69 i = σ.1 1 i
def c_E (μ0 : tp_M) (bt dp k : Int) (σ μ : tp_M) : Prop := c_A σ μ ∧ c_B σ μ ∧ c_S σ μ ∧ (μ.1 62 4 = bt ∧ μ.1 62 5 = dp ∧ μ.1 62 6 = k) ∧ (∀ c, (c < 62 ∨ 69 < c) → μ.1 c = μ0.1 c) ∧ μ.2 = μ0.2
def m_A (σ μ : tp_M) : Prop := μ.1 201 51 = σ.1 0 0 ∧ μ.1 201 52 = σ.1 0 1 ∧ μ.1 201 53 = σ.1 0 2 ∧ μ.1 201 56 = σ.1 0 4 ∧ μ.1 201 57 = σ.1 0 5 ∧ μ.1 201 58 = σ.1 0 6 ∧ μ.1 201 49 = σ.1 0 7 ∧ μ.1 201 50 = σ.1 0 8 ∧ μ.1 201 47 = σ.1 0 9 ∧ μ.1 201 46 = σ.1 0 10 ∧ μ.1 201 48 = σ.1 0 12 ∧ (σ.1 0 2 ≠ 0 → μ.1 201 54 = σ.1 0 11) ∧ (σ.1 0 5 = 1 → μ.1 201 55 = σ.1 0 3)
def m_B (σ μ : tp_M) : Prop := ∀ i, 0 ≤ i → i < σ.1 0 9 → μ.1 216 i = σ.1 2 i ∧ μ.1 217 i = σ.1 3 i ∧ μ.1 218 i = σ.1 4 i ∧ μ.1 220 i = σ.1 5 i ∧ μ.1 221 i = σ.1 6 i ∧ μ.1 219 i = σ.1 7 i
def m_S (σ μ : tp_M) : Prop := ∀ i, 0 ≤ i → i < σ.1 0 10 → μ.1 222 i = σ.1 1 i
def m_E (μ0 : tp_M) (σ μ : tp_M) : Prop := m_A σ μ ∧ m_B σ μ ∧ m_S σ μ ∧ (∀ c, c ≠ 201 → (c < 216 ∨ 222 < c) → μ.1 c = μ0.1 c) ∧ (∀ j, (j < 46 ∨ 58 < j) → μ.1 201 j = μ0.1 201 j)
