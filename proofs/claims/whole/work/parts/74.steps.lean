/-! a step of the encoding, and all of them: what every packet tells -/
theorem D_G {f A B Y : Int → Int} {dp n k c : Int} {G G' : Int → s_X} {σ σ' : tp_M} (hr : ∀ c : Nat, 2 ≤ c → c ≤ 6 → σ'.1 c = σ.1 c) (h9 : σ'.1 0 9 = σ.1 0 9) (h5 : σ'.1 0 5 = σ.1 0 5) (h6 : σ'.1 0 6 = σ.1 0 6) (h2 : σ'.1 0 2 = σ.1 0 2) (h1 : σ'.1 0 1 = σ.1 0 1) (h4 : σ'.1 0 4 = σ.1 0 4) (h11 : σ'.1 0 11 = σ.1 0 11) (hx : ∀ S, S ≤ k → s_eq (e_X σ) (G S) → s_eq (e_X σ') (G' S)) (h : s_D f A B Y dp n k c G σ) : s_D f A B Y dp n k c G' σ' := by
  obtain ⟨a1, a2, a3, a4, a5⟩ := h
  refine ⟨fun p p0 p1 => H_fr hr p0 (a1 p p0 (by rw [← h9]; exact p1)), fun z => ?_, fun z => ?_, fun z z2 z3 => ?_, fun z => ?_⟩
  · rw [h9] at z ⊢; rw [hr 6 (by omega) (by omega)]; exact a2 z
  · rw [h2, h1]; exact a3 (by rw [← h5]; exact z)
  · rw [h9] at z3 ⊢; rw [hr 2 (by omega) (by omega)]; exact a4 (by rw [← h5]; exact z) (by rw [← h6]; exact z2) z3
  · have b := a5 (by rw [← h5]; exact z)
    rw [h9, hr 2 (by omega) (by omega), hr 6 (by omega) (by omega), s_s_fr hr (by omega)]
    have hK := a2 b.1.1
    have hS := b.2.2.1
    refine ⟨b.1, ?_⟩
    have d := b.2
    unfold s_D1 at d ⊢
    rw [h4, h2, h1, h11]
    exact ⟨d.1, d.2.1, hx _ (by omega) d.2.2.1, d.2.2.2⟩
/-- a step that no packet has to tell -/
theorem D_str {f A B Y : Int → Int} {dp n k c : Int} {G : Int → s_X} {σ : tp_M} (hk : 0 ≤ k) (hst : s_st f A B k) (h : s_D f A B Y dp n k c G σ) : s_D f A B Y dp n (k + 1) c G σ := by
  obtain ⟨a1, a2, a3, a4, a5⟩ := h
  refine ⟨a1, fun z => by have := a2 z; omega, a3, a4, fun z => ?_⟩
  obtain ⟨b1, d1, d2, d3, d4, d5, d6, d7, d8⟩ := a5 z
  have e := s_st_ev (dp := dp) (s := s_s σ (σ.1 0 9 - 1)) hst
  have sn := s_n_s (f := f) (A := A) (B := B) (dp := dp) (s := s_s σ (σ.1 0 9 - 1)) (k := k) hk
  refine ⟨b1, d1, d2, d3, fun j j0 j1 => ?_, by omega, d6, fun j j0 j1 z => ?_, fun z => ?_⟩
  · rcases (show j < k ∨ j = k by omega) with u | u
    · exact d4 j j0 u
    · rw [u]; exact Or.inr hst
  · rcases (show j < k ∨ j = k by omega) with u | u
    · exact d7 j j0 u z
    · rw [u, e] at z; omega
  · obtain ⟨m1, m2, m3, m4⟩ := d8 z
    refine ⟨m1, by omega, m3, fun j j0 j1 => ?_⟩
    rcases (show j < k ∨ j = k by omega) with u | u
    · exact m4 j j0 u
    · rw [u]; exact hst
/-- while it is off time goes by -/
theorem D_t {f A B Y : Int → Int} {dp n k k' c c' : Int} {G G' : Int → s_X} {σ : tp_M} (hk : k ≤ k') (hon : σ.1 0 5 = 0) (h : s_D f A B Y dp n k c G σ) : s_D f A B Y dp n k' c' G' σ := by
  obtain ⟨a1, a2, a3, a4, a5⟩ := h
  exact ⟨a1, fun z => by have := a2 z; omega, a3, a4, fun z => by omega⟩
theorem s_stp_n {f A B : Int → Int} {dp j : Int} {X : s_X} (h3 : f (9 + A j) ≠ 3) (h4 : ¬ (f (9 + A j) = 4 ∧ B j ≠ -1)) : s_stp f A B dp j X = X := by unfold s_stp; rw [if_neg h3, if_neg h4]
theorem D_egto {f A B Y : Int → Int} {dp n k : Int} {G : Int → s_X} {σ : tp_M} (hk : 0 ≤ k ∧ k < n) (h : s_D f A B Y dp n k k G σ) (hon : σ.1 0 5 = 1) (hgo : s_go f A B dp (s_s σ (σ.1 0 9 - 1)) k) : s_D f A B Y dp n (k + 1) k G (e_gto f (B k) k σ) := by
  have hM := D_map (t := k) (by omega) hon h
  rcases e_ppk_b f k σ with q | q
  · refine D_t (k := k) (c := k) (G := G) (by omega) (e_gto_off q) ?_
    unfold e_gto
    rw [if_neg (by omega)]
    rcases e_pmk_b f σ with z | z
    · rw [e_pp_n z]; exact hM
    · rw [e_pp_y z]
      rw [e_ppk_1 z] at q
      have z2 : (e_pm f k σ).1 0 0 = f 7 := by
        refine Classical.byContradiction (fun t => ?_)
        rw [e_ok_y t] at q; omega
      rw [e_put_n z2]
      exact D_drop hM
  · have e := e_ppk_y q
    have z2 : ¬ (e_pm f k σ).1 0 0 = f 7 := fun t => by have := e.2; rw [e_ok_n t] at this; omega
    unfold e_gto
    rw [if_pos q, e_pp_y e.1, e_put_y z2]
    refine D_gto hk hM (e_pm_mm f k σ) (by rw [(e_pm_kp e.1).1]; exact hon) ?_
    have hs : s_s (e_pm f k σ) ((e_pm f k σ).1 0 9 - 1) = s_s σ (σ.1 0 9 - 1) := by
      have p1 := (h.2.2.2.2 hon).1.1
      by_cases m : σ.1 0 2 = 0
      · rw [e_pm_0 m]
      · have q0 : ¬ σ.1 0 0 = f 7 := fun t => by
          have := e.1
          rw [e_pmk_1 m, e_ok_n t] at this
          omega
        rw [e_pm_1 m, e_put_y q0]
        have hr : ∀ c : Nat, 2 ≤ c → c ≤ 6 → (tp_pi (tp_pi (e_add 1 (σ.1 0 1) (σ.1 0 2) (4 + σ.1 0 2) k (σ.1 0 11) σ) 0 1 0) 0 2 0).1 c = (e_add 1 (σ.1 0 1) (σ.1 0 2) (4 + σ.1 0 2) k (σ.1 0 11) σ).1 c := fun c c2 _ => by rw [tp_pi_ne (by omega), tp_pi_ne (by omega)]
        show s_s (tp_pi (tp_pi (e_add 1 (σ.1 0 1) (σ.1 0 2) (4 + σ.1 0 2) k (σ.1 0 11) σ) 0 1 0) 0 2 0) (σ.1 0 9 + 1 - 1) = _
        rw [show σ.1 0 9 + 1 - 1 = σ.1 0 9 by omega, s_s_fr hr (by omega), s_s_n (by omega) (by rw [(e_add_at rfl).1]; omega)]
        exact s_s_add (by omega) (by omega)
    rw [hs]
    exact hgo
theorem D_tel {f A B Y : Int → Int} {dp n k : Int} {σ : tp_M} (hk : 0 ≤ k ∧ k < n) (hw1 : r_w1 f (A k) (B k) (Y k)) (hf : 0 ≤ f (9 + A k) ∧ f (9 + A k) ≤ 6) (hm : 0 ≤ σ.1 0 2 ∧ σ.1 0 2 ≤ 8) (hon : σ.1 0 5 = 1) (h : s_D f A B Y dp n k k (fun S => s_S f A B dp S k) σ) : s_D f A B Y dp n (k + 1) k (fun S => s_S f A B dp S (k + 1)) (e_tel f (A k) (B k) (Y k) dp k σ) := by
  obtain ⟨_, hb, hy, w0, w1, w2, w3, w6, wy⟩ := hw1
  have hsame : f (9 + A k) ≠ 3 → ¬ (f (9 + A k) = 4 ∧ B k ≠ -1) → s_D f A B Y dp n k k (fun S => s_S f A B dp S (k + 1)) σ := fun g3 g4 => D_G (fun _ _ _ => rfl) rfl rfl rfl rfl rfl rfl rfl (fun S hS z => by show s_eq (e_X σ) (s_S f A B dp S (k + 1)); rw [s_S_s hS, s_stp_n g3 g4]; exact z) h
  have hp1 := (h.2.2.2.2 hon).1.1
  have hX := (h.2.2.2.2 hon).2.2.2.1
  unfold e_tel
  by_cases k3 : f (9 + A k) = 3
  · rw [if_pos k3]
    refine D_str hk.1 (Or.inr (Or.inr (Or.inr k3))) (D_G (G := fun S => s_S f A B dp S k) (σ := σ) (fun c c2 _ => ?_) ?_ ?_ ?_ ?_ ?_ ?_ ?_ (fun S hS z => ?_) h)
    · unfold e_psh
      split
      · funext i; show (if c = 1 then _ else σ.1 c i) = σ.1 c i; rw [if_neg (by omega)]
      · rw [tp_pi_ne (by omega), tp_pi_ne (by omega)]
    · unfold e_psh; split <;> rfl
    · unfold e_psh; split <;> rfl
    · unfold e_psh; split <;> rfl
    · unfold e_psh; split <;> rfl
    · unfold e_psh; split <;> rfl
    · unfold e_psh; split <;> rfl
    · unfold e_psh; split <;> rfl
    · show s_eq (e_X (e_psh (A k + 1) dp σ)) (s_S f A B dp S (k + 1))
      rw [s_S_s hS]
      unfold s_stp
      rw [if_pos k3]
      exact s_eq_tr e_X_psh (s_eq_psh z)
  rw [if_neg k3]
  by_cases bn : B k = -1
  · rw [if_pos bn]
    exact D_str hk.1 (Or.inl bn) (hsame k3 (fun z => z.2 bn))
  rw [if_neg bn]
  by_cases k1 : f (9 + A k) = 1
  · rw [if_pos k1]
    exact D_bit hk.1 (hsame k3 (fun z => by omega)) hm hon (s_ev_1 ⟨bn, Or.inl k1⟩) (by unfold s_y; rw [if_pos k1]) hy
  rw [if_neg k1]
  by_cases k4 : f (9 + A k) = 4
  · rw [if_pos k4]
    have hrp : ∀ c : Nat, 2 ≤ c → c ≤ 6 → (e_pop σ).1 c = σ.1 c := fun c c2 _ => by
      unfold e_pop
      split
      · rw [tp_pi_ne (by omega)]
      · rfl
    have h9 : (e_pop σ).1 0 9 = σ.1 0 9 := by unfold e_pop; split <;> rfl
    have hP : s_D f A B Y dp n k k (fun S => s_S f A B dp S (k + 1)) (e_pop σ) := by
      refine D_G (G := fun S => s_S f A B dp S k) (σ := σ) hrp h9 ?_ ?_ ?_ ?_ ?_ ?_ (fun S hS z => ?_) h
      · unfold e_pop; split <;> rfl
      · unfold e_pop; split <;> rfl
      · unfold e_pop; split <;> rfl
      · unfold e_pop; split <;> rfl
      · unfold e_pop; split <;> rfl
      · unfold e_pop; split <;> rfl
      · show s_eq (e_X (e_pop σ)) (s_S f A B dp S (k + 1))
        rw [s_S_s hS, e_X_pop]
        unfold s_stp
        rw [if_neg k3, if_pos ⟨k4, bn⟩]
        exact s_eq_pop z
    have hs : s_s (e_pop σ) ((e_pop σ).1 0 9 - 1) = s_s σ (σ.1 0 9 - 1) := by rw [h9, s_s_fr hrp (by omega)]
    have ht : e_top σ = s_top (s_S f A B dp (s_s σ (σ.1 0 9 - 1)) k) := s_eq_top hX
    have hon2 : (e_pop σ).1 0 5 = 1 := by rw [e_pop_kp.2.1]; exact hon
    by_cases tb : e_top σ = B k
    · rw [if_pos tb]
      refine D_bit hk.1 hP (by rw [e_pop_kp.1]; exact hm) hon2 (by rw [hs]; exact s_ev_1 ⟨bn, Or.inr ⟨k4, by rw [← ht]; exact tb⟩⟩) (by unfold s_y; rw [if_neg k1]) (Or.inr rfl)
    · rw [if_neg tb]
      exact D_egto hk hP hon2 (by rw [hs]; exact ⟨bn, Or.inr ⟨k4, by rw [← ht]; exact tb⟩⟩)
  rw [if_neg k4]
  by_cases k5 : f (9 + A k) = 5
  · rw [if_pos k5]
    exact D_egto hk (hsame k3 (fun z => k4 z.1)) hon ⟨bn, Or.inl k5⟩
  rw [if_neg k5]
  refine D_str hk.1 ?_ (hsame k3 (fun z => k4 z.1))
  have : f (9 + A k) ≠ 6 := fun z => bn (w6 z)
  rcases (show f (9 + A k) = 0 ∨ f (9 + A k) = 2 by omega) with q | q
  · exact Or.inr (Or.inl q)
  · exact Or.inr (Or.inr (Or.inl q))
