theorem D_trn {f A B Y : Int → Int} {dp n k : Int} {σ : tp_M} (hk : 0 ≤ k ∧ k < n) (hp : 0 ≤ σ.1 0 9) (h01 : σ.1 0 5 = 0 ∨ σ.1 0 5 = 1) (hb : σ.1 0 6 = 0) (hJ9 : 0 ≤ (e_pm f k σ).1 0 9) (h : s_D f A B Y dp n k k (fun S => s_S f A B dp S k) σ) : s_D f A B Y dp n k k (fun S => s_S f A B dp S k) (e_trn f (A k) k σ) := by
  have hM : s_D f A B Y dp n k k (fun S => s_S f A B dp S k) (e_pm f k σ) := by
    rcases h01 with q | q
    · rw [e_pm_0 (h.2.2.1 q).1]; exact h
    · exact D_map (by omega) q h
  have hbad : ∀ kd v x b kn, e_ppk f k σ = 0 → s_D f A B Y dp n k k (fun S => s_S f A B dp S k) (e_pp f kd v x b k kn σ) := fun kd v x b kn q => by
    rcases e_pmk_b f σ with z | z
    · rw [e_pp_n z]; exact hM
    · rw [e_pp_y z]
      rw [e_ppk_1 z] at q
      have z2 : (e_pm f k σ).1 0 0 = f 7 := by
        refine Classical.byContradiction (fun t => ?_)
        rw [e_ok_y t] at q; omega
      rw [e_put_n z2]
      exact D_drop hM
  unfold e_trn
  by_cases t : q_tr f (A k) = 1
  · rw [if_pos t]
    by_cases u : σ.1 0 5 = 1 ∧ σ.1 0 4 < f 3
    · rw [if_pos u]; exact h
    · rw [if_neg u]
      rcases e_ppk_b f k σ with q | q
      · rw [if_neg (by omega)]; exact hbad _ _ _ _ _ q
      · have e := e_ppk_y q
        have z2 : ¬ (e_pm f k σ).1 0 0 = f 7 := fun t => by have := e.2; rw [e_ok_n t] at this; omega
        have kp := e_pm_kp (t := k) e.1
        rw [if_pos q, e_pp_y e.1, e_put_y z2]
        refine D_sync hk hJ9 hM (e_pm_mm f k σ) (by rw [kp.2.1]; exact hb) (by rw [kp.1]; exact h01) (fun z => ?_) (fun z => ?_)
        · rw [kp.1] at z; rw [kp.2.2.1]; exact if_pos z
        · rw [kp.1] at z; exact if_neg (by omega)
  · rw [if_neg t]
    by_cases u : σ.1 0 5 = 1
    · rw [if_pos u]
      rcases e_ppk_b f k σ with q | q
      · rw [if_neg (by omega)]; exact hbad _ _ _ _ _ q
      · have e := e_ppk_y q
        have z2 : ¬ (e_pm f k σ).1 0 0 = f 7 := fun t => by have := e.2; rw [e_ok_n t] at this; omega
        have kp := e_pm_kp (t := k) e.1
        rw [if_pos q, e_pp_y e.1, e_put_y z2]
        have o := D_off (kd := 3) (v := σ.1 0 4) (Or.inl rfl) (by omega) hM (e_pm_mm f k σ) (by rw [kp.1]; exact u) kp.2.2.1.symm
        have mm := e_pm_mm f k σ
        generalize e_pm f k σ = τ at *
        have hH := H_add hM.1 o.1
        have hr : ∀ c : Nat, 2 ≤ c → c ≤ 6 → (tp_pi (e_add 3 (σ.1 0 4) 0 10 k k τ) 0 5 0).1 c = (e_add 3 (σ.1 0 4) 0 10 k k τ).1 c := fun c c2 _ => by rw [tp_pi_ne (by omega)]
        refine ⟨fun p p0 p1 => H_fr hr p0 (hH p p0 p1), fun _ => ?_, fun _ => ⟨mm, o.2⟩, fun _ _ _ => ?_, fun z => by have z : (0 : Int) = 1 := z; omega⟩
        · rw [hr 6 (by omega) (by omega)]
          show (e_add 3 (σ.1 0 4) 0 10 k k τ).1 6 (τ.1 0 9 + 1 - 1) ≤ k
          rw [show τ.1 0 9 + 1 - 1 = τ.1 0 9 by omega, (e_add_at rfl).2.2.2.2.1]
          exact Int.le_refl _
        · rw [hr 2 (by omega) (by omega)]
          show 2 < (e_add 3 (σ.1 0 4) 0 10 k k τ).1 2 (τ.1 0 9 + 1 - 1)
          rw [show τ.1 0 9 + 1 - 1 = τ.1 0 9 by omega, (e_add_at rfl).1]
          decide
    · rw [if_neg u]; exact h
theorem D_see {f A B Y : Int → Int} {dp n k : Int} {G : Int → s_X} {σ : tp_M} (hk : 0 ≤ k ∧ k ≤ n) (hp : 0 ≤ σ.1 0 9) (hf : 0 < f 7) (h7 : σ.1 0 6 = 1 → σ.1 0 5 = 0) (h : s_D f A B Y dp n k k G σ) : s_D f A B Y dp n k k G (e_see f k σ) := by
  unfold e_see
  by_cases q : σ.1 0 6 = 1 ∧ σ.1 0 0 = 0
  · rw [if_pos q, e_put_y (by omega)]
    have hon := h7 q.1
    obtain ⟨a1, a2, a3, a4, a5⟩ := h
    have hHp : s_H f A B Y dp n (e_add 5 0 0 4 k k σ) (σ.1 0 9) := by
      have e := e_add_at (kd := 5) (v := 0) (x := 0) (b := 4) (t := k) (kn := k) (σ := σ) rfl
      refine ⟨by rw [e.1]; omega, by rw [e.2.2.2.2.1]; exact hk, fun z => by rw [e.2.2.2.2.1, e_add_ne (by omega) 6 (by omega)]; exact a2 z, fun z => by rw [e.1] at z; omega, fun z => by rw [e.1] at z; omega, fun z => by rw [e.1] at z; omega, fun z => by rw [e.1] at z; omega, fun z => by rw [e.1] at z; omega, fun _ => e.2.1⟩
    have hH := H_add a1 hHp
    have hr : ∀ c : Nat, 2 ≤ c → c ≤ 6 → (tp_pi (e_add 5 0 0 4 k k σ) 0 6 0).1 c = (e_add 5 0 0 4 k k σ).1 c := fun c c2 _ => by rw [tp_pi_ne (by omega)]
    refine ⟨fun p p0 p1 => H_fr hr p0 (hH p p0 p1), fun _ => ?_, fun z => a3 z, fun _ _ _ => ?_, fun z => by have z : σ.1 0 5 = 1 := z; omega⟩
    · rw [hr 6 (by omega) (by omega)]
      show (e_add 5 0 0 4 k k σ).1 6 (σ.1 0 9 + 1 - 1) ≤ k
      rw [show σ.1 0 9 + 1 - 1 = σ.1 0 9 by omega, (e_add_at rfl).2.2.2.2.1]
      exact Int.le_refl _
    · rw [hr 2 (by omega) (by omega)]
      show 2 < (e_add 5 0 0 4 k k σ).1 2 (σ.1 0 9 + 1 - 1)
      rw [show σ.1 0 9 + 1 - 1 = σ.1 0 9 by omega, (e_add_at rfl).1]
      decide
  · rw [if_neg q]; exact h
theorem D_out {f A B Y : Int → Int} {dp n k k' c : Int} {G : Int → s_X} {σ : tp_M} (h : s_D f A B Y dp n k c G σ) : s_D f A B Y dp n k c G (e_out f k' σ) := by
  unfold e_out
  split
  · exact D_fr (σ := σ) (fun c c2 _ => by rw [tp_pi_ne (by omega)]) rfl rfl rfl rfl rfl rfl rfl rfl h
  · exact h
theorem D_s6 {f A B Y : Int → Int} {dp n k : Int} {G : Int → s_X} {σ : tp_M} (h01 : σ.1 0 5 = 0 ∨ σ.1 0 5 = 1) (h : s_D f A B Y dp n (k + 1) k G σ) : s_D f A B Y dp n (k + 1) (k + 1) G (e_s6 σ) := by
  rcases h01 with q | q
  · rw [e_s6_n (by omega)]; exact D_t (Int.le_refl _) q h
  · rw [e_s6_y q]
    obtain ⟨a1, a2, a3, a4, a5⟩ := h
    have hr : ∀ c : Nat, 2 ≤ c → c ≤ 6 → (tp_pi σ 0 4 (σ.1 0 4 + 1)).1 c = σ.1 c := fun c c2 _ => by rw [tp_pi_ne (by omega)]
    have b := a5 q
    refine ⟨fun p p0 p1 => H_fr hr p0 (a1 p p0 p1), fun z => ?_, a3, fun z => by have z : σ.1 0 5 = 0 := z; omega, fun _ => ?_⟩
    · rw [hr 6 (by omega) (by omega)]; exact a2 z
    · rw [hr 2 (by omega) (by omega), hr 6 (by omega) (by omega)]
      show (1 ≤ σ.1 0 9 ∧ σ.1 2 (σ.1 0 9 - 1) ≤ 2) ∧ s_D1 f A B Y dp (k + 1) (k + 1) G (tp_pi σ 0 4 (σ.1 0 4 + 1)) (s_s (tp_pi σ 0 4 (σ.1 0 4 + 1)) (σ.1 0 9 - 1)) (σ.1 6 (σ.1 0 9 - 1))
      have b1 := b.1
      rw [s_s_fr hr (by omega)]
      have d := b.2
      refine ⟨b.1, ?_, d.2⟩
      show σ.1 0 4 + 1 = k + 1 - s_s σ (σ.1 0 9 - 1)
      have := d.1
      omega
theorem D_stp {f A B Y : Int → Int} {bt dp n k : Int} {σ : tp_M} (hk : 0 ≤ k ∧ k < n) (hf : 0 < f 7) (hbt : 1 ≤ bt ∧ bt ≤ 9) (hdp : dp ≤ 4) (hw1 : r_w1 f (A k) (B k) (Y k)) (hfk : 0 ≤ f (9 + A k) ∧ f (9 + A k) ≤ 6) (hf0 : f 0 ≤ 40) (hJ : e_J f (max (k - 1) 0) k σ) (hL : σ.1 0 2 < bt) (h : s_D f A B Y dp n k k (fun S => s_S f A B dp S k) σ) : s_D f A B Y dp n (k + 1) (k + 1) (fun S => s_S f A B dp S (k + 1)) (e_stp f bt dp (A k) (B k) (Y k) k σ) := by
  have hA := hw1.1
  have hB := hw1.2.1
  have l1 : (e_out f k σ).1 0 2 < bt := by rw [L_out]; exact hL
  have l2 := L_see (f := f) (k := k) (by omega) l1
  have l3 := L_s3 (f := f) (k := k) (a := A k) (by omega) l2
  have J1 := J_out hk.1 hJ
  have J2 := J_see (k' := k) J1
  have J3 := J_s3 (f := f) (k' := k) (a := A k) hk.1 (by omega) J2
  have J4 := J_s4 (f := f) (k' := k) (a := A k) (y := Y k) hdp hB (by omega) J3
  have J5 := J_s5 (f := f) (k' := k) (bt := bt) J4
  have D1 := D_out (k' := k) h
  have D2 := D_see (by omega) J1.2.1.1 hf J1.2.2.2.2.2.2.1 D1
  unfold e_stp
  generalize e_see f k (e_out f k σ) = τ at *
  have D3 : s_D f A B Y dp n k k (fun S => s_S f A B dp S k) (e_s3 f (A k) k τ) := by
    by_cases q : τ.1 0 6 = 1
    · rw [e_s3_y q]; exact D2
    · rw [e_s3_n q]
      exact D_trn hk J2.2.1.1 J2.2.2.2.2.1 (by have := J2.2.2.2.2.2.1; omega) (J_pm (t := k) J2).2.1.1 D2
  generalize e_s3 f (A k) k τ = υ at *
  have D4 : s_D f A B Y dp n (k + 1) k (fun S => s_S f A B dp S (k + 1)) (e_s4 f (A k) (B k) (Y k) dp k υ) := by
    by_cases q : υ.1 0 5 = 1
    · rw [e_s4_y q]
      exact D_tel hk hw1 hfk (by have := J3.2.2.1; omega) q D3
    · rw [e_s4_n q]
      exact D_t (by omega) (by have := J3.2.2.2.2.1; omega) D3
  generalize e_s4 f (A k) (B k) (Y k) dp k υ = ρ at *
  have D5 : s_D f A B Y dp n (k + 1) k (fun S => s_S f A B dp S (k + 1)) (e_s5 f bt k ρ) := by
    by_cases q : ρ.1 0 5 = 1 ∧ ρ.1 0 2 = bt
    · rw [e_s5_y q]; exact D_map (by omega) q.1 D4
    · rw [e_s5_n q]; exact D4
  exact D_s6 J5.2.2.2.2.1 D5
theorem D_it {f A B Y H : Int → Int} {bt dp n : Int} (hw : tp_Cw f) (hW : r_W f n A B Y H) (hbt : 1 ≤ bt ∧ bt ≤ 9) (hdp : dp ≤ 4) : ∀ k : Nat, (k : Int) ≤ n → s_D f A B Y dp n k k (fun S => s_S f A B dp S k) (e_it f bt dp A B Y k) := by
  intro k
  have hf7 := hw.2.2.2.2.2.2.2.2.1
  have hw0 := hw.1
  induction k with
  | zero =>
    intro _
    exact ⟨fun p p0 p1 => by have p1 : p < 0 := p1; omega, fun z => by have z : (1 : Int) ≤ 0 := z; omega, fun _ => ⟨rfl, rfl⟩, fun _ _ z => by have z : (1 : Int) ≤ 0 := z; omega, fun z => by have z : (0 : Int) = 1 := z; omega⟩
  | succ k ih =>
    intro hk
    have r := (hW.2.2.2 (k : Int) (by omega) (by omega)).1
    obtain ⟨h1, h2⟩ := e_it_J hw hW hbt hdp k (by omega)
    have e := D_stp (f := f) (A := A) (B := B) (Y := Y) (bt := bt) (dp := dp) (n := n) (k := (k : Int)) (by omega) (by omega) hbt hdp r (hw.2.1 (A k) r.1.1 r.1.2).1 hw0.2 h1 h2 (ih (by omega))
    rw [show ((k + 1 : Nat) : Int) = (k : Int) + 1 by omega]
    exact e
/-- what every packet of a run tells -/
theorem H_all {f A B Y H : Int → Int} {bt dp n : Int} (hw : tp_Cw f) (hW : r_W f n A B Y H) (hbt : 1 ≤ bt ∧ bt ≤ 9) (hdp : dp ≤ 4) : ∀ p, 0 ≤ p → p < (e_all f bt dp A B Y n).1 0 9 → s_H f A B Y dp n (e_all f bt dp A B Y n) p := by
  have hn0 := hW.1
  have D := D_it hw hW hbt hdp n.toNat (by omega)
  have J := (e_it_J hw hW hbt hdp n.toNat (by omega)).1
  rw [show ((n.toNat : Nat) : Int) = n by omega] at D J
  unfold e_all
  generalize e_it f bt dp A B Y n.toNat = σ at *
  unfold e_fin
  by_cases u : σ.1 0 5 = 1
  · rw [if_pos u]
    have hM := D_map (t := n) (Int.le_refl _) u D
    rcases e_pmk_b f σ with z | z
    · rw [e_pp_n z]; exact hM.1
    · rw [e_pp_y z]
      have kp := e_pm_kp (t := n) z
      by_cases q : (e_pm f n σ).1 0 0 = f 7
      · rw [e_put_n q]; exact (D_drop hM).1
      · rw [e_put_y q]
        have o := D_off (kd := 4) (v := σ.1 0 4) (Or.inr rfl) (by omega) hM (e_pm_mm f n σ) (by rw [kp.1]; exact u) kp.2.2.1.symm
        exact H_add hM.1 o.1
  · rw [if_neg u]; exact D.1
