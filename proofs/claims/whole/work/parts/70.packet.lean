/-- how many bits a packet has -/
def q_bi (kd x : Int) : Int := if kd = 0 then 16 else if kd = 1 then 4 + x else if kd = 2 then 4 + 3 * x else if kd = 5 then 4 else 10
def e_B (σ : tp_M) : Prop := (∀ i, 0 ≤ i → i < σ.1 0 9 → (0 ≤ σ.1 2 i ∧ σ.1 2 i ≤ 5) ∧ σ.1 7 i = q_bi (σ.1 2 i) (σ.1 4 i) ∧ (0 ≤ σ.1 7 i ∧ σ.1 7 i ≤ 16)) ∧ σ.1 0 12 = q_s (σ.1 7) (σ.1 0 9)
theorem q_S_16 {F : Int → Int} : ∀ n : Nat, (∀ i, 0 ≤ i → i < (n : Int) → 0 ≤ F i ∧ F i ≤ 16) → 0 ≤ q_S F n ∧ q_S F n ≤ 16 * n := by
  intro n
  induction n with
  | zero => intro _; exact ⟨Int.le_refl 0, Int.le_refl 0⟩
  | succ n ih =>
    intro h
    have a := ih (fun i i0 i1 => h i i0 (by omega))
    have b := h n (by omega) (by omega)
    show 0 ≤ q_S F n + F n ∧ q_S F n + F n ≤ 16 * ((n + 1 : Nat) : Int)
    omega
theorem q_s_16 {F : Int → Int} {n : Int} (h0 : 0 ≤ n) (h : ∀ i, 0 ≤ i → i < n → 0 ≤ F i ∧ F i ≤ 16) : 0 ≤ q_s F n ∧ q_s F n ≤ 16 * n := by
  have e := q_S_16 (F := F) n.toNat (fun i i0 i1 => h i i0 (by omega))
  rw [show ((n.toNat : Nat) : Int) = n by omega] at e
  exact e
theorem B_put {f : Int → Int} {m k kd v x b t kn : Int} {σ : tp_M} (hf : f 7 ≤ 9) (hm : m ≤ 200) (hJ : e_J f m k σ) (hkd : 0 ≤ kd ∧ kd ≤ 5) (hb : b = q_bi kd x) (hb2 : 0 ≤ b ∧ b ≤ 16) (h : e_B σ) : e_B (e_put f kd v x b t kn σ) := by
  by_cases q : σ.1 0 0 = f 7
  · rw [e_put_n q]; exact h
  · rw [e_put_y q]
    have j1 := hJ.1
    have j2 := hJ.2.1
    refine ⟨fun i i0 i1 => ?_, ?_⟩
    · have i1 : i < σ.1 0 9 + 1 := i1
      by_cases z : i = σ.1 0 9
      · rw [(e_add_at z).1, (e_add_at z).2.2.1, (e_add_at z).2.2.2.2.2]
        exact ⟨hkd, hb, hb2⟩
      · rw [e_add_ne z 2 (by omega), e_add_ne z 4 (by omega), e_add_ne z 7 (by omega)]
        exact h.1 i i0 (by omega)
    · have s1 := q_s_16 (F := σ.1 7) (n := σ.1 0 9) j2.1 (fun i i0 i1 => (h.1 i i0 i1).2.2)
      show tp_w (σ.1 0 12 + b) = q_s ((e_add kd v x b t kn σ).1 7) (σ.1 0 9 + 1)
      rw [q_s1 j2.1, (e_add_at rfl).2.2.2.2.2, q_s_c (F := (e_add kd v x b t kn σ).1 7) (F' := σ.1 7) (fun i i0 i1 => e_add_ne (by omega) 7 (by omega)), h.2, tp_w_id ⟨by omega, by omega⟩]
theorem B_pm {f : Int → Int} {m k t : Int} {σ : tp_M} (hf : f 7 ≤ 9) (hm : m ≤ 200) (hJ : e_J f m k σ) (h : e_B σ) : e_B (e_pm f t σ) := by
  by_cases q : σ.1 0 2 = 0
  · rw [e_pm_0 q]; exact h
  · rw [e_pm_1 q]
    have j3 := hJ.2.2.1
    exact B_put hf hm hJ (by omega) (by unfold q_bi; rw [if_neg (by omega), if_pos rfl]) (by omega) h
theorem B_pp {f : Int → Int} {m k kd v x b t kn : Int} {σ : tp_M} (hf : f 7 ≤ 9) (hm : m ≤ 200) (hJ : e_J f m k σ) (hkd : 0 ≤ kd ∧ kd ≤ 5) (hb : b = q_bi kd x) (hb2 : 0 ≤ b ∧ b ≤ 16) (h : e_B σ) : e_B (e_pp f kd v x b t kn σ) := by
  unfold e_pp
  split
  · exact B_put hf hm (J_pm hJ) hkd hb hb2 (B_pm hf hm hJ h)
  · exact B_pm hf hm hJ h
theorem B_trn {f : Int → Int} {m k k' a : Int} {σ : tp_M} (hf : f 7 ≤ 9) (hm : m ≤ 200) (hJ : e_J f m k σ) (h : e_B σ) : e_B (e_trn f a k' σ) := by
  have h0 : e_B (e_pp f 0 a (e_cn σ) 16 k' k' σ) := B_pp hf hm hJ (by omega) rfl (by omega) h
  have h3 : e_B (e_pp f 3 (σ.1 0 4) 0 10 k' k' σ) := B_pp hf hm hJ (by omega) rfl (by omega) h
  unfold e_trn
  split
  · split
    · exact h
    · split
      · exact h0
      · exact h0
  · split
    · split
      · exact h3
      · exact h3
    · exact h
theorem e_dg_b (b : Int) (σ : tp_M) : 1 ≤ e_dg b σ ∧ e_dg b σ ≤ 2 := by unfold e_dg; split <;> omega
theorem B_gto {f : Int → Int} {m k k' b : Int} {σ : tp_M} (hf : f 7 ≤ 9) (hm : m ≤ 200) (hJ : e_J f m k σ) (h : e_B σ) : e_B (e_gto f b k' σ) := by
  have d := e_dg_b b σ
  have h0 : e_B (e_pp f 2 b (e_dg b σ) (4 + 3 * e_dg b σ) k' (k' + 1) σ) := B_pp hf hm hJ (by omega) (by unfold q_bi; rw [if_neg (by omega), if_neg (by omega), if_pos rfl]) (by omega) h
  unfold e_gto
  split
  · exact h0
  · exact h0
theorem B_pop {σ : tp_M} (h : e_B σ) : e_B (e_pop σ) := by
  unfold e_pop
  split <;> exact h
theorem B_tel {f : Int → Int} {m k k' a b y dp : Int} {σ : tp_M} (hf : f 7 ≤ 9) (hm : m ≤ 200) (hJ : e_J f m k σ) (h : e_B σ) : e_B (e_tel f a b y dp k' σ) := by
  unfold e_tel
  split
  · unfold e_psh
    split <;> exact h
  · split
    · exact h
    · split
      · exact h
      · split
        · split
          · exact B_pop h
          · exact B_gto hf hm (J_pop hJ) (B_pop h)
        · split
          · exact B_gto hf hm hJ h
          · exact h
theorem B_see {f : Int → Int} {m k k' : Int} {σ : tp_M} (hf : f 7 ≤ 9) (hm : m ≤ 200) (hJ : e_J f m k σ) (h : e_B σ) : e_B (e_see f k' σ) := by
  have h0 : e_B (e_put f 5 0 0 4 k' k' σ) := B_put hf hm hJ (by omega) rfl (by omega) h
  unfold e_see
  split
  · exact h0
  · exact h
theorem B_stp {f : Int → Int} {bt dp a b y k : Int} {σ : tp_M} (hf : f 7 ≤ 9) (hk : 0 ≤ k ∧ k ≤ 200) (hbt : 1 ≤ bt ∧ bt ≤ 9) (hdp : dp ≤ 4) (ha : 0 ≤ a ∧ a ≤ 40) (hb : b = -1 ∨ (0 ≤ b ∧ b ≤ 40)) (hJ : e_J f (max (k - 1) 0) k σ) (hL : σ.1 0 2 < bt) (h : e_B σ) : e_B (e_stp f bt dp a b y k σ) := by
  have l1 : (e_out f k σ).1 0 2 < bt := by rw [L_out]; exact hL
  have l2 := L_see (f := f) (k := k) (by omega) l1
  have l3 := L_s3 (f := f) (k := k) (a := a) (by omega) l2
  have J1 := J_out hk.1 hJ
  have J2 := J_see (k' := k) J1
  have J3 := J_s3 (f := f) (k' := k) (a := a) hk.1 ha J2
  have J4 := J_s4 (f := f) (k' := k) (a := a) (y := y) hdp hb (by omega) J3
  have b1 : e_B (e_out f k σ) := by unfold e_out; split <;> exact h
  have b2 := B_see (k' := k) hf hk.2 J1 b1
  have b3 : e_B (e_s3 f a k (e_see f k (e_out f k σ))) := by
    unfold e_s3
    split
    · exact b2
    · exact B_trn hf hk.2 J2 b2
  have b4 : e_B (e_s4 f a b y dp k (e_s3 f a k (e_see f k (e_out f k σ)))) := by
    generalize e_s3 f a k (e_see f k (e_out f k σ)) = τ at *
    unfold e_s4
    split
    · exact B_tel hf hk.2 J3 b3
    · exact b3
  unfold e_stp
  generalize e_s4 f a b y dp k (e_s3 f a k (e_see f k (e_out f k σ))) = τ at *
  have b5 : e_B (e_s5 f bt k τ) := by
    unfold e_s5
    split
    · exact B_pm hf hk.2 J4 b4
    · exact b4
  generalize e_s5 f bt k τ = υ at *
  unfold e_s6
  split <;> exact b5
theorem B_it {f : Int → Int} {bt dp n : Int} {A B Y H : Int → Int} (hw : tp_Cw f) (hW : r_W f n A B Y H) (hbt : 1 ≤ bt ∧ bt ≤ 9) (hdp : dp ≤ 4) : ∀ k : Nat, (k : Int) ≤ n → e_B (e_it f bt dp A B Y k) := by
  intro k
  have hf7 := hw.2.2.2.2.2.2.2.2.1
  have hw0 := hw.1
  have hn0 := hW.1
  induction k with
  | zero => intro _; exact ⟨fun i i0 i1 => by have i1 : i < 0 := i1; omega, rfl⟩
  | succ k ih =>
    intro hk
    have r := (hW.2.2.2 (k : Int) (by omega) (by omega)).1
    obtain ⟨h1, h2⟩ := e_it_J hw hW hbt hdp k (by omega)
    exact B_stp (by omega) (by omega) hbt hdp (by have := r.1; omega) r.2.1 h1 h2 (ih (by omega))
/-- the packets of a run -/
theorem e_all_B {f : Int → Int} {bt dp n : Int} {A B Y H : Int → Int} (hw : tp_Cw f) (hW : r_W f n A B Y H) (hbt : 1 ≤ bt ∧ bt ≤ 9) (hdp : dp ≤ 4) : e_B (e_all f bt dp A B Y n) ∧ e_J f (max (n - 1) 0) n (e_all f bt dp A B Y n) := by
  have hf7 := hw.2.2.2.2.2.2.2.2.1
  have hn0 := hW.1
  have hJ := (e_it_J hw hW hbt hdp n.toNat (by omega)).1
  have hB := B_it hw hW hbt hdp n.toNat (by omega)
  rw [show ((n.toNat : Nat) : Int) = n by omega] at hJ
  unfold e_all
  generalize e_it f bt dp A B Y n.toNat = σ at *
  unfold e_fin
  split
  · exact ⟨B_pp (by omega) (by omega) hJ (by omega) rfl (by omega) hB, J_pp hJ⟩
  · exact ⟨hB, hJ⟩
def q_pt (σ : tp_M) (k w : Int) : Int := if 0 ≤ k ∧ k < σ.1 0 9 then (if w = 0 then σ.1 2 k else if w = 1 then σ.1 3 k else if w = 2 then σ.1 4 k else if w = 3 then σ.1 7 k else if w = 4 then σ.1 5 k else -1) else -1
theorem q_pt_0 {σ : tp_M} {k w : Int} (h : 0 ≤ k ∧ k < σ.1 0 9) (hw : w = 0) : q_pt σ k w = σ.1 2 k := by unfold q_pt; rw [if_pos h, if_pos hw]
theorem q_pt_1 {σ : tp_M} {k w : Int} (h : 0 ≤ k ∧ k < σ.1 0 9) (hw : w = 1) : q_pt σ k w = σ.1 3 k := by unfold q_pt; rw [if_pos h, if_neg (by omega), if_pos hw]
theorem q_pt_2 {σ : tp_M} {k w : Int} (h : 0 ≤ k ∧ k < σ.1 0 9) (hw : w = 2) : q_pt σ k w = σ.1 4 k := by unfold q_pt; rw [if_pos h, if_neg (by omega), if_neg (by omega), if_pos hw]
theorem q_pt_3 {σ : tp_M} {k w : Int} (h : 0 ≤ k ∧ k < σ.1 0 9) (hw : w = 3) : q_pt σ k w = σ.1 7 k := by unfold q_pt; rw [if_pos h, if_neg (by omega), if_neg (by omega), if_neg (by omega), if_pos hw]
theorem q_pt_4 {σ : tp_M} {k w : Int} (h : 0 ≤ k ∧ k < σ.1 0 9) (hw : w = 4) : q_pt σ k w = σ.1 5 k := by unfold q_pt; rw [if_pos h, if_neg (by omega), if_neg (by omega), if_neg (by omega), if_neg (by omega), if_pos hw]
theorem q_pt_n {σ : tp_M} {k w : Int} (h : (k < 0 ∨ σ.1 0 9 ≤ k) ∨ (w < 0 ∨ 4 < w)) : q_pt σ k w = -1 := by
  unfold q_pt
  by_cases q : 0 ≤ k ∧ k < σ.1 0 9
  · rw [if_pos q, if_neg (by omega), if_neg (by omega), if_neg (by omega), if_neg (by omega), if_neg (by omega)]
  · rw [if_neg q]
theorem q_bi_x {kd x : Int} (h : 0 ≤ q_bi kd x ∧ q_bi kd x ≤ 16) (hk : kd = 1 ∨ kd = 2) : -1000 ≤ x ∧ x ≤ 1000 := by
  unfold q_bi at h
  rcases hk with q | q
  · rw [if_neg (by omega), if_pos q] at h; omega
  · rw [if_neg (by omega), if_neg (by omega), if_pos q] at h; omega
set_option maxHeartbeats 4000000 in
set_option maxRecDepth 100000 in
theorem s_ptell {G : tp_G} {μ : tp_M} (hG : tp_Gf G = true) {σ : tp_M} (hsz : μ.1 63 4 = σ.1 0 9) (hB : c_B σ μ) (hb : e_B σ) (hp : 0 ≤ σ.1 0 9 ∧ σ.1 0 9 ≤ 209) {k w : Int} : tp_k G mX3_tell [tR (some 63), tI k, tI w] μ (fun r μ' => r = some (tI (q_pt σ k w)) ∧ μ' = μ) := by
  refine tp_ok_of mX3_tell_ok rfl (Nat.le_refl _) ?_
  by_cases hin : 0 ≤ k ∧ k < σ.1 0 9
  · have hBk0 := hB k (by omega) (by omega)
    have hbk0 := hb.1 k (by omega) (by omega)
    have hkd0 : 0 ≤ μ.1 64 k ∧ μ.1 64 k ≤ 5 := by rw [hBk0.1]; exact hbk0.1
    have hxx : μ.1 64 k = 1 ∨ μ.1 64 k = 2 → -1000 ≤ μ.1 66 k ∧ μ.1 66 k ≤ 1000 := fun z => by rw [hBk0.2.2.1]; rw [hBk0.1] at z; exact q_bi_x (by rw [← hbk0.2.1]; exact hbk0.2.2) z
    refine g_iload_n rfl rfl ?_
    rcases (show w < 0 ∨ w = 0 ∨ w = 1 ∨ w = 2 ∨ w = 3 ∨ w = 4 ∨ 4 < w by omega) with h1 | h1 | h1 | h1 | h1 | h1 | h1
    · refine g_swOut (tgt := 66) rfl (by omega) (by decide) ?_
      refine g_iconst rfl ⟨by decide, by decide⟩ ?_
      refine x_ireturn rfl rfl ?_
      exact ⟨by rw [q_pt_n (by omega)], rfl⟩
    · refine g_swIn (off := 35) (tgt := 36) rfl (by omega) (by omega) (by rw [show (w - 0).toNat = 0 by omega]; rfl) (by decide) ?_
      refine g_aload_n rfl rfl ?_
      refine g_iload_n rfl rfl ?_
      refine g_iV (as := [tI k]) mX3_kind_ok rfl rfl rfl rfl rfl rfl (by decide) rfl rfl rfl ?_
      refine g_aload_n rfl rfl ?_
      refine g_iload_n rfl rfl ?_
      refine g_iV (as := [tI k]) mX3_has_ok rfl rfl rfl rfl rfl rfl (by decide) rfl rfl rfl ?_
      refine g_iload_n rfl rfl ?_
      refine g_if_lt (tgt := 23) rfl (by decide) (fun hx => absurd hx (by omega)) (fun _ => ?_)
      refine g_iload_n rfl rfl ?_
      refine g_aload_n rfl rfl ?_
      refine x_geti (v := (μ.1 63 4)) rfl rfl (by decide) (Or.inl rfl) rfl ?_
      refine g_icmp_ge (tgt := 23) rfl (by decide) (fun hx => absurd hx (by omega)) (fun _ => ?_)
      refine g_iload_n rfl rfl ?_
      refine g_sipush rfl ⟨by decide, by decide⟩ (by decide) ?_
      refine g_icmp_ge (tgt := 23) rfl (by decide) (fun hx => absurd hx (by omega)) (fun _ => ?_)
      refine g_iconst rfl ⟨by decide, by decide⟩ ?_
      refine g_goto (tgt := 24) rfl (by decide) ?_
      refine x_zreturn rfl rfl (Or.inr rfl) ?_
      intro _
      refine g_if_eq (tgt := 17) rfl (by decide) (fun hx => absurd hx (by omega)) (fun _ => ?_)
      refine g_aload_n rfl rfl ?_
      refine x_getF (r := 64) hG rfl rfl (by decide) (Or.inr ⟨_, rfl⟩) rfl ?_
      refine g_iload_n rfl rfl ?_
      refine x_iald (v := (μ.1 64 k)) rfl rfl (by decide) (by omega) (by omega) rfl ?_
      refine g_goto (tgt := 18) rfl (by decide) ?_
      refine x_ireturn rfl rfl ?_
      intro _
      refine x_ireturn rfl rfl ?_
      have hBk := hB k (by omega) (by omega)
      have hbk := hb.1 k (by omega) (by omega)
      exact ⟨congrArg (fun z => some (tI z)) ((q_pt_0 (by omega) (by omega)).trans (hBk.1).symm).symm, rfl⟩
    · refine g_swIn (off := 41) (tgt := 42) rfl (by omega) (by omega) (by rw [show (w - 0).toNat = 1 by omega]; rfl) (by decide) ?_
      refine g_aload_n rfl rfl ?_
      refine g_iload_n rfl rfl ?_
      refine g_iV (as := [tI k]) mX3_value_ok rfl rfl rfl rfl rfl rfl (by decide) rfl rfl rfl ?_
      refine g_aload_n rfl rfl ?_
      refine g_iload_n rfl rfl ?_
      refine g_iV (as := [tI k]) mX3_has_ok rfl rfl rfl rfl rfl rfl (by decide) rfl rfl rfl ?_
      refine g_iload_n rfl rfl ?_
      refine g_if_lt (tgt := 23) rfl (by decide) (fun hx => absurd hx (by omega)) (fun _ => ?_)
      refine g_iload_n rfl rfl ?_
      refine g_aload_n rfl rfl ?_
      refine x_geti (v := (μ.1 63 4)) rfl rfl (by decide) (Or.inl rfl) rfl ?_
      refine g_icmp_ge (tgt := 23) rfl (by decide) (fun hx => absurd hx (by omega)) (fun _ => ?_)
      refine g_iload_n rfl rfl ?_
      refine g_sipush rfl ⟨by decide, by decide⟩ (by decide) ?_
      refine g_icmp_ge (tgt := 23) rfl (by decide) (fun hx => absurd hx (by omega)) (fun _ => ?_)
      refine g_iconst rfl ⟨by decide, by decide⟩ ?_
      refine g_goto (tgt := 24) rfl (by decide) ?_
      refine x_zreturn rfl rfl (Or.inr rfl) ?_
      intro _
      refine g_if_eq (tgt := 17) rfl (by decide) (fun hx => absurd hx (by omega)) (fun _ => ?_)
      refine g_aload_n rfl rfl ?_
      refine x_getF (r := 65) hG rfl rfl (by decide) (Or.inr ⟨_, rfl⟩) rfl ?_
      refine g_iload_n rfl rfl ?_
      refine x_iald (v := (μ.1 65 k)) rfl rfl (by decide) (by omega) (by omega) rfl ?_
      refine g_goto (tgt := 18) rfl (by decide) ?_
      refine x_ireturn rfl rfl ?_
      intro _
      refine x_ireturn rfl rfl ?_
      have hBk := hB k (by omega) (by omega)
      have hbk := hb.1 k (by omega) (by omega)
      exact ⟨congrArg (fun z => some (tI z)) ((q_pt_1 (by omega) (by omega)).trans (hBk.2.1).symm).symm, rfl⟩
    · refine g_swIn (off := 47) (tgt := 48) rfl (by omega) (by omega) (by rw [show (w - 0).toNat = 2 by omega]; rfl) (by decide) ?_
      refine g_aload_n rfl rfl ?_
      refine g_iload_n rfl rfl ?_
      refine g_iV (as := [tI k]) mX3_extra_ok rfl rfl rfl rfl rfl rfl (by decide) rfl rfl rfl ?_
      refine g_aload_n rfl rfl ?_
      refine g_iload_n rfl rfl ?_
      refine g_iV (as := [tI k]) mX3_has_ok rfl rfl rfl rfl rfl rfl (by decide) rfl rfl rfl ?_
      refine g_iload_n rfl rfl ?_
      refine g_if_lt (tgt := 23) rfl (by decide) (fun hx => absurd hx (by omega)) (fun _ => ?_)
      refine g_iload_n rfl rfl ?_
      refine g_aload_n rfl rfl ?_
      refine x_geti (v := (μ.1 63 4)) rfl rfl (by decide) (Or.inl rfl) rfl ?_
      refine g_icmp_ge (tgt := 23) rfl (by decide) (fun hx => absurd hx (by omega)) (fun _ => ?_)
      refine g_iload_n rfl rfl ?_
      refine g_sipush rfl ⟨by decide, by decide⟩ (by decide) ?_
      refine g_icmp_ge (tgt := 23) rfl (by decide) (fun hx => absurd hx (by omega)) (fun _ => ?_)
      refine g_iconst rfl ⟨by decide, by decide⟩ ?_
      refine g_goto (tgt := 24) rfl (by decide) ?_
      refine x_zreturn rfl rfl (Or.inr rfl) ?_
      intro _
      refine g_if_eq (tgt := 17) rfl (by decide) (fun hx => absurd hx (by omega)) (fun _ => ?_)
      refine g_aload_n rfl rfl ?_
      refine x_getF (r := 66) hG rfl rfl (by decide) (Or.inr ⟨_, rfl⟩) rfl ?_
      refine g_iload_n rfl rfl ?_
      refine x_iald (v := (μ.1 66 k)) rfl rfl (by decide) (by omega) (by omega) rfl ?_
      refine g_goto (tgt := 18) rfl (by decide) ?_
      refine x_ireturn rfl rfl ?_
      intro _
      refine x_ireturn rfl rfl ?_
      have hBk := hB k (by omega) (by omega)
      have hbk := hb.1 k (by omega) (by omega)
      exact ⟨congrArg (fun z => some (tI z)) ((q_pt_2 (by omega) (by omega)).trans (hBk.2.2.1).symm).symm, rfl⟩
    · refine g_swIn (off := 53) (tgt := 54) rfl (by omega) (by omega) (by rw [show (w - 0).toNat = 3 by omega]; rfl) (by decide) ?_
      refine g_aload_n rfl rfl ?_
      refine g_iload_n rfl rfl ?_
      refine g_iV (as := [tI k]) mX3_bits_ok rfl rfl rfl rfl rfl rfl (by decide) rfl rfl rfl ?_
      refine g_aload_n rfl rfl ?_
      refine g_iload_n rfl rfl ?_
      refine g_iV (as := [tI k]) mX3_kind_ok rfl rfl rfl rfl rfl rfl (by decide) rfl rfl rfl ?_
      refine g_aload_n rfl rfl ?_
      refine g_iload_n rfl rfl ?_
      refine g_iV (as := [tI k]) mX3_has_ok rfl rfl rfl rfl rfl rfl (by decide) rfl rfl rfl ?_
      refine g_iload_n rfl rfl ?_
      refine g_if_lt (tgt := 23) rfl (by decide) (fun hx => absurd hx (by omega)) (fun _ => ?_)
      refine g_iload_n rfl rfl ?_
      refine g_aload_n rfl rfl ?_
      refine x_geti (v := (μ.1 63 4)) rfl rfl (by decide) (Or.inl rfl) rfl ?_
      refine g_icmp_ge (tgt := 23) rfl (by decide) (fun hx => absurd hx (by omega)) (fun _ => ?_)
      refine g_iload_n rfl rfl ?_
      refine g_sipush rfl ⟨by decide, by decide⟩ (by decide) ?_
      refine g_icmp_ge (tgt := 23) rfl (by decide) (fun hx => absurd hx (by omega)) (fun _ => ?_)
      refine g_iconst rfl ⟨by decide, by decide⟩ ?_
      refine g_goto (tgt := 24) rfl (by decide) ?_
      refine x_zreturn rfl rfl (Or.inr rfl) ?_
      intro _
      refine g_if_eq (tgt := 17) rfl (by decide) (fun hx => absurd hx (by omega)) (fun _ => ?_)
      refine g_aload_n rfl rfl ?_
      refine x_getF (r := 64) hG rfl rfl (by decide) (Or.inr ⟨_, rfl⟩) rfl ?_
      refine g_iload_n rfl rfl ?_
      refine x_iald (v := (μ.1 64 k)) rfl rfl (by decide) (by omega) (by omega) rfl ?_
      refine g_goto (tgt := 18) rfl (by decide) ?_
      refine x_ireturn rfl rfl ?_
      intro _
      rcases (show (μ.1 64 k) < 0 ∨ (μ.1 64 k) = 0 ∨ (μ.1 64 k) = 1 ∨ (μ.1 64 k) = 2 ∨ (μ.1 64 k) = 3 ∨ (μ.1 64 k) = 4 ∨ (μ.1 64 k) = 5 ∨ 5 < (μ.1 64 k) by omega) with h2 | h2 | h2 | h2 | h2 | h2 | h2 | h2
      · omega
      · refine g_swIn (off := 39) (tgt := 44) rfl (by omega) (by omega) (by rw [show ((μ.1 64 k) - 0).toNat = 0 by omega]; rfl) (by decide) ?_
        refine g_bipush rfl ⟨by decide, by decide⟩ (by decide) ?_
        refine x_ireturn rfl rfl ?_
        intro _
        refine x_ireturn rfl rfl ?_
        have hBk := hB k (by omega) (by omega)
        have hbk := hb.1 k (by omega) (by omega)
        exact ⟨congrArg (fun z => some (tI z)) (((q_pt_3 (by omega) (by omega)).trans hbk.2.1).trans (by unfold q_bi; first | (rw [if_pos (by omega)]; done) | (rw [if_neg (by omega), if_pos (by omega)]; omega) | (rw [if_neg (by omega), if_neg (by omega), if_pos (by omega)]; omega) | (rw [if_neg (by omega), if_neg (by omega), if_neg (by omega), if_pos (by omega)]; done) | (rw [if_neg (by omega), if_neg (by omega), if_neg (by omega), if_neg (by omega)]; done))).symm, rfl⟩
      · refine g_swIn (off := 42) (tgt := 47) rfl (by omega) (by omega) (by rw [show ((μ.1 64 k) - 0).toNat = 1 by omega]; rfl) (by decide) ?_
        refine g_iconst rfl ⟨by decide, by decide⟩ ?_
        refine g_aload_n rfl rfl ?_
        refine g_iload_n rfl rfl ?_
        refine g_iV (as := [tI k]) mX3_extra_ok rfl rfl rfl rfl rfl rfl (by decide) rfl rfl rfl ?_
        refine g_aload_n rfl rfl ?_
        refine g_iload_n rfl rfl ?_
        refine g_iV (as := [tI k]) mX3_has_ok rfl rfl rfl rfl rfl rfl (by decide) rfl rfl rfl ?_
        refine g_iload_n rfl rfl ?_
        refine g_if_lt (tgt := 23) rfl (by decide) (fun hx => absurd hx (by omega)) (fun _ => ?_)
        refine g_iload_n rfl rfl ?_
        refine g_aload_n rfl rfl ?_
        refine x_geti (v := (μ.1 63 4)) rfl rfl (by decide) (Or.inl rfl) rfl ?_
        refine g_icmp_ge (tgt := 23) rfl (by decide) (fun hx => absurd hx (by omega)) (fun _ => ?_)
        refine g_iload_n rfl rfl ?_
        refine g_sipush rfl ⟨by decide, by decide⟩ (by decide) ?_
        refine g_icmp_ge (tgt := 23) rfl (by decide) (fun hx => absurd hx (by omega)) (fun _ => ?_)
        refine g_iconst rfl ⟨by decide, by decide⟩ ?_
        refine g_goto (tgt := 24) rfl (by decide) ?_
        refine x_zreturn rfl rfl (Or.inr rfl) ?_
        intro _
        refine g_if_eq (tgt := 17) rfl (by decide) (fun hx => absurd hx (by omega)) (fun _ => ?_)
        refine g_aload_n rfl rfl ?_
        refine x_getF (r := 66) hG rfl rfl (by decide) (Or.inr ⟨_, rfl⟩) rfl ?_
        refine g_iload_n rfl rfl ?_
        refine x_iald (v := (μ.1 66 k)) rfl rfl (by decide) (by omega) (by omega) rfl ?_
        refine g_goto (tgt := 18) rfl (by decide) ?_
        refine x_ireturn rfl rfl ?_
        intro _
        refine x_iadd (z := (μ.1 66 k) + 4) rfl (by omega) ⟨by omega, by omega⟩ ?_
        refine x_ireturn rfl rfl ?_
        intro _
        refine x_ireturn rfl rfl ?_
        have hBk := hB k (by omega) (by omega)
        have hbk := hb.1 k (by omega) (by omega)
        exact ⟨congrArg (fun z => some (tI z)) (((q_pt_3 (by omega) (by omega)).trans hbk.2.1).trans (by unfold q_bi; first | (rw [if_pos (by omega)]; done) | (rw [if_neg (by omega), if_pos (by omega)]; omega) | (rw [if_neg (by omega), if_neg (by omega), if_pos (by omega)]; omega) | (rw [if_neg (by omega), if_neg (by omega), if_neg (by omega), if_pos (by omega)]; done) | (rw [if_neg (by omega), if_neg (by omega), if_neg (by omega), if_neg (by omega)]; done))).symm, rfl⟩
      · refine g_swIn (off := 50) (tgt := 55) rfl (by omega) (by omega) (by rw [show ((μ.1 64 k) - 0).toNat = 2 by omega]; rfl) (by decide) ?_
        refine g_iconst rfl ⟨by decide, by decide⟩ ?_
        refine g_iconst rfl ⟨by decide, by decide⟩ ?_
        refine g_aload_n rfl rfl ?_
        refine g_iload_n rfl rfl ?_
        refine g_iV (as := [tI k]) mX3_extra_ok rfl rfl rfl rfl rfl rfl (by decide) rfl rfl rfl ?_
        refine g_aload_n rfl rfl ?_
        refine g_iload_n rfl rfl ?_
        refine g_iV (as := [tI k]) mX3_has_ok rfl rfl rfl rfl rfl rfl (by decide) rfl rfl rfl ?_
        refine g_iload_n rfl rfl ?_
        refine g_if_lt (tgt := 23) rfl (by decide) (fun hx => absurd hx (by omega)) (fun _ => ?_)
        refine g_iload_n rfl rfl ?_
        refine g_aload_n rfl rfl ?_
        refine x_geti (v := (μ.1 63 4)) rfl rfl (by decide) (Or.inl rfl) rfl ?_
        refine g_icmp_ge (tgt := 23) rfl (by decide) (fun hx => absurd hx (by omega)) (fun _ => ?_)
        refine g_iload_n rfl rfl ?_
        refine g_sipush rfl ⟨by decide, by decide⟩ (by decide) ?_
        refine g_icmp_ge (tgt := 23) rfl (by decide) (fun hx => absurd hx (by omega)) (fun _ => ?_)
        refine g_iconst rfl ⟨by decide, by decide⟩ ?_
        refine g_goto (tgt := 24) rfl (by decide) ?_
        refine x_zreturn rfl rfl (Or.inr rfl) ?_
        intro _
        refine g_if_eq (tgt := 17) rfl (by decide) (fun hx => absurd hx (by omega)) (fun _ => ?_)
        refine g_aload_n rfl rfl ?_
        refine x_getF (r := 66) hG rfl rfl (by decide) (Or.inr ⟨_, rfl⟩) rfl ?_
        refine g_iload_n rfl rfl ?_
        refine x_iald (v := (μ.1 66 k)) rfl rfl (by decide) (by omega) (by omega) rfl ?_
        refine g_goto (tgt := 18) rfl (by decide) ?_
        refine x_ireturn rfl rfl ?_
        intro _
        refine x_imul (z := 3 * (μ.1 66 k)) rfl (by omega) ⟨by omega, by omega⟩ ?_
        refine x_iadd (z := 3 * (μ.1 66 k) + 4) rfl (by omega) ⟨by omega, by omega⟩ ?_
        refine x_ireturn rfl rfl ?_
        intro _
        refine x_ireturn rfl rfl ?_
        have hBk := hB k (by omega) (by omega)
        have hbk := hb.1 k (by omega) (by omega)
        exact ⟨congrArg (fun z => some (tI z)) (((q_pt_3 (by omega) (by omega)).trans hbk.2.1).trans (by unfold q_bi; first | (rw [if_pos (by omega)]; done) | (rw [if_neg (by omega), if_pos (by omega)]; omega) | (rw [if_neg (by omega), if_neg (by omega), if_pos (by omega)]; omega) | (rw [if_neg (by omega), if_neg (by omega), if_neg (by omega), if_pos (by omega)]; done) | (rw [if_neg (by omega), if_neg (by omega), if_neg (by omega), if_neg (by omega)]; done))).symm, rfl⟩
      · refine g_swIn (off := 60) (tgt := 65) rfl (by omega) (by omega) (by rw [show ((μ.1 64 k) - 0).toNat = 3 by omega]; rfl) (by decide) ?_
        refine g_bipush rfl ⟨by decide, by decide⟩ (by decide) ?_
        refine x_ireturn rfl rfl ?_
        intro _
        refine x_ireturn rfl rfl ?_
        have hBk := hB k (by omega) (by omega)
        have hbk := hb.1 k (by omega) (by omega)
        exact ⟨congrArg (fun z => some (tI z)) (((q_pt_3 (by omega) (by omega)).trans hbk.2.1).trans (by unfold q_bi; first | (rw [if_pos (by omega)]; done) | (rw [if_neg (by omega), if_pos (by omega)]; omega) | (rw [if_neg (by omega), if_neg (by omega), if_pos (by omega)]; omega) | (rw [if_neg (by omega), if_neg (by omega), if_neg (by omega), if_pos (by omega)]; done) | (rw [if_neg (by omega), if_neg (by omega), if_neg (by omega), if_neg (by omega)]; done))).symm, rfl⟩
      · refine g_swIn (off := 60) (tgt := 65) rfl (by omega) (by omega) (by rw [show ((μ.1 64 k) - 0).toNat = 4 by omega]; rfl) (by decide) ?_
        refine g_bipush rfl ⟨by decide, by decide⟩ (by decide) ?_
        refine x_ireturn rfl rfl ?_
        intro _
        refine x_ireturn rfl rfl ?_
        have hBk := hB k (by omega) (by omega)
        have hbk := hb.1 k (by omega) (by omega)
        exact ⟨congrArg (fun z => some (tI z)) (((q_pt_3 (by omega) (by omega)).trans hbk.2.1).trans (by unfold q_bi; first | (rw [if_pos (by omega)]; done) | (rw [if_neg (by omega), if_pos (by omega)]; omega) | (rw [if_neg (by omega), if_neg (by omega), if_pos (by omega)]; omega) | (rw [if_neg (by omega), if_neg (by omega), if_neg (by omega), if_pos (by omega)]; done) | (rw [if_neg (by omega), if_neg (by omega), if_neg (by omega), if_neg (by omega)]; done))).symm, rfl⟩
      · refine g_swIn (off := 63) (tgt := 68) rfl (by omega) (by omega) (by rw [show ((μ.1 64 k) - 0).toNat = 5 by omega]; rfl) (by decide) ?_
        refine g_iconst rfl ⟨by decide, by decide⟩ ?_
        refine x_ireturn rfl rfl ?_
        intro _
        refine x_ireturn rfl rfl ?_
        have hBk := hB k (by omega) (by omega)
        have hbk := hb.1 k (by omega) (by omega)
        exact ⟨congrArg (fun z => some (tI z)) (((q_pt_3 (by omega) (by omega)).trans hbk.2.1).trans (by unfold q_bi; first | (rw [if_pos (by omega)]; done) | (rw [if_neg (by omega), if_pos (by omega)]; omega) | (rw [if_neg (by omega), if_neg (by omega), if_pos (by omega)]; omega) | (rw [if_neg (by omega), if_neg (by omega), if_neg (by omega), if_pos (by omega)]; done) | (rw [if_neg (by omega), if_neg (by omega), if_neg (by omega), if_neg (by omega)]; done))).symm, rfl⟩
      · omega
    · refine g_swIn (off := 59) (tgt := 60) rfl (by omega) (by omega) (by rw [show (w - 0).toNat = 4 by omega]; rfl) (by decide) ?_
      refine g_aload_n rfl rfl ?_
      refine g_iload_n rfl rfl ?_
      refine g_iV (as := [tI k]) mX3_stepOf_ok rfl rfl rfl rfl rfl rfl (by decide) rfl rfl rfl ?_
      refine g_aload_n rfl rfl ?_
      refine g_iload_n rfl rfl ?_
      refine g_iV (as := [tI k]) mX3_has_ok rfl rfl rfl rfl rfl rfl (by decide) rfl rfl rfl ?_
      refine g_iload_n rfl rfl ?_
      refine g_if_lt (tgt := 23) rfl (by decide) (fun hx => absurd hx (by omega)) (fun _ => ?_)
      refine g_iload_n rfl rfl ?_
      refine g_aload_n rfl rfl ?_
      refine x_geti (v := (μ.1 63 4)) rfl rfl (by decide) (Or.inl rfl) rfl ?_
      refine g_icmp_ge (tgt := 23) rfl (by decide) (fun hx => absurd hx (by omega)) (fun _ => ?_)
      refine g_iload_n rfl rfl ?_
      refine g_sipush rfl ⟨by decide, by decide⟩ (by decide) ?_
      refine g_icmp_ge (tgt := 23) rfl (by decide) (fun hx => absurd hx (by omega)) (fun _ => ?_)
      refine g_iconst rfl ⟨by decide, by decide⟩ ?_
      refine g_goto (tgt := 24) rfl (by decide) ?_
      refine x_zreturn rfl rfl (Or.inr rfl) ?_
      intro _
      refine g_if_eq (tgt := 17) rfl (by decide) (fun hx => absurd hx (by omega)) (fun _ => ?_)
      refine g_aload_n rfl rfl ?_
      refine x_getF (r := 67) hG rfl rfl (by decide) (Or.inr ⟨_, rfl⟩) rfl ?_
      refine g_iload_n rfl rfl ?_
      refine x_iald (v := (μ.1 67 k)) rfl rfl (by decide) (by omega) (by omega) rfl ?_
      refine g_goto (tgt := 18) rfl (by decide) ?_
      refine x_ireturn rfl rfl ?_
      intro _
      refine x_ireturn rfl rfl ?_
      have hBk := hB k (by omega) (by omega)
      have hbk := hb.1 k (by omega) (by omega)
      exact ⟨congrArg (fun z => some (tI z)) ((q_pt_4 (by omega) (by omega)).trans (hBk.2.2.2).symm).symm, rfl⟩
    · refine g_swOut (tgt := 66) rfl (by omega) (by decide) ?_
      refine g_iconst rfl ⟨by decide, by decide⟩ ?_
      refine x_ireturn rfl rfl ?_
      exact ⟨by rw [q_pt_n (by omega)], rfl⟩
  · refine g_iload_n rfl rfl ?_
    rcases (show w < 0 ∨ w = 0 ∨ w = 1 ∨ w = 2 ∨ w = 3 ∨ w = 4 ∨ 4 < w by omega) with h1 | h1 | h1 | h1 | h1 | h1 | h1
    · refine g_swOut (tgt := 66) rfl (by omega) (by decide) ?_
      refine g_iconst rfl ⟨by decide, by decide⟩ ?_
      refine x_ireturn rfl rfl ?_
      exact ⟨by rw [q_pt_n (by omega)], rfl⟩
    · refine g_swIn (off := 35) (tgt := 36) rfl (by omega) (by omega) (by rw [show (w - 0).toNat = 0 by omega]; rfl) (by decide) ?_
      refine g_aload_n rfl rfl ?_
      refine g_iload_n rfl rfl ?_
      refine g_iV (as := [tI k]) mX3_kind_ok rfl rfl rfl rfl rfl rfl (by decide) rfl rfl rfl ?_
      refine g_aload_n rfl rfl ?_
      refine g_iload_n rfl rfl ?_
      refine g_iV (as := [tI k]) mX3_has_ok rfl rfl rfl rfl rfl rfl (by decide) rfl rfl rfl ?_
      refine g_iload_n rfl rfl ?_
      refine g_if_lt (tgt := 23) rfl (by decide) (fun h2 => ?_) (fun h2 => ?_)
      · first
          | omega
          | refine g_iconst rfl ⟨by decide, by decide⟩ ?_
            refine x_zreturn rfl rfl (Or.inl rfl) ?_
            intro _
            refine g_if_eq (tgt := 17) rfl (by decide) (fun _ => ?_) (fun hx => absurd hx (by omega))
            refine g_iconst rfl ⟨by decide, by decide⟩ ?_
            refine x_ireturn rfl rfl ?_
            intro _
            refine x_ireturn rfl rfl ?_
            exact ⟨by rw [q_pt_n (by omega)], rfl⟩
      · first
          | omega
          | refine g_iload_n rfl rfl ?_
            refine g_aload_n rfl rfl ?_
            refine x_geti (v := (μ.1 63 4)) rfl rfl (by decide) (Or.inl rfl) rfl ?_
            refine g_icmp_ge (tgt := 23) rfl (by decide) (fun h3 => ?_) (fun h3 => ?_)
            · first
                | omega
                | refine g_iconst rfl ⟨by decide, by decide⟩ ?_
                  refine x_zreturn rfl rfl (Or.inl rfl) ?_
                  intro _
                  refine g_if_eq (tgt := 17) rfl (by decide) (fun _ => ?_) (fun hx => absurd hx (by omega))
                  refine g_iconst rfl ⟨by decide, by decide⟩ ?_
                  refine x_ireturn rfl rfl ?_
                  intro _
                  refine x_ireturn rfl rfl ?_
                  exact ⟨by rw [q_pt_n (by omega)], rfl⟩
            · first
                | omega
                | refine g_iload_n rfl rfl ?_
                  refine g_sipush rfl ⟨by decide, by decide⟩ (by decide) ?_
                  refine g_icmp_ge (tgt := 23) rfl (by decide) (fun hx => absurd hx (by omega)) (fun _ => ?_)
                  refine g_iconst rfl ⟨by decide, by decide⟩ ?_
                  refine g_goto (tgt := 24) rfl (by decide) ?_
                  refine x_zreturn rfl rfl (Or.inr rfl) ?_
                  intro _
                  refine g_if_eq (tgt := 17) rfl (by decide) (fun hx => absurd hx (by omega)) (fun _ => ?_)
                  refine g_aload_n rfl rfl ?_
                  refine x_getF (r := 64) hG rfl rfl (by decide) (Or.inr ⟨_, rfl⟩) rfl ?_
                  refine g_iload_n rfl rfl ?_
                  refine x_iald (v := (μ.1 64 k)) rfl rfl (by decide) (by omega) (by omega) rfl ?_
                  refine g_goto (tgt := 18) rfl (by decide) ?_
                  refine x_ireturn rfl rfl ?_
                  intro _
                  refine x_ireturn rfl rfl ?_
                  have hBk := hB k (by omega) (by omega)
                  have hbk := hb.1 k (by omega) (by omega)
                  exact ⟨congrArg (fun z => some (tI z)) ((q_pt_0 (by omega) (by omega)).trans (hBk.1).symm).symm, rfl⟩
    · refine g_swIn (off := 41) (tgt := 42) rfl (by omega) (by omega) (by rw [show (w - 0).toNat = 1 by omega]; rfl) (by decide) ?_
      refine g_aload_n rfl rfl ?_
      refine g_iload_n rfl rfl ?_
      refine g_iV (as := [tI k]) mX3_value_ok rfl rfl rfl rfl rfl rfl (by decide) rfl rfl rfl ?_
      refine g_aload_n rfl rfl ?_
      refine g_iload_n rfl rfl ?_
      refine g_iV (as := [tI k]) mX3_has_ok rfl rfl rfl rfl rfl rfl (by decide) rfl rfl rfl ?_
      refine g_iload_n rfl rfl ?_
      refine g_if_lt (tgt := 23) rfl (by decide) (fun h4 => ?_) (fun h4 => ?_)
      · first
          | omega
          | refine g_iconst rfl ⟨by decide, by decide⟩ ?_
            refine x_zreturn rfl rfl (Or.inl rfl) ?_
            intro _
            refine g_if_eq (tgt := 17) rfl (by decide) (fun _ => ?_) (fun hx => absurd hx (by omega))
            refine g_iconst rfl ⟨by decide, by decide⟩ ?_
            refine x_ireturn rfl rfl ?_
            intro _
            refine x_ireturn rfl rfl ?_
            exact ⟨by rw [q_pt_n (by omega)], rfl⟩
      · first
          | omega
          | refine g_iload_n rfl rfl ?_
            refine g_aload_n rfl rfl ?_
            refine x_geti (v := (μ.1 63 4)) rfl rfl (by decide) (Or.inl rfl) rfl ?_
            refine g_icmp_ge (tgt := 23) rfl (by decide) (fun h5 => ?_) (fun h5 => ?_)
            · first
                | omega
                | refine g_iconst rfl ⟨by decide, by decide⟩ ?_
                  refine x_zreturn rfl rfl (Or.inl rfl) ?_
                  intro _
                  refine g_if_eq (tgt := 17) rfl (by decide) (fun _ => ?_) (fun hx => absurd hx (by omega))
                  refine g_iconst rfl ⟨by decide, by decide⟩ ?_
                  refine x_ireturn rfl rfl ?_
                  intro _
                  refine x_ireturn rfl rfl ?_
                  exact ⟨by rw [q_pt_n (by omega)], rfl⟩
            · first
                | omega
                | refine g_iload_n rfl rfl ?_
                  refine g_sipush rfl ⟨by decide, by decide⟩ (by decide) ?_
                  refine g_icmp_ge (tgt := 23) rfl (by decide) (fun hx => absurd hx (by omega)) (fun _ => ?_)
                  refine g_iconst rfl ⟨by decide, by decide⟩ ?_
                  refine g_goto (tgt := 24) rfl (by decide) ?_
                  refine x_zreturn rfl rfl (Or.inr rfl) ?_
                  intro _
                  refine g_if_eq (tgt := 17) rfl (by decide) (fun hx => absurd hx (by omega)) (fun _ => ?_)
                  refine g_aload_n rfl rfl ?_
                  refine x_getF (r := 65) hG rfl rfl (by decide) (Or.inr ⟨_, rfl⟩) rfl ?_
                  refine g_iload_n rfl rfl ?_
                  refine x_iald (v := (μ.1 65 k)) rfl rfl (by decide) (by omega) (by omega) rfl ?_
                  refine g_goto (tgt := 18) rfl (by decide) ?_
                  refine x_ireturn rfl rfl ?_
                  intro _
                  refine x_ireturn rfl rfl ?_
                  have hBk := hB k (by omega) (by omega)
                  have hbk := hb.1 k (by omega) (by omega)
                  exact ⟨congrArg (fun z => some (tI z)) ((q_pt_1 (by omega) (by omega)).trans (hBk.2.1).symm).symm, rfl⟩
    · refine g_swIn (off := 47) (tgt := 48) rfl (by omega) (by omega) (by rw [show (w - 0).toNat = 2 by omega]; rfl) (by decide) ?_
      refine g_aload_n rfl rfl ?_
      refine g_iload_n rfl rfl ?_
      refine g_iV (as := [tI k]) mX3_extra_ok rfl rfl rfl rfl rfl rfl (by decide) rfl rfl rfl ?_
      refine g_aload_n rfl rfl ?_
      refine g_iload_n rfl rfl ?_
      refine g_iV (as := [tI k]) mX3_has_ok rfl rfl rfl rfl rfl rfl (by decide) rfl rfl rfl ?_
      refine g_iload_n rfl rfl ?_
      refine g_if_lt (tgt := 23) rfl (by decide) (fun h6 => ?_) (fun h6 => ?_)
      · first
          | omega
          | refine g_iconst rfl ⟨by decide, by decide⟩ ?_
            refine x_zreturn rfl rfl (Or.inl rfl) ?_
            intro _
            refine g_if_eq (tgt := 17) rfl (by decide) (fun _ => ?_) (fun hx => absurd hx (by omega))
            refine g_iconst rfl ⟨by decide, by decide⟩ ?_
            refine x_ireturn rfl rfl ?_
            intro _
            refine x_ireturn rfl rfl ?_
            exact ⟨by rw [q_pt_n (by omega)], rfl⟩
      · first
          | omega
          | refine g_iload_n rfl rfl ?_
            refine g_aload_n rfl rfl ?_
            refine x_geti (v := (μ.1 63 4)) rfl rfl (by decide) (Or.inl rfl) rfl ?_
            refine g_icmp_ge (tgt := 23) rfl (by decide) (fun h7 => ?_) (fun h7 => ?_)
            · first
                | omega
                | refine g_iconst rfl ⟨by decide, by decide⟩ ?_
                  refine x_zreturn rfl rfl (Or.inl rfl) ?_
                  intro _
                  refine g_if_eq (tgt := 17) rfl (by decide) (fun _ => ?_) (fun hx => absurd hx (by omega))
                  refine g_iconst rfl ⟨by decide, by decide⟩ ?_
                  refine x_ireturn rfl rfl ?_
                  intro _
                  refine x_ireturn rfl rfl ?_
                  exact ⟨by rw [q_pt_n (by omega)], rfl⟩
            · first
                | omega
                | refine g_iload_n rfl rfl ?_
                  refine g_sipush rfl ⟨by decide, by decide⟩ (by decide) ?_
                  refine g_icmp_ge (tgt := 23) rfl (by decide) (fun hx => absurd hx (by omega)) (fun _ => ?_)
                  refine g_iconst rfl ⟨by decide, by decide⟩ ?_
                  refine g_goto (tgt := 24) rfl (by decide) ?_
                  refine x_zreturn rfl rfl (Or.inr rfl) ?_
                  intro _
                  refine g_if_eq (tgt := 17) rfl (by decide) (fun hx => absurd hx (by omega)) (fun _ => ?_)
                  refine g_aload_n rfl rfl ?_
                  refine x_getF (r := 66) hG rfl rfl (by decide) (Or.inr ⟨_, rfl⟩) rfl ?_
                  refine g_iload_n rfl rfl ?_
                  refine x_iald (v := (μ.1 66 k)) rfl rfl (by decide) (by omega) (by omega) rfl ?_
                  refine g_goto (tgt := 18) rfl (by decide) ?_
                  refine x_ireturn rfl rfl ?_
                  intro _
                  refine x_ireturn rfl rfl ?_
                  have hBk := hB k (by omega) (by omega)
                  have hbk := hb.1 k (by omega) (by omega)
                  exact ⟨congrArg (fun z => some (tI z)) ((q_pt_2 (by omega) (by omega)).trans (hBk.2.2.1).symm).symm, rfl⟩
    · refine g_swIn (off := 53) (tgt := 54) rfl (by omega) (by omega) (by rw [show (w - 0).toNat = 3 by omega]; rfl) (by decide) ?_
      refine g_aload_n rfl rfl ?_
      refine g_iload_n rfl rfl ?_
      refine g_iV (as := [tI k]) mX3_bits_ok rfl rfl rfl rfl rfl rfl (by decide) rfl rfl rfl ?_
      refine g_aload_n rfl rfl ?_
      refine g_iload_n rfl rfl ?_
      refine g_iV (as := [tI k]) mX3_kind_ok rfl rfl rfl rfl rfl rfl (by decide) rfl rfl rfl ?_
      refine g_aload_n rfl rfl ?_
      refine g_iload_n rfl rfl ?_
      refine g_iV (as := [tI k]) mX3_has_ok rfl rfl rfl rfl rfl rfl (by decide) rfl rfl rfl ?_
      refine g_iload_n rfl rfl ?_
      refine g_if_lt (tgt := 23) rfl (by decide) (fun h8 => ?_) (fun h8 => ?_)
      · first
          | omega
          | refine g_iconst rfl ⟨by decide, by decide⟩ ?_
            refine x_zreturn rfl rfl (Or.inl rfl) ?_
            intro _
            refine g_if_eq (tgt := 17) rfl (by decide) (fun _ => ?_) (fun hx => absurd hx (by omega))
            refine g_iconst rfl ⟨by decide, by decide⟩ ?_
            refine x_ireturn rfl rfl ?_
            intro _
            refine g_swOut (tgt := 70) rfl (by decide) (by decide) ?_
            refine g_iconst rfl ⟨by decide, by decide⟩ ?_
            refine x_ireturn rfl rfl ?_
            intro _
            refine x_ireturn rfl rfl ?_
            exact ⟨by rw [q_pt_n (by omega)], rfl⟩
      · first
          | omega
          | refine g_iload_n rfl rfl ?_
            refine g_aload_n rfl rfl ?_
            refine x_geti (v := (μ.1 63 4)) rfl rfl (by decide) (Or.inl rfl) rfl ?_
            refine g_icmp_ge (tgt := 23) rfl (by decide) (fun h9 => ?_) (fun h9 => ?_)
            · first
                | omega
                | refine g_iconst rfl ⟨by decide, by decide⟩ ?_
                  refine x_zreturn rfl rfl (Or.inl rfl) ?_
                  intro _
                  refine g_if_eq (tgt := 17) rfl (by decide) (fun _ => ?_) (fun hx => absurd hx (by omega))
                  refine g_iconst rfl ⟨by decide, by decide⟩ ?_
                  refine x_ireturn rfl rfl ?_
                  intro _
                  refine g_swOut (tgt := 70) rfl (by decide) (by decide) ?_
                  refine g_iconst rfl ⟨by decide, by decide⟩ ?_
                  refine x_ireturn rfl rfl ?_
                  intro _
                  refine x_ireturn rfl rfl ?_
                  exact ⟨by rw [q_pt_n (by omega)], rfl⟩
            · first
                | omega
                | refine g_iload_n rfl rfl ?_
                  refine g_sipush rfl ⟨by decide, by decide⟩ (by decide) ?_
                  refine g_icmp_ge (tgt := 23) rfl (by decide) (fun hx => absurd hx (by omega)) (fun _ => ?_)
                  refine g_iconst rfl ⟨by decide, by decide⟩ ?_
                  refine g_goto (tgt := 24) rfl (by decide) ?_
                  refine x_zreturn rfl rfl (Or.inr rfl) ?_
                  intro _
                  refine g_if_eq (tgt := 17) rfl (by decide) (fun hx => absurd hx (by omega)) (fun _ => ?_)
                  refine g_aload_n rfl rfl ?_
                  refine x_getF (r := 64) hG rfl rfl (by decide) (Or.inr ⟨_, rfl⟩) rfl ?_
                  refine g_iload_n rfl rfl ?_
                  refine x_iald (v := (μ.1 64 k)) rfl rfl (by decide) (by omega) (by omega) rfl ?_
                  refine g_goto (tgt := 18) rfl (by decide) ?_
                  refine x_ireturn rfl rfl ?_
                  intro _
                  rcases (show (μ.1 64 k) < 0 ∨ (μ.1 64 k) = 0 ∨ (μ.1 64 k) = 1 ∨ (μ.1 64 k) = 2 ∨ (μ.1 64 k) = 3 ∨ (μ.1 64 k) = 4 ∨ (μ.1 64 k) = 5 ∨ 5 < (μ.1 64 k) by omega) with h10 | h10 | h10 | h10 | h10 | h10 | h10 | h10
                  · refine g_swOut (tgt := 70) rfl (by omega) (by decide) ?_
                    refine g_iconst rfl ⟨by decide, by decide⟩ ?_
                    refine x_ireturn rfl rfl ?_
                    intro _
                    refine x_ireturn rfl rfl ?_
                    exact ⟨by rw [q_pt_n (by omega)], rfl⟩
                  · refine g_swIn (off := 39) (tgt := 44) rfl (by omega) (by omega) (by rw [show ((μ.1 64 k) - 0).toNat = 0 by omega]; rfl) (by decide) ?_
                    refine g_bipush rfl ⟨by decide, by decide⟩ (by decide) ?_
                    refine x_ireturn rfl rfl ?_
                    intro _
                    refine x_ireturn rfl rfl ?_
                    have hBk := hB k (by omega) (by omega)
                    have hbk := hb.1 k (by omega) (by omega)
                    exact ⟨congrArg (fun z => some (tI z)) (((q_pt_3 (by omega) (by omega)).trans hbk.2.1).trans (by unfold q_bi; first | (rw [if_pos (by omega)]; done) | (rw [if_neg (by omega), if_pos (by omega)]; omega) | (rw [if_neg (by omega), if_neg (by omega), if_pos (by omega)]; omega) | (rw [if_neg (by omega), if_neg (by omega), if_neg (by omega), if_pos (by omega)]; done) | (rw [if_neg (by omega), if_neg (by omega), if_neg (by omega), if_neg (by omega)]; done))).symm, rfl⟩
                  · refine g_swIn (off := 42) (tgt := 47) rfl (by omega) (by omega) (by rw [show ((μ.1 64 k) - 0).toNat = 1 by omega]; rfl) (by decide) ?_
                    refine g_iconst rfl ⟨by decide, by decide⟩ ?_
                    refine g_aload_n rfl rfl ?_
                    refine g_iload_n rfl rfl ?_
                    refine g_iV (as := [tI k]) mX3_extra_ok rfl rfl rfl rfl rfl rfl (by decide) rfl rfl rfl ?_
                    refine g_aload_n rfl rfl ?_
                    refine g_iload_n rfl rfl ?_
                    refine g_iV (as := [tI k]) mX3_has_ok rfl rfl rfl rfl rfl rfl (by decide) rfl rfl rfl ?_
                    refine g_iload_n rfl rfl ?_
                    refine g_if_lt (tgt := 23) rfl (by decide) (fun hx => absurd hx (by omega)) (fun _ => ?_)
                    refine g_iload_n rfl rfl ?_
                    refine g_aload_n rfl rfl ?_
                    refine x_geti (v := (μ.1 63 4)) rfl rfl (by decide) (Or.inl rfl) rfl ?_
                    refine g_icmp_ge (tgt := 23) rfl (by decide) (fun hx => absurd hx (by omega)) (fun _ => ?_)
                    refine g_iload_n rfl rfl ?_
                    refine g_sipush rfl ⟨by decide, by decide⟩ (by decide) ?_
                    refine g_icmp_ge (tgt := 23) rfl (by decide) (fun hx => absurd hx (by omega)) (fun _ => ?_)
                    refine g_iconst rfl ⟨by decide, by decide⟩ ?_
                    refine g_goto (tgt := 24) rfl (by decide) ?_
                    refine x_zreturn rfl rfl (Or.inr rfl) ?_
                    intro _
                    refine g_if_eq (tgt := 17) rfl (by decide) (fun hx => absurd hx (by omega)) (fun _ => ?_)
                    refine g_aload_n rfl rfl ?_
                    refine x_getF (r := 66) hG rfl rfl (by decide) (Or.inr ⟨_, rfl⟩) rfl ?_
                    refine g_iload_n rfl rfl ?_
                    refine x_iald (v := (μ.1 66 k)) rfl rfl (by decide) (by omega) (by omega) rfl ?_
                    refine g_goto (tgt := 18) rfl (by decide) ?_
                    refine x_ireturn rfl rfl ?_
                    intro _
                    refine x_iadd (z := (μ.1 66 k) + 4) rfl (by omega) ⟨by omega, by omega⟩ ?_
                    refine x_ireturn rfl rfl ?_
                    intro _
                    refine x_ireturn rfl rfl ?_
                    have hBk := hB k (by omega) (by omega)
                    have hbk := hb.1 k (by omega) (by omega)
                    exact ⟨congrArg (fun z => some (tI z)) (((q_pt_3 (by omega) (by omega)).trans hbk.2.1).trans (by unfold q_bi; first | (rw [if_pos (by omega)]; done) | (rw [if_neg (by omega), if_pos (by omega)]; omega) | (rw [if_neg (by omega), if_neg (by omega), if_pos (by omega)]; omega) | (rw [if_neg (by omega), if_neg (by omega), if_neg (by omega), if_pos (by omega)]; done) | (rw [if_neg (by omega), if_neg (by omega), if_neg (by omega), if_neg (by omega)]; done))).symm, rfl⟩
                  · refine g_swIn (off := 50) (tgt := 55) rfl (by omega) (by omega) (by rw [show ((μ.1 64 k) - 0).toNat = 2 by omega]; rfl) (by decide) ?_
                    refine g_iconst rfl ⟨by decide, by decide⟩ ?_
                    refine g_iconst rfl ⟨by decide, by decide⟩ ?_
                    refine g_aload_n rfl rfl ?_
                    refine g_iload_n rfl rfl ?_
                    refine g_iV (as := [tI k]) mX3_extra_ok rfl rfl rfl rfl rfl rfl (by decide) rfl rfl rfl ?_
                    refine g_aload_n rfl rfl ?_
                    refine g_iload_n rfl rfl ?_
                    refine g_iV (as := [tI k]) mX3_has_ok rfl rfl rfl rfl rfl rfl (by decide) rfl rfl rfl ?_
                    refine g_iload_n rfl rfl ?_
                    refine g_if_lt (tgt := 23) rfl (by decide) (fun hx => absurd hx (by omega)) (fun _ => ?_)
                    refine g_iload_n rfl rfl ?_
                    refine g_aload_n rfl rfl ?_
                    refine x_geti (v := (μ.1 63 4)) rfl rfl (by decide) (Or.inl rfl) rfl ?_
                    refine g_icmp_ge (tgt := 23) rfl (by decide) (fun hx => absurd hx (by omega)) (fun _ => ?_)
                    refine g_iload_n rfl rfl ?_
                    refine g_sipush rfl ⟨by decide, by decide⟩ (by decide) ?_
                    refine g_icmp_ge (tgt := 23) rfl (by decide) (fun hx => absurd hx (by omega)) (fun _ => ?_)
                    refine g_iconst rfl ⟨by decide, by decide⟩ ?_
                    refine g_goto (tgt := 24) rfl (by decide) ?_
                    refine x_zreturn rfl rfl (Or.inr rfl) ?_
                    intro _
                    refine g_if_eq (tgt := 17) rfl (by decide) (fun hx => absurd hx (by omega)) (fun _ => ?_)
                    refine g_aload_n rfl rfl ?_
                    refine x_getF (r := 66) hG rfl rfl (by decide) (Or.inr ⟨_, rfl⟩) rfl ?_
                    refine g_iload_n rfl rfl ?_
                    refine x_iald (v := (μ.1 66 k)) rfl rfl (by decide) (by omega) (by omega) rfl ?_
                    refine g_goto (tgt := 18) rfl (by decide) ?_
                    refine x_ireturn rfl rfl ?_
                    intro _
                    refine x_imul (z := 3 * (μ.1 66 k)) rfl (by omega) ⟨by omega, by omega⟩ ?_
                    refine x_iadd (z := 3 * (μ.1 66 k) + 4) rfl (by omega) ⟨by omega, by omega⟩ ?_
                    refine x_ireturn rfl rfl ?_
                    intro _
                    refine x_ireturn rfl rfl ?_
                    have hBk := hB k (by omega) (by omega)
                    have hbk := hb.1 k (by omega) (by omega)
                    exact ⟨congrArg (fun z => some (tI z)) (((q_pt_3 (by omega) (by omega)).trans hbk.2.1).trans (by unfold q_bi; first | (rw [if_pos (by omega)]; done) | (rw [if_neg (by omega), if_pos (by omega)]; omega) | (rw [if_neg (by omega), if_neg (by omega), if_pos (by omega)]; omega) | (rw [if_neg (by omega), if_neg (by omega), if_neg (by omega), if_pos (by omega)]; done) | (rw [if_neg (by omega), if_neg (by omega), if_neg (by omega), if_neg (by omega)]; done))).symm, rfl⟩
                  · refine g_swIn (off := 60) (tgt := 65) rfl (by omega) (by omega) (by rw [show ((μ.1 64 k) - 0).toNat = 3 by omega]; rfl) (by decide) ?_
                    refine g_bipush rfl ⟨by decide, by decide⟩ (by decide) ?_
                    refine x_ireturn rfl rfl ?_
                    intro _
                    refine x_ireturn rfl rfl ?_
                    have hBk := hB k (by omega) (by omega)
                    have hbk := hb.1 k (by omega) (by omega)
                    exact ⟨congrArg (fun z => some (tI z)) (((q_pt_3 (by omega) (by omega)).trans hbk.2.1).trans (by unfold q_bi; first | (rw [if_pos (by omega)]; done) | (rw [if_neg (by omega), if_pos (by omega)]; omega) | (rw [if_neg (by omega), if_neg (by omega), if_pos (by omega)]; omega) | (rw [if_neg (by omega), if_neg (by omega), if_neg (by omega), if_pos (by omega)]; done) | (rw [if_neg (by omega), if_neg (by omega), if_neg (by omega), if_neg (by omega)]; done))).symm, rfl⟩
                  · refine g_swIn (off := 60) (tgt := 65) rfl (by omega) (by omega) (by rw [show ((μ.1 64 k) - 0).toNat = 4 by omega]; rfl) (by decide) ?_
                    refine g_bipush rfl ⟨by decide, by decide⟩ (by decide) ?_
                    refine x_ireturn rfl rfl ?_
                    intro _
                    refine x_ireturn rfl rfl ?_
                    have hBk := hB k (by omega) (by omega)
                    have hbk := hb.1 k (by omega) (by omega)
                    exact ⟨congrArg (fun z => some (tI z)) (((q_pt_3 (by omega) (by omega)).trans hbk.2.1).trans (by unfold q_bi; first | (rw [if_pos (by omega)]; done) | (rw [if_neg (by omega), if_pos (by omega)]; omega) | (rw [if_neg (by omega), if_neg (by omega), if_pos (by omega)]; omega) | (rw [if_neg (by omega), if_neg (by omega), if_neg (by omega), if_pos (by omega)]; done) | (rw [if_neg (by omega), if_neg (by omega), if_neg (by omega), if_neg (by omega)]; done))).symm, rfl⟩
                  · refine g_swIn (off := 63) (tgt := 68) rfl (by omega) (by omega) (by rw [show ((μ.1 64 k) - 0).toNat = 5 by omega]; rfl) (by decide) ?_
                    refine g_iconst rfl ⟨by decide, by decide⟩ ?_
                    refine x_ireturn rfl rfl ?_
                    intro _
                    refine x_ireturn rfl rfl ?_
                    have hBk := hB k (by omega) (by omega)
                    have hbk := hb.1 k (by omega) (by omega)
                    exact ⟨congrArg (fun z => some (tI z)) (((q_pt_3 (by omega) (by omega)).trans hbk.2.1).trans (by unfold q_bi; first | (rw [if_pos (by omega)]; done) | (rw [if_neg (by omega), if_pos (by omega)]; omega) | (rw [if_neg (by omega), if_neg (by omega), if_pos (by omega)]; omega) | (rw [if_neg (by omega), if_neg (by omega), if_neg (by omega), if_pos (by omega)]; done) | (rw [if_neg (by omega), if_neg (by omega), if_neg (by omega), if_neg (by omega)]; done))).symm, rfl⟩
                  · refine g_swOut (tgt := 70) rfl (by omega) (by decide) ?_
                    refine g_iconst rfl ⟨by decide, by decide⟩ ?_
                    refine x_ireturn rfl rfl ?_
                    intro _
                    refine x_ireturn rfl rfl ?_
                    exact ⟨by rw [q_pt_n (by omega)], rfl⟩
    · refine g_swIn (off := 59) (tgt := 60) rfl (by omega) (by omega) (by rw [show (w - 0).toNat = 4 by omega]; rfl) (by decide) ?_
      refine g_aload_n rfl rfl ?_
      refine g_iload_n rfl rfl ?_
      refine g_iV (as := [tI k]) mX3_stepOf_ok rfl rfl rfl rfl rfl rfl (by decide) rfl rfl rfl ?_
      refine g_aload_n rfl rfl ?_
      refine g_iload_n rfl rfl ?_
      refine g_iV (as := [tI k]) mX3_has_ok rfl rfl rfl rfl rfl rfl (by decide) rfl rfl rfl ?_
      refine g_iload_n rfl rfl ?_
      refine g_if_lt (tgt := 23) rfl (by decide) (fun h11 => ?_) (fun h11 => ?_)
      · first
          | omega
          | refine g_iconst rfl ⟨by decide, by decide⟩ ?_
            refine x_zreturn rfl rfl (Or.inl rfl) ?_
            intro _
            refine g_if_eq (tgt := 17) rfl (by decide) (fun _ => ?_) (fun hx => absurd hx (by omega))
            refine g_iconst rfl ⟨by decide, by decide⟩ ?_
            refine x_ireturn rfl rfl ?_
            intro _
            refine x_ireturn rfl rfl ?_
            exact ⟨by rw [q_pt_n (by omega)], rfl⟩
      · first
          | omega
          | refine g_iload_n rfl rfl ?_
            refine g_aload_n rfl rfl ?_
            refine x_geti (v := (μ.1 63 4)) rfl rfl (by decide) (Or.inl rfl) rfl ?_
            refine g_icmp_ge (tgt := 23) rfl (by decide) (fun h12 => ?_) (fun h12 => ?_)
            · first
                | omega
                | refine g_iconst rfl ⟨by decide, by decide⟩ ?_
                  refine x_zreturn rfl rfl (Or.inl rfl) ?_
                  intro _
                  refine g_if_eq (tgt := 17) rfl (by decide) (fun _ => ?_) (fun hx => absurd hx (by omega))
                  refine g_iconst rfl ⟨by decide, by decide⟩ ?_
                  refine x_ireturn rfl rfl ?_
                  intro _
                  refine x_ireturn rfl rfl ?_
                  exact ⟨by rw [q_pt_n (by omega)], rfl⟩
            · first
                | omega
                | refine g_iload_n rfl rfl ?_
                  refine g_sipush rfl ⟨by decide, by decide⟩ (by decide) ?_
                  refine g_icmp_ge (tgt := 23) rfl (by decide) (fun hx => absurd hx (by omega)) (fun _ => ?_)
                  refine g_iconst rfl ⟨by decide, by decide⟩ ?_
                  refine g_goto (tgt := 24) rfl (by decide) ?_
                  refine x_zreturn rfl rfl (Or.inr rfl) ?_
                  intro _
                  refine g_if_eq (tgt := 17) rfl (by decide) (fun hx => absurd hx (by omega)) (fun _ => ?_)
                  refine g_aload_n rfl rfl ?_
                  refine x_getF (r := 67) hG rfl rfl (by decide) (Or.inr ⟨_, rfl⟩) rfl ?_
                  refine g_iload_n rfl rfl ?_
                  refine x_iald (v := (μ.1 67 k)) rfl rfl (by decide) (by omega) (by omega) rfl ?_
                  refine g_goto (tgt := 18) rfl (by decide) ?_
                  refine x_ireturn rfl rfl ?_
                  intro _
                  refine x_ireturn rfl rfl ?_
                  have hBk := hB k (by omega) (by omega)
                  have hbk := hb.1 k (by omega) (by omega)
                  exact ⟨congrArg (fun z => some (tI z)) ((q_pt_4 (by omega) (by omega)).trans (hBk.2.2.2).symm).symm, rfl⟩
    · refine g_swOut (tgt := 66) rfl (by omega) (by decide) ?_
      refine g_iconst rfl ⟨by decide, by decide⟩ ?_
      refine x_ireturn rfl rfl ?_
      exact ⟨by rw [q_pt_n (by omega)], rfl⟩
set_option maxHeartbeats 4000000 in
set_option maxRecDepth 100000 in
theorem p_packet {G : tp_G} (hG : tp_Gf G = true) {a d k w : Int} : tp_pair G mX11_packet mX12_packet [tI a, tI d, tI k, tI w] := by
  intro μ hR
  have hm0 := tp_R_many hR 0 (by decide) (by decide)
  have hm1 := tp_R_many hR 1 (by decide) (by decide)
  by_cases hab : ((a < 0 ∨ μ.1 5 0 ≤ a) ∨ (d < 0 ∨ μ.1 5 1 ≤ d))
  · obtain ⟨hX, hM⟩ := tp_layo hG hR hab
    refine tp_ok_of mX11_packet_ok rfl (Nat.le_refl _) ?_
    refine g_aload_n rfl rfl ?_
    refine g_iload_n rfl rfl ?_
    refine g_iload_n rfl rfl ?_
    refine g_cV (as := [tI a, tI d]) (hX) rfl rfl mX11_follow_ok rfl rfl rfl (by decide) rfl rfl rfl ?_
    rintro _ w9 ⟨rfl, hw9⟩ _
    have hw9 := hw9.symm
    subst hw9
    refine g_if_ne (tgt := 11) rfl (by decide) (fun hx => absurd hx (by omega)) (fun _ => ?_)
    refine g_iconst rfl ⟨by decide, by decide⟩ ?_
    refine x_ireturn rfl rfl ?_
    refine ⟨_, rfl, ?_⟩
    refine tp_ok_of mX12_packet_ok rfl (Nat.le_refl _) ?_
    refine g_aload_n rfl rfl ?_
    refine g_iconst rfl ⟨by decide, by decide⟩ ?_
    refine g_puti rfl rfl (by decide) rfl rfl ?_
    refine g_aload_n rfl rfl ?_
    refine g_iload_n rfl rfl ?_
    refine g_iload_n rfl rfl ?_
    refine g_iV (as := [tI a, tI d]) mX12_layPackets_ok rfl rfl rfl rfl rfl rfl (by decide) rfl rfl rfl ?_
    refine g_aload_n rfl rfl ?_
    refine g_iload_n rfl rfl ?_
    refine g_iload_n rfl rfl ?_
    refine g_cV (as := [tI a, tI d]) (hM _ (tp_kp_pi (by decide) tp_kp_rf)) rfl rfl mX12_lay_ok rfl rfl rfl (by decide) rfl rfl rfl ?_
    rintro _ w2 ⟨rfl, hGm⟩ _
    have hkp2 : tp_kp μ w2 := m_G_kp (tp_kp_pi (by decide) tp_kp_rf) hGm
    refine g_if_ne (tgt := 11) rfl (by decide) (fun hx => absurd hx (by omega)) (fun _ => ?_)
    refine g_iconst rfl ⟨by decide, by decide⟩ ?_
    refine x_zreturn rfl rfl (Or.inl rfl) ?_
    intro _
    refine g_if_eq (tgt := 28) rfl (by decide) (fun _ => ?_) (fun hx => absurd hx (by omega))
    refine g_iconst rfl ⟨by decide, by decide⟩ ?_
    refine x_ireturn rfl rfl ?_
    exact ⟨rfl, tp_R_kp hR hkp2⟩
  · obtain ⟨a, rfl⟩ : ∃ a9 : Nat, a = (a9 : Int) := ⟨a.toNat, by omega⟩
    obtain ⟨d, rfl⟩ : ∃ d9 : Nat, d = (d9 : Int) := ⟨d.toNat, by omega⟩
    obtain ⟨n, A, B, Y, H, E, D, U, T, hW, hw, hCd0, hX, hM⟩ := tp_lay hG hR (k := a) (d := d) (by omega) (by omega) (by omega) (by omega)
    generalize tp_cf μ (a : Int) = f at hW hw hCd0 hX hM
    obtain ⟨c, hcE⟩ : ∃ c, c = 6 + 5 * a := ⟨_, rfl⟩
    rw [← hcE] at hCd0 hX
    have hc : tp_SH c = .inl 0 := by rcases (show a = 0 ∨ a = 1 by omega) with q | q <;> (subst q; subst hcE; rfl)
    have hcl : c < 37 := by omega
    have hcn : c < 234 := by omega
    have hw0 := hw.1
    have hn0 := hW.1
    have hrl := hw.2.2
    refine tp_ok_of mX11_packet_ok rfl (Nat.le_refl _) ?_
    refine g_aload_n rfl rfl ?_
    refine g_iload_n rfl rfl ?_
    refine g_iload_n rfl rfl ?_
    refine g_cV (as := [tI (a : Int), tI (d : Int)]) (hX) rfl rfl mX11_follow_ok rfl rfl rfl (by decide) rfl rfl rfl ?_
    rintro _ w1 ⟨rfl, hT, hco, hfr⟩ _
    have hCd : tp_Cd c f w1 := tp_Cd_fr hcl (fun k9 z9 => hfr k9 (by omega)) hCd0
    have hkp1 : tp_kp μ w1 := fun k9 z9 => hfr k9 (by unfold tp_tl at z9; omega)
    have hn6 := hT.1
    refine g_if_ne (tgt := 11) rfl (by decide) (fun _ => ?_) (fun hx => absurd hx (by omega))
    refine g_aload_n rfl rfl ?_
    refine g_iV (as := []) mX11_encode_ok rfl rfl rfl rfl rfl rfl (by decide) rfl rfl rfl ?_
    refine g_aload_n rfl rfl ?_
    refine x_getF (r := 50) hG rfl rfl (by decide) (Or.inl ⟨_, rfl⟩) rfl ?_
    refine x_getM (v := (some c)) hG rfl rfl (by decide) (Or.inl ⟨_, rfl⟩) rfl hco ?_
    refine g_astore_n rfl rfl rfl ?_
    refine g_aload_n rfl rfl ?_
    refine g_ifnull (tgt := 34) rfl (by decide) (fun hx => by cases hx) (fun _ _ => ?_)
    refine g_aload_n rfl rfl ?_
    refine x_getF (r := 62) hG rfl rfl (by decide) (Or.inl ⟨_, rfl⟩) rfl ?_
    refine g_aload_n rfl rfl ?_
    refine g_aload_n rfl rfl ?_
    refine x_getF (r := 50) hG rfl rfl (by decide) (Or.inl ⟨_, rfl⟩) rfl ?_
    refine g_aload_n rfl rfl ?_
    refine g_iconst rfl ⟨by decide, by decide⟩ ?_
    refine g_cV (as := [tI 0]) (s_ruleN (n := 1) hG hc hcl hCd (by decide) (by decide) (by decide)) rfl rfl mX0_rule_ok rfl hc rfl hcn rfl rfl rfl ?_
    rintro _ w9 ⟨rfl, hw9⟩ _
    have hw9 := hw9.symm
    subst hw9
    refine g_aload_n rfl rfl ?_
    refine g_iconst rfl ⟨by decide, by decide⟩ ?_
    refine g_cV (as := [tI 1]) (s_ruleN (n := 2) hG hc hcl hCd (by decide) (by decide) (by decide)) rfl rfl mX0_rule_ok rfl hc rfl hcn rfl rfl rfl ?_
    rintro _ w9 ⟨rfl, hw9⟩ _
    have hw9 := hw9.symm
    subst hw9
    refine g_cV (as := [tR (some c), tR (some 50), tI (f 1), tI (f 2)]) (s_encode hG hc hcl hw hCd hW hT (by omega) (by omega)) rfl rfl mX1_encode_ok rfl rfl rfl (by decide) rfl rfl rfl ?_
    rintro _ w3 ⟨rfl, hE3⟩ _
    have hkp3 : tp_kp μ w3 := fun k9 z9 => (hE3.2.2.2.2.1 k9 (by unfold tp_tl at z9; omega)).trans (hkp1 k9 z9)
    have hBJ := e_all_B (bt := f 1) (dp := f 2) hw hW (by omega) (by omega)
    obtain ⟨σ, hσ⟩ : ∃ σ9, σ9 = (e_all f (f 1) (f 2) A B Y n) := ⟨_, rfl⟩
    rw [← hσ] at hE3 hBJ
    have hbB := hBJ.1
    have hJ1 := hBJ.2.1
    have hJ2 := hBJ.2.2.1
    have hsz3 : w3.1 63 4 = σ.1 0 9 := hE3.1.2.2.2.2.2.2.2.2.1
    refine x_return rfl rfl ?_
    intro _
    refine g_aload_n rfl rfl ?_
    refine x_getF (r := 62) hG rfl rfl (by decide) (Or.inl ⟨_, rfl⟩) rfl ?_
    refine x_getF (r := 63) hG rfl rfl (by decide) (Or.inl ⟨_, rfl⟩) rfl ?_
    refine g_iload_n rfl rfl ?_
    refine g_iload rfl rfl ?_
    refine g_cV (as := [tI k, tI w]) (s_ptell hG hsz3 hE3.2.1 hbB (by omega)) rfl rfl mX3_tell_ok rfl rfl rfl (by decide) rfl rfl rfl ?_
    rintro _ w9 ⟨rfl, hw9⟩ _
    have hw9 := hw9.symm
    subst hw9
    refine x_ireturn rfl rfl ?_
    refine ⟨_, rfl, ?_⟩
    refine tp_ok_of mX12_packet_ok rfl (Nat.le_refl _) ?_
    refine g_aload_n rfl rfl ?_
    refine g_iconst rfl ⟨by decide, by decide⟩ ?_
    refine g_puti rfl rfl (by decide) rfl rfl ?_
    refine g_aload_n rfl rfl ?_
    refine g_iload_n rfl rfl ?_
    refine g_iload_n rfl rfl ?_
    refine g_iV (as := [tI (a : Int), tI (d : Int)]) mX12_layPackets_ok rfl rfl rfl rfl rfl rfl (by decide) rfl rfl rfl ?_
    refine g_aload_n rfl rfl ?_
    refine g_iload_n rfl rfl ?_
    refine g_iload_n rfl rfl ?_
    refine g_cV (as := [tI (a : Int), tI (d : Int)]) (hM _ (tp_kp_pi (by decide) hkp3)) rfl rfl mX12_lay_ok rfl rfl rfl (by decide) rfl rfl rfl ?_
    rintro _ w2 ⟨rfl, hTm, hMc, hGm, hdr, hdm⟩ _
    have hkp2 : tp_kp μ w2 := m_G_kp (tp_kp_pi (by decide) hkp3) hGm
    have hm6 := hTm.1
    have hall := hMc.2.2.1
    refine g_if_ne (tgt := 11) rfl (by decide) (fun _ => ?_) (fun hx => absurd hx (by omega))
    refine g_aload_n rfl rfl ?_
    refine g_aload_n rfl rfl ?_
    refine g_iconst rfl ⟨by decide, by decide⟩ ?_
    refine g_cV (as := [tI 1]) (s_of hG hMc (by omega) (by omega)) rfl rfl mX12_of_ok rfl rfl rfl (by decide) rfl rfl rfl ?_
    rintro _ w9 ⟨rfl, hw9⟩ _
    have hw9 := hw9.symm
    subst hw9
    refine g_aload_n rfl rfl ?_
    refine g_iconst rfl ⟨by decide, by decide⟩ ?_
    refine g_cV (as := [tI 2]) (s_of hG hMc (by omega) (by omega)) rfl rfl mX12_of_ok rfl rfl rfl (by decide) rfl rfl rfl ?_
    rintro _ w9 ⟨rfl, hw9⟩ _
    have hw9 := hw9.symm
    subst hw9
    refine g_cV (as := [tI (f 1), tI (f 2)]) (s_encodesM hG hw hMc hW hTm (by omega) (by omega)) rfl rfl mX12_encodes_ok rfl rfl rfl (by decide) rfl rfl rfl ?_
    rintro _ w4 ⟨rfl, hE4⟩ _
    have hkp4 : tp_kp μ w4 := fun k9 z9 => (hE4.2.2.2.1 k9 (by unfold tp_tl at z9; omega) (by unfold tp_tl at z9; omega)).trans (hkp2 k9 z9)
    rw [← hσ] at hE4
    have hMB := hE4.2.1
    have hsz4 : w4.1 201 47 = σ.1 0 9 := hE4.1.2.2.2.2.2.2.2.2.1
    refine g_iconst rfl ⟨by decide, by decide⟩ ?_
    refine x_zreturn rfl rfl (Or.inr rfl) ?_
    intro _
    refine g_if_eq (tgt := 28) rfl (by decide) (fun hx => absurd hx (by omega)) (fun _ => ?_)
    refine g_iload_n rfl rfl ?_
    refine g_iconst rfl ⟨by decide, by decide⟩ ?_
    refine g_aload_n rfl rfl ?_
    refine x_geti (v := (w4.1 201 47)) rfl rfl (by decide) (Or.inl rfl) rfl ?_
    refine g_iconst rfl ⟨by decide, by decide⟩ ?_
    refine x_isub (z := (w4.1 201 47) - 1) rfl (by omega) ⟨by omega, by omega⟩ ?_
    refine g_iS (as := [tI k, tI 0, tI ((w4.1 201 47) - 1)]) mX12_in_ok rfl rfl rfl rfl rfl rfl rfl ?_
    refine g_iload_n rfl rfl ?_
    refine g_iload_n rfl rfl ?_
    refine g_icmp_lt (tgt := 14) rfl (by decide) (fun h1 => ?_) (fun h1 => ?_)
    · refine g_iconst rfl ⟨by decide, by decide⟩ ?_
      refine x_zreturn rfl rfl (Or.inl rfl) ?_
      intro _
      refine g_if_ne (tgt := 30) rfl (by decide) (fun hx => absurd hx (by omega)) (fun _ => ?_)
      refine g_iconst rfl ⟨by decide, by decide⟩ ?_
      refine x_ireturn rfl rfl ?_
      exact ⟨(by first | rfl | exact congrArg (fun z => some (tI z)) ((q_pt_n (by omega)).symm) | exact congrArg (fun z => some (tI z)) ((hMB k (by omega) (by omega)).1.trans (q_pt_0 (by omega) (by omega)).symm) | exact congrArg (fun z => some (tI z)) ((hMB k (by omega) (by omega)).2.1.trans (q_pt_1 (by omega) (by omega)).symm) | exact congrArg (fun z => some (tI z)) ((hMB k (by omega) (by omega)).2.2.1.trans (q_pt_2 (by omega) (by omega)).symm) | exact congrArg (fun z => some (tI z)) ((hMB k (by omega) (by omega)).2.2.2.2.2.trans (q_pt_3 (by omega) (by omega)).symm) | exact congrArg (fun z => some (tI z)) ((hMB k (by omega) (by omega)).2.2.2.1.trans (q_pt_4 (by omega) (by omega)).symm) | (exfalso; omega)), tp_R_kp hR hkp4⟩
    · refine g_iload_n rfl rfl ?_
      refine g_iload_n rfl rfl ?_
      refine g_icmp_gt (tgt := 14) rfl (by decide) (fun h2 => ?_) (fun h2 => ?_)
      · refine g_iconst rfl ⟨by decide, by decide⟩ ?_
        refine x_zreturn rfl rfl (Or.inl rfl) ?_
        intro _
        refine g_if_ne (tgt := 30) rfl (by decide) (fun hx => absurd hx (by omega)) (fun _ => ?_)
        refine g_iconst rfl ⟨by decide, by decide⟩ ?_
        refine x_ireturn rfl rfl ?_
        exact ⟨(by first | rfl | exact congrArg (fun z => some (tI z)) ((q_pt_n (by omega)).symm) | exact congrArg (fun z => some (tI z)) ((hMB k (by omega) (by omega)).1.trans (q_pt_0 (by omega) (by omega)).symm) | exact congrArg (fun z => some (tI z)) ((hMB k (by omega) (by omega)).2.1.trans (q_pt_1 (by omega) (by omega)).symm) | exact congrArg (fun z => some (tI z)) ((hMB k (by omega) (by omega)).2.2.1.trans (q_pt_2 (by omega) (by omega)).symm) | exact congrArg (fun z => some (tI z)) ((hMB k (by omega) (by omega)).2.2.2.2.2.trans (q_pt_3 (by omega) (by omega)).symm) | exact congrArg (fun z => some (tI z)) ((hMB k (by omega) (by omega)).2.2.2.1.trans (q_pt_4 (by omega) (by omega)).symm) | (exfalso; omega)), tp_R_kp hR hkp4⟩
      · refine g_iconst rfl ⟨by decide, by decide⟩ ?_
        refine g_goto (tgt := 15) rfl (by decide) ?_
        refine x_zreturn rfl rfl (Or.inr rfl) ?_
        intro _
        refine g_if_ne (tgt := 30) rfl (by decide) (fun _ => ?_) (fun hx => absurd hx (by omega))
        refine g_iload rfl rfl ?_
        rcases (show w < 0 ∨ w = 0 ∨ w = 1 ∨ w = 2 ∨ w = 3 ∨ w = 4 ∨ 4 < w by omega) with h3 | h3 | h3 | h3 | h3 | h3 | h3
        · refine g_swOut (tgt := 103) rfl (by omega) (by decide) ?_
          refine g_iconst rfl ⟨by decide, by decide⟩ ?_
          refine x_ireturn rfl rfl ?_
          exact ⟨(by first | rfl | exact congrArg (fun z => some (tI z)) ((q_pt_n (by omega)).symm) | exact congrArg (fun z => some (tI z)) ((hMB k (by omega) (by omega)).1.trans (q_pt_0 (by omega) (by omega)).symm) | exact congrArg (fun z => some (tI z)) ((hMB k (by omega) (by omega)).2.1.trans (q_pt_1 (by omega) (by omega)).symm) | exact congrArg (fun z => some (tI z)) ((hMB k (by omega) (by omega)).2.2.1.trans (q_pt_2 (by omega) (by omega)).symm) | exact congrArg (fun z => some (tI z)) ((hMB k (by omega) (by omega)).2.2.2.2.2.trans (q_pt_3 (by omega) (by omega)).symm) | exact congrArg (fun z => some (tI z)) ((hMB k (by omega) (by omega)).2.2.2.1.trans (q_pt_4 (by omega) (by omega)).symm) | (exfalso; omega)), tp_R_kp hR hkp4⟩
        · refine g_swIn (off := 36) (tgt := 68) rfl (by omega) (by omega) (by rw [show (w - 0).toNat = 0 by omega]; rfl) (by decide) ?_
          refine g_aload_n rfl rfl ?_
          refine x_getF (r := 216) hG rfl rfl (by decide) (Or.inr ⟨_, rfl⟩) rfl ?_
          refine g_iload_n rfl rfl ?_
          refine x_iald (v := (w4.1 216 k)) rfl rfl (by decide) (by omega) (by omega) rfl ?_
          refine x_ireturn rfl rfl ?_
          exact ⟨(by first | rfl | exact congrArg (fun z => some (tI z)) ((q_pt_n (by omega)).symm) | exact congrArg (fun z => some (tI z)) ((hMB k (by omega) (by omega)).1.trans (q_pt_0 (by omega) (by omega)).symm) | exact congrArg (fun z => some (tI z)) ((hMB k (by omega) (by omega)).2.1.trans (q_pt_1 (by omega) (by omega)).symm) | exact congrArg (fun z => some (tI z)) ((hMB k (by omega) (by omega)).2.2.1.trans (q_pt_2 (by omega) (by omega)).symm) | exact congrArg (fun z => some (tI z)) ((hMB k (by omega) (by omega)).2.2.2.2.2.trans (q_pt_3 (by omega) (by omega)).symm) | exact congrArg (fun z => some (tI z)) ((hMB k (by omega) (by omega)).2.2.2.1.trans (q_pt_4 (by omega) (by omega)).symm) | (exfalso; omega)), tp_R_kp hR hkp4⟩
        · refine g_swIn (off := 43) (tgt := 75) rfl (by omega) (by omega) (by rw [show (w - 0).toNat = 1 by omega]; rfl) (by decide) ?_
          refine g_aload_n rfl rfl ?_
          refine x_getF (r := 217) hG rfl rfl (by decide) (Or.inr ⟨_, rfl⟩) rfl ?_
          refine g_iload_n rfl rfl ?_
          refine x_iald (v := (w4.1 217 k)) rfl rfl (by decide) (by omega) (by omega) rfl ?_
          refine x_ireturn rfl rfl ?_
          exact ⟨(by first | rfl | exact congrArg (fun z => some (tI z)) ((q_pt_n (by omega)).symm) | exact congrArg (fun z => some (tI z)) ((hMB k (by omega) (by omega)).1.trans (q_pt_0 (by omega) (by omega)).symm) | exact congrArg (fun z => some (tI z)) ((hMB k (by omega) (by omega)).2.1.trans (q_pt_1 (by omega) (by omega)).symm) | exact congrArg (fun z => some (tI z)) ((hMB k (by omega) (by omega)).2.2.1.trans (q_pt_2 (by omega) (by omega)).symm) | exact congrArg (fun z => some (tI z)) ((hMB k (by omega) (by omega)).2.2.2.2.2.trans (q_pt_3 (by omega) (by omega)).symm) | exact congrArg (fun z => some (tI z)) ((hMB k (by omega) (by omega)).2.2.2.1.trans (q_pt_4 (by omega) (by omega)).symm) | (exfalso; omega)), tp_R_kp hR hkp4⟩
        · refine g_swIn (off := 50) (tgt := 82) rfl (by omega) (by omega) (by rw [show (w - 0).toNat = 2 by omega]; rfl) (by decide) ?_
          refine g_aload_n rfl rfl ?_
          refine x_getF (r := 218) hG rfl rfl (by decide) (Or.inr ⟨_, rfl⟩) rfl ?_
          refine g_iload_n rfl rfl ?_
          refine x_iald (v := (w4.1 218 k)) rfl rfl (by decide) (by omega) (by omega) rfl ?_
          refine x_ireturn rfl rfl ?_
          exact ⟨(by first | rfl | exact congrArg (fun z => some (tI z)) ((q_pt_n (by omega)).symm) | exact congrArg (fun z => some (tI z)) ((hMB k (by omega) (by omega)).1.trans (q_pt_0 (by omega) (by omega)).symm) | exact congrArg (fun z => some (tI z)) ((hMB k (by omega) (by omega)).2.1.trans (q_pt_1 (by omega) (by omega)).symm) | exact congrArg (fun z => some (tI z)) ((hMB k (by omega) (by omega)).2.2.1.trans (q_pt_2 (by omega) (by omega)).symm) | exact congrArg (fun z => some (tI z)) ((hMB k (by omega) (by omega)).2.2.2.2.2.trans (q_pt_3 (by omega) (by omega)).symm) | exact congrArg (fun z => some (tI z)) ((hMB k (by omega) (by omega)).2.2.2.1.trans (q_pt_4 (by omega) (by omega)).symm) | (exfalso; omega)), tp_R_kp hR hkp4⟩
        · refine g_swIn (off := 57) (tgt := 89) rfl (by omega) (by omega) (by rw [show (w - 0).toNat = 3 by omega]; rfl) (by decide) ?_
          refine g_aload_n rfl rfl ?_
          refine x_getF (r := 219) hG rfl rfl (by decide) (Or.inr ⟨_, rfl⟩) rfl ?_
          refine g_iload_n rfl rfl ?_
          refine x_iald (v := (w4.1 219 k)) rfl rfl (by decide) (by omega) (by omega) rfl ?_
          refine x_ireturn rfl rfl ?_
          exact ⟨(by first | rfl | exact congrArg (fun z => some (tI z)) ((q_pt_n (by omega)).symm) | exact congrArg (fun z => some (tI z)) ((hMB k (by omega) (by omega)).1.trans (q_pt_0 (by omega) (by omega)).symm) | exact congrArg (fun z => some (tI z)) ((hMB k (by omega) (by omega)).2.1.trans (q_pt_1 (by omega) (by omega)).symm) | exact congrArg (fun z => some (tI z)) ((hMB k (by omega) (by omega)).2.2.1.trans (q_pt_2 (by omega) (by omega)).symm) | exact congrArg (fun z => some (tI z)) ((hMB k (by omega) (by omega)).2.2.2.2.2.trans (q_pt_3 (by omega) (by omega)).symm) | exact congrArg (fun z => some (tI z)) ((hMB k (by omega) (by omega)).2.2.2.1.trans (q_pt_4 (by omega) (by omega)).symm) | (exfalso; omega)), tp_R_kp hR hkp4⟩
        · refine g_swIn (off := 64) (tgt := 96) rfl (by omega) (by omega) (by rw [show (w - 0).toNat = 4 by omega]; rfl) (by decide) ?_
          refine g_aload_n rfl rfl ?_
          refine x_getF (r := 220) hG rfl rfl (by decide) (Or.inr ⟨_, rfl⟩) rfl ?_
          refine g_iload_n rfl rfl ?_
          refine x_iald (v := (w4.1 220 k)) rfl rfl (by decide) (by omega) (by omega) rfl ?_
          refine x_ireturn rfl rfl ?_
          exact ⟨(by first | rfl | exact congrArg (fun z => some (tI z)) ((q_pt_n (by omega)).symm) | exact congrArg (fun z => some (tI z)) ((hMB k (by omega) (by omega)).1.trans (q_pt_0 (by omega) (by omega)).symm) | exact congrArg (fun z => some (tI z)) ((hMB k (by omega) (by omega)).2.1.trans (q_pt_1 (by omega) (by omega)).symm) | exact congrArg (fun z => some (tI z)) ((hMB k (by omega) (by omega)).2.2.1.trans (q_pt_2 (by omega) (by omega)).symm) | exact congrArg (fun z => some (tI z)) ((hMB k (by omega) (by omega)).2.2.2.2.2.trans (q_pt_3 (by omega) (by omega)).symm) | exact congrArg (fun z => some (tI z)) ((hMB k (by omega) (by omega)).2.2.2.1.trans (q_pt_4 (by omega) (by omega)).symm) | (exfalso; omega)), tp_R_kp hR hkp4⟩
        · refine g_swOut (tgt := 103) rfl (by omega) (by decide) ?_
          refine g_iconst rfl ⟨by decide, by decide⟩ ?_
          refine x_ireturn rfl rfl ?_
          exact ⟨(by first | rfl | exact congrArg (fun z => some (tI z)) ((q_pt_n (by omega)).symm) | exact congrArg (fun z => some (tI z)) ((hMB k (by omega) (by omega)).1.trans (q_pt_0 (by omega) (by omega)).symm) | exact congrArg (fun z => some (tI z)) ((hMB k (by omega) (by omega)).2.1.trans (q_pt_1 (by omega) (by omega)).symm) | exact congrArg (fun z => some (tI z)) ((hMB k (by omega) (by omega)).2.2.1.trans (q_pt_2 (by omega) (by omega)).symm) | exact congrArg (fun z => some (tI z)) ((hMB k (by omega) (by omega)).2.2.2.2.2.trans (q_pt_3 (by omega) (by omega)).symm) | exact congrArg (fun z => some (tI z)) ((hMB k (by omega) (by omega)).2.2.2.1.trans (q_pt_4 (by omega) (by omega)).symm) | (exfalso; omega)), tp_R_kp hR hkp4⟩
