theorem s_stp_b {f A B : Int → Int} {dp j : Int} {X : s_X} (hd : dp ≤ 4) (h : 0 ≤ X.1 ∧ X.1 ≤ 4) : 0 ≤ (s_stp f A B dp j X).1 ∧ (s_stp f A B dp j X).1 ≤ 4 := by
  unfold s_stp
  split
  · unfold s_psh
    split
    · exact h
    · show 0 ≤ X.1 + 1 ∧ X.1 + 1 ≤ 4; omega
  · split
    · unfold s_pp
      split
      · show 0 ≤ X.1 - 1 ∧ X.1 - 1 ≤ 4; omega
      · exact h
    · exact h
theorem s_sh_b {f A B : Int → Int} {dp s : Int} (hd : dp ≤ 4) : ∀ t : Nat, 0 ≤ (s_sh f A B dp s t).1 ∧ (s_sh f A B dp s t).1 ≤ 4 := by
  intro t
  induction t with
  | zero => exact ⟨Int.le_refl 0, by show (0 : Int) ≤ 4; decide⟩
  | succ t ih => exact s_stp_b hd ih
theorem s_S_b {f A B : Int → Int} {dp s j : Int} (hd : dp ≤ 4) : 0 ≤ (s_S f A B dp s j).1 ∧ (s_S f A B dp s j).1 ≤ 4 := s_sh_b hd _
/-- the walk's shadow -/
def w_X (μ : tp_M) : s_X := (μ.1 74 1, μ.1 75)
/-- only the walk's shadow has changed -/
def w_f (μ0 μ : tp_M) : Prop := (∀ c, c ≠ 74 → c ≠ 75 → μ.1 c = μ0.1 c) ∧ μ.2 = μ0.2
set_option maxHeartbeats 4000000 in
set_option maxRecDepth 100000 in
theorem l_pushW {G : tp_G} (hG : tp_Gf G = true) {R : Int → Int} {a d z : Int} {w1 : tp_M} (hz1 : 1 ≤ z ∧ z ≤ 5) {Φ : Option tp_V → tp_M → Prop} (hΦ : ∀ (μ : tp_M) (k : Int), μ.1 74 1 = z → (∀ j, 0 ≤ j → j < z - 1 → μ.1 75 j = R (j + 1)) → (∀ c, c ≠ 75 → μ.1 c = w1.1 c) → μ.2 = w1.2 → tp_g G mX8_push 85 [some (tR (some 74)), some (tI a), some (tI d), some (tI k)] [] μ Φ) : ∀ k, k ≤ z → ∀ (μ : tp_M), 1 ≤ k → μ.1 74 1 = z → (∀ j, 0 ≤ j → j < k - 1 → μ.1 75 j = R (j + 1)) → (∀ j, k - 1 ≤ j → j < 5 → μ.1 75 j = R j) → (∀ c, c ≠ 75 → μ.1 c = w1.1 c) → μ.2 = w1.2 → tp_g G mX8_push 52 [some (tR (some 74)), some (tI a), some (tI d), some (tI k)] [] μ Φ := by
  refine tp_ind _ ?_
  intro k hkN ih μ h0 hz hr1 hr2 hf hg
  refine g_iload_n rfl rfl ?_
  refine g_aload_n rfl rfl ?_
  refine x_geti (v := (μ.1 74 1)) rfl rfl (by decide) (Or.inl rfl) rfl ?_
  refine g_icmp_ge (tgt := 85) rfl (by decide) (fun h1 => ?_) (fun h1 => ?_)
  · exact hΦ _ _ hz (fun j j0 j1 => hr1 j j0 (by omega)) hf hg
  · refine g_iload_n rfl rfl ?_
    refine g_iconst rfl ⟨by decide, by decide⟩ ?_
    refine g_icmp_ge (tgt := 85) rfl (by decide) (fun hx => absurd hx (by omega)) (fun _ => ?_)
    refine g_aload_n rfl rfl ?_
    refine x_getF (r := 75) hG rfl rfl (by decide) (Or.inr ⟨_, rfl⟩) rfl ?_
    refine g_iload_n rfl rfl ?_
    refine g_iconst rfl ⟨by decide, by decide⟩ ?_
    refine x_isub (z := k - 1) rfl (by omega) ⟨by omega, by omega⟩ ?_
    refine g_aload_n rfl rfl ?_
    refine x_getF (r := 75) hG rfl rfl (by decide) (Or.inr ⟨_, rfl⟩) rfl ?_
    refine g_iload_n rfl rfl ?_
    refine x_iald (v := (μ.1 75 k)) rfl rfl (by decide) (by omega) (by omega) rfl ?_
    refine g_iast rfl rfl (by decide) (by omega) (by omega) ?_
    refine x_iinc (z := k + 1) rfl rfl (by omega) ⟨by omega, by omega⟩ rfl rfl ?_
    refine g_goto (tgt := 52) rfl (by decide) ?_
    exact ih (by omega) _ (by omega) hz (fun j j0 j1 => by
      rw [tp_pi1]
      by_cases q : j = k - 1
      · rw [if_pos ⟨rfl, q⟩, q]; rw [hr2 k (by omega) (by omega)]; exact congrArg R (by omega)
      · rw [if_neg (fun t => q t.2)]; exact hr1 j j0 (by omega)) (fun j j0 j1 => by
      rw [tp_pi1, if_neg (fun t => by have := t.2; omega)]; exact hr2 j (by omega) j1) (fun c9 z9 => by rw [tp_pi_ne z9]; exact hf c9 z9) hg
set_option maxHeartbeats 4000000 in
set_option maxRecDepth 100000 in
theorem s_pushW {G : tp_G} {μ : tp_M} (hG : tp_Gf G = true) {a d : Int} (hd : 0 ≤ d ∧ d ≤ 4) (hz : 0 ≤ μ.1 74 1 ∧ μ.1 74 1 ≤ 4) : tp_k G mX8_push [tR (some 74), tI a, tI d] μ (fun r μ' => r = none ∧ s_eq (w_X μ') (s_psh a d (w_X μ)) ∧ w_f μ μ') := by
  refine tp_ok_of mX8_push_ok rfl (Nat.le_refl _) ?_
  refine g_aload_n rfl rfl ?_
  refine x_geti (v := (μ.1 74 1)) rfl rfl (by decide) (Or.inl rfl) rfl ?_
  refine g_if_lt (tgt := 35) rfl (by decide) (fun hx => absurd hx (by omega)) (fun _ => ?_)
  refine g_aload_n rfl rfl ?_
  refine x_geti (v := (μ.1 74 1)) rfl rfl (by decide) (Or.inl rfl) rfl ?_
  refine g_iconst rfl ⟨by decide, by decide⟩ ?_
  refine g_icmp_ge (tgt := 35) rfl (by decide) (fun hx => absurd hx (by omega)) (fun _ => ?_)
  refine g_aload_n rfl rfl ?_
  refine x_getF (r := 75) hG rfl rfl (by decide) (Or.inr ⟨_, rfl⟩) rfl ?_
  refine g_aload_n rfl rfl ?_
  refine x_geti (v := (μ.1 74 1)) rfl rfl (by decide) (Or.inl rfl) rfl ?_
  refine g_iload_n rfl rfl ?_
  refine g_iast rfl rfl (by decide) (by omega) (by omega) ?_
  refine g_aload_n rfl rfl ?_
  refine g_dupr rfl ?_
  refine x_geti (v := (μ.1 74 1)) rfl rfl (by decide) (Or.inl rfl) rfl ?_
  refine g_iconst rfl ⟨by decide, by decide⟩ ?_
  refine x_iadd (z := (μ.1 74 1) + 1) rfl (by omega) ⟨by omega, by omega⟩ ?_
  refine g_puti rfl rfl (by decide) rfl rfl ?_
  refine g_aload_n rfl rfl ?_
  refine x_geti (v := (μ.1 74 1) + 1) rfl rfl (by decide) (Or.inl rfl) rfl ?_
  refine g_iload_n rfl rfl ?_
  refine g_icmp_le (tgt := 95) rfl (by decide) (fun h1 => ?_) (fun h1 => ?_)
  · refine x_return rfl rfl ?_
    have e9 : s_psh a d (w_X μ) = ((w_X μ).1 + 1, fun j => if j = (w_X μ).1 then a else (w_X μ).2 j) := if_neg (by show ¬ d < μ.1 74 1 + 1; omega)
    rw [e9]
    refine ⟨rfl, ⟨rfl, fun i i0 i1 => ?_⟩, fun c9 z1 z2 => by rw [tp_pi_ne z1, tp_pi_ne z2], rfl⟩
    show (if 75 = 75 ∧ i = μ.1 74 1 then a else μ.1 75 i) = (if i = μ.1 74 1 then a else μ.1 75 i)
    by_cases q : i = μ.1 74 1
    · rw [if_pos ⟨rfl, q⟩, if_pos q]
    · rw [if_neg (fun t => q t.2), if_neg q]
  · refine g_aload_n rfl rfl ?_
    refine x_geti (v := (μ.1 74 1) + 1) rfl rfl (by decide) (Or.inl rfl) rfl ?_
    refine g_if_le (tgt := 95) rfl (by decide) (fun hx => absurd hx (by omega)) (fun _ => ?_)
    refine g_iconst rfl ⟨by decide, by decide⟩ ?_
    refine g_istore_n rfl rfl rfl ?_
    refine l_pushW (R := fun j => if j = μ.1 74 1 then a else μ.1 75 j) (z := μ.1 74 1 + 1) (w1 := (tp_pi (tp_pi μ 75 (μ.1 74 1) a) 74 1 ((μ.1 74 1) + 1))) hG (by omega) (fun w2 k2 hz2 hr2 hf2 hg2 => ?_) 1 (by omega) _ (by omega) rfl (fun j j0 j1 => by omega) (fun j j0 j1 => ?_) (fun c9 z9 => rfl) rfl
    · refine g_aload_n rfl rfl ?_
      refine g_dupr rfl ?_
      refine x_geti (v := (w2.1 74 1)) rfl rfl (by decide) (Or.inl rfl) rfl ?_
      refine g_iconst rfl ⟨by decide, by decide⟩ ?_
      refine x_isub (z := (w2.1 74 1) - 1) rfl (by omega) ⟨by omega, by omega⟩ ?_
      refine g_puti rfl rfl (by decide) rfl rfl ?_
      refine x_return rfl rfl ?_
      have e9 : s_psh a d (w_X μ) = ((w_X μ).1, fun j => if j + 1 = (w_X μ).1 then a else (w_X μ).2 (j + 1)) := if_pos (by show d < μ.1 74 1 + 1; omega)
      rw [e9]
      refine ⟨rfl, ⟨?_, fun i i0 i1 => ?_⟩, fun c9 z1 z2 => ?_, hg2⟩
      · show w2.1 74 1 - 1 = μ.1 74 1; omega
      · have i1 : i < w2.1 74 1 - 1 := i1
        show w2.1 75 i = (if i + 1 = μ.1 74 1 then a else μ.1 75 (i + 1))
        rw [hr2 i i0 (by omega)]
      · rw [tp_pi_ne z1, hf2 c9 z2, tp_pi_ne z1, tp_pi_ne z2]
    · show (if 75 = 75 ∧ j = μ.1 74 1 then a else μ.1 75 j) = if j = μ.1 74 1 then a else μ.1 75 j
      by_cases q : j = μ.1 74 1
      · rw [if_pos ⟨rfl, q⟩, if_pos q]
      · rw [if_neg (fun t => q t.2), if_neg q]
set_option maxHeartbeats 4000000 in
set_option maxRecDepth 100000 in
theorem s_popW {G : tp_G} {μ : tp_M} (hG : tp_Gf G = true) (hz : 0 ≤ μ.1 74 1 ∧ μ.1 74 1 ≤ 4) : tp_k G mX8_pop [tR (some 74)] μ (fun r μ' => r = some (tI (s_top (w_X μ))) ∧ s_eq (w_X μ') (s_pp (w_X μ)) ∧ w_f μ μ') := by
  refine tp_ok_of mX8_pop_ok rfl (Nat.le_refl _) ?_
  refine g_aload_n rfl rfl ?_
  refine x_geti (v := (μ.1 74 1)) rfl rfl (by decide) (Or.inl rfl) rfl ?_
  refine g_if_le (tgt := 15) rfl (by decide) (fun h1 => ?_) (fun h1 => ?_)
  · refine g_iconst rfl ⟨by decide, by decide⟩ ?_
    refine x_ireturn rfl rfl ?_
    have e9 : s_pp (w_X μ) = w_X μ := if_neg (by show ¬ 0 < μ.1 74 1; omega)
    have e8 : s_top (w_X μ) = -1 := if_neg (by show ¬ 0 < μ.1 74 1; omega)
    rw [e9, e8]
    exact ⟨rfl, s_eq_rf, fun _ _ _ => rfl, rfl⟩
  · refine g_aload_n rfl rfl ?_
    refine x_geti (v := (μ.1 74 1)) rfl rfl (by decide) (Or.inl rfl) rfl ?_
    refine g_iconst rfl ⟨by decide, by decide⟩ ?_
    refine g_icmp_le (tgt := 17) rfl (by decide) (fun _ => ?_) (fun hx => absurd hx (by omega))
    refine g_aload_n rfl rfl ?_
    refine g_dupr rfl ?_
    refine x_geti (v := (μ.1 74 1)) rfl rfl (by decide) (Or.inl rfl) rfl ?_
    refine g_iconst rfl ⟨by decide, by decide⟩ ?_
    refine x_isub (z := (μ.1 74 1) - 1) rfl (by omega) ⟨by omega, by omega⟩ ?_
    refine g_puti rfl rfl (by decide) rfl rfl ?_
    refine g_aload_n rfl rfl ?_
    refine x_getF (r := 75) hG rfl rfl (by decide) (Or.inr ⟨_, rfl⟩) rfl ?_
    refine g_aload_n rfl rfl ?_
    refine x_geti (v := (μ.1 74 1) - 1) rfl rfl (by decide) (Or.inl rfl) rfl ?_
    refine x_iald (v := (μ.1 75 (μ.1 74 1 - 1))) rfl rfl (by decide) (by omega) (by omega) rfl ?_
    refine x_ireturn rfl rfl ?_
    have e9 : s_pp (w_X μ) = ((w_X μ).1 - 1, (w_X μ).2) := if_pos (by show 0 < μ.1 74 1; omega)
    have e8 : s_top (w_X μ) = μ.1 75 (μ.1 74 1 - 1) := if_pos (by show 0 < μ.1 74 1; omega)
    rw [e9, e8]
    exact ⟨rfl, s_eq_rf, fun c9 z1 z2 => by rw [tp_pi_ne z1], rfl⟩
/-- the walk is ahead of step j, by the sync of step S; z were rebuilt -/
def w_P (f A B : Int → Int) (n S j z : Int) (μ : tp_M) : Prop := μ.1 70 6 = z ∧ (j < n → μ.1 70 7 = A j) ∧ μ.1 70 8 = j - S ∧ μ.1 70 9 = j ∧ s_eq (w_X μ) (s_S f A B (f 2) S j)
def w_F (μ0 μ : tp_M) : Prop := (∀ c, c ≠ 70 → c ≠ 71 → c ≠ 72 → c ≠ 74 → c ≠ 75 → μ.1 c = μ0.1 c) ∧ μ.2 = μ0.2
theorem w_F_rf {μ : tp_M} : w_F μ μ := ⟨fun _ _ _ _ _ _ => rfl, rfl⟩
/-- the steps from j0 on, up to j, are behind the z0 that were rebuilt -/
def w_A (A : Int → Int) (j0 z0 j : Int) (μ0 μ : tp_M) : Prop := (∀ i, i < z0 → μ.1 71 i = μ0.1 71 i ∧ μ.1 72 i = μ0.1 72 i) ∧ ∀ i, z0 ≤ i → i < z0 + (j - j0) → μ.1 71 i = A (j0 + (i - z0)) ∧ μ.1 72 i = j0 + (i - z0)
theorem w_A_rf {A : Int → Int} {j0 z0 : Int} {μ : tp_M} : w_A A j0 z0 j0 μ μ := ⟨fun _ _ => ⟨rfl, rfl⟩, fun i i0 i1 => by omega⟩
set_option maxHeartbeats 4000000 in
set_option maxRecDepth 100000 in
theorem s_strOn {G : tp_G} {μ : tp_M} (hG : tp_Gf G = true) {c : Nat} {f : Int → Int} {n S : Int} {A B Y H : Int → Int} (hc : tp_SH c = .inl 0) (hcl : c < 37) (hw : tp_Cw f) (hW : r_W f n A B Y H) {j : Int} (hCd : tp_Cd c f μ) (hco : μ.2 70 4 = some c) (hj : 0 ≤ j ∧ j < n) (hS : S ≤ j) (hh : μ.1 70 7 = A j) (hX : s_eq (w_X μ) (s_S f A B (f 2) S j)) (hst : s_st f A B j) : tp_k G mX10_straightOn [tR (some 70)] μ (fun r μ' => ∃ v, r = some (tI v) ∧ (j + 1 < n → v = A (j + 1)) ∧ s_eq (w_X μ') (s_S f A B (f 2) S (j + 1)) ∧ w_f μ μ') := by
  refine tp_ok_of mX10_straightOn_ok rfl (Nat.le_refl _) ?_
  have hcn : c < 234 := by omega
  have hw0 := hw.1
  have hn0 := hW.1
  have hrl := hw.2.2
  have hw1 := (hW.2.2.2 j hj.1 hj.2).1
  have hak := hw1.1
  have hkk := (hw.2.1 (A j) hak.1 hak.2).1
  have hzb : 0 ≤ μ.1 74 1 ∧ μ.1 74 1 ≤ 4 := by have e := hX.1; have b := s_S_b (f := f) (A := A) (B := B) (dp := f 2) (s := S) (j := j) (by omega); rw [← e] at b; exact b
  refine g_aload_n rfl rfl ?_
  refine x_getM (v := (some c)) hG rfl rfl (by decide) (Or.inl ⟨_, rfl⟩) rfl hco ?_
  refine g_aload_n rfl rfl ?_
  refine x_geti (v := (μ.1 70 7)) rfl rfl (by decide) (Or.inl rfl) rfl ?_
  refine g_cV (as := [tI (μ.1 70 7)]) ((by rw [hh]; exact s_kindX hG hc hcl hw hCd hak.1 hak.2)) rfl rfl mX0_kindAt_ok rfl hc rfl hcn rfl rfl rfl ?_
  rintro _ w9 ⟨rfl, hw9⟩ _
  have hw9 := hw9.symm
  subst hw9
  refine g_istore_n rfl rfl rfl ?_
  refine g_iload_n rfl rfl ?_
  refine g_if_ne (tgt := 23) rfl (by decide) (fun h1 => ?_) (fun h1 => ?_)
  · refine g_iload_n rfl rfl ?_
    refine g_iconst rfl ⟨by decide, by decide⟩ ?_
    refine g_icmp_ne (tgt := 49) rfl (by decide) (fun h2 => ?_) (fun h2 => ?_)
    · refine g_iload_n rfl rfl ?_
      refine g_iconst rfl ⟨by decide, by decide⟩ ?_
      refine g_icmp_eq (tgt := 59) rfl (by decide) (fun h3 => ?_) (fun h3 => ?_)
      · refine g_aload_n rfl rfl ?_
        refine x_getM (v := (some c)) hG rfl rfl (by decide) (Or.inl ⟨_, rfl⟩) rfl hco ?_
        refine g_aload_n rfl rfl ?_
        refine x_geti (v := (μ.1 70 7)) rfl rfl (by decide) (Or.inl rfl) rfl ?_
        refine g_cV (as := [tI (μ.1 70 7)]) ((by rw [hh]; exact s_targX hG hc hcl hw hCd hak.1 hak.2)) rfl rfl mX0_targetAt_ok rfl hc rfl hcn rfl rfl rfl ?_
        rintro _ w9 ⟨rfl, hw9⟩ _
        have hw9 := hw9.symm
        subst hw9
        refine g_goto (tgt := 74) rfl (by decide) ?_
        refine x_ireturn rfl rfl ?_
        refine ⟨_, rfl, fun z => ?_, ?_, fun _ _ _ => rfl, rfl⟩
        · have hB := (hW.2.2.2 j hj.1 hj.2).2.2 z
          have hA2 := (hW.2.2.2 (j + 1) (by omega) (by omega)).1.1
          have e9 := hB.1
          rcases hst with q | q | q | q
          · omega
          · first | (have e8 := hw1.2.2.2.1 q; omega) | omega
          · first | (have e8 := hw1.2.2.2.2.2.1 q; omega) | omega
          · omega
        · rw [s_S_s hS, s_stp_n (by omega) (fun z => by rcases hst with q | q | q | q; exact z.2 q; omega; omega; omega)]
          exact hX
      · refine g_iload_n rfl rfl ?_
        refine g_iconst rfl ⟨by decide, by decide⟩ ?_
        refine g_icmp_ne (tgt := 73) rfl (by decide) (fun h4 => ?_) (fun h4 => ?_)
        · refine g_iconst rfl ⟨by decide, by decide⟩ ?_
          refine x_ireturn rfl rfl ?_
          refine ⟨_, rfl, fun z => ?_, ?_, fun _ _ _ => rfl, rfl⟩
          · have hB := (hW.2.2.2 j hj.1 hj.2).2.2 z
            have hA2 := (hW.2.2.2 (j + 1) (by omega) (by omega)).1.1
            have e9 := hB.1
            rcases hst with q | q | q | q
            · omega
            · first | (have e8 := hw1.2.2.2.1 q; omega) | omega
            · first | (have e8 := hw1.2.2.2.2.2.1 q; omega) | omega
            · omega
          · rw [s_S_s hS, s_stp_n (by omega) (fun z => by rcases hst with q | q | q | q; exact z.2 q; omega; omega; omega)]
            exact hX
        · refine g_aload_n rfl rfl ?_
          refine x_getM (v := (some c)) hG rfl rfl (by decide) (Or.inl ⟨_, rfl⟩) rfl hco ?_
          refine g_aload_n rfl rfl ?_
          refine x_geti (v := (μ.1 70 7)) rfl rfl (by decide) (Or.inl rfl) rfl ?_
          refine g_cV (as := [tI (μ.1 70 7)]) ((by rw [hh]; exact s_targX hG hc hcl hw hCd hak.1 hak.2)) rfl rfl mX0_targetAt_ok rfl hc rfl hcn rfl rfl rfl ?_
          rintro _ w9 ⟨rfl, hw9⟩ _
          have hw9 := hw9.symm
          subst hw9
          refine g_goto (tgt := 74) rfl (by decide) ?_
          refine x_ireturn rfl rfl ?_
          refine ⟨_, rfl, fun z => ?_, ?_, fun _ _ _ => rfl, rfl⟩
          · have hB := (hW.2.2.2 j hj.1 hj.2).2.2 z
            have hA2 := (hW.2.2.2 (j + 1) (by omega) (by omega)).1.1
            have e9 := hB.1
            rcases hst with q | q | q | q
            · omega
            · first | (have e8 := hw1.2.2.2.1 q; omega) | omega
            · first | (have e8 := hw1.2.2.2.2.2.1 q; omega) | omega
            · omega
          · rw [s_S_s hS, s_stp_n (by omega) (fun z => by rcases hst with q | q | q | q; exact z.2 q; omega; omega; omega)]
            exact hX
    · refine g_aload_n rfl rfl ?_
      refine x_getF (r := 74) hG rfl rfl (by decide) (Or.inl ⟨_, rfl⟩) rfl ?_
      refine g_aload_n rfl rfl ?_
      refine x_geti (v := (μ.1 70 7)) rfl rfl (by decide) (Or.inl rfl) rfl ?_
      refine g_iconst rfl ⟨by decide, by decide⟩ ?_
      refine x_iadd (z := (μ.1 70 7) + 1) rfl (by omega) ⟨by omega, by omega⟩ ?_
      refine g_aload_n rfl rfl ?_
      refine x_getM (v := (some c)) hG rfl rfl (by decide) (Or.inl ⟨_, rfl⟩) rfl hco ?_
      refine g_iconst rfl ⟨by decide, by decide⟩ ?_
      refine g_cV (as := [tI 1]) (s_ruleN (n := 2) hG hc hcl hCd (by decide) (by decide) (by decide)) rfl rfl mX0_rule_ok rfl hc rfl hcn rfl rfl rfl ?_
      rintro _ w9 ⟨rfl, hw9⟩ _
      have hw9 := hw9.symm
      subst hw9
      refine g_cV (as := [tI ((μ.1 70 7) + 1), tI (f 2)]) (s_pushW hG (by omega) (by omega)) rfl rfl mX8_push_ok rfl rfl rfl (by decide) rfl rfl rfl ?_
      rintro _ w1 ⟨rfl, hxs, hfw⟩ _
      have hh1 : w1.1 70 7 = A j := by rw [hfw.1 70 (by omega) (by omega)]; exact hh
      have hCd1 : tp_Cd c f w1 := tp_Cd_fr hcl (fun k9 z9 => hfw.1 k9 (by omega) (by omega)) hCd
      have hco1 : w1.2 70 4 = some c := by rw [hfw.2]; exact hco
      refine g_iload_n rfl rfl ?_
      refine g_iconst rfl ⟨by decide, by decide⟩ ?_
      refine g_icmp_eq (tgt := 59) rfl (by decide) (fun _ => ?_) (fun hx => absurd hx (by omega))
      refine g_aload_n rfl rfl ?_
      refine x_getM (v := (some c)) hG rfl rfl (by decide) (Or.inl ⟨_, rfl⟩) rfl hco1 ?_
      refine g_aload_n rfl rfl ?_
      refine x_geti (v := (w1.1 70 7)) rfl rfl (by decide) (Or.inl rfl) rfl ?_
      refine g_cV (as := [tI (w1.1 70 7)]) ((by rw [hh1]; exact s_targX hG hc hcl hw hCd1 hak.1 hak.2)) rfl rfl mX0_targetAt_ok rfl hc rfl hcn rfl rfl rfl ?_
      rintro _ w9 ⟨rfl, hw9⟩ _
      have hw9 := hw9.symm
      subst hw9
      refine g_goto (tgt := 74) rfl (by decide) ?_
      refine x_ireturn rfl rfl ?_
      refine ⟨_, rfl, fun z => ?_, ?_, hfw⟩
      · have hB := (hW.2.2.2 j hj.1 hj.2).2.2 z
        have hA2 := (hW.2.2.2 (j + 1) (by omega) (by omega)).1.1
        have e9 := hB.1
        have e8 := hw1.2.2.2.2.2.2.1 (by omega)
        omega
      · rw [s_S_s hS]
        unfold s_stp
        rw [if_pos (by omega)]
        refine s_eq_tr hxs ?_
        rw [hh]
        exact s_eq_psh hX
  · refine g_aload_n rfl rfl ?_
    refine x_geti (v := (μ.1 70 7)) rfl rfl (by decide) (Or.inl rfl) rfl ?_
    refine g_iconst rfl ⟨by decide, by decide⟩ ?_
    refine x_iadd (z := (μ.1 70 7) + 1) rfl (by omega) ⟨by omega, by omega⟩ ?_
    refine x_ireturn rfl rfl ?_
    refine ⟨_, rfl, fun z => ?_, ?_, fun _ _ _ => rfl, rfl⟩
    · have hB := (hW.2.2.2 j hj.1 hj.2).2.2 z
      have hA2 := (hW.2.2.2 (j + 1) (by omega) (by omega)).1.1
      have e9 := hB.1
      rcases hst with q | q | q | q
      · omega
      · first | (have e8 := hw1.2.2.2.1 q; omega) | omega
      · first | (have e8 := hw1.2.2.2.2.2.1 q; omega) | omega
      · omega
    · rw [s_S_s hS, s_stp_n (by omega) (fun z => by rcases hst with q | q | q | q; exact z.2 q; omega; omega; omega)]
      exact hX
set_option maxHeartbeats 4000000 in
set_option maxRecDepth 100000 in
theorem s_canG {G : tp_G} {μ : tp_M} (hG : tp_Gf G = true) {c : Nat} {f : Int → Int} (hc : tp_SH c = .inl 0) (hcl : c < 37) (hw : tp_Cw f) (hCd : tp_Cd c f μ) (hco : μ.2 70 4 = some c) (hh : 0 ≤ μ.1 70 7 ∧ μ.1 70 7 < f 0) (hz : 0 ≤ μ.1 70 6 ∧ μ.1 70 6 < 200) : tp_k G mX10_canGoOn [tR (some 70)] μ (fun r μ' => r = some (tI 1) ∧ μ' = μ) := by
  refine tp_ok_of mX10_canGoOn_ok rfl (Nat.le_refl _) ?_
  have hcn : c < 234 := by omega
  refine g_aload_n rfl rfl ?_
  refine x_getM (v := (some c)) hG rfl rfl (by decide) (Or.inl ⟨_, rfl⟩) rfl hco ?_
  refine g_ifnull (tgt := 42) rfl (by decide) (fun hx => by cases hx) (fun _ _ => ?_)
  refine g_aload_n rfl rfl ?_
  refine x_getM (v := (some c)) hG rfl rfl (by decide) (Or.inl ⟨_, rfl⟩) rfl hco ?_
  refine g_aload_n rfl rfl ?_
  refine x_geti (v := (μ.1 70 7)) rfl rfl (by decide) (Or.inl rfl) rfl ?_
  refine g_cV (as := [tI (μ.1 70 7)]) (s_hasX hG hc hcl hw hCd (by omega) (by omega)) rfl rfl mX0_has_ok rfl hc rfl hcn rfl rfl rfl ?_
  rintro _ w9 ⟨rfl, hw9⟩ _
  have hw9 := hw9.symm
  subst hw9
  refine g_if_eq (tgt := 42) rfl (by decide) (fun hx => absurd hx (by omega)) (fun _ => ?_)
  refine g_aload_n rfl rfl ?_
  refine x_geti (v := (μ.1 70 6)) rfl rfl (by decide) (Or.inl rfl) rfl ?_
  refine g_if_lt (tgt := 42) rfl (by decide) (fun hx => absurd hx (by omega)) (fun _ => ?_)
  refine g_aload_n rfl rfl ?_
  refine x_geti (v := (μ.1 70 6)) rfl rfl (by decide) (Or.inl rfl) rfl ?_
  refine g_sipush rfl ⟨by decide, by decide⟩ (by decide) ?_
  refine g_icmp_ge (tgt := 42) rfl (by decide) (fun hx => absurd hx (by omega)) (fun _ => ?_)
  refine g_iconst rfl ⟨by decide, by decide⟩ ?_
  refine g_goto (tgt := 43) rfl (by decide) ?_
  refine x_zreturn rfl rfl (Or.inr rfl) ?_
  exact ⟨rfl, rfl⟩
set_option maxHeartbeats 4000000 in
set_option maxRecDepth 100000 in
theorem s_canGo {G : tp_G} {μ : tp_M} (hG : tp_Gf G = true) {c : Nat} {f : Int → Int} (hc : tp_SH c = .inl 0) (hcl : c < 37) (hw : tp_Cw f) (hCd : tp_Cd c f μ) (hco : μ.2 70 4 = some c) (hh : μ.1 70 7 < 0) : tp_k G mX10_canGoOn [tR (some 70)] μ (fun r μ' => r = some (tI 0) ∧ μ' = μ) := by
  refine tp_ok_of mX10_canGoOn_ok rfl (Nat.le_refl _) ?_
  have hcn : c < 234 := by omega
  refine g_aload_n rfl rfl ?_
  refine x_getM (v := (some c)) hG rfl rfl (by decide) (Or.inl ⟨_, rfl⟩) rfl hco ?_
  refine g_ifnull (tgt := 42) rfl (by decide) (fun hx => by cases hx) (fun _ _ => ?_)
  refine g_aload_n rfl rfl ?_
  refine x_getM (v := (some c)) hG rfl rfl (by decide) (Or.inl ⟨_, rfl⟩) rfl hco ?_
  refine g_aload_n rfl rfl ?_
  refine x_geti (v := (μ.1 70 7)) rfl rfl (by decide) (Or.inl rfl) rfl ?_
  refine g_cV (as := [tI (μ.1 70 7)]) (s_hasXo hG hc hcl hCd (by omega)) rfl rfl mX0_has_ok rfl hc rfl hcn rfl rfl rfl ?_
  rintro _ w9 ⟨rfl, hw9⟩ _
  have hw9 := hw9.symm
  subst hw9
  refine g_if_eq (tgt := 42) rfl (by decide) (fun _ => ?_) (fun hx => absurd hx (by omega))
  refine g_iconst rfl ⟨by decide, by decide⟩ ?_
  refine x_zreturn rfl rfl (Or.inl rfl) ?_
  exact ⟨rfl, rfl⟩
/-- one step more -/
theorem w_go {f A B : Int → Int} {n S j j0 z0 v : Int} {μ0 μ μ1 : tp_M} (hP : w_P f A B n S j (z0 + (j - j0)) μ) (hA : w_A A j0 z0 j μ0 μ) (hj : j < n) (hj0 : j0 ≤ j) (hv : j + 1 < n → v = A (j + 1)) (hX : s_eq (w_X μ1) (s_S f A B (f 2) S (j + 1))) (hf : w_f μ μ1) :
    w_P f A B n S (j + 1) (z0 + (j + 1 - j0)) (tp_pi (tp_pi (tp_pi (tp_pi (tp_pi (tp_pi μ1 71 (μ1.1 70 6) (μ1.1 70 7)) 72 (μ1.1 70 6) (μ1.1 70 9)) 70 6 (μ1.1 70 6 + 1)) 70 7 v) 70 9 (μ1.1 70 9 + 1)) 70 8 (μ1.1 70 8 + 1)) ∧
    w_A A j0 z0 (j + 1) μ0 (tp_pi (tp_pi (tp_pi (tp_pi (tp_pi (tp_pi μ1 71 (μ1.1 70 6) (μ1.1 70 7)) 72 (μ1.1 70 6) (μ1.1 70 9)) 70 6 (μ1.1 70 6 + 1)) 70 7 v) 70 9 (μ1.1 70 9 + 1)) 70 8 (μ1.1 70 8 + 1)) := by
  obtain ⟨p1, p2, p3, p4, p5⟩ := hP
  have e70 : μ1.1 70 = μ.1 70 := hf.1 70 (by omega) (by omega)
  have e71 : μ1.1 71 = μ.1 71 := hf.1 71 (by omega) (by omega)
  have e72 : μ1.1 72 = μ.1 72 := hf.1 72 (by omega) (by omega)
  rw [e70, p1, p2 hj, p3, p4]
  have g71 : ∀ i, (tp_pi (tp_pi (tp_pi (tp_pi (tp_pi (tp_pi μ1 71 (z0 + (j - j0)) (A j)) 72 (z0 + (j - j0)) j) 70 6 (z0 + (j - j0) + 1)) 70 7 v) 70 9 (j + 1)) 70 8 (j - S + 1)).1 71 i = if i = z0 + (j - j0) then A j else μ1.1 71 i := fun i => by
    rw [tp_pi_ne (by omega), tp_pi_ne (by omega), tp_pi_ne (by omega), tp_pi_ne (by omega), tp_pi_ne (by omega)]
    by_cases q : i = z0 + (j - j0)
    · rw [if_pos q, q, tp_pi_at]
    · rw [if_neg q, tp_pi_ix q]
  have g72 : ∀ i, (tp_pi (tp_pi (tp_pi (tp_pi (tp_pi (tp_pi μ1 71 (z0 + (j - j0)) (A j)) 72 (z0 + (j - j0)) j) 70 6 (z0 + (j - j0) + 1)) 70 7 v) 70 9 (j + 1)) 70 8 (j - S + 1)).1 72 i = if i = z0 + (j - j0) then j else μ1.1 72 i := fun i => by
    rw [tp_pi_ne (by omega), tp_pi_ne (by omega), tp_pi_ne (by omega), tp_pi_ne (by omega)]
    by_cases q : i = z0 + (j - j0)
    · rw [if_pos q, q, tp_pi_at]
    · rw [if_neg q, tp_pi_ix q, tp_pi_ne (by omega)]
  refine ⟨⟨?_, fun z => hv z, ?_, ?_, ?_⟩, fun i i1 => ?_, fun i i0 i1 => ?_⟩
  · show z0 + (j - j0) + 1 = z0 + (j + 1 - j0); omega
  · show j - S + 1 = j + 1 - S; omega
  · rfl
  · have ex : w_X (tp_pi (tp_pi (tp_pi (tp_pi (tp_pi (tp_pi μ1 71 (z0 + (j - j0)) (A j)) 72 (z0 + (j - j0)) j) 70 6 (z0 + (j - j0) + 1)) 70 7 v) 70 9 (j + 1)) 70 8 (j - S + 1)) = w_X μ1 := by
      unfold w_X
      rw [tp_pi_ne (by omega), tp_pi_ne (by omega), tp_pi_ne (by omega), tp_pi_ne (by omega), tp_pi_ne (by omega), tp_pi_ne (by omega), tp_pi_ne (by omega), tp_pi_ne (by omega), tp_pi_ne (by omega), tp_pi_ne (by omega), tp_pi_ne (by omega), tp_pi_ne (by omega)]
    rw [ex]
    exact hX
  · rw [g71, g72, if_neg (by omega), if_neg (by omega), e71, e72]
    exact hA.1 i i1
  · rw [g71, g72]
    by_cases q : i = z0 + (j - j0)
    · rw [if_pos q, if_pos q, show j0 + (i - z0) = j by omega]
      exact ⟨rfl, rfl⟩
    · rw [if_neg q, if_neg q, e71, e72]
      exact hA.2 i i0 (by omega)
