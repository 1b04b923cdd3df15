set_option maxHeartbeats 4000000 in
set_option maxRecDepth 100000 in
theorem l_reb2 {G : tp_G} (hG : tp_Gf G = true) {μ0 : tp_M} {s : v_T} {kn : Int} (hnp : 0 ≤ s.2.1 ∧ s.2.1 ≤ 209) (hpos : ∀ i, 0 ≤ i → i < s.2.1 → 0 ≤ s.2.2.2 i) (htot : q_s s.2.2.2 s.2.1 ≤ 200) : ∀ k, k ≤ s.2.1 → ∀ (μ : tp_M), 0 ≤ k → v_M s μ → v_F μ0 μ → μ.1 201 63 = q_s s.2.2.2 k → tp_g G mX12_rebuilds 167 [some (tR (some 201)), some (tI kn), some (tI k)] [] μ (fun r μ' => r = none ∧ v_M s μ' ∧ μ'.1 201 63 = q_s s.2.2.2 s.2.1 ∧ v_F μ0 μ') := by
  refine tp_ind _ ?_
  intro k hkN ih μ h0 hM hF hsum
  have hm1 := hM.1
  have hb1 := q_s_mono2 (C := s.2.2.2) (m := k) (n := s.2.1) h0 hkN hpos
  have hb0 := q_s_mono2 (C := s.2.2.2) (m := 0) (n := k) (by omega) h0 (fun a a0 a1 => hpos a a0 (by omega))
  rw [show q_s s.2.2.2 0 = 0 from rfl] at hb0
  have e25 : k < s.2.1 → μ.1 225 k = s.2.2.2 k := fun z => (hM.2 k h0 z).2
  have hpk : k < s.2.1 → 0 ≤ s.2.2.2 k := fun z => hpos k h0 z
  have hb2 : k < s.2.1 → q_s s.2.2.2 k + s.2.2.2 k ≤ 200 := fun z => by
    have e := q_s1 (F := s.2.2.2) (k := k) h0
    have m := q_s_mono2 (C := s.2.2.2) (m := k + 1) (n := s.2.1) (by omega) (by omega) hpos
    omega
  refine g_iload_n rfl rfl ?_
  refine g_aload_n rfl rfl ?_
  refine x_geti (v := (μ.1 201 62)) rfl rfl (by decide) (Or.inl rfl) rfl ?_
  refine g_icmp_ge (tgt := 196) rfl (by decide) (fun h1 => ?_) (fun h1 => ?_)
  · refine x_return rfl rfl ?_
    exact ⟨rfl, hM, by rw [hsum, show k = s.2.1 by omega], hF⟩
  · refine g_aload_n rfl rfl ?_
    refine g_dupr rfl ?_
    refine x_geti (v := (μ.1 201 63)) rfl rfl (by decide) (Or.inl rfl) rfl ?_
    refine g_aload_n rfl rfl ?_
    refine x_getF (r := 225) hG rfl rfl (by decide) (Or.inr ⟨_, rfl⟩) rfl ?_
    refine g_iload_n rfl rfl ?_
    refine x_iald (v := (μ.1 225 k)) rfl rfl (by decide) (by omega) (by omega) rfl ?_
    refine x_iadd (z := (μ.1 201 63) + (μ.1 225 k)) rfl (by omega) ⟨by omega, by omega⟩ ?_
    refine g_puti rfl rfl (by decide) rfl rfl ?_
    refine x_iinc (z := k + 1) rfl rfl (by omega) ⟨by omega, by omega⟩ rfl rfl ?_
    refine g_goto (tgt := 167) rfl (by decide) ?_
    exact ih (by omega) _ (by omega) ⟨hM.1, hM.2⟩ ⟨fun c9 z1 z2 z3 => by rw [tp_pi_ne (by omega)]; exact hF.1 c9 z1 z2 z3, fun j9 z1 z2 => by rw [tp_pi_no (by omega)]; exact hF.2 j9 z1 z2⟩ (by show μ.1 201 63 + μ.1 225 k = _; rw [q_s1 h0, hsum, e25 (by omega)])
set_option maxHeartbeats 4000000 in
set_option maxRecDepth 100000 in
theorem s_reb {G : tp_G} {μ : tp_M} (hG : tp_Gf G = true) {f A B Y : Int → Int} {dp n : Int} {l : Int → Int} {σ : tp_M} (hR : v_R l σ μ) (hl : ∀ i, l i = 0 ∨ l i = 1) (hp : 0 ≤ σ.1 0 9 ∧ σ.1 0 9 ≤ 209) (hn : n ≤ 200) (HH : ∀ p, 0 ≤ p → p < σ.1 0 9 → s_H f A B Y dp n σ p) : tp_k G mX12_rebuilds [tR (some 201)] μ (fun r μ' => r = none ∧ v_M (v_S l σ (σ.1 0 9)) μ' ∧ μ'.1 201 63 = q_s (v_S l σ (σ.1 0 9)).2.2.2 (v_S l σ (σ.1 0 9)).2.1 ∧ v_F μ μ') := by
  refine tp_ok_of mX12_rebuilds_ok rfl (Nat.le_refl _) ?_
  have hI := v_I_all (l := l) HH hp.1 (Int.le_refl _)
  have hnp := hI.2.1
  have hpos : ∀ i, 0 ≤ i → i < (v_S l σ (σ.1 0 9)).2.1 → 0 ≤ (v_S l σ (σ.1 0 9)).2.2.2 i := fun i i0 i1 => (hI.2.2.2.1 i i0 i1).2.1
  have htot : q_s (v_S l σ (σ.1 0 9)).2.2.2 (v_S l σ (σ.1 0 9)).2.1 ≤ 200 := by
    have a := hI.2.2.2.2.2
    unfold v_K at a
    by_cases q : 1 ≤ σ.1 0 9
    · rw [if_pos q] at a
      have b := (HH (σ.1 0 9 - 1) (by omega) (by omega)).2.1
      omega
    · rw [if_neg q] at a; omega
  have hnp209 : 0 ≤ (v_S l σ (σ.1 0 9)).2.1 ∧ (v_S l σ (σ.1 0 9)).2.1 ≤ 209 := by omega
  refine g_aload_n rfl rfl ?_
  refine g_iconst rfl ⟨by decide, by decide⟩ ?_
  refine g_puti rfl rfl (by decide) rfl rfl ?_
  refine g_iconst rfl ⟨by decide, by decide⟩ ?_
  refine g_istore_n rfl rfl rfl ?_
  refine g_iconst rfl ⟨by decide, by decide⟩ ?_
  refine g_istore_n rfl rfl rfl ?_
  refine l_reb1 (μ0 := μ) hG hR hl hp hn HH (fun w1 kn1 hM1 hF1 => ?_) 0 (by omega) _ 0 (0, 0, fun _ => 0, fun _ => 0) (by omega) rfl rfl ⟨rfl, fun i i0 i1 => by have i1 : i < 0 := i1; omega⟩ ⟨fun c9 z1 z2 z3 => by rw [tp_pi_ne (by omega)], fun j9 z1 z2 => by rw [tp_pi_no (by omega)]⟩
  refine g_aload_n rfl rfl ?_
  refine g_iconst rfl ⟨by decide, by decide⟩ ?_
  refine g_puti rfl rfl (by decide) rfl rfl ?_
  refine g_iconst rfl ⟨by decide, by decide⟩ ?_
  refine g_istore_n rfl rfl rfl ?_
  exact l_reb2 hG hnp209 hpos htot 0 (by omega) _ (by omega) ⟨hM1.1, hM1.2⟩ ⟨fun c9 z1 z2 z3 => by rw [tp_pi_ne (by omega)]; exact hF1.1 c9 z1 z2 z3, fun j9 z1 z2 => by rw [tp_pi_no (by omega)]; exact hF1.2 j9 z1 z2⟩ rfl
/-- the reference's packets, whatever is lost -/
def v_Q (σ μ : tp_M) : Prop := μ.1 201 47 = σ.1 0 9 ∧ ∀ i, 0 ≤ i → i < σ.1 0 9 → μ.1 216 i = σ.1 2 i ∧ μ.1 220 i = σ.1 5 i ∧ μ.1 221 i = σ.1 6 i
def v_1 (a i : Int) : Int := if i = a then 1 else 0
theorem v_1_b (a i : Int) : v_1 a i = 0 ∨ v_1 a i = 1 := by unfold v_1; split <;> omega
def v_G (μ0 μ : tp_M) : Prop := (∀ c, c ≠ 201 → c ≠ 223 → c ≠ 224 → c ≠ 225 → μ.1 c = μ0.1 c) ∧ (∀ j, j ≠ 62 → j ≠ 63 → μ.1 201 j = μ0.1 201 j)
/-- those of a loss -/
def v_2 (g : Int → Int) (i : Int) : Int := if i < 100 ∧ g (1 + i) = 1 then 1 else 0
theorem v_2_b (g : Int → Int) (i : Int) : v_2 g i = 0 ∨ v_2 g i = 1 := by unfold v_2; split <;> omega
set_option maxHeartbeats 4000000 in
set_option maxRecDepth 100000 in
theorem l_but {G : tp_G} (hG : tp_Gf G = true) {f A B Y : Int → Int} {dp n : Int} {μ0 σ : tp_M} (hQ : v_Q σ μ0) (hp : 0 ≤ σ.1 0 9 ∧ σ.1 0 9 ≤ 209) (hn : n ≤ 200) (HH : ∀ p, 0 ≤ p → p < σ.1 0 9 → s_H f A B Y dp n σ p) {a : Int} : ∀ k, k ≤ σ.1 0 9 → ∀ (μ : tp_M), 0 ≤ k → (∀ i, 0 ≤ i → i < k → μ.1 223 i = (v_1 a) i) → q_f1 223 μ0 μ → tp_g G mX12_rebuildsBut 2 [some (tR (some 201)), some (tI a), some (tI k)] [] μ (fun r μ' => r = none ∧ v_M (v_S (v_1 a) σ (σ.1 0 9)) μ' ∧ μ'.1 201 63 = q_s (v_S (v_1 a) σ (σ.1 0 9)).2.2.2 (v_S (v_1 a) σ (σ.1 0 9)).2.1 ∧ v_G μ0 μ') := by
  refine tp_ind _ ?_
  intro k hkN ih μ h0 hz hF
  have hsz : μ.1 201 47 = σ.1 0 9 := by rw [hF.1 201 (by omega)]; exact hQ.1
  have hR9 : σ.1 0 9 ≤ k → v_R (v_1 a) σ μ := fun z => ⟨hsz, fun i i0 i1 => by
    have q := hQ.2 i i0 i1
    rw [hF.1 216 (by omega), hF.1 220 (by omega), hF.1 221 (by omega)]
    exact ⟨q.1, q.2.1, q.2.2, hz i i0 (by omega)⟩⟩
  refine g_iload_n rfl rfl ?_
  refine g_aload_n rfl rfl ?_
  refine x_geti (v := (μ.1 201 47)) rfl rfl (by decide) (Or.inl rfl) rfl ?_
  refine g_icmp_ge (tgt := 32) rfl (by decide) (fun h1 => ?_) (fun h1 => ?_)
  · refine g_aload_n rfl rfl ?_
    refine g_cV (as := []) (s_reb (l := (v_1 a)) hG (hR9 (by omega)) (v_1_b a) hp hn HH) rfl rfl mX12_rebuilds_ok rfl rfl rfl (by decide) rfl rfl rfl ?_
    rintro _ w1 ⟨rfl, hM1, hs1, hF1⟩ _
    refine x_return rfl rfl ?_
    exact ⟨rfl, hM1, hs1, ⟨fun c9 z1 z2 z3 z4 => (hF1.1 c9 z1 z3 z4).trans (hF.1 c9 z2), fun j9 z1 z2 => (hF1.2 j9 z1 z2).trans (congrFun (hF.1 201 (by omega)) j9)⟩⟩
  · refine g_aload_n rfl rfl ?_
    refine x_getF (r := 223) hG rfl rfl (by decide) (Or.inr ⟨_, rfl⟩) rfl ?_
    refine g_iload_n rfl rfl ?_
    refine g_iload_n rfl rfl ?_
    refine g_iload_n rfl rfl ?_
    refine g_icmp_ne (tgt := 24) rfl (by decide) (fun h2 => ?_) (fun h2 => ?_)
    · refine g_iconst rfl ⟨by decide, by decide⟩ ?_
      refine g_zast rfl rfl (by decide) (by omega) (by omega) ?_
      refine x_iinc (z := k + 1) rfl rfl (by omega) ⟨by omega, by omega⟩ rfl rfl ?_
      refine g_goto (tgt := 2) rfl (by decide) ?_
      exact ih (by omega) _ (by omega) (fun i i0 i1 => by
        rw [tp_pi1]
        by_cases q : i = k
        · rw [if_pos ⟨rfl, q⟩, q, tp_z0]
          all_goals exact (show v_1 a k = 0 from if_neg (by omega)).symm
        · rw [if_neg (fun z => q z.2)]; exact hz i i0 (by omega)) (q_f1_pi hF)
    · refine g_iconst rfl ⟨by decide, by decide⟩ ?_
      refine g_goto (tgt := 25) rfl (by decide) ?_
      refine g_zast rfl rfl (by decide) (by omega) (by omega) ?_
      refine x_iinc (z := k + 1) rfl rfl (by omega) ⟨by omega, by omega⟩ rfl rfl ?_
      refine g_goto (tgt := 2) rfl (by decide) ?_
      exact ih (by omega) _ (by omega) (fun i i0 i1 => by
        rw [tp_pi1]
        by_cases q : i = k
        · rw [if_pos ⟨rfl, q⟩, q, tp_z1]
          all_goals exact (show v_1 a k = 1 from if_pos (by omega)).symm
        · rw [if_neg (fun z => q z.2)]; exact hz i i0 (by omega)) (q_f1_pi hF)
set_option maxHeartbeats 4000000 in
set_option maxRecDepth 100000 in
theorem s_but {G : tp_G} {μ : tp_M} (hG : tp_Gf G = true) {f A B Y : Int → Int} {dp n : Int} {σ : tp_M} (hQ : v_Q σ μ) (hp : 0 ≤ σ.1 0 9 ∧ σ.1 0 9 ≤ 209) (hn : n ≤ 200) (HH : ∀ p, 0 ≤ p → p < σ.1 0 9 → s_H f A B Y dp n σ p) {a : Int} : tp_k G mX12_rebuildsBut [tR (some 201), tI a] μ (fun r μ' => r = none ∧ v_M (v_S (v_1 a) σ (σ.1 0 9)) μ' ∧ μ'.1 201 63 = q_s (v_S (v_1 a) σ (σ.1 0 9)).2.2.2 (v_S (v_1 a) σ (σ.1 0 9)).2.1 ∧ v_G μ μ') := by
  refine tp_ok_of mX12_rebuildsBut_ok rfl (Nat.le_refl _) ?_
  refine g_iconst rfl ⟨by decide, by decide⟩ ?_
  refine g_istore_n rfl rfl rfl ?_
  exact l_but hG hQ hp hn HH 0 (by omega) _ (by omega) (fun i i0 i1 => by omega) q_f1_rf
set_option maxHeartbeats 4000000 in
set_option maxRecDepth 100000 in
theorem l_byN {G : tp_G} (hG : tp_Gf G = true) {f A B Y : Int → Int} {dp n : Int} {μ0 σ : tp_M} (hQ : v_Q σ μ0) (hp : 0 ≤ σ.1 0 9 ∧ σ.1 0 9 ≤ 209) (hn : n ≤ 200) (HH : ∀ p, 0 ≤ p → p < σ.1 0 9 → s_H f A B Y dp n σ p) : ∀ k, k ≤ σ.1 0 9 → ∀ (μ : tp_M), 0 ≤ k → (∀ i, 0 ≤ i → i < k → μ.1 223 i = (fun _ => 0) i) → q_f1 223 μ0 μ → tp_g G mX12_rebuildsBy 2 [some (tR (some 201)), some (tI (-1)), some (tI k)] [] μ (fun r μ' => r = none ∧ v_M (v_S (fun _ => 0) σ (σ.1 0 9)) μ' ∧ μ'.1 201 63 = q_s (v_S (fun _ => 0) σ (σ.1 0 9)).2.2.2 (v_S (fun _ => 0) σ (σ.1 0 9)).2.1 ∧ v_G μ0 μ') := by
  refine tp_ind _ ?_
  intro k hkN ih μ h0 hz hF
  have hsz : μ.1 201 47 = σ.1 0 9 := by rw [hF.1 201 (by omega)]; exact hQ.1
  have hR9 : σ.1 0 9 ≤ k → v_R (fun _ => 0) σ μ := fun z => ⟨hsz, fun i i0 i1 => by
    have q := hQ.2 i i0 i1
    rw [hF.1 216 (by omega), hF.1 220 (by omega), hF.1 221 (by omega)]
    exact ⟨q.1, q.2.1, q.2.2, hz i i0 (by omega)⟩⟩
  refine g_iload_n rfl rfl ?_
  refine g_aload_n rfl rfl ?_
  refine x_geti (v := (μ.1 201 47)) rfl rfl (by decide) (Or.inl rfl) rfl ?_
  refine g_icmp_ge (tgt := 55) rfl (by decide) (fun h1 => ?_) (fun h1 => ?_)
  · refine g_aload_n rfl rfl ?_
    refine g_cV (as := []) (s_reb (l := (fun _ => 0)) hG (hR9 (by omega)) (fun _ => Or.inl rfl) hp hn HH) rfl rfl mX12_rebuilds_ok rfl rfl rfl (by decide) rfl rfl rfl ?_
    rintro _ w1 ⟨rfl, hM1, hs1, hF1⟩ _
    refine x_return rfl rfl ?_
    exact ⟨rfl, hM1, hs1, ⟨fun c9 z1 z2 z3 z4 => (hF1.1 c9 z1 z3 z4).trans (hF.1 c9 z2), fun j9 z1 z2 => (hF1.2 j9 z1 z2).trans (congrFun (hF.1 201 (by omega)) j9)⟩⟩
  · refine g_aload_n rfl rfl ?_
    refine x_getF (r := 223) hG rfl rfl (by decide) (Or.inr ⟨_, rfl⟩) rfl ?_
    refine g_iload_n rfl rfl ?_
    refine g_iload_n rfl rfl ?_
    refine g_iconst rfl ⟨by decide, by decide⟩ ?_
    refine g_icmp_eq (tgt := 47) rfl (by decide) (fun _ => ?_) (fun hx => absurd hx (by omega))
    refine g_iconst rfl ⟨by decide, by decide⟩ ?_
    refine g_zast rfl rfl (by decide) (by omega) (by omega) ?_
    refine x_iinc (z := k + 1) rfl rfl (by omega) ⟨by omega, by omega⟩ rfl rfl ?_
    refine g_goto (tgt := 2) rfl (by decide) ?_
    exact ih (by omega) _ (by omega) (fun i i0 i1 => by
      rw [tp_pi1]
      by_cases q : i = k
      · rw [if_pos ⟨rfl, q⟩, q, tp_z0]
        all_goals exact (rfl).symm
      · rw [if_neg (fun z => q z.2)]; exact hz i i0 (by omega)) (q_f1_pi hF)
set_option maxHeartbeats 4000000 in
set_option maxRecDepth 100000 in
theorem s_byN {G : tp_G} {μ : tp_M} (hG : tp_Gf G = true) {f A B Y : Int → Int} {dp n : Int} {σ : tp_M} (hQ : v_Q σ μ) (hp : 0 ≤ σ.1 0 9 ∧ σ.1 0 9 ≤ 209) (hn : n ≤ 200) (HH : ∀ p, 0 ≤ p → p < σ.1 0 9 → s_H f A B Y dp n σ p) : tp_k G mX12_rebuildsBy [tR (some 201), tI (-1)] μ (fun r μ' => r = none ∧ v_M (v_S (fun _ => 0) σ (σ.1 0 9)) μ' ∧ μ'.1 201 63 = q_s (v_S (fun _ => 0) σ (σ.1 0 9)).2.2.2 (v_S (fun _ => 0) σ (σ.1 0 9)).2.1 ∧ v_G μ μ') := by
  refine tp_ok_of mX12_rebuildsBy_ok rfl (Nat.le_refl _) ?_
  refine g_iconst rfl ⟨by decide, by decide⟩ ?_
  refine g_istore_n rfl rfl rfl ?_
  exact l_byN hG hQ hp hn HH 0 (by omega) _ (by omega) (fun i i0 i1 => by omega) q_f1_rf
set_option maxHeartbeats 4000000 in
set_option maxRecDepth 100000 in
theorem l_by0 {G : tp_G} (hG : tp_Gf G = true) {f A B Y : Int → Int} {dp n : Int} {μ0 σ : tp_M} (hQ : v_Q σ μ0) (hp : 0 ≤ σ.1 0 9 ∧ σ.1 0 9 ≤ 209) (hn : n ≤ 200) (HH : ∀ p, 0 ≤ p → p < σ.1 0 9 → s_H f A B Y dp n σ p) {g : Int → Int} (hg : ∀ i, 0 ≤ i → i < 101 → μ0.1 209 (0 + i) = g i) : ∀ k, k ≤ σ.1 0 9 → ∀ (μ : tp_M), 0 ≤ k → (∀ i, 0 ≤ i → i < k → μ.1 223 i = (v_2 g) i) → q_f1 223 μ0 μ → tp_g G mX12_rebuildsBy 2 [some (tR (some 201)), some (tI 0), some (tI k)] [] μ (fun r μ' => r = none ∧ v_M (v_S (v_2 g) σ (σ.1 0 9)) μ' ∧ μ'.1 201 63 = q_s (v_S (v_2 g) σ (σ.1 0 9)).2.2.2 (v_S (v_2 g) σ (σ.1 0 9)).2.1 ∧ v_G μ0 μ') := by
  refine tp_ind _ ?_
  intro k hkN ih μ h0 hz hF
  have hsz : μ.1 201 47 = σ.1 0 9 := by rw [hF.1 201 (by omega)]; exact hQ.1
  have hR9 : σ.1 0 9 ≤ k → v_R (v_2 g) σ μ := fun z => ⟨hsz, fun i i0 i1 => by
    have q := hQ.2 i i0 i1
    rw [hF.1 216 (by omega), hF.1 220 (by omega), hF.1 221 (by omega)]
    exact ⟨q.1, q.2.1, q.2.2, hz i i0 (by omega)⟩⟩
  have hgk : k < 100 → μ.1 209 (k + 1) = g (1 + k) := fun z => by rw [hF.1 209 (by omega), ← hg (1 + k) (by omega) (by omega)]; exact congrArg (μ0.1 209) (by omega)
  refine g_iload_n rfl rfl ?_
  refine g_aload_n rfl rfl ?_
  refine x_geti (v := (μ.1 201 47)) rfl rfl (by decide) (Or.inl rfl) rfl ?_
  refine g_icmp_ge (tgt := 55) rfl (by decide) (fun h1 => ?_) (fun h1 => ?_)
  · refine g_aload_n rfl rfl ?_
    refine g_cV (as := []) (s_reb (l := (v_2 g)) hG (hR9 (by omega)) (v_2_b g) hp hn HH) rfl rfl mX12_rebuilds_ok rfl rfl rfl (by decide) rfl rfl rfl ?_
    rintro _ w1 ⟨rfl, hM1, hs1, hF1⟩ _
    refine x_return rfl rfl ?_
    exact ⟨rfl, hM1, hs1, ⟨fun c9 z1 z2 z3 z4 => (hF1.1 c9 z1 z3 z4).trans (hF.1 c9 z2), fun j9 z1 z2 => (hF1.2 j9 z1 z2).trans (congrFun (hF.1 201 (by omega)) j9)⟩⟩
  · refine g_aload_n rfl rfl ?_
    refine x_getF (r := 223) hG rfl rfl (by decide) (Or.inr ⟨_, rfl⟩) rfl ?_
    refine g_iload_n rfl rfl ?_
    refine g_iload_n rfl rfl ?_
    refine g_iconst rfl ⟨by decide, by decide⟩ ?_
    refine g_icmp_eq (tgt := 47) rfl (by decide) (fun hx => absurd hx (by omega)) (fun _ => ?_)
    refine g_iload_n rfl rfl ?_
    refine g_bipush rfl ⟨by decide, by decide⟩ (by decide) ?_
    refine g_icmp_ge (tgt := 47) rfl (by decide) (fun h2 => ?_) (fun h2 => ?_)
    · refine g_iconst rfl ⟨by decide, by decide⟩ ?_
      refine g_zast rfl rfl (by decide) (by omega) (by omega) ?_
      refine x_iinc (z := k + 1) rfl rfl (by omega) ⟨by omega, by omega⟩ rfl rfl ?_
      refine g_goto (tgt := 2) rfl (by decide) ?_
      exact ih (by omega) _ (by omega) (fun i i0 i1 => by
        rw [tp_pi1]
        by_cases q : i = k
        · rw [if_pos ⟨rfl, q⟩, q, tp_z0]
          all_goals exact (show v_2 g k = 0 from if_neg (by omega)).symm
        · rw [if_neg (fun z => q z.2)]; exact hz i i0 (by omega)) (q_f1_pi hF)
    · refine g_aload_n rfl rfl ?_
      refine x_getF (r := 209) hG rfl rfl (by decide) (Or.inr ⟨_, rfl⟩) rfl ?_
      refine g_bipush rfl ⟨by decide, by decide⟩ (by decide) ?_
      refine g_iload_n rfl rfl ?_
      refine x_imul (z := 0) rfl (by omega) ⟨by omega, by omega⟩ ?_
      refine g_iconst rfl ⟨by decide, by decide⟩ ?_
      refine x_iadd (z := 1) rfl (by omega) ⟨by omega, by omega⟩ ?_
      refine g_iload_n rfl rfl ?_
      refine x_iadd (z := k + 1) rfl (by omega) ⟨by omega, by omega⟩ ?_
      refine x_iald (v := (μ.1 209 (k + 1))) rfl rfl (by decide) (by omega) (by omega) rfl ?_
      refine g_iconst rfl ⟨by decide, by decide⟩ ?_
      refine g_icmp_ne (tgt := 47) rfl (by decide) (fun h3 => ?_) (fun h3 => ?_)
      · refine g_iconst rfl ⟨by decide, by decide⟩ ?_
        refine g_zast rfl rfl (by decide) (by omega) (by omega) ?_
        refine x_iinc (z := k + 1) rfl rfl (by omega) ⟨by omega, by omega⟩ rfl rfl ?_
        refine g_goto (tgt := 2) rfl (by decide) ?_
        exact ih (by omega) _ (by omega) (fun i i0 i1 => by
          rw [tp_pi1]
          by_cases q : i = k
          · rw [if_pos ⟨rfl, q⟩, q, tp_z0]
            all_goals exact (show v_2 g k = 0 from if_neg (by omega)).symm
          · rw [if_neg (fun z => q z.2)]; exact hz i i0 (by omega)) (q_f1_pi hF)
      · refine g_iconst rfl ⟨by decide, by decide⟩ ?_
        refine g_goto (tgt := 48) rfl (by decide) ?_
        refine g_zast rfl rfl (by decide) (by omega) (by omega) ?_
        refine x_iinc (z := k + 1) rfl rfl (by omega) ⟨by omega, by omega⟩ rfl rfl ?_
        refine g_goto (tgt := 2) rfl (by decide) ?_
        exact ih (by omega) _ (by omega) (fun i i0 i1 => by
          rw [tp_pi1]
          by_cases q : i = k
          · rw [if_pos ⟨rfl, q⟩, q, tp_z1]
            all_goals exact (show v_2 g k = 1 from if_pos (by omega)).symm
          · rw [if_neg (fun z => q z.2)]; exact hz i i0 (by omega)) (q_f1_pi hF)
set_option maxHeartbeats 4000000 in
set_option maxRecDepth 100000 in
theorem s_by0 {G : tp_G} {μ : tp_M} (hG : tp_Gf G = true) {f A B Y : Int → Int} {dp n : Int} {σ : tp_M} (hQ : v_Q σ μ) (hp : 0 ≤ σ.1 0 9 ∧ σ.1 0 9 ≤ 209) (hn : n ≤ 200) (HH : ∀ p, 0 ≤ p → p < σ.1 0 9 → s_H f A B Y dp n σ p) {g : Int → Int} (hg : ∀ i, 0 ≤ i → i < 101 → μ.1 209 (0 + i) = g i) : tp_k G mX12_rebuildsBy [tR (some 201), tI 0] μ (fun r μ' => r = none ∧ v_M (v_S (v_2 g) σ (σ.1 0 9)) μ' ∧ μ'.1 201 63 = q_s (v_S (v_2 g) σ (σ.1 0 9)).2.2.2 (v_S (v_2 g) σ (σ.1 0 9)).2.1 ∧ v_G μ μ') := by
  refine tp_ok_of mX12_rebuildsBy_ok rfl (Nat.le_refl _) ?_
  refine g_iconst rfl ⟨by decide, by decide⟩ ?_
  refine g_istore_n rfl rfl rfl ?_
  exact l_by0 hG hQ hp hn HH hg 0 (by omega) _ (by omega) (fun i i0 i1 => by omega) q_f1_rf
set_option maxHeartbeats 4000000 in
set_option maxRecDepth 100000 in
theorem l_by1 {G : tp_G} (hG : tp_Gf G = true) {f A B Y : Int → Int} {dp n : Int} {μ0 σ : tp_M} (hQ : v_Q σ μ0) (hp : 0 ≤ σ.1 0 9 ∧ σ.1 0 9 ≤ 209) (hn : n ≤ 200) (HH : ∀ p, 0 ≤ p → p < σ.1 0 9 → s_H f A B Y dp n σ p) {g : Int → Int} (hg : ∀ i, 0 ≤ i → i < 101 → μ0.1 209 (101 + i) = g i) : ∀ k, k ≤ σ.1 0 9 → ∀ (μ : tp_M), 0 ≤ k → (∀ i, 0 ≤ i → i < k → μ.1 223 i = (v_2 g) i) → q_f1 223 μ0 μ → tp_g G mX12_rebuildsBy 2 [some (tR (some 201)), some (tI 1), some (tI k)] [] μ (fun r μ' => r = none ∧ v_M (v_S (v_2 g) σ (σ.1 0 9)) μ' ∧ μ'.1 201 63 = q_s (v_S (v_2 g) σ (σ.1 0 9)).2.2.2 (v_S (v_2 g) σ (σ.1 0 9)).2.1 ∧ v_G μ0 μ') := by
  refine tp_ind _ ?_
  intro k hkN ih μ h0 hz hF
  have hsz : μ.1 201 47 = σ.1 0 9 := by rw [hF.1 201 (by omega)]; exact hQ.1
  have hR9 : σ.1 0 9 ≤ k → v_R (v_2 g) σ μ := fun z => ⟨hsz, fun i i0 i1 => by
    have q := hQ.2 i i0 i1
    rw [hF.1 216 (by omega), hF.1 220 (by omega), hF.1 221 (by omega)]
    exact ⟨q.1, q.2.1, q.2.2, hz i i0 (by omega)⟩⟩
  have hgk : k < 100 → μ.1 209 (k + 102) = g (1 + k) := fun z => by rw [hF.1 209 (by omega), ← hg (1 + k) (by omega) (by omega)]; exact congrArg (μ0.1 209) (by omega)
  refine g_iload_n rfl rfl ?_
  refine g_aload_n rfl rfl ?_
  refine x_geti (v := (μ.1 201 47)) rfl rfl (by decide) (Or.inl rfl) rfl ?_
  refine g_icmp_ge (tgt := 55) rfl (by decide) (fun h1 => ?_) (fun h1 => ?_)
  · refine g_aload_n rfl rfl ?_
    refine g_cV (as := []) (s_reb (l := (v_2 g)) hG (hR9 (by omega)) (v_2_b g) hp hn HH) rfl rfl mX12_rebuilds_ok rfl rfl rfl (by decide) rfl rfl rfl ?_
    rintro _ w1 ⟨rfl, hM1, hs1, hF1⟩ _
    refine x_return rfl rfl ?_
    exact ⟨rfl, hM1, hs1, ⟨fun c9 z1 z2 z3 z4 => (hF1.1 c9 z1 z3 z4).trans (hF.1 c9 z2), fun j9 z1 z2 => (hF1.2 j9 z1 z2).trans (congrFun (hF.1 201 (by omega)) j9)⟩⟩
  · refine g_aload_n rfl rfl ?_
    refine x_getF (r := 223) hG rfl rfl (by decide) (Or.inr ⟨_, rfl⟩) rfl ?_
    refine g_iload_n rfl rfl ?_
    refine g_iload_n rfl rfl ?_
    refine g_iconst rfl ⟨by decide, by decide⟩ ?_
    refine g_icmp_eq (tgt := 47) rfl (by decide) (fun hx => absurd hx (by omega)) (fun _ => ?_)
    refine g_iload_n rfl rfl ?_
    refine g_bipush rfl ⟨by decide, by decide⟩ (by decide) ?_
    refine g_icmp_ge (tgt := 47) rfl (by decide) (fun h2 => ?_) (fun h2 => ?_)
    · refine g_iconst rfl ⟨by decide, by decide⟩ ?_
      refine g_zast rfl rfl (by decide) (by omega) (by omega) ?_
      refine x_iinc (z := k + 1) rfl rfl (by omega) ⟨by omega, by omega⟩ rfl rfl ?_
      refine g_goto (tgt := 2) rfl (by decide) ?_
      exact ih (by omega) _ (by omega) (fun i i0 i1 => by
        rw [tp_pi1]
        by_cases q : i = k
        · rw [if_pos ⟨rfl, q⟩, q, tp_z0]
          all_goals exact (show v_2 g k = 0 from if_neg (by omega)).symm
        · rw [if_neg (fun z => q z.2)]; exact hz i i0 (by omega)) (q_f1_pi hF)
    · refine g_aload_n rfl rfl ?_
      refine x_getF (r := 209) hG rfl rfl (by decide) (Or.inr ⟨_, rfl⟩) rfl ?_
      refine g_bipush rfl ⟨by decide, by decide⟩ (by decide) ?_
      refine g_iload_n rfl rfl ?_
      refine x_imul (z := 101) rfl (by omega) ⟨by omega, by omega⟩ ?_
      refine g_iconst rfl ⟨by decide, by decide⟩ ?_
      refine x_iadd (z := 102) rfl (by omega) ⟨by omega, by omega⟩ ?_
      refine g_iload_n rfl rfl ?_
      refine x_iadd (z := k + 102) rfl (by omega) ⟨by omega, by omega⟩ ?_
      refine x_iald (v := (μ.1 209 (k + 102))) rfl rfl (by decide) (by omega) (by omega) rfl ?_
      refine g_iconst rfl ⟨by decide, by decide⟩ ?_
      refine g_icmp_ne (tgt := 47) rfl (by decide) (fun h3 => ?_) (fun h3 => ?_)
      · refine g_iconst rfl ⟨by decide, by decide⟩ ?_
        refine g_zast rfl rfl (by decide) (by omega) (by omega) ?_
        refine x_iinc (z := k + 1) rfl rfl (by omega) ⟨by omega, by omega⟩ rfl rfl ?_
        refine g_goto (tgt := 2) rfl (by decide) ?_
        exact ih (by omega) _ (by omega) (fun i i0 i1 => by
          rw [tp_pi1]
          by_cases q : i = k
          · rw [if_pos ⟨rfl, q⟩, q, tp_z0]
            all_goals exact (show v_2 g k = 0 from if_neg (by omega)).symm
          · rw [if_neg (fun z => q z.2)]; exact hz i i0 (by omega)) (q_f1_pi hF)
      · refine g_iconst rfl ⟨by decide, by decide⟩ ?_
        refine g_goto (tgt := 48) rfl (by decide) ?_
        refine g_zast rfl rfl (by decide) (by omega) (by omega) ?_
        refine x_iinc (z := k + 1) rfl rfl (by omega) ⟨by omega, by omega⟩ rfl rfl ?_
        refine g_goto (tgt := 2) rfl (by decide) ?_
        exact ih (by omega) _ (by omega) (fun i i0 i1 => by
          rw [tp_pi1]
          by_cases q : i = k
          · rw [if_pos ⟨rfl, q⟩, q, tp_z1]
            all_goals exact (show v_2 g k = 1 from if_pos (by omega)).symm
          · rw [if_neg (fun z => q z.2)]; exact hz i i0 (by omega)) (q_f1_pi hF)
set_option maxHeartbeats 4000000 in
set_option maxRecDepth 100000 in
theorem s_by1 {G : tp_G} {μ : tp_M} (hG : tp_Gf G = true) {f A B Y : Int → Int} {dp n : Int} {σ : tp_M} (hQ : v_Q σ μ) (hp : 0 ≤ σ.1 0 9 ∧ σ.1 0 9 ≤ 209) (hn : n ≤ 200) (HH : ∀ p, 0 ≤ p → p < σ.1 0 9 → s_H f A B Y dp n σ p) {g : Int → Int} (hg : ∀ i, 0 ≤ i → i < 101 → μ.1 209 (101 + i) = g i) : tp_k G mX12_rebuildsBy [tR (some 201), tI 1] μ (fun r μ' => r = none ∧ v_M (v_S (v_2 g) σ (σ.1 0 9)) μ' ∧ μ'.1 201 63 = q_s (v_S (v_2 g) σ (σ.1 0 9)).2.2.2 (v_S (v_2 g) σ (σ.1 0 9)).2.1 ∧ v_G μ μ') := by
  refine tp_ok_of mX12_rebuildsBy_ok rfl (Nat.le_refl _) ?_
  refine g_iconst rfl ⟨by decide, by decide⟩ ?_
  refine g_istore_n rfl rfl rfl ?_
  exact l_by1 hG hQ hp hn HH hg 0 (by omega) _ (by omega) (fun i i0 i1 => by omega) q_f1_rf
