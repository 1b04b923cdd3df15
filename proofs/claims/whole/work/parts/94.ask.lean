/-! groups of alike numbers -/
def q_C (x : Int → Int) (k t : Int) : Int := q_s (fun i => if x i = t then 1 else 0) k
theorem q_C_s {x : Int → Int} {k t : Int} (h : 0 ≤ k) : q_C x (k + 1) t = q_C x k t + (if x k = t then 1 else 0) := q_s1 h
theorem q_C_b {x : Int → Int} {k t : Int} (h : 0 ≤ k) : 0 ≤ q_C x k t ∧ q_C x k t ≤ k := q_s_B h (fun j => by show 0 ≤ (if x j = t then (1 : Int) else 0) ∧ (if x j = t then (1 : Int) else 0) ≤ 1; split <;> omega)
def q_gR (x : Int → Int) : Nat → Int
  | 0 => 0
  | k + 1 => max (q_gR x k) (q_C x ((k : Int) + 1) (x k))
def q_gr (x : Int → Int) (k : Int) : Int := q_gR x k.toNat
theorem q_gr_s {x : Int → Int} {k : Int} (h : 0 ≤ k) : q_gr x (k + 1) = max (q_gr x k) (q_C x (k + 1) (x k)) := by
  unfold q_gr
  rw [show (k + 1).toNat = k.toNat + 1 by omega]
  show max (q_gR x k.toNat) (q_C x ((k.toNat : Int) + 1) (x (k.toNat : Int))) = _
  rw [show ((k.toNat : Nat) : Int) = k by omega]
/-- the greatest of the groups of the first k -/
def q_mx (x : Int → Int) (N k g : Int) : Prop := (∀ i, 0 ≤ i → i < k → q_C x N (x i) ≤ g) ∧ ((k = 0 ∧ g = 0) ∨ ∃ i, 0 ≤ i ∧ i < k ∧ g = q_C x N (x i))
theorem q_mx_u {x : Int → Int} {N g g' : Int} (h : q_mx x N N g) (h' : q_mx x N N g') : g = g' := by
  obtain ⟨a1, a2⟩ := h
  obtain ⟨b1, b2⟩ := h'
  rcases a2 with ⟨a3, a4⟩ | ⟨i, i0, i1, i2⟩
  · rcases b2 with ⟨b3, b4⟩ | ⟨j, j0, j1, j2⟩
    · omega
    · omega
  · rcases b2 with ⟨b3, b4⟩ | ⟨j, j0, j1, j2⟩
    · omega
    · have h1 := a1 j j0 j1
      have h2 := b1 i i0 i1
      omega
theorem q_gr_m {x : Int → Int} : ∀ k : Nat, (∀ t, q_C x k t ≤ q_gR x k) ∧ q_mx x k k (q_gR x k) := by
  intro k
  induction k with
  | zero => exact ⟨fun t => Int.le_refl 0, fun i i0 i1 => by omega, Or.inl ⟨rfl, rfl⟩⟩
  | succ k ih =>
    obtain ⟨h1, h2, h3⟩ := ih
    have hs : ∀ t, q_C x ((k : Int) + 1) t = q_C x k t + (if x k = t then 1 else 0) := fun t => q_C_s (by omega)
    have hk : q_C x ((k : Int) + 1) (x k) = q_C x k (x k) + 1 := by rw [hs, if_pos rfl]
    have e : ((k + 1 : Nat) : Int) = (k : Int) + 1 := by omega
    rw [e]
    have hm : q_gR x (k + 1) = max (q_gR x k) (q_C x ((k : Int) + 1) (x k)) := rfl
    have ha : ∀ t, q_C x ((k : Int) + 1) t ≤ q_gR x (k + 1) := fun t => by
      by_cases u : x k = t
      · rw [hm, ← u]; omega
      · have := h1 t
        rw [hs, if_neg u, hm]; omega
    refine ⟨ha, fun i _ _ => ha _, Or.inr ?_⟩
    by_cases u : q_gR x k ≤ q_C x ((k : Int) + 1) (x k)
    · exact ⟨k, by omega, by omega, by rw [hm]; omega⟩
    · rcases h3 with ⟨c1, c2⟩ | ⟨i, i0, i1, i2⟩
      · have := (q_C_b (x := x) (k := k) (t := x k) (by omega)).1
        omega
      · refine ⟨i, i0, by omega, ?_⟩
        have v : x k ≠ x i := fun z => by rw [hk] at u; rw [z] at u; omega
        rw [hm, hs (x i), if_neg v]; omega
theorem q_gr_e {x : Int → Int} {N : Int} (h : 0 ≤ N) : q_mx x N N (q_gr x N) := by
  have := (q_gr_m (x := x) N.toNat).2
  rw [show ((N.toNat : Nat) : Int) = N by omega] at this
  exact this
theorem q_gr_b {x : Int → Int} {N : Int} (h : 0 ≤ N) : 0 ≤ q_gr x N ∧ q_gr x N ≤ N := by
  rcases (q_gr_e (x := x) h).2 with ⟨a, b⟩ | ⟨i, i0, i1, i2⟩
  · omega
  · rw [i2]; exact q_C_b h
theorem q_C_c {x y : Int → Int} {N t : Int} (h : ∀ i, 0 ≤ i → i < N → x i = y i) : q_C x N t = q_C y N t := q_s_c (fun j j0 j1 => by rw [h j j0 j1])
/-- the least of several -/
def q_mN (g : Int → Int) : Nat → Int × Int
  | 0 => (-1, 1000000)
  | m + 1 => if g m < (q_mN g m).2 then ((m : Int), g m) else q_mN g m
def q_mn (g : Int → Int) (k : Int) : Int × Int := q_mN g k.toNat
theorem q_mn_s {g : Int → Int} {k : Int} (h : 0 ≤ k) : q_mn g (k + 1) = if g k < (q_mn g k).2 then (k, g k) else q_mn g k := by
  unfold q_mn
  rw [show (k + 1).toNat = k.toNat + 1 by omega]
  show (if g (k.toNat : Int) < _ then ((k.toNat : Int), g (k.toNat : Int)) else _) = _
  rw [show ((k.toNat : Nat) : Int) = k by omega]
theorem q_mn_y {g : Int → Int} {k : Int} (h : 0 ≤ k) (hs : g k < (q_mn g k).2) : q_mn g (k + 1) = (k, g k) := by rw [q_mn_s h, if_pos hs]
theorem q_mn_n {g : Int → Int} {k : Int} (h : 0 ≤ k) (hs : ¬ g k < (q_mn g k).2) : q_mn g (k + 1) = q_mn g k := by rw [q_mn_s h, if_neg hs]
theorem q_mn_b {g : Int → Int} (hg : ∀ a, g a < 1000000) {k : Int} (h : 0 ≤ k) : (k = 0 ∧ (q_mn g k).1 = -1 ∧ (q_mn g k).2 = 1000000) ∨ (1 ≤ k ∧ 0 ≤ (q_mn g k).1 ∧ (q_mn g k).1 < k) := by
  have e : ∀ x : Nat, ((x : Int) = 0 ∧ (q_mN g x).1 = -1 ∧ (q_mN g x).2 = 1000000) ∨ (1 ≤ (x : Int) ∧ 0 ≤ (q_mN g x).1 ∧ (q_mN g x).1 < (x : Int)) := by
    intro x
    induction x with
    | zero => exact Or.inl ⟨rfl, rfl, rfl⟩
    | succ x ih =>
      right
      have hx := hg x
      unfold q_mN
      split
      · show 1 ≤ ((x + 1 : Nat) : Int) ∧ 0 ≤ (x : Int) ∧ (x : Int) < ((x + 1 : Nat) : Int)
        omega
      · rcases ih with ⟨a, b, c⟩ | ⟨a, b, c⟩
        · omega
        · omega
  have := e k.toNat
  rw [show ((k.toNat : Nat) : Int) = k by omega] at this
  exact this
/-- how often an address is rebuilt, of each that fits -/
noncomputable def q_x (A : Int → Int) (n : Int) (σ : tp_M) (L : Int → Int) (a i : Int) : Int := q_O A n σ (L i) a
noncomputable def q_gg (A : Int → Int) (n : Int) (σ : tp_M) (s : Int × (Int → Int)) (a : Int) : Int := q_gr (q_x A n σ s.2 a) s.1
set_option maxHeartbeats 4000000 in
set_option maxRecDepth 100000 in
theorem l_gg2 {G : tp_G} (hG : tp_Gf G = true) {A : Int → Int} {n a : Int} {μ0 σ : tp_M} {s : Int × (Int → Int)} (hn : 0 ≤ n ∧ n ≤ 200) (hf0 : f_M A n σ s μ0) (hN : 0 ≤ s.1 ∧ s.1 ≤ 210) (ha : 0 ≤ a ∧ a < 40) : ∀ k, k ≤ s.1 → ∀ (μ : tp_M) (g : Int) (x4 : Option tp_V), 0 ≤ k → g = q_gr (q_x A n σ s.2 a) k → (∀ t, 0 ≤ t → t ≤ 200 → μ.1 82 t = q_C (q_x A n σ s.2 a) k t) → q_f1 82 μ0 μ → tp_g G mX2_greatestGroup 26 [some (tR (some 79)), some (tI a), some (tI g), some (tI k), x4] [] μ (fun r μ' => r = some (tI (q_gg A n σ s a)) ∧ q_f1 82 μ0 μ') := by
  refine tp_ind _ ?_
  intro k hkN ih μ g x4 h0 hg hz hF
  have h793 : μ.1 79 3 = s.1 := by rw [hF.1 79 (by omega)]; exact hf0.1
  have h81 : k < s.1 → μ.1 81 (40 * k + a) = (q_x A n σ s.2 a) k := fun z => by rw [hF.1 81 (by omega)]; exact hf0.2.2 k a h0 z ha.1 ha.2
  have h81b : k < s.1 → 0 ≤ μ.1 81 (40 * k + a) ∧ μ.1 81 (40 * k + a) ≤ 200 := fun z => by
    rw [h81 z]
    have := q_O_b (A := A) (σ := σ) hn.1 (s.2 k) a
    show 0 ≤ q_O A n σ (s.2 k) a ∧ q_O A n σ (s.2 k) a ≤ 200
    omega
  have h82b : k < s.1 → 0 ≤ μ.1 82 (μ.1 81 (40 * k + a)) ∧ μ.1 82 (μ.1 81 (40 * k + a)) ≤ 210 := fun z => by
    have b := h81b z
    rw [hz _ b.1 b.2]
    have := q_C_b (x := (q_x A n σ s.2 a)) (k := k) (t := μ.1 81 (40 * k + a)) h0
    omega
  refine g_iload_n rfl rfl ?_
  refine g_aload_n rfl rfl ?_
  refine x_geti (v := (μ.1 79 3)) rfl rfl (by decide) (Or.inl rfl) rfl ?_
  refine g_icmp_ge (tgt := 84) rfl (by decide) (fun h1 => ?_) (fun h1 => ?_)
  · refine g_iload_n rfl rfl ?_
    refine x_ireturn rfl rfl ?_
    exact ⟨by rw [hg, show k = s.1 by omega]; rfl, hF⟩
  · refine g_aload_n rfl rfl ?_
    refine g_iload_n rfl rfl ?_
    refine g_iload_n rfl rfl ?_
    refine g_iV (as := [tI k, tI a]) mX2_oftenOf_ok rfl rfl rfl rfl rfl rfl (by decide) rfl rfl rfl ?_
    refine g_iload_n rfl rfl ?_
    refine g_if_lt (tgt := 21) rfl (by decide) (fun hx => absurd hx (by omega)) (fun _ => ?_)
    refine g_iload_n rfl rfl ?_
    refine g_sipush rfl ⟨by decide, by decide⟩ (by decide) ?_
    refine g_icmp_ge (tgt := 21) rfl (by decide) (fun hx => absurd hx (by omega)) (fun _ => ?_)
    refine g_iload_n rfl rfl ?_
    refine g_if_lt (tgt := 21) rfl (by decide) (fun hx => absurd hx (by omega)) (fun _ => ?_)
    refine g_iload_n rfl rfl ?_
    refine g_bipush rfl ⟨by decide, by decide⟩ (by decide) ?_
    refine g_icmp_lt (tgt := 23) rfl (by decide) (fun _ => ?_) (fun hx => absurd hx (by omega))
    refine g_aload_n rfl rfl ?_
    refine x_getF (r := 81) hG rfl rfl (by decide) (Or.inr ⟨_, rfl⟩) rfl ?_
    refine g_iload_n rfl rfl ?_
    refine g_bipush rfl ⟨by decide, by decide⟩ (by decide) ?_
    refine x_imul (z := 40 * k) rfl (by omega) ⟨by omega, by omega⟩ ?_
    refine g_iload_n rfl rfl ?_
    refine x_iadd (z := 40 * k + a) rfl (by omega) ⟨by omega, by omega⟩ ?_
    refine x_iald (v := (μ.1 81 (40 * k + a))) rfl rfl (by decide) (by omega) (by omega) rfl ?_
    refine x_ireturn rfl rfl ?_
    intro _
    refine g_istore rfl rfl rfl ?_
    refine g_iload rfl rfl ?_
    refine g_if_lt (tgt := 78) rfl (by decide) (fun hx => absurd hx (by omega)) (fun _ => ?_)
    refine g_iload rfl rfl ?_
    refine g_sipush rfl ⟨by decide, by decide⟩ (by decide) ?_
    refine g_icmp_gt (tgt := 78) rfl (by decide) (fun hx => absurd hx (by omega)) (fun _ => ?_)
    refine g_aload_n rfl rfl ?_
    refine x_getF (r := 82) hG rfl rfl (by decide) (Or.inr ⟨_, rfl⟩) rfl ?_
    refine g_iload rfl rfl ?_
    refine g_dup2 rfl ?_
    refine x_iald (v := (μ.1 82 (μ.1 81 (40 * k + a)))) rfl rfl (by decide) (by omega) (by omega) rfl ?_
    refine g_iconst rfl ⟨by decide, by decide⟩ ?_
    refine x_iadd (z := (μ.1 82 (μ.1 81 (40 * k + a))) + 1) rfl (by omega) ⟨by omega, by omega⟩ ?_
    refine g_iast rfl rfl (by decide) (by omega) (by omega) ?_
    refine g_iload_n rfl rfl ?_
    refine g_aload_n rfl rfl ?_
    refine x_getF (r := 82) hG rfl rfl (by decide) (Or.inr ⟨_, rfl⟩) rfl ?_
    refine g_iload rfl rfl ?_
    refine x_iald (v := (μ.1 82 (μ.1 81 (40 * k + a))) + 1) rfl rfl (by decide) (by omega) (by omega) (by simp [tp_pi1, tp_pr1]) ?_
    refine g_max rfl rfl ?_
    refine g_istore_n rfl rfl rfl ?_
    refine x_iinc (z := k + 1) rfl rfl (by omega) ⟨by omega, by omega⟩ rfl rfl ?_
    refine g_goto (tgt := 26) rfl (by decide) ?_
    have hc := q_C_s (x := (q_x A n σ s.2 a)) (k := k) (t := (q_x A n σ s.2 a) k) h0
    rw [if_pos rfl] at hc
    exact ih (by omega) _ _ _ (by omega) (by rw [q_gr_s h0, hc, ← hg, ← hz _ (by omega) (by omega), ← h81 (by omega)]) (fun t t0 t1 => by
      rw [tp_pi1, q_C_s h0]
      by_cases u : t = μ.1 81 (40 * k + a)
      · rw [if_pos ⟨rfl, u⟩, if_pos (by rw [u, h81 (by omega)]), ← hz t t0 t1, u]
      · rw [if_neg (fun z => u z.2), if_neg (fun z => u (by rw [← z, h81 (by omega)])), ← hz t t0 t1]; omega) (q_f1_pi hF)
set_option maxHeartbeats 4000000 in
set_option maxRecDepth 100000 in
theorem l_gg1 {G : tp_G} (hG : tp_Gf G = true) {A : Int → Int} {n a : Int} {μ0 σ : tp_M} {s : Int × (Int → Int)} (hn : 0 ≤ n ∧ n ≤ 200) (hf0 : f_M A n σ s μ0) (hN : 0 ≤ s.1 ∧ s.1 ≤ 210) (ha : 0 ≤ a ∧ a < 40) : ∀ k, k ≤ 201 → ∀ (μ : tp_M), 0 ≤ k → (∀ t, 0 ≤ t → t < k → μ.1 82 t = 0) → q_f1 82 μ0 μ → tp_g G mX2_greatestGroup 2 [some (tR (some 79)), some (tI a), some (tI k), none, none] [] μ (fun r μ' => r = some (tI (q_gg A n σ s a)) ∧ q_f1 82 μ0 μ') := by
  refine tp_ind _ ?_
  intro k hkN ih μ h0 hz hF
  refine g_iload_n rfl rfl ?_
  refine g_sipush rfl ⟨by decide, by decide⟩ (by decide) ?_
  refine g_icmp_gt (tgt := 22) rfl (by decide) (fun h1 => ?_) (fun h1 => ?_)
  · refine g_iconst rfl ⟨by decide, by decide⟩ ?_
    refine g_istore_n rfl rfl rfl ?_
    refine g_iconst rfl ⟨by decide, by decide⟩ ?_
    refine g_istore_n rfl rfl rfl ?_
    exact l_gg2 hG hn hf0 hN ha 0 hN.1 _ _ _ (by omega) rfl (fun t t0 t1 => by rw [hz t t0 (by omega)]; rfl) hF
  · refine g_aload_n rfl rfl ?_
    refine x_getF (r := 82) hG rfl rfl (by decide) (Or.inr ⟨_, rfl⟩) rfl ?_
    refine g_iload_n rfl rfl ?_
    refine g_iconst rfl ⟨by decide, by decide⟩ ?_
    refine g_iast rfl rfl (by decide) (by omega) (by omega) ?_
    refine x_iinc (z := k + 1) rfl rfl (by omega) ⟨by omega, by omega⟩ rfl rfl ?_
    refine g_goto (tgt := 2) rfl (by decide) ?_
    exact ih (by omega) _ (by omega) (fun t t0 t1 => by
      rw [tp_pi1]
      by_cases u : t = k
      · rw [if_pos ⟨rfl, u⟩]
      · rw [if_neg (fun z => u z.2)]; exact hz t t0 (by omega)) (q_f1_pi hF)
set_option maxHeartbeats 4000000 in
set_option maxRecDepth 100000 in
theorem s_gg {G : tp_G} {μ : tp_M} (hG : tp_Gf G = true) {A : Int → Int} {n a : Int} {σ : tp_M} {s : Int × (Int → Int)} (hn : 0 ≤ n ∧ n ≤ 200) (hf : f_M A n σ s μ) (hN : 0 ≤ s.1 ∧ s.1 ≤ 210) (ha : 0 ≤ a ∧ a < 40) : tp_k G mX2_greatestGroup [tR (some 79), tI a] μ (fun r μ' => r = some (tI (q_gg A n σ s a)) ∧ q_f1 82 μ μ') := by
  refine tp_ok_of mX2_greatestGroup_ok rfl (Nat.le_refl _) ?_
  refine g_iconst rfl ⟨by decide, by decide⟩ ?_
  refine g_istore_n rfl rfl rfl ?_
  exact l_gg1 hG hn hf hN ha 0 (by omega) _ (by omega) (fun t t0 t1 => by omega) q_f1_rf
set_option maxHeartbeats 4000000 in
set_option maxRecDepth 100000 in
theorem l_ask {G : tp_G} (hG : tp_Gf G = true) {c : Nat} {f : Int → Int} (hc : tp_SH c = .inl 0) (hcl : c < 37) (hw : tp_Cw f) {A : Int → Int} {n : Int} {μ0 σ : tp_M} {s : Int × (Int → Int)} (hn : 0 ≤ n ∧ n ≤ 200) (hf0 : f_M A n σ s μ0) (hN : 0 ≤ s.1 ∧ s.1 ≤ 210) (hN1 : 0 < s.1) (hCd0 : tp_Cd c f μ0) : ∀ k, k ≤ f 0 → ∀ (μ : tp_M) (b l : Int) (x5 : Option tp_V), 0 ≤ k → b = (q_mn (q_gg A n σ s) k).1 → l = (q_mn (q_gg A n σ s) k).2 → q_f1 82 μ0 μ → tp_g G mX2_ask 8 [some (tR (some 79)), some (tR (some c)), some (tI b), some (tI l), some (tI k), x5] [] μ (fun r μ' => r = some (tI (q_mn (q_gg A n σ s) (f 0)).1) ∧ q_f1 82 μ0 μ') := by
  refine tp_ind _ ?_
  intro k hkN ih μ b l x5 h0 hb hl hF
  have hcn : c < 234 := by omega
  have hw0 := hw.1
  have hCdm : tp_Cd c f μ := tp_Cd_fr hcl (fun k9 z9 => hF.1 k9 (by omega)) hCd0
  have hfm : f_M A n σ s μ := by
    unfold f_M
    rw [hF.1 79 (by omega), hF.1 80 (by omega), hF.1 81 (by omega)]
    exact hf0
  have h793 := hfm.1
  refine g_iload rfl rfl ?_
  refine g_bipush rfl ⟨by decide, by decide⟩ (by decide) ?_
  refine g_icmp_ge (tgt := 61) rfl (by decide) (fun h1 => ?_) (fun h1 => ?_)
  · refine g_iload_n rfl rfl ?_
    refine x_ireturn rfl rfl ?_
    exact ⟨by rw [hb, show f 0 = k by omega], hF⟩
  · refine g_aload_n rfl rfl ?_
    refine x_geti (v := (μ.1 79 3)) rfl rfl (by decide) (Or.inl rfl) rfl ?_
    refine g_if_le (tgt := 61) rfl (by decide) (fun hx => absurd hx (by omega)) (fun _ => ?_)
    refine g_aload_n rfl rfl ?_
    refine g_ifnull (tgt := 61) rfl (by decide) (fun hx => by cases hx) (fun _ _ => ?_)
    refine g_aload_n rfl rfl ?_
    refine g_iload rfl rfl ?_
    refine g_cV (as := [tI k]) (s_hasV hG hc hcl hw hCdm) rfl rfl mX0_has_ok rfl hc rfl hcn rfl rfl rfl ?_
    rintro _ w9 ⟨rfl, hw9⟩ _
    have hw9 := hw9.symm
    subst hw9
    by_cases hx9 : 0 ≤ k ∧ k < f 0
    · rw [if_pos hx9]
      refine g_if_eq (tgt := 61) rfl (by decide) (fun hx => absurd hx (by omega)) (fun _ => ?_)
      refine g_aload_n rfl rfl ?_
      refine g_iload rfl rfl ?_
      refine g_cV (as := [tI k]) (s_gg hG hn hfm hN (by omega)) rfl rfl mX2_greatestGroup_ok rfl rfl rfl (by decide) rfl rfl rfl ?_
      rintro _ w1 ⟨rfl, hF9⟩ _
      have hF1 : q_f1 82 μ0 w1 := ⟨fun c9 z9 => (hF9.1 c9 z9).trans (hF.1 c9 z9), hF9.2.trans hF.2⟩
      refine g_istore rfl rfl rfl ?_
      refine g_iload rfl rfl ?_
      refine g_iload_n rfl rfl ?_
      refine g_icmp_ge (tgt := 55) rfl (by decide) (fun h2 => ?_) (fun h2 => ?_)
      · refine x_iinc (z := k + 1) rfl rfl (by omega) ⟨by omega, by omega⟩ rfl rfl ?_
        refine g_goto (tgt := 8) rfl (by decide) ?_
        exact ih (by omega) _ _ _ _ (by omega) (by rw [q_mn_n h0 (by omega)]; exact hb) (by rw [q_mn_n h0 (by omega)]; exact hl) hF1
      · refine g_iload rfl rfl ?_
        refine g_istore_n rfl rfl rfl ?_
        refine g_iload rfl rfl ?_
        refine g_istore_n rfl rfl rfl ?_
        refine x_iinc (z := k + 1) rfl rfl (by omega) ⟨by omega, by omega⟩ rfl rfl ?_
        refine g_goto (tgt := 8) rfl (by decide) ?_
        exact ih (by omega) _ _ _ _ (by omega) (by rw [q_mn_y h0 (by omega)]) (by rw [q_mn_y h0 (by omega)]) hF1
    · rw [if_neg hx9]
      refine g_if_eq (tgt := 61) rfl (by decide) (fun _ => ?_) (fun hx => absurd hx (by omega))
      refine g_iload_n rfl rfl ?_
      refine x_ireturn rfl rfl ?_
      exact ⟨by rw [hb, show f 0 = k by omega], hF⟩
noncomputable def q_ask (f A : Int → Int) (n : Int) (σ : tp_M) (s : Int × (Int → Int)) : Int := if s.1 = 0 then -1 else (q_mn (q_gg A n σ s) (f 0)).1
set_option maxHeartbeats 4000000 in
set_option maxRecDepth 100000 in
theorem s_ask {G : tp_G} {μ : tp_M} (hG : tp_Gf G = true) {c : Nat} {f : Int → Int} (hc : tp_SH c = .inl 0) (hcl : c < 37) (hw : tp_Cw f) {A : Int → Int} {n : Int} {σ : tp_M} {s : Int × (Int → Int)} (hn : 0 ≤ n ∧ n ≤ 200) (hf : f_M A n σ s μ) (hN : 0 ≤ s.1 ∧ s.1 ≤ 210) (hCd : tp_Cd c f μ) : tp_k G mX2_ask [tR (some 79), tR (some c)] μ (fun r μ' => r = some (tI (q_ask f A n σ s)) ∧ q_f1 82 μ μ') := by
  refine tp_ok_of mX2_ask_ok rfl (Nat.le_refl _) ?_
  have hcn : c < 234 := by omega
  have h793 := hf.1
  refine g_iconst rfl ⟨by decide, by decide⟩ ?_
  refine g_istore_n rfl rfl rfl ?_
  refine g_ldc rfl ⟨by decide, by decide⟩ ?_
  refine g_istore_n rfl rfl rfl ?_
  refine g_iconst rfl ⟨by decide, by decide⟩ ?_
  refine g_istore rfl rfl rfl ?_
  by_cases hN1 : 0 < s.1
  · refine tp_conseq (fun r9 μ9 q9 => ?_) (l_ask (μ0 := μ) hG hc hcl hw hn hf hN hN1 hCd 0 hw.1.1 _ _ _ _ (by omega) rfl rfl q_f1_rf)
    exact ⟨by rw [q9.1, show q_ask f A n σ s = (q_mn (q_gg A n σ s) (f 0)).1 from if_neg (by omega)], q9.2⟩
  · refine g_iload rfl rfl ?_
    refine g_bipush rfl ⟨by decide, by decide⟩ (by decide) ?_
    refine g_icmp_ge (tgt := 61) rfl (by decide) (fun hx => absurd hx (by omega)) (fun _ => ?_)
    refine g_aload_n rfl rfl ?_
    refine x_geti (v := (μ.1 79 3)) rfl rfl (by decide) (Or.inl rfl) rfl ?_
    refine g_if_le (tgt := 61) rfl (by decide) (fun _ => ?_) (fun hx => absurd hx (by omega))
    refine g_iload_n rfl rfl ?_
    refine x_ireturn rfl rfl ?_
    exact ⟨by rw [show q_ask f A n σ s = -1 from if_pos (by omega)], q_f1_rf⟩
set_option maxHeartbeats 4000000 in
set_option maxRecDepth 100000 in
theorem l_al2 {G : tp_G} {μ : tp_M} (hG : tp_Gf G = true) {f A : Int → Int} {n a : Int} {σ : tp_M} {s : Int × (Int → Int)} (hf : f_R f A n σ s μ) (hN : 0 ≤ s.1 ∧ s.1 ≤ 210) (ha : 0 ≤ a ∧ a < f 0) (hf40 : f 0 ≤ 40) {m i : Int} (hi : 0 ≤ i ∧ i < s.1) {Φ : Option tp_V → tp_M → Prop} (hΦ : tp_g G mX12_alike 69 [some (tR (some 201)), some (tI a), some (tI m), some (tI i), some (tI (q_C (q_x A n σ s.2 a) s.1 (q_x A n σ s.2 a i))), some (tI s.1)] [] μ Φ) : ∀ k, k ≤ s.1 → ∀ (c : Int), 0 ≤ k → c = q_C (q_x A n σ s.2 a) k (q_x A n σ s.2 a i) → tp_g G mX12_alike 18 [some (tR (some 201)), some (tI a), some (tI m), some (tI i), some (tI c), some (tI k)] [] μ Φ := by
  refine tp_ind _ ?_
  intro k hkN ih c h0 hcc
  have h73 := hf.1
  have hcb := q_C_b (x := q_x A n σ s.2 a) (k := k) (t := q_x A n σ s.2 a i) h0
  rw [← hcc] at hcb
  have ei : μ.1 232 (40 * i + a) = q_x A n σ s.2 a i := hf.2.2 i a hi.1 hi.2 ha.1 ha.2
  have ek : k < s.1 → μ.1 232 (40 * k + a) = q_x A n σ s.2 a k := fun z => hf.2.2 k a h0 z ha.1 ha.2
  refine g_iload rfl rfl ?_
  refine g_aload_n rfl rfl ?_
  refine x_geti (v := (μ.1 201 73)) rfl rfl (by decide) (Or.inl rfl) rfl ?_
  refine g_icmp_ge (tgt := 69) rfl (by decide) (fun h1 => ?_) (fun h1 => ?_)
  · have hkN2 : k = s.1 := by omega
    rw [hkN2] at hcc ⊢
    rw [hcc]
    exact hΦ
  · refine g_iload rfl rfl ?_
    refine g_aload_n rfl rfl ?_
    refine x_getF (r := 232) hG rfl rfl (by decide) (Or.inr ⟨_, rfl⟩) rfl ?_
    refine g_bipush rfl ⟨by decide, by decide⟩ (by decide) ?_
    refine g_iload_n rfl rfl ?_
    refine x_imul (z := 40 * i) rfl (by omega) ⟨by omega, by omega⟩ ?_
    refine g_iload_n rfl rfl ?_
    refine x_iadd (z := 40 * i + a) rfl (by omega) ⟨by omega, by omega⟩ ?_
    refine x_iald (v := (μ.1 232 (40 * i + a))) rfl rfl (by decide) (by omega) (by omega) rfl ?_
    refine g_aload_n rfl rfl ?_
    refine x_getF (r := 232) hG rfl rfl (by decide) (Or.inr ⟨_, rfl⟩) rfl ?_
    refine g_bipush rfl ⟨by decide, by decide⟩ (by decide) ?_
    refine g_iload rfl rfl ?_
    refine x_imul (z := 40 * k) rfl (by omega) ⟨by omega, by omega⟩ ?_
    refine g_iload_n rfl rfl ?_
    refine x_iadd (z := 40 * k + a) rfl (by omega) ⟨by omega, by omega⟩ ?_
    refine x_iald (v := (μ.1 232 (40 * k + a))) rfl rfl (by decide) (by omega) (by omega) rfl ?_
    refine g_icmp_ne (tgt := 59) rfl (by decide) (fun h2 => ?_) (fun h2 => ?_)
    · refine g_iconst rfl ⟨by decide, by decide⟩ ?_
      refine x_iadd (z := c) rfl (by omega) ⟨by omega, by omega⟩ ?_
      refine g_istore rfl rfl rfl ?_
      refine x_iinc (z := k + 1) rfl rfl (by omega) ⟨by omega, by omega⟩ rfl rfl ?_
      refine g_goto (tgt := 18) rfl (by decide) ?_
      exact ih (by omega) _ (by omega) (by rw [q_C_s h0]; (first | rw [if_pos (by omega)] | rw [if_neg (by omega)]); omega)
    · refine g_iconst rfl ⟨by decide, by decide⟩ ?_
      refine g_goto (tgt := 60) rfl (by decide) ?_
      refine x_iadd (z := c + 1) rfl (by omega) ⟨by omega, by omega⟩ ?_
      refine g_istore rfl rfl rfl ?_
      refine x_iinc (z := k + 1) rfl rfl (by omega) ⟨by omega, by omega⟩ rfl rfl ?_
      refine g_goto (tgt := 18) rfl (by decide) ?_
      exact ih (by omega) _ (by omega) (by rw [q_C_s h0]; (first | rw [if_pos (by omega)] | rw [if_neg (by omega)]); omega)
set_option maxHeartbeats 4000000 in
set_option maxRecDepth 100000 in
theorem l_al1 {G : tp_G} {μ : tp_M} (hG : tp_Gf G = true) {f A : Int → Int} {n a : Int} {σ : tp_M} {s : Int × (Int → Int)} (hf : f_R f A n σ s μ) (hN : 0 ≤ s.1 ∧ s.1 ≤ 210) (ha : 0 ≤ a ∧ a < f 0) (hf40 : f 0 ≤ 40) : ∀ k, k ≤ s.1 → ∀ (m : Int) (x4 x5 : Option tp_V), 0 ≤ k → q_mx (q_x A n σ s.2 a) s.1 k m → tp_g G mX12_alike 4 [some (tR (some 201)), some (tI a), some (tI m), some (tI k), x4, x5] [] μ (fun r μ' => r = some (tI (q_gg A n σ s a)) ∧ μ' = μ) := by
  refine tp_ind _ ?_
  intro k hkN ih m x4 x5 h0 hq
  have h73 := hf.1
  have hcb := q_C_b (x := q_x A n σ s.2 a) (k := s.1) (t := q_x A n σ s.2 a k) hN.1
  have hmb : 0 ≤ m ∧ m ≤ 210 := by
    rcases hq.2 with ⟨z1, z2⟩ | ⟨i, i0, i1, i2⟩
    · omega
    · have := q_C_b (x := q_x A n σ s.2 a) (k := s.1) (t := q_x A n σ s.2 a i) hN.1
      omega
  refine g_iload_n rfl rfl ?_
  refine g_aload_n rfl rfl ?_
  refine x_geti (v := (μ.1 201 73)) rfl rfl (by decide) (Or.inl rfl) rfl ?_
  refine g_icmp_ge (tgt := 82) rfl (by decide) (fun h1 => ?_) (fun h1 => ?_)
  · refine g_iload_n rfl rfl ?_
    refine x_ireturn rfl rfl ?_
    have hkN2 : k = s.1 := by omega
    rw [hkN2] at hq
    exact ⟨by rw [q_mx_u hq (q_gr_e hN.1)]; rfl, rfl⟩
  · refine g_iconst rfl ⟨by decide, by decide⟩ ?_
    refine g_istore rfl rfl rfl ?_
    refine g_iconst rfl ⟨by decide, by decide⟩ ?_
    refine g_istore rfl rfl rfl ?_
    refine l_al2 (i := k) hG hf hN ha hf40 (by omega) ?_ 0 hN.1 0 (by omega) rfl
    refine g_iload_n rfl rfl ?_
    refine g_iload rfl rfl ?_
    refine g_iS (as := [tI m, tI (q_C (q_x A n σ s.2 a) s.1 (q_x A n σ s.2 a k))]) mX12_greater_ok rfl rfl rfl rfl rfl rfl rfl ?_
    refine g_iload_n rfl rfl ?_
    refine g_iload_n rfl rfl ?_
    refine g_icmp_le (tgt := 9) rfl (by decide) (fun h2 => ?_) (fun h2 => ?_)
    · refine g_iload_n rfl rfl ?_
      refine x_ireturn rfl rfl ?_
      intro _
      refine g_istore_n rfl rfl rfl ?_
      refine x_iinc (z := k + 1) rfl rfl (by omega) ⟨by omega, by omega⟩ rfl rfl ?_
      refine g_goto (tgt := 4) rfl (by decide) ?_
      refine ih (by omega) _ _ _ (by omega) ⟨fun i i0 i1 => ?_, Or.inr ?_⟩
      · rcases (show i < k ∨ i = k by omega) with u | u
        · have := hq.1 i i0 u; omega
        · rw [u]; omega
      · first
        | exact ⟨k, h0, by omega, by omega⟩
        | (rcases hq.2 with ⟨z1, z2⟩ | ⟨i, i0, i1, i2⟩
           · exact ⟨k, h0, by omega, by omega⟩
           · exact ⟨i, i0, by omega, i2⟩)
    · refine g_iload_n rfl rfl ?_
      refine g_goto (tgt := 10) rfl (by decide) ?_
      refine x_ireturn rfl rfl ?_
      intro _
      refine g_istore_n rfl rfl rfl ?_
      refine x_iinc (z := k + 1) rfl rfl (by omega) ⟨by omega, by omega⟩ rfl rfl ?_
      refine g_goto (tgt := 4) rfl (by decide) ?_
      refine ih (by omega) _ _ _ (by omega) ⟨fun i i0 i1 => ?_, Or.inr ?_⟩
      · rcases (show i < k ∨ i = k by omega) with u | u
        · have := hq.1 i i0 u; omega
        · rw [u]; omega
      · first
        | exact ⟨k, h0, by omega, by omega⟩
        | (rcases hq.2 with ⟨z1, z2⟩ | ⟨i, i0, i1, i2⟩
           · exact ⟨k, h0, by omega, by omega⟩
           · exact ⟨i, i0, by omega, i2⟩)
set_option maxHeartbeats 4000000 in
set_option maxRecDepth 100000 in
theorem s_al {G : tp_G} {μ : tp_M} (hG : tp_Gf G = true) {f A : Int → Int} {n a : Int} {σ : tp_M} {s : Int × (Int → Int)} (hf : f_R f A n σ s μ) (hN : 0 ≤ s.1 ∧ s.1 ≤ 210) (ha : 0 ≤ a ∧ a < f 0) (hf40 : f 0 ≤ 40) : tp_k G mX12_alike [tR (some 201), tI a] μ (fun r μ' => r = some (tI (q_gg A n σ s a)) ∧ μ' = μ) := by
  refine tp_ok_of mX12_alike_ok rfl (Nat.le_refl _) ?_
  refine g_iconst rfl ⟨by decide, by decide⟩ ?_
  refine g_istore_n rfl rfl rfl ?_
  refine g_iconst rfl ⟨by decide, by decide⟩ ?_
  refine g_istore_n rfl rfl rfl ?_
  exact l_al1 hG hf hN ha hf40 0 hN.1 _ _ _ (by omega) ⟨fun i i0 i1 => by omega, Or.inl ⟨rfl, rfl⟩⟩
set_option maxHeartbeats 4000000 in
set_option maxRecDepth 100000 in
theorem l_askM {G : tp_G} {μ : tp_M} (hG : tp_Gf G = true) {f A : Int → Int} {n : Int} {σ : tp_M} {s : Int × (Int → Int)} (hf : f_R f A n σ s μ) (hN : 0 ≤ s.1 ∧ s.1 ≤ 210) (hf40 : 0 ≤ f 0 ∧ f 0 ≤ 40) (h26 : μ.1 201 26 = f 0) (hN1 : 0 < s.1) : ∀ k, k ≤ f 0 → ∀ (b l : Int) (x4 : Option tp_V), 0 ≤ k → b = (q_mn (q_gg A n σ s) k).1 → (1 ≤ k → l = (q_mn (q_gg A n σ s) k).2) → tp_g G mX12_ask 6 [some (tR (some 201)), some (tI b), some (tI l), some (tI k), x4] [] μ (fun r μ' => r = some (tI (q_mn (q_gg A n σ s) (f 0)).1) ∧ μ' = μ) := by
  refine tp_ind _ ?_
  intro k hkN ih b l x4 h0 hb hl
  have h73 := hf.1
  have hgb := q_gr_b (x := q_x A n σ s.2 k) hN.1
  have hgb2 : q_gg A n σ s k ≤ 210 := by show q_gr (q_x A n σ s.2 k) s.1 ≤ 210; omega
  have hmb := q_mn_b (g := q_gg A n σ s) (fun a => by have := q_gr_b (x := q_x A n σ s.2 a) hN.1; show q_gr (q_x A n σ s.2 a) s.1 < 1000000; omega) h0
  clear hgb
  refine g_iload_n rfl rfl ?_
  refine g_aload_n rfl rfl ?_
  refine x_geti (v := (μ.1 201 26)) rfl rfl (by decide) (Or.inl rfl) rfl ?_
  refine g_icmp_ge (tgt := 63) rfl (by decide) (fun h1 => ?_) (fun h1 => ?_)
  · refine g_iload_n rfl rfl ?_
    refine x_ireturn rfl rfl ?_
    exact ⟨by rw [hb, show f 0 = k by omega], rfl⟩
  · refine g_aload_n rfl rfl ?_
    refine x_geti (v := (μ.1 201 73)) rfl rfl (by decide) (Or.inl rfl) rfl ?_
    refine g_if_le (tgt := 63) rfl (by decide) (fun hx => absurd hx (by omega)) (fun _ => ?_)
    refine g_aload_n rfl rfl ?_
    refine g_iload_n rfl rfl ?_
    refine g_cV (as := [tI k]) (s_al hG hf hN (by omega) hf40.2) rfl rfl mX12_alike_ok rfl rfl rfl (by decide) rfl rfl rfl ?_
    rintro _ w9 ⟨rfl, hw9⟩ _
    have hw9 := hw9.symm
    subst hw9
    refine g_istore rfl rfl rfl ?_
    refine g_iload_n rfl rfl ?_
    refine g_iconst rfl ⟨by decide, by decide⟩ ?_
    refine g_icmp_eq (tgt := 39) rfl (by decide) (fun h2 => ?_) (fun h2 => ?_)
    · refine g_iload_n rfl rfl ?_
      refine g_goto (tgt := 44) rfl (by decide) ?_
      refine g_istore_n rfl rfl rfl ?_
      refine g_iload_n rfl rfl ?_
      refine g_iload_n rfl rfl ?_
      refine g_icmp_ne (tgt := 55) rfl (by decide) (fun hx => absurd hx (by omega)) (fun _ => ?_)
      refine g_iload rfl rfl ?_
      refine g_goto (tgt := 56) rfl (by decide) ?_
      refine g_istore_n rfl rfl rfl ?_
      refine x_iinc (z := k + 1) rfl rfl (by omega) ⟨by omega, by omega⟩ rfl rfl ?_
      refine g_goto (tgt := 6) rfl (by decide) ?_
      by_cases hlt : q_gg A n σ s k < (q_mn (q_gg A n σ s) k).2
      · exact ih (by omega) _ _ _ (by omega) (by rw [q_mn_y h0 hlt] <;> (show _ = k; omega)) (fun _ => by rw [q_mn_y h0 hlt] <;> (show _ = q_gg A n σ s k; omega))
      · exact ih (by omega) _ _ _ (by omega) (by rw [q_mn_n h0 hlt]; omega) (fun _ => by rw [q_mn_n h0 hlt]; omega)
    · refine g_iload rfl rfl ?_
      refine g_iload_n rfl rfl ?_
      refine g_icmp_ge (tgt := 43) rfl (by decide) (fun h3 => ?_) (fun h3 => ?_)
      · refine g_iload_n rfl rfl ?_
        refine g_istore_n rfl rfl rfl ?_
        refine g_iload_n rfl rfl ?_
        refine g_iload_n rfl rfl ?_
        refine g_icmp_ne (tgt := 55) rfl (by decide) (fun h4 => ?_) (fun h4 => ?_)
        · refine g_iload_n rfl rfl ?_
          refine g_istore_n rfl rfl rfl ?_
          refine x_iinc (z := k + 1) rfl rfl (by omega) ⟨by omega, by omega⟩ rfl rfl ?_
          refine g_goto (tgt := 6) rfl (by decide) ?_
          by_cases hlt : q_gg A n σ s k < (q_mn (q_gg A n σ s) k).2
          · exact ih (by omega) _ _ _ (by omega) (by rw [q_mn_y h0 hlt] <;> (show _ = k; omega)) (fun _ => by rw [q_mn_y h0 hlt] <;> (show _ = q_gg A n σ s k; omega))
          · exact ih (by omega) _ _ _ (by omega) (by rw [q_mn_n h0 hlt]; omega) (fun _ => by rw [q_mn_n h0 hlt]; omega)
        · refine g_iload rfl rfl ?_
          refine g_goto (tgt := 56) rfl (by decide) ?_
          refine g_istore_n rfl rfl rfl ?_
          refine x_iinc (z := k + 1) rfl rfl (by omega) ⟨by omega, by omega⟩ rfl rfl ?_
          refine g_goto (tgt := 6) rfl (by decide) ?_
          by_cases hlt : q_gg A n σ s k < (q_mn (q_gg A n σ s) k).2
          · exact ih (by omega) _ _ _ (by omega) (by rw [q_mn_y h0 hlt] <;> (show _ = k; omega)) (fun _ => by rw [q_mn_y h0 hlt] <;> (show _ = q_gg A n σ s k; omega))
          · exact ih (by omega) _ _ _ (by omega) (by rw [q_mn_n h0 hlt]; omega) (fun _ => by rw [q_mn_n h0 hlt]; omega)
      · refine g_iload_n rfl rfl ?_
        refine g_goto (tgt := 44) rfl (by decide) ?_
        refine g_istore_n rfl rfl rfl ?_
        refine g_iload_n rfl rfl ?_
        refine g_iload_n rfl rfl ?_
        refine g_icmp_ne (tgt := 55) rfl (by decide) (fun hx => absurd hx (by omega)) (fun _ => ?_)
        refine g_iload rfl rfl ?_
        refine g_goto (tgt := 56) rfl (by decide) ?_
        refine g_istore_n rfl rfl rfl ?_
        refine x_iinc (z := k + 1) rfl rfl (by omega) ⟨by omega, by omega⟩ rfl rfl ?_
        refine g_goto (tgt := 6) rfl (by decide) ?_
        by_cases hlt : q_gg A n σ s k < (q_mn (q_gg A n σ s) k).2
        · exact ih (by omega) _ _ _ (by omega) (by rw [q_mn_y h0 hlt] <;> (show _ = k; omega)) (fun _ => by rw [q_mn_y h0 hlt] <;> (show _ = q_gg A n σ s k; omega))
        · exact ih (by omega) _ _ _ (by omega) (by rw [q_mn_n h0 hlt]; omega) (fun _ => by rw [q_mn_n h0 hlt]; omega)
set_option maxHeartbeats 4000000 in
set_option maxRecDepth 100000 in
theorem s_askM {G : tp_G} {μ : tp_M} (hG : tp_Gf G = true) {f A : Int → Int} {n : Int} {σ : tp_M} {s : Int × (Int → Int)} (hf : f_R f A n σ s μ) (hN : 0 ≤ s.1 ∧ s.1 ≤ 210) (hf40 : 0 ≤ f 0 ∧ f 0 ≤ 40) (h26 : μ.1 201 26 = f 0) : tp_k G mX12_ask [tR (some 201)] μ (fun r μ' => r = some (tI (q_ask f A n σ s)) ∧ μ' = μ) := by
  refine tp_ok_of mX12_ask_ok rfl (Nat.le_refl _) ?_
  have h73 := hf.1
  refine g_iconst rfl ⟨by decide, by decide⟩ ?_
  refine g_istore_n rfl rfl rfl ?_
  refine g_iconst rfl ⟨by decide, by decide⟩ ?_
  refine g_istore_n rfl rfl rfl ?_
  refine g_iconst rfl ⟨by decide, by decide⟩ ?_
  refine g_istore_n rfl rfl rfl ?_
  by_cases hN1 : 0 < s.1
  · refine tp_conseq (fun r9 μ9 q9 => ?_) (l_askM hG hf hN hf40 h26 hN1 0 hf40.1 _ _ _ (by omega) rfl (fun z => by omega))
    exact ⟨by rw [q9.1, show q_ask f A n σ s = (q_mn (q_gg A n σ s) (f 0)).1 from if_neg (by omega)], q9.2⟩
  · refine g_iload_n rfl rfl ?_
    refine g_aload_n rfl rfl ?_
    refine x_geti (v := (μ.1 201 26)) rfl rfl (by decide) (Or.inl rfl) rfl ?_
    refine g_icmp_ge (tgt := 63) rfl (by decide) (fun h1 => ?_) (fun h1 => ?_)
    · refine g_iload_n rfl rfl ?_
      refine x_ireturn rfl rfl ?_
      exact ⟨by rw [show q_ask f A n σ s = -1 from if_pos (by omega)], rfl⟩
    · refine g_aload_n rfl rfl ?_
      refine x_geti (v := (μ.1 201 73)) rfl rfl (by decide) (Or.inl rfl) rfl ?_
      refine g_if_le (tgt := 63) rfl (by decide) (fun _ => ?_) (fun hx => absurd hx (by omega))
      refine g_iload_n rfl rfl ?_
      refine x_ireturn rfl rfl ?_
      exact ⟨by rw [show q_ask f A n σ s = -1 from if_pos (by omega)], rfl⟩
