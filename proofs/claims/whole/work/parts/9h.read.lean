theorem x_min {G : tp_G} {d : tp_D} {pc : Nat} {ls : List (Option tp_V)} {st : List tp_V} {μ : tp_M} {n n' bs : Nat} {Φ : Option tp_V → tp_M → Prop} {idx pos : Nat} {a b z : Int} (hf : tp_at d pc = some (.invokestatic idx, 3, pos, 283, 0)) (hw : Nat.ble (tp_rw st) 8 = true) (hz : min a b = z) (k : tp_go G d (pc + 3) ls (tI z :: st) μ n n' bs Φ) : tp_go G d pc ls (tI b :: tI a :: st) μ n n' bs Φ := g_min hf hw (by rw [hz]; exact k)
theorem x_max {G : tp_G} {d : tp_D} {pc : Nat} {ls : List (Option tp_V)} {st : List tp_V} {μ : tp_M} {n n' bs : Nat} {Φ : Option tp_V → tp_M → Prop} {idx pos : Nat} {a b z : Int} (hf : tp_at d pc = some (.invokestatic idx, 3, pos, 282, 0)) (hw : Nat.ble (tp_rw st) 8 = true) (hz : max a b = z) (k : tp_go G d (pc + 3) ls (tI z :: st) μ n n' bs Φ) : tp_go G d pc ls (tI b :: tI a :: st) μ n n' bs Φ := g_max hf hw (by rw [hz]; exact k)
/-- what is told at first -/
def t_d0 (so : Int) : Int → Int := fun j => if so = 0 then (if j = 1 then 6 else if j = 2 then 2 else if j = 3 then 20 else if j = 5 then 39 else if j = 6 then 2 else if j = 7 then 9 else if j = 8 then 1 else 0) else 0
def t_s0 (so : Int) : t_S := (0, 0, 0, 0, -1, t_d0 so)
theorem t_I0 {so : Int} (h : 0 ≤ so ∧ so ≤ 3) : t_I so 0 (t_s0 so) := by
  rcases (show so = 0 ∨ so = 1 ∨ so = 2 ∨ so = 3 by omega) with u | u | u | u <;> subst u
  · exact ⟨Or.inl rfl, ⟨Int.le_refl 0, Int.le_refl 0⟩, fun _ => by decide, fun z => absurd z (by decide), fun _ => by decide, Or.inl rfl, fun z => absurd rfl z, ⟨fun a a0 a1 => by have a1 : a < 0 := a1; omega, by decide⟩, ⟨Int.le_refl _, by decide⟩, fun _ _ => ⟨fun a a0 a1 => by have a1 : a < 0 := a1; omega, Or.inl rfl⟩⟩
  · exact ⟨Or.inl rfl, ⟨Int.le_refl 0, Int.le_refl 0⟩, fun _ => by decide, fun z => absurd z (by decide), fun _ => by decide, Or.inl rfl, fun z => absurd rfl z, fun a a0 a1 => by have a1 : a < 0 := a1; omega, ⟨Int.le_refl _, by decide⟩, fun z => absurd z (by decide)⟩
  · exact ⟨Or.inl rfl, ⟨Int.le_refl 0, Int.le_refl 0⟩, fun z => absurd rfl z, fun _ => ⟨Int.le_refl 0, Int.le_refl 0⟩, fun _ => by decide, Or.inl rfl, fun z => absurd rfl z, fun p _ _ => Or.inl rfl, ⟨Int.le_refl _, by decide⟩, fun z => absurd z (by decide)⟩
  · exact ⟨Or.inl rfl, ⟨Int.le_refl 0, Int.le_refl 0⟩, fun _ => by decide, fun z => absurd z (by decide), fun _ => by decide, Or.inl rfl, fun z => absurd rfl z, fun a a0 a1 => by have a1 : a < 0 := a1; omega, ⟨Int.le_refl _, by decide⟩, fun z => absurd z (by decide)⟩
theorem t_lnI {so : Int} {T : Int → Int} {len i : Int} {st : t_S} (hs : 0 ≤ so ∧ so ≤ 3) (h0 : 0 ≤ i) (h1 : i ≤ len) (hI : t_I so i st) : t_OK so len i (t_ln so T len i st) := by
  rcases (show so = 0 ∨ so = 1 ∨ so = 2 ∨ so = 3 by omega) with u | u | u | u <;> subst u
  · exact t_lnI0 h0 h1 hI
  · exact t_lnI1 h0 h1 hI
  · exact t_lnI2 h0 h1 hI
  · exact t_lnI3 h0 h1 hI
theorem t_go_I {so : Int} {T : Int → Int} {len : Int} (hs : 0 ≤ so ∧ so ≤ 3) : ∀ (m : Nat) (i : Int) (st : t_S), 0 ≤ i → i ≤ len → t_I so i st → (t_go so T len m i st).1.1 = 1 → ∃ i', t_I so i' (t_go so T len m i st).2 := by
  intro m
  induction m with
  | zero => intro i st _ _ h _; exact ⟨i, h⟩
  | succ m ih =>
    intro i st h0 h1 h hz
    have e : t_go so T len (m + 1) i st = if t_k T len i = 0 then ((1, t_s T len i), st) else if (t_ln so T len i st).1.1 = 0 then ((0, (t_ln so T len i st).1.2), st) else t_go so T len m (t_ln so T len i st).1.2 (t_ln so T len i st).2 := rfl
    rw [e] at hz ⊢
    by_cases q : t_k T len i = 0
    · rw [if_pos q]; exact ⟨i, h⟩
    · rw [if_neg q] at hz ⊢
      have ok := t_lnI (T := T) hs h0 h1 h
      by_cases q2 : (t_ln so T len i st).1.1 = 0
      · rw [if_pos q2] at hz; exact absurd (show (0 : Int) = 1 from hz) (by decide)
      · rw [if_neg q2] at hz ⊢
        have ok1 := ok.1
        have ok2 := ok.2 (by omega)
        exact ih _ _ (by omega) ok2.2.1 ok2.2.2 hz
/-- all lines of a text -/
def t_all (so : Int) (T : Int → Int) (len : Int) : (Int × Int) × t_S := t_go so T len (len + 1 - 0).toNat 0 (t_s0 so)
/-- fault and place -/
def t_flt (so : Int) (T : Int → Int) (len : Int) : Int × Int := if (t_all so T len).1.1 = 0 then (1, (t_all so T len).1.2) else if (t_all so T len).2.1 ≠ 0 then ((t_all so T len).2.1, (t_all so T len).2.2.1) else if so = 0 ∧ (t_all so T len).2.2.2.2.2.2 0 ≤ (t_all so T len).2.2.2.2.2.1 then (4, len) else (0, -1)
def t_tld (so : Int) (T : Int → Int) (len : Int) : Int → Int := (t_all so T len).2.2.2.2.2.2
theorem tp_cq_ne {μ : tp_M} {f : Int → Int} {c1 k : Nat} {sp dp len : Int} (h : k ≠ c1) : (tp_cq μ f c1 sp dp len).1 k = μ.1 k := by
  funext j
  exact if_neg (fun z => h z.1)
set_option maxHeartbeats 4000000 in
set_option maxRecDepth 100000 in
theorem l_stray {G : tp_G} {μ : tp_M} (hG : tp_Gf G = true) {D : Int → Int} (hD : 0 ≤ D 0 ∧ D 0 ≤ 40) (hsz : μ.1 42 4 = D 0) (h44 : ∀ a, 0 ≤ a → a < D 0 → μ.1 44 a = D (49 + a)) : ∀ k, k ≤ D 0 → 0 ≤ k → (∀ a, 0 ≤ a → a < k → D (49 + a) = -1 ∨ D (49 + a) < D 0 ∧ 0 ≤ D (49 + a)) → tp_g G mX0_hasStrayTarget 2 [some (tR (some 42)), some (tI k)] [] μ (fun r μ' => ∃ v, r = some (tI v) ∧ (v = 0 ∨ v = 1) ∧ (v = 1 ↔ ∃ a, 0 ≤ a ∧ a < D 0 ∧ D (49 + a) ≠ -1 ∧ ¬ (0 ≤ D (49 + a) ∧ D (49 + a) < D 0)) ∧ μ' = μ) := by
  refine tp_ind _ ?_
  intro k hkN ih  h0 hz
  have h44k : k < D 0 → μ.1 44 k = D (49 + k) := fun z => h44 k h0 z
  refine g_iload_n rfl rfl ?_
  refine g_aload_n rfl rfl ?_
  refine x_geti (v := (D 0)) rfl rfl (by decide) (Or.inl rfl) hsz ?_
  refine g_icmp_ge (tgt := 47) rfl (by decide) (fun h1 => ?_) (fun h1 => ?_)
  · refine g_iconst rfl ⟨by decide, by decide⟩ ?_
    refine x_zreturn rfl rfl (Or.inl rfl) ?_
    exact ⟨0, rfl, Or.inl rfl, ⟨fun z => absurd z (by decide), fun ⟨a, a0, a1, a2, a3⟩ => absurd (hz a a0 (by omega)) (by omega)⟩, rfl⟩
  · refine g_iload_n rfl rfl ?_
    refine g_bipush rfl ⟨by decide, by decide⟩ (by decide) ?_
    refine g_icmp_ge (tgt := 47) rfl (by decide) (fun hx => absurd hx (by omega)) (fun _ => ?_)
    refine g_aload_n rfl rfl ?_
    refine x_getF (r := 44) hG rfl rfl (by decide) (Or.inr ⟨_, rfl⟩) rfl ?_
    refine g_iload_n rfl rfl ?_
    refine x_iald (v := (μ.1 44 k)) rfl rfl (by decide) (by omega) (by omega) rfl ?_
    refine g_iconst rfl ⟨by decide, by decide⟩ ?_
    refine g_icmp_eq (tgt := 41) rfl (by decide) (fun h2 => ?_) (fun h2 => ?_)
    · refine x_iinc (z := k + 1) rfl rfl (by omega) ⟨by omega, by omega⟩ rfl rfl ?_
      refine g_goto (tgt := 2) rfl (by decide) ?_
      exact ih (by omega) (by omega) (fun a a0 a1 => by rcases (show a < k ∨ a = k by omega) with u | u; (exact hz a a0 u); (rw [u]; omega))
    · refine g_aload_n rfl rfl ?_
      refine g_aload_n rfl rfl ?_
      refine x_getF (r := 44) hG rfl rfl (by decide) (Or.inr ⟨_, rfl⟩) rfl ?_
      refine g_iload_n rfl rfl ?_
      refine x_iald (v := (μ.1 44 k)) rfl rfl (by decide) (by omega) (by omega) rfl ?_
      refine g_iV (as := [tI (μ.1 44 k)]) mX0_has_ok rfl rfl rfl rfl rfl rfl (by decide) rfl rfl rfl ?_
      refine g_iload_n rfl rfl ?_
      refine g_if_lt (tgt := 22) rfl (by decide) (fun h3 => ?_) (fun h3 => ?_)
      · refine g_iconst rfl ⟨by decide, by decide⟩ ?_
        refine x_zreturn rfl rfl (Or.inl rfl) ?_
        intro _
        refine g_if_ne (tgt := 41) rfl (by decide) (fun hx => absurd hx (by omega)) (fun _ => ?_)
        refine g_iconst rfl ⟨by decide, by decide⟩ ?_
        refine x_zreturn rfl rfl (Or.inr rfl) ?_
        exact ⟨1, rfl, Or.inr rfl, ⟨fun _ => ⟨k, h0, by omega, by omega, by omega⟩, fun _ => rfl⟩, rfl⟩
      · refine g_iload_n rfl rfl ?_
        refine g_aload_n rfl rfl ?_
        refine x_geti (v := (D 0)) rfl rfl (by decide) (Or.inl rfl) hsz ?_
        refine g_icmp_ge (tgt := 22) rfl (by decide) (fun h4 => ?_) (fun h4 => ?_)
        · refine g_iconst rfl ⟨by decide, by decide⟩ ?_
          refine x_zreturn rfl rfl (Or.inl rfl) ?_
          intro _
          refine g_if_ne (tgt := 41) rfl (by decide) (fun hx => absurd hx (by omega)) (fun _ => ?_)
          refine g_iconst rfl ⟨by decide, by decide⟩ ?_
          refine x_zreturn rfl rfl (Or.inr rfl) ?_
          exact ⟨1, rfl, Or.inr rfl, ⟨fun _ => ⟨k, h0, by omega, by omega, by omega⟩, fun _ => rfl⟩, rfl⟩
        · refine g_iload_n rfl rfl ?_
          refine g_bipush rfl ⟨by decide, by decide⟩ (by decide) ?_
          refine g_icmp_ge (tgt := 22) rfl (by decide) (fun hx => absurd hx (by omega)) (fun _ => ?_)
          refine g_iconst rfl ⟨by decide, by decide⟩ ?_
          refine g_goto (tgt := 23) rfl (by decide) ?_
          refine x_zreturn rfl rfl (Or.inr rfl) ?_
          intro _
          refine g_if_ne (tgt := 41) rfl (by decide) (fun _ => ?_) (fun hx => absurd hx (by omega))
          refine x_iinc (z := k + 1) rfl rfl (by omega) ⟨by omega, by omega⟩ rfl rfl ?_
          refine g_goto (tgt := 2) rfl (by decide) ?_
          exact ih (by omega) (by omega) (fun a a0 a1 => by rcases (show a < k ∨ a = k by omega) with u | u; (exact hz a a0 u); (rw [u]; omega))
set_option maxHeartbeats 4000000 in
set_option maxRecDepth 100000 in
theorem s_stray {G : tp_G} {μ : tp_M} (hG : tp_Gf G = true) {D : Int → Int} (hD : 0 ≤ D 0 ∧ D 0 ≤ 40) (hsz : μ.1 42 4 = D 0) (h44 : ∀ a, 0 ≤ a → a < D 0 → μ.1 44 a = D (49 + a)) : tp_k G mX0_hasStrayTarget [tR (some 42)] μ (fun r μ' => ∃ v, r = some (tI v) ∧ (v = 0 ∨ v = 1) ∧ (v = 1 ↔ ∃ a, 0 ≤ a ∧ a < D 0 ∧ D (49 + a) ≠ -1 ∧ ¬ (0 ≤ D (49 + a) ∧ D (49 + a) < D 0)) ∧ μ' = μ) := by
  refine tp_ok_of mX0_hasStrayTarget_ok rfl (Nat.le_refl _) ?_
  refine g_iconst rfl ⟨by decide, by decide⟩ ?_
  refine g_istore_n rfl rfl rfl ?_
  exact l_stray hG hD hsz h44 0 hD.1 (by omega) (fun a a0 a1 => by omega)
/-- what reading leaves alone -/
def rd_G (μ0 μ : tp_M) : Prop := ∀ c, (c < 41 ∨ 49 < c) → μ.1 c = μ0.1 c
set_option maxHeartbeats 4000000 in
set_option maxRecDepth 100000 in
theorem s_read0 {G : tp_G} {μ : tp_M} (hG : tp_Gf G = true) {T : Int → Int} {len : Int} (hT : ∀ j, 0 ≤ T j ∧ T j ≤ 255) (hlen : 0 ≤ len ∧ len ≤ 600) (hTm : ∀ j, 0 ≤ j → j < len → tp_and (μ.1 2 j) 255 = T j) : tp_k G mX5_read [tR (some 41), tR (some 2), tI len, tI 0] μ (fun r μ' => r = some (tI (if (t_flt 0 T len).1 = 0 then 1 else 0)) ∧ μ'.1 41 8 = (t_flt 0 T len).1 ∧ μ'.1 41 9 = (t_flt 0 T len).2 ∧ ((t_flt 0 T len).1 = 0 → t_cont 0 (t_tld 0 T len) μ') ∧ rd_G μ μ') := by
  refine tp_ok_of mX5_read_ok rfl (Nat.le_refl _) ?_
  refine g_aload_n rfl rfl ?_
  refine g_aload_n rfl rfl ?_
  refine x_putr rfl rfl (by decide) rfl (Or.inr ⟨_, rfl⟩) rfl ?_
  refine g_aload_n rfl rfl ?_
  refine g_iload_n rfl rfl ?_
  refine g_aload_n rfl rfl ?_
  refine g_alen (t0 := 1) rfl rfl rfl (by decide) ⟨by decide, by decide⟩ ?_
  refine x_min (z := len) rfl rfl (by omega) ?_
  refine g_puti rfl rfl (by decide) rfl rfl ?_
  refine g_aload_n rfl rfl ?_
  refine g_iconst rfl ⟨by decide, by decide⟩ ?_
  refine g_puti rfl rfl (by decide) rfl rfl ?_
  refine g_aload_n rfl rfl ?_
  refine g_iconst rfl ⟨by decide, by decide⟩ ?_
  refine g_puti rfl rfl (by decide) rfl rfl ?_
  refine g_aload_n rfl rfl ?_
  refine g_iconst rfl ⟨by decide, by decide⟩ ?_
  refine g_puti rfl rfl (by decide) rfl rfl ?_
  refine g_aload_n rfl rfl ?_
  refine g_iconst rfl ⟨by decide, by decide⟩ ?_
  refine g_puti rfl rfl (by decide) rfl rfl ?_
  refine g_aload_n rfl rfl ?_
  refine g_iconst rfl ⟨by decide, by decide⟩ ?_
  refine g_puti rfl rfl (by decide) rfl rfl ?_
  refine g_aload_n rfl rfl ?_
  refine x_getF (r := 42) hG rfl rfl (by decide) (Or.inl ⟨_, rfl⟩) rfl ?_
  refine g_iV (as := []) mX0_clear_ok rfl rfl rfl rfl rfl rfl (by decide) rfl rfl rfl ?_
  refine g_aload_n rfl rfl ?_
  refine g_iconst rfl ⟨by decide, by decide⟩ ?_
  refine g_puti rfl rfl (by decide) rfl rfl ?_
  refine g_gets rfl ?_
  refine g_iconst rfl ⟨by decide, by decide⟩ ?_
  refine g_aload_n rfl rfl ?_
  refine x_getF (r := 46) hG rfl rfl (by decide) (Or.inr ⟨_, rfl⟩) rfl ?_
  refine g_iconst rfl ⟨by decide, by decide⟩ ?_
  refine g_bipush rfl ⟨by decide, by decide⟩ (by decide) ?_
  refine g_copyS (t0 := 0) (i0 := 2) rfl (by decide) rfl (by show _ ≤ ((8 : Nat) : Int); decide) rfl rfl (by decide) (by decide) (by decide) (by decide) (by decide) rfl ?_
  refine x_return rfl rfl ?_
  intro _
  refine g_aload_n rfl rfl ?_
  refine x_getF (r := 47) hG rfl rfl (by decide) (Or.inl ⟨_, rfl⟩) rfl ?_
  refine g_iV (as := []) mX6_clear_ok rfl rfl rfl rfl rfl rfl (by decide) rfl rfl rfl ?_
  refine g_aload_n rfl rfl ?_
  refine g_iconst rfl ⟨by decide, by decide⟩ ?_
  refine g_puti rfl rfl (by decide) rfl rfl ?_
  refine x_return rfl rfl ?_
  intro _
  refine g_aload_n rfl rfl ?_
  refine g_iload_n rfl rfl ?_
  refine g_cV (as := [tI 0]) (s_rls0 (st := t_s0 0) hG hT hlen rfl ⟨⟨rfl, hlen, hTm, rfl⟩, ⟨rfl, fun _ => rfl, fun z => absurd rfl z⟩, rfl⟩ (fun _ => ⟨rfl, ⟨rfl, fun a a0 a1 => by have a1 : a < 0 := a1; omega, fun i i0 i1 => by rcases (show i = 0 ∨ i = 1 ∨ i = 2 ∨ i = 3 ∨ i = 4 ∨ i = 5 ∨ i = 6 ∨ i = 7 by omega) with u | u | u | u | u | u | u | u <;> subst u <;> rfl⟩⟩) (t_I0 (by decide))) rfl rfl mX5_readLines_ok rfl rfl rfl (by decide) rfl rfl rfl ?_
  rintro _ w1 ⟨rfl, hR1, hF1⟩ _
  have hR1 : o_R 0 (t_all 0 T len) w1 := hR1
  have hG1 : rd_G μ w1 := fun c9 z => by
    rw [hF1.1 c9 z]
    rw [tp_pi_ne (by omega), tp_cq_ne (by omega), tp_pi_ne (by omega), tp_pi_ne (by omega), tp_pi_ne (by omega), tp_pi_ne (by omega), tp_pi_ne (by omega), tp_pi_ne (by omega), tp_pi_ne (by omega), tp_pr_i]
  have hlen1 : w1.1 41 1 = len := (hF1.2.1 1 (by omega)).trans rfl
  refine g_aload_n rfl rfl ?_
  refine x_geti (v := (w1.1 41 8)) rfl rfl (by decide) (Or.inl rfl) rfl ?_
  refine g_if_ne (tgt := 89) rfl (by decide) (fun h1 => ?_) (fun h1 => ?_)
  · refine g_aload_n rfl rfl ?_
    refine x_geti (v := (w1.1 41 8)) rfl rfl (by decide) (Or.inl rfl) rfl ?_
    refine g_if_ne (tgt := 100) rfl (by decide) (fun h2 => ?_) (fun h2 => ?_)
    · refine g_iconst rfl ⟨by decide, by decide⟩ ?_
      refine x_zreturn rfl rfl (Or.inl rfl) ?_
      rcases hR1.2.2 with h11 | h11
      · have q := hR1.1 h11
        have hfl : t_flt 0 T len = (1, (t_all 0 T len).1.2) := by unfold t_flt; rw [if_pos h11]
        rw [hfl]
        exact ⟨rfl, q.1, q.2, fun z => absurd (show (1 : Int) = 0 from z) (by decide), hG1⟩
      · have hC9 := hR1.2.1 h11
        have hf9 : (t_all 0 T len).2.1 ≠ 0 := by have := hC9.1.1; omega
        have hfl : t_flt 0 T len = ((t_all 0 T len).2.1, (t_all 0 T len).2.2.1) := by unfold t_flt; rw [if_neg (by omega), if_pos hf9]
        rw [hfl]
        exact ⟨by show _ = some (tI (if (t_all 0 T len).2.1 = 0 then 1 else 0)); rw [if_neg hf9], hC9.1.1, hC9.1.2.2 hf9, fun z => absurd z hf9, hG1⟩
    · refine g_iconst rfl ⟨by decide, by decide⟩ ?_
      refine g_goto (tgt := 101) rfl (by decide) ?_
      refine x_zreturn rfl rfl (Or.inr rfl) ?_
      first
        | (exfalso; omega)
        | (clear hvi hft
           have hz9 : w1.1 41 8 = 0 := by omega
           have hfl : t_flt 0 T len = (0, -1) := (by unfold t_flt; rw [if_neg (by omega), if_neg (by omega), if_neg (by rintro ⟨-, z⟩; omega)])
           rw [hfl]
           exact ⟨rfl, hz9, hC9.1.2.1 hf9, fun _ => (hC9.2.2 hf9).2, hG1⟩)
  · refine g_iload_n rfl rfl ?_
    refine g_if_ne (tgt := 89) rfl (by decide) (fun hx => absurd hx (by omega)) (fun _ => ?_)
    refine g_aload_n rfl rfl ?_
    refine x_getF (r := 42) hG rfl rfl (by decide) (Or.inl ⟨_, rfl⟩) rfl ?_
    have hz9 : w1.1 41 8 = 0 := by omega
    have h11 : (t_all 0 T len).1.1 = 1 := by rcases hR1.2.2 with q | q; (have := (hR1.1 q).1; omega); exact q
    have hC9 := hR1.2.1 h11
    have hf9 : (t_all 0 T len).2.1 = 0 := by have := hC9.1.1; omega
    obtain ⟨i9, hI9⟩ := t_go_I (so := 0) (T := T) (len := len) (by decide) _ 0 (t_s0 0) (by omega) hlen.1 (t_I0 (by decide)) h11
    have hI9 : t_I 0 i9 (t_all 0 T len).2 := hI9
    have hct9 := (hC9.2.2 hf9).2
    have hD9 : 0 ≤ (t_all 0 T len).2.2.2.2.2.2 0 ∧ (t_all 0 T len).2.2.2.2.2.2 0 ≤ 40 := by have q1 := hI9.2.1; have q2 := hI9.2.2.1 (by decide); rw [q2]; show 0 ≤ min 40 _ ∧ min 40 _ ≤ 40; omega
    refine g_cV (as := []) (s_stray hG hD9 hct9.1 (fun a a0 a1 => (hct9.2.1 a a0 a1).2.1)) rfl rfl mX0_hasStrayTarget_ok rfl rfl rfl (by decide) rfl rfl rfl ?_
    rintro _ w9 ⟨v, rfl, hv01, hvi, hw9⟩ _
    have hw9 := hw9.symm
    subst hw9
    have hft := hI9.2.2.2.2.2.2.2.2.2 rfl hf9
    have hvs : v = 1 ↔ (t_all 0 T len).2.2.2.2.2.2 0 ≤ (t_all 0 T len).2.2.2.2.2.1 := by
      rw [hvi]
      constructor
      · rintro ⟨a, a0, a1, a2, a3⟩
        have q := hft.1 a a0 a1
        have q2 := (hI9.2.2.2.2.2.2.2.1).1 a a0 a1
        have q3 := q2.2.2
        by_cases u : 1 ≤ (t_all 0 T len).2.2.2.2.2.2 (9 + a) ∧ (t_all 0 T len).2.2.2.2.2.2 (9 + a) ≤ 3
        · have := q3.1 u; omega
        · have := q3.2 u; omega
      · intro z
        rcases hft.2 with q | ⟨a, a0, a1, a2⟩
        · omega
        · exact ⟨a, a0, a1, by omega, by omega⟩
    refine g_if_eq (tgt := 89) rfl (by decide) (fun h3 => ?_) (fun h3 => ?_)
    · refine g_aload_n rfl rfl ?_
      refine x_geti (v := (w1.1 41 8)) rfl rfl (by decide) (Or.inl rfl) rfl ?_
      refine g_if_ne (tgt := 100) rfl (by decide) (fun hx => absurd hx (by omega)) (fun _ => ?_)
      refine g_iconst rfl ⟨by decide, by decide⟩ ?_
      refine g_goto (tgt := 101) rfl (by decide) ?_
      refine x_zreturn rfl rfl (Or.inr rfl) ?_
      first
        | (exfalso; omega)
        | (clear hvi hft
           have hz9 : w1.1 41 8 = 0 := by omega
           have hfl : t_flt 0 T len = (0, -1) := (by unfold t_flt; rw [if_neg (by omega), if_neg (by omega), if_neg (by rintro ⟨-, z⟩; omega)])
           rw [hfl]
           exact ⟨rfl, hz9, hC9.1.2.1 hf9, fun _ => (hC9.2.2 hf9).2, hG1⟩)
    · refine g_aload_n rfl rfl ?_
      refine g_iconst rfl ⟨by decide, by decide⟩ ?_
      refine g_aload_n rfl rfl ?_
      refine x_geti (v := len) rfl rfl (by decide) (Or.inl rfl) hlen1 ?_
      refine g_iV (as := [tI 4, tI len]) mX5_note_ok rfl rfl rfl rfl rfl rfl (by decide) rfl rfl rfl ?_
      refine g_aload_n rfl rfl ?_
      refine x_geti (v := (w1.1 41 8)) rfl rfl (by decide) (Or.inl rfl) rfl ?_
      refine g_if_ne (tgt := 17) rfl (by decide) (fun hx => absurd hx (by omega)) (fun _ => ?_)
      refine g_aload_n rfl rfl ?_
      refine g_iload_n rfl rfl ?_
      refine g_puti rfl rfl (by decide) rfl rfl ?_
      refine g_aload_n rfl rfl ?_
      refine g_iload_n rfl rfl ?_
      refine g_puti rfl rfl (by decide) rfl rfl ?_
      refine x_return rfl rfl ?_
      intro _
      refine g_aload_n rfl rfl ?_
      refine x_geti (v := 4) rfl rfl (by decide) (Or.inl rfl) rfl ?_
      refine g_if_ne (tgt := 100) rfl (by decide) (fun _ => ?_) (fun hx => absurd hx (by omega))
      refine g_iconst rfl ⟨by decide, by decide⟩ ?_
      refine x_zreturn rfl rfl (Or.inl rfl) ?_
      clear hvi hft
      have hfl : t_flt 0 T len = (4, len) := by unfold t_flt; rw [if_neg (by omega), if_neg (by omega), if_pos ⟨rfl, by omega⟩]
      rw [hfl]
      exact ⟨rfl, rfl, rfl, fun z => absurd (show (4 : Int) = 0 from z) (by decide), fun c9 z => by rw [tp_pi_ne (by omega), tp_pi_ne (by omega)]; exact hG1 c9 z⟩
set_option maxHeartbeats 4000000 in
set_option maxRecDepth 100000 in
theorem s_read1 {G : tp_G} {μ : tp_M} (hG : tp_Gf G = true) {T : Int → Int} {len : Int} (hT : ∀ j, 0 ≤ T j ∧ T j ≤ 255) (hlen : 0 ≤ len ∧ len ≤ 600) (hTm : ∀ j, 0 ≤ j → j < len → tp_and (μ.1 2 j) 255 = T j) : tp_k G mX5_read [tR (some 41), tR (some 2), tI len, tI 1] μ (fun r μ' => r = some (tI (if (t_flt 1 T len).1 = 0 then 1 else 0)) ∧ μ'.1 41 8 = (t_flt 1 T len).1 ∧ μ'.1 41 9 = (t_flt 1 T len).2 ∧ ((t_flt 1 T len).1 = 0 → t_cont 1 (t_tld 1 T len) μ') ∧ rd_G μ μ') := by
  refine tp_ok_of mX5_read_ok rfl (Nat.le_refl _) ?_
  refine g_aload_n rfl rfl ?_
  refine g_aload_n rfl rfl ?_
  refine x_putr rfl rfl (by decide) rfl (Or.inr ⟨_, rfl⟩) rfl ?_
  refine g_aload_n rfl rfl ?_
  refine g_iload_n rfl rfl ?_
  refine g_aload_n rfl rfl ?_
  refine g_alen (t0 := 1) rfl rfl rfl (by decide) ⟨by decide, by decide⟩ ?_
  refine x_min (z := len) rfl rfl (by omega) ?_
  refine g_puti rfl rfl (by decide) rfl rfl ?_
  refine g_aload_n rfl rfl ?_
  refine g_iconst rfl ⟨by decide, by decide⟩ ?_
  refine g_puti rfl rfl (by decide) rfl rfl ?_
  refine g_aload_n rfl rfl ?_
  refine g_iconst rfl ⟨by decide, by decide⟩ ?_
  refine g_puti rfl rfl (by decide) rfl rfl ?_
  refine g_aload_n rfl rfl ?_
  refine g_iconst rfl ⟨by decide, by decide⟩ ?_
  refine g_puti rfl rfl (by decide) rfl rfl ?_
  refine g_aload_n rfl rfl ?_
  refine g_iconst rfl ⟨by decide, by decide⟩ ?_
  refine g_puti rfl rfl (by decide) rfl rfl ?_
  refine g_aload_n rfl rfl ?_
  refine g_iconst rfl ⟨by decide, by decide⟩ ?_
  refine g_puti rfl rfl (by decide) rfl rfl ?_
  refine g_aload_n rfl rfl ?_
  refine x_getF (r := 42) hG rfl rfl (by decide) (Or.inl ⟨_, rfl⟩) rfl ?_
  refine g_iV (as := []) mX0_clear_ok rfl rfl rfl rfl rfl rfl (by decide) rfl rfl rfl ?_
  refine g_aload_n rfl rfl ?_
  refine g_iconst rfl ⟨by decide, by decide⟩ ?_
  refine g_puti rfl rfl (by decide) rfl rfl ?_
  refine g_gets rfl ?_
  refine g_iconst rfl ⟨by decide, by decide⟩ ?_
  refine g_aload_n rfl rfl ?_
  refine x_getF (r := 46) hG rfl rfl (by decide) (Or.inr ⟨_, rfl⟩) rfl ?_
  refine g_iconst rfl ⟨by decide, by decide⟩ ?_
  refine g_bipush rfl ⟨by decide, by decide⟩ (by decide) ?_
  refine g_copyS (t0 := 0) (i0 := 2) rfl (by decide) rfl (by show _ ≤ ((8 : Nat) : Int); decide) rfl rfl (by decide) (by decide) (by decide) (by decide) (by decide) rfl ?_
  refine x_return rfl rfl ?_
  intro _
  refine g_aload_n rfl rfl ?_
  refine x_getF (r := 47) hG rfl rfl (by decide) (Or.inl ⟨_, rfl⟩) rfl ?_
  refine g_iV (as := []) mX6_clear_ok rfl rfl rfl rfl rfl rfl (by decide) rfl rfl rfl ?_
  refine g_aload_n rfl rfl ?_
  refine g_iconst rfl ⟨by decide, by decide⟩ ?_
  refine g_puti rfl rfl (by decide) rfl rfl ?_
  refine x_return rfl rfl ?_
  intro _
  refine g_aload_n rfl rfl ?_
  refine g_iload_n rfl rfl ?_
  refine g_cV (as := [tI 1]) (s_rls1 (st := t_s0 1) hG hT hlen rfl ⟨⟨rfl, hlen, hTm, rfl⟩, ⟨rfl, fun _ => rfl, fun z => absurd rfl z⟩, rfl⟩ (fun _ => ⟨rfl, ⟨rfl, fun a a0 a1 => by have a1 : a < 0 := a1; omega⟩⟩) (t_I0 (by decide))) rfl rfl mX5_readLines_ok rfl rfl rfl (by decide) rfl rfl rfl ?_
  rintro _ w1 ⟨rfl, hR1, hF1⟩ _
  have hR1 : o_R 1 (t_all 1 T len) w1 := hR1
  have hG1 : rd_G μ w1 := fun c9 z => by
    rw [hF1.1 c9 z]
    rw [tp_pi_ne (by omega), tp_cq_ne (by omega), tp_pi_ne (by omega), tp_pi_ne (by omega), tp_pi_ne (by omega), tp_pi_ne (by omega), tp_pi_ne (by omega), tp_pi_ne (by omega), tp_pi_ne (by omega), tp_pr_i]
  have hlen1 : w1.1 41 1 = len := (hF1.2.1 1 (by omega)).trans rfl
  refine g_aload_n rfl rfl ?_
  refine x_geti (v := (w1.1 41 8)) rfl rfl (by decide) (Or.inl rfl) rfl ?_
  refine g_if_ne (tgt := 89) rfl (by decide) (fun h1 => ?_) (fun h1 => ?_)
  · refine g_aload_n rfl rfl ?_
    refine x_geti (v := (w1.1 41 8)) rfl rfl (by decide) (Or.inl rfl) rfl ?_
    refine g_if_ne (tgt := 100) rfl (by decide) (fun h2 => ?_) (fun h2 => ?_)
    · refine g_iconst rfl ⟨by decide, by decide⟩ ?_
      refine x_zreturn rfl rfl (Or.inl rfl) ?_
      rcases hR1.2.2 with h11 | h11
      · have q := hR1.1 h11
        have hfl : t_flt 1 T len = (1, (t_all 1 T len).1.2) := by unfold t_flt; rw [if_pos h11]
        rw [hfl]
        exact ⟨rfl, q.1, q.2, fun z => absurd (show (1 : Int) = 0 from z) (by decide), hG1⟩
      · have hC9 := hR1.2.1 h11
        have hf9 : (t_all 1 T len).2.1 ≠ 0 := by have := hC9.1.1; omega
        have hfl : t_flt 1 T len = ((t_all 1 T len).2.1, (t_all 1 T len).2.2.1) := by unfold t_flt; rw [if_neg (by omega), if_pos hf9]
        rw [hfl]
        exact ⟨by show _ = some (tI (if (t_all 1 T len).2.1 = 0 then 1 else 0)); rw [if_neg hf9], hC9.1.1, hC9.1.2.2 hf9, fun z => absurd z hf9, hG1⟩
    · refine g_iconst rfl ⟨by decide, by decide⟩ ?_
      refine g_goto (tgt := 101) rfl (by decide) ?_
      refine x_zreturn rfl rfl (Or.inr rfl) ?_
      first
        | (exfalso; omega)
        | (have hz9 : w1.1 41 8 = 0 := by omega
           have h11 : (t_all 1 T len).1.1 = 1 := by rcases hR1.2.2 with q | q; (have := (hR1.1 q).1; omega); exact q
           have hC9 := hR1.2.1 h11
           have hf9 : (t_all 1 T len).2.1 = 0 := by have := hC9.1.1; omega
           have hfl : t_flt 1 T len = (0, -1) := (by unfold t_flt; rw [if_neg (by omega), if_neg (by omega), if_neg (by rintro ⟨z, -⟩; omega)])
           rw [hfl]
           exact ⟨rfl, hz9, hC9.1.2.1 hf9, fun _ => (hC9.2.2 hf9).2, hG1⟩)
  · refine g_iload_n rfl rfl ?_
    refine g_if_ne (tgt := 89) rfl (by decide) (fun _ => ?_) (fun hx => absurd hx (by omega))
    refine g_aload_n rfl rfl ?_
    refine x_geti (v := (w1.1 41 8)) rfl rfl (by decide) (Or.inl rfl) rfl ?_
    refine g_if_ne (tgt := 100) rfl (by decide) (fun hx => absurd hx (by omega)) (fun _ => ?_)
    refine g_iconst rfl ⟨by decide, by decide⟩ ?_
    refine g_goto (tgt := 101) rfl (by decide) ?_
    refine x_zreturn rfl rfl (Or.inr rfl) ?_
    first
      | (exfalso; omega)
      | (have hz9 : w1.1 41 8 = 0 := by omega
         have h11 : (t_all 1 T len).1.1 = 1 := by rcases hR1.2.2 with q | q; (have := (hR1.1 q).1; omega); exact q
         have hC9 := hR1.2.1 h11
         have hf9 : (t_all 1 T len).2.1 = 0 := by have := hC9.1.1; omega
         have hfl : t_flt 1 T len = (0, -1) := (by unfold t_flt; rw [if_neg (by omega), if_neg (by omega), if_neg (by rintro ⟨z, -⟩; omega)])
         rw [hfl]
         exact ⟨rfl, hz9, hC9.1.2.1 hf9, fun _ => (hC9.2.2 hf9).2, hG1⟩)
set_option maxHeartbeats 4000000 in
set_option maxRecDepth 100000 in
theorem s_read2 {G : tp_G} {μ : tp_M} (hG : tp_Gf G = true) {T : Int → Int} {len : Int} (hT : ∀ j, 0 ≤ T j ∧ T j ≤ 255) (hlen : 0 ≤ len ∧ len ≤ 600) (hTm : ∀ j, 0 ≤ j → j < len → tp_and (μ.1 2 j) 255 = T j) : tp_k G mX5_read [tR (some 41), tR (some 2), tI len, tI 2] μ (fun r μ' => r = some (tI (if (t_flt 2 T len).1 = 0 then 1 else 0)) ∧ μ'.1 41 8 = (t_flt 2 T len).1 ∧ μ'.1 41 9 = (t_flt 2 T len).2 ∧ ((t_flt 2 T len).1 = 0 → t_cont 2 (t_tld 2 T len) μ') ∧ rd_G μ μ') := by
  refine tp_ok_of mX5_read_ok rfl (Nat.le_refl _) ?_
  refine g_aload_n rfl rfl ?_
  refine g_aload_n rfl rfl ?_
  refine x_putr rfl rfl (by decide) rfl (Or.inr ⟨_, rfl⟩) rfl ?_
  refine g_aload_n rfl rfl ?_
  refine g_iload_n rfl rfl ?_
  refine g_aload_n rfl rfl ?_
  refine g_alen (t0 := 1) rfl rfl rfl (by decide) ⟨by decide, by decide⟩ ?_
  refine x_min (z := len) rfl rfl (by omega) ?_
  refine g_puti rfl rfl (by decide) rfl rfl ?_
  refine g_aload_n rfl rfl ?_
  refine g_iconst rfl ⟨by decide, by decide⟩ ?_
  refine g_puti rfl rfl (by decide) rfl rfl ?_
  refine g_aload_n rfl rfl ?_
  refine g_iconst rfl ⟨by decide, by decide⟩ ?_
  refine g_puti rfl rfl (by decide) rfl rfl ?_
  refine g_aload_n rfl rfl ?_
  refine g_iconst rfl ⟨by decide, by decide⟩ ?_
  refine g_puti rfl rfl (by decide) rfl rfl ?_
  refine g_aload_n rfl rfl ?_
  refine g_iconst rfl ⟨by decide, by decide⟩ ?_
  refine g_puti rfl rfl (by decide) rfl rfl ?_
  refine g_aload_n rfl rfl ?_
  refine g_iconst rfl ⟨by decide, by decide⟩ ?_
  refine g_puti rfl rfl (by decide) rfl rfl ?_
  refine g_aload_n rfl rfl ?_
  refine x_getF (r := 42) hG rfl rfl (by decide) (Or.inl ⟨_, rfl⟩) rfl ?_
  refine g_iV (as := []) mX0_clear_ok rfl rfl rfl rfl rfl rfl (by decide) rfl rfl rfl ?_
  refine g_aload_n rfl rfl ?_
  refine g_iconst rfl ⟨by decide, by decide⟩ ?_
  refine g_puti rfl rfl (by decide) rfl rfl ?_
  refine g_gets rfl ?_
  refine g_iconst rfl ⟨by decide, by decide⟩ ?_
  refine g_aload_n rfl rfl ?_
  refine x_getF (r := 46) hG rfl rfl (by decide) (Or.inr ⟨_, rfl⟩) rfl ?_
  refine g_iconst rfl ⟨by decide, by decide⟩ ?_
  refine g_bipush rfl ⟨by decide, by decide⟩ (by decide) ?_
  refine g_copyS (t0 := 0) (i0 := 2) rfl (by decide) rfl (by show _ ≤ ((8 : Nat) : Int); decide) rfl rfl (by decide) (by decide) (by decide) (by decide) (by decide) rfl ?_
  refine x_return rfl rfl ?_
  intro _
  refine g_aload_n rfl rfl ?_
  refine x_getF (r := 47) hG rfl rfl (by decide) (Or.inl ⟨_, rfl⟩) rfl ?_
  refine g_iV (as := []) mX6_clear_ok rfl rfl rfl rfl rfl rfl (by decide) rfl rfl rfl ?_
  refine g_aload_n rfl rfl ?_
  refine g_iconst rfl ⟨by decide, by decide⟩ ?_
  refine g_puti rfl rfl (by decide) rfl rfl ?_
  refine x_return rfl rfl ?_
  intro _
  refine g_aload_n rfl rfl ?_
  refine g_iload_n rfl rfl ?_
  refine g_cV (as := [tI 2]) (s_rls2 (st := t_s0 2) hG hT hlen rfl ⟨⟨rfl, hlen, hTm, rfl⟩, ⟨rfl, fun _ => rfl, fun z => absurd rfl z⟩, rfl⟩ (fun _ => ⟨rfl, ⟨rfl, ⟨Int.le_refl 0, by decide⟩, fun i j i0 ij j1 => by have j1 : j < 0 := j1; omega, fun i i0 i1 => by have i1 : i < 0 := i1; omega, fun p _ _ => Or.inl rfl⟩⟩) (t_I0 (by decide))) rfl rfl mX5_readLines_ok rfl rfl rfl (by decide) rfl rfl rfl ?_
  rintro _ w1 ⟨rfl, hR1, hF1⟩ _
  have hR1 : o_R 2 (t_all 2 T len) w1 := hR1
  have hG1 : rd_G μ w1 := fun c9 z => by
    rw [hF1.1 c9 z]
    rw [tp_pi_ne (by omega), tp_cq_ne (by omega), tp_pi_ne (by omega), tp_pi_ne (by omega), tp_pi_ne (by omega), tp_pi_ne (by omega), tp_pi_ne (by omega), tp_pi_ne (by omega), tp_pi_ne (by omega), tp_pr_i]
  have hlen1 : w1.1 41 1 = len := (hF1.2.1 1 (by omega)).trans rfl
  refine g_aload_n rfl rfl ?_
  refine x_geti (v := (w1.1 41 8)) rfl rfl (by decide) (Or.inl rfl) rfl ?_
  refine g_if_ne (tgt := 89) rfl (by decide) (fun h1 => ?_) (fun h1 => ?_)
  · refine g_aload_n rfl rfl ?_
    refine x_geti (v := (w1.1 41 8)) rfl rfl (by decide) (Or.inl rfl) rfl ?_
    refine g_if_ne (tgt := 100) rfl (by decide) (fun h2 => ?_) (fun h2 => ?_)
    · refine g_iconst rfl ⟨by decide, by decide⟩ ?_
      refine x_zreturn rfl rfl (Or.inl rfl) ?_
      rcases hR1.2.2 with h11 | h11
      · have q := hR1.1 h11
        have hfl : t_flt 2 T len = (1, (t_all 2 T len).1.2) := by unfold t_flt; rw [if_pos h11]
        rw [hfl]
        exact ⟨rfl, q.1, q.2, fun z => absurd (show (1 : Int) = 0 from z) (by decide), hG1⟩
      · have hC9 := hR1.2.1 h11
        have hf9 : (t_all 2 T len).2.1 ≠ 0 := by have := hC9.1.1; omega
        have hfl : t_flt 2 T len = ((t_all 2 T len).2.1, (t_all 2 T len).2.2.1) := by unfold t_flt; rw [if_neg (by omega), if_pos hf9]
        rw [hfl]
        exact ⟨by show _ = some (tI (if (t_all 2 T len).2.1 = 0 then 1 else 0)); rw [if_neg hf9], hC9.1.1, hC9.1.2.2 hf9, fun z => absurd z hf9, hG1⟩
    · refine g_iconst rfl ⟨by decide, by decide⟩ ?_
      refine g_goto (tgt := 101) rfl (by decide) ?_
      refine x_zreturn rfl rfl (Or.inr rfl) ?_
      first
        | (exfalso; omega)
        | (have hz9 : w1.1 41 8 = 0 := by omega
           have h11 : (t_all 2 T len).1.1 = 1 := by rcases hR1.2.2 with q | q; (have := (hR1.1 q).1; omega); exact q
           have hC9 := hR1.2.1 h11
           have hf9 : (t_all 2 T len).2.1 = 0 := by have := hC9.1.1; omega
           have hfl : t_flt 2 T len = (0, -1) := (by unfold t_flt; rw [if_neg (by omega), if_neg (by omega), if_neg (by rintro ⟨z, -⟩; omega)])
           rw [hfl]
           exact ⟨rfl, hz9, hC9.1.2.1 hf9, fun _ => (hC9.2.2 hf9).2, hG1⟩)
  · refine g_iload_n rfl rfl ?_
    refine g_if_ne (tgt := 89) rfl (by decide) (fun _ => ?_) (fun hx => absurd hx (by omega))
    refine g_aload_n rfl rfl ?_
    refine x_geti (v := (w1.1 41 8)) rfl rfl (by decide) (Or.inl rfl) rfl ?_
    refine g_if_ne (tgt := 100) rfl (by decide) (fun hx => absurd hx (by omega)) (fun _ => ?_)
    refine g_iconst rfl ⟨by decide, by decide⟩ ?_
    refine g_goto (tgt := 101) rfl (by decide) ?_
    refine x_zreturn rfl rfl (Or.inr rfl) ?_
    first
      | (exfalso; omega)
      | (have hz9 : w1.1 41 8 = 0 := by omega
         have h11 : (t_all 2 T len).1.1 = 1 := by rcases hR1.2.2 with q | q; (have := (hR1.1 q).1; omega); exact q
         have hC9 := hR1.2.1 h11
         have hf9 : (t_all 2 T len).2.1 = 0 := by have := hC9.1.1; omega
         have hfl : t_flt 2 T len = (0, -1) := (by unfold t_flt; rw [if_neg (by omega), if_neg (by omega), if_neg (by rintro ⟨z, -⟩; omega)])
         rw [hfl]
         exact ⟨rfl, hz9, hC9.1.2.1 hf9, fun _ => (hC9.2.2 hf9).2, hG1⟩)
set_option maxHeartbeats 4000000 in
set_option maxRecDepth 100000 in
theorem s_read3 {G : tp_G} {μ : tp_M} (hG : tp_Gf G = true) {T : Int → Int} {len : Int} (hT : ∀ j, 0 ≤ T j ∧ T j ≤ 255) (hlen : 0 ≤ len ∧ len ≤ 600) (hTm : ∀ j, 0 ≤ j → j < len → tp_and (μ.1 2 j) 255 = T j) : tp_k G mX5_read [tR (some 41), tR (some 2), tI len, tI 3] μ (fun r μ' => r = some (tI (if (t_flt 3 T len).1 = 0 then 1 else 0)) ∧ μ'.1 41 8 = (t_flt 3 T len).1 ∧ μ'.1 41 9 = (t_flt 3 T len).2 ∧ ((t_flt 3 T len).1 = 0 → t_cont 3 (t_tld 3 T len) μ') ∧ rd_G μ μ') := by
  refine tp_ok_of mX5_read_ok rfl (Nat.le_refl _) ?_
  refine g_aload_n rfl rfl ?_
  refine g_aload_n rfl rfl ?_
  refine x_putr rfl rfl (by decide) rfl (Or.inr ⟨_, rfl⟩) rfl ?_
  refine g_aload_n rfl rfl ?_
  refine g_iload_n rfl rfl ?_
  refine g_aload_n rfl rfl ?_
  refine g_alen (t0 := 1) rfl rfl rfl (by decide) ⟨by decide, by decide⟩ ?_
  refine x_min (z := len) rfl rfl (by omega) ?_
  refine g_puti rfl rfl (by decide) rfl rfl ?_
  refine g_aload_n rfl rfl ?_
  refine g_iconst rfl ⟨by decide, by decide⟩ ?_
  refine g_puti rfl rfl (by decide) rfl rfl ?_
  refine g_aload_n rfl rfl ?_
  refine g_iconst rfl ⟨by decide, by decide⟩ ?_
  refine g_puti rfl rfl (by decide) rfl rfl ?_
  refine g_aload_n rfl rfl ?_
  refine g_iconst rfl ⟨by decide, by decide⟩ ?_
  refine g_puti rfl rfl (by decide) rfl rfl ?_
  refine g_aload_n rfl rfl ?_
  refine g_iconst rfl ⟨by decide, by decide⟩ ?_
  refine g_puti rfl rfl (by decide) rfl rfl ?_
  refine g_aload_n rfl rfl ?_
  refine g_iconst rfl ⟨by decide, by decide⟩ ?_
  refine g_puti rfl rfl (by decide) rfl rfl ?_
  refine g_aload_n rfl rfl ?_
  refine x_getF (r := 42) hG rfl rfl (by decide) (Or.inl ⟨_, rfl⟩) rfl ?_
  refine g_iV (as := []) mX0_clear_ok rfl rfl rfl rfl rfl rfl (by decide) rfl rfl rfl ?_
  refine g_aload_n rfl rfl ?_
  refine g_iconst rfl ⟨by decide, by decide⟩ ?_
  refine g_puti rfl rfl (by decide) rfl rfl ?_
  refine g_gets rfl ?_
  refine g_iconst rfl ⟨by decide, by decide⟩ ?_
  refine g_aload_n rfl rfl ?_
  refine x_getF (r := 46) hG rfl rfl (by decide) (Or.inr ⟨_, rfl⟩) rfl ?_
  refine g_iconst rfl ⟨by decide, by decide⟩ ?_
  refine g_bipush rfl ⟨by decide, by decide⟩ (by decide) ?_
  refine g_copyS (t0 := 0) (i0 := 2) rfl (by decide) rfl (by show _ ≤ ((8 : Nat) : Int); decide) rfl rfl (by decide) (by decide) (by decide) (by decide) (by decide) rfl ?_
  refine x_return rfl rfl ?_
  intro _
  refine g_aload_n rfl rfl ?_
  refine x_getF (r := 47) hG rfl rfl (by decide) (Or.inl ⟨_, rfl⟩) rfl ?_
  refine g_iV (as := []) mX6_clear_ok rfl rfl rfl rfl rfl rfl (by decide) rfl rfl rfl ?_
  refine g_aload_n rfl rfl ?_
  refine g_iconst rfl ⟨by decide, by decide⟩ ?_
  refine g_puti rfl rfl (by decide) rfl rfl ?_
  refine x_return rfl rfl ?_
  intro _
  refine g_aload_n rfl rfl ?_
  refine g_iload_n rfl rfl ?_
  refine g_cV (as := [tI 3]) (s_rls3 (st := t_s0 3) hG hT hlen rfl ⟨⟨rfl, hlen, hTm, rfl⟩, ⟨rfl, fun _ => rfl, fun z => absurd rfl z⟩, rfl⟩ (fun _ => ⟨rfl, ⟨rfl, fun a a0 a1 => by have a1 : a < 0 := a1; omega⟩⟩) (t_I0 (by decide))) rfl rfl mX5_readLines_ok rfl rfl rfl (by decide) rfl rfl rfl ?_
  rintro _ w1 ⟨rfl, hR1, hF1⟩ _
  have hR1 : o_R 3 (t_all 3 T len) w1 := hR1
  have hG1 : rd_G μ w1 := fun c9 z => by
    rw [hF1.1 c9 z]
    rw [tp_pi_ne (by omega), tp_cq_ne (by omega), tp_pi_ne (by omega), tp_pi_ne (by omega), tp_pi_ne (by omega), tp_pi_ne (by omega), tp_pi_ne (by omega), tp_pi_ne (by omega), tp_pi_ne (by omega), tp_pr_i]
  have hlen1 : w1.1 41 1 = len := (hF1.2.1 1 (by omega)).trans rfl
  refine g_aload_n rfl rfl ?_
  refine x_geti (v := (w1.1 41 8)) rfl rfl (by decide) (Or.inl rfl) rfl ?_
  refine g_if_ne (tgt := 89) rfl (by decide) (fun h1 => ?_) (fun h1 => ?_)
  · refine g_aload_n rfl rfl ?_
    refine x_geti (v := (w1.1 41 8)) rfl rfl (by decide) (Or.inl rfl) rfl ?_
    refine g_if_ne (tgt := 100) rfl (by decide) (fun h2 => ?_) (fun h2 => ?_)
    · refine g_iconst rfl ⟨by decide, by decide⟩ ?_
      refine x_zreturn rfl rfl (Or.inl rfl) ?_
      rcases hR1.2.2 with h11 | h11
      · have q := hR1.1 h11
        have hfl : t_flt 3 T len = (1, (t_all 3 T len).1.2) := by unfold t_flt; rw [if_pos h11]
        rw [hfl]
        exact ⟨rfl, q.1, q.2, fun z => absurd (show (1 : Int) = 0 from z) (by decide), hG1⟩
      · have hC9 := hR1.2.1 h11
        have hf9 : (t_all 3 T len).2.1 ≠ 0 := by have := hC9.1.1; omega
        have hfl : t_flt 3 T len = ((t_all 3 T len).2.1, (t_all 3 T len).2.2.1) := by unfold t_flt; rw [if_neg (by omega), if_pos hf9]
        rw [hfl]
        exact ⟨by show _ = some (tI (if (t_all 3 T len).2.1 = 0 then 1 else 0)); rw [if_neg hf9], hC9.1.1, hC9.1.2.2 hf9, fun z => absurd z hf9, hG1⟩
    · refine g_iconst rfl ⟨by decide, by decide⟩ ?_
      refine g_goto (tgt := 101) rfl (by decide) ?_
      refine x_zreturn rfl rfl (Or.inr rfl) ?_
      first
        | (exfalso; omega)
        | (have hz9 : w1.1 41 8 = 0 := by omega
           have h11 : (t_all 3 T len).1.1 = 1 := by rcases hR1.2.2 with q | q; (have := (hR1.1 q).1; omega); exact q
           have hC9 := hR1.2.1 h11
           have hf9 : (t_all 3 T len).2.1 = 0 := by have := hC9.1.1; omega
           have hfl : t_flt 3 T len = (0, -1) := (by unfold t_flt; rw [if_neg (by omega), if_neg (by omega), if_neg (by rintro ⟨z, -⟩; omega)])
           rw [hfl]
           exact ⟨rfl, hz9, hC9.1.2.1 hf9, fun _ => (hC9.2.2 hf9).2, hG1⟩)
  · refine g_iload_n rfl rfl ?_
    refine g_if_ne (tgt := 89) rfl (by decide) (fun _ => ?_) (fun hx => absurd hx (by omega))
    refine g_aload_n rfl rfl ?_
    refine x_geti (v := (w1.1 41 8)) rfl rfl (by decide) (Or.inl rfl) rfl ?_
    refine g_if_ne (tgt := 100) rfl (by decide) (fun hx => absurd hx (by omega)) (fun _ => ?_)
    refine g_iconst rfl ⟨by decide, by decide⟩ ?_
    refine g_goto (tgt := 101) rfl (by decide) ?_
    refine x_zreturn rfl rfl (Or.inr rfl) ?_
    first
      | (exfalso; omega)
      | (have hz9 : w1.1 41 8 = 0 := by omega
         have h11 : (t_all 3 T len).1.1 = 1 := by rcases hR1.2.2 with q | q; (have := (hR1.1 q).1; omega); exact q
         have hC9 := hR1.2.1 h11
         have hf9 : (t_all 3 T len).2.1 = 0 := by have := hC9.1.1; omega
         have hfl : t_flt 3 T len = (0, -1) := (by unfold t_flt; rw [if_neg (by omega), if_neg (by omega), if_neg (by rintro ⟨z, -⟩; omega)])
         rw [hfl]
         exact ⟨rfl, hz9, hC9.1.2.1 hf9, fun _ => (hC9.2.2 hf9).2, hG1⟩)
