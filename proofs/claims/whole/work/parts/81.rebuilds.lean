theorem q_S_mono2 {C : Int → Int} (m : Nat) : ∀ n : Nat, (∀ a, 0 ≤ a → a < ((m + n : Nat) : Int) → 0 ≤ C a) → q_S C m ≤ q_S C (m + n) := by
  intro n
  induction n with
  | zero => intro _; exact Int.le_refl _
  | succ n ih =>
    intro h
    have a := ih (fun a a0 a1 => h a a0 (by omega))
    have b := h ((m + n : Nat) : Int) (by omega) (by omega)
    show q_S C m ≤ q_S C (m + n) + C ((m + n : Nat) : Int)
    omega
theorem q_s_mono2 {C : Int → Int} {m n : Int} (h0 : 0 ≤ m) (hmn : m ≤ n) (h : ∀ a, 0 ≤ a → a < n → 0 ≤ C a) : q_s C m ≤ q_s C n := by
  have e := q_S_mono2 (C := C) m.toNat (n.toNat - m.toNat) (fun a a0 a1 => h a a0 (by omega))
  rw [show m.toNat + (n.toNat - m.toNat) = n.toNat by omega] at e
  exact e
/-- the reference holds pieces -/
def v_M (s : v_T) (μ : tp_M) : Prop := μ.1 201 62 = s.2.1 ∧ ∀ i, 0 ≤ i → i < s.2.1 → μ.1 224 i = s.2.2.1 i ∧ μ.1 225 i = s.2.2.2 i
def v_F (μ0 μ : tp_M) : Prop := (∀ c, c ≠ 201 → c ≠ 224 → c ≠ 225 → μ.1 c = μ0.1 c) ∧ (∀ j, j ≠ 62 → j ≠ 63 → μ.1 201 j = μ0.1 201 j)
theorem v_F_rf {μ : tp_M} : v_F μ μ := ⟨fun _ _ _ _ => rfl, fun _ _ _ => rfl⟩
/-- the reference's packets -/
def v_R (l : Int → Int) (σ μ : tp_M) : Prop := μ.1 201 47 = σ.1 0 9 ∧ ∀ i, 0 ≤ i → i < σ.1 0 9 → μ.1 216 i = σ.1 2 i ∧ μ.1 220 i = σ.1 5 i ∧ μ.1 221 i = σ.1 6 i ∧ μ.1 223 i = l i
theorem v_R_fr {l : Int → Int} {σ μ0 μ : tp_M} (hF : v_F μ0 μ) (h : v_R l σ μ0) : v_R l σ μ := by
  unfold v_R
  rw [hF.2 47 (by omega) (by omega), hF.1 216 (by omega) (by omega) (by omega), hF.1 220 (by omega) (by omega) (by omega), hF.1 221 (by omega) (by omega) (by omega), hF.1 223 (by omega) (by omega) (by omega)]
  exact h
set_option maxHeartbeats 4000000 in
set_option maxRecDepth 100000 in
theorem l_reb1 {G : tp_G} (hG : tp_Gf G = true) {f A B Y : Int → Int} {dp n : Int} {l : Int → Int} {μ0 σ : tp_M} (hR0 : v_R l σ μ0) (hl : ∀ i, l i = 0 ∨ l i = 1) (hp : 0 ≤ σ.1 0 9 ∧ σ.1 0 9 ≤ 209) (hn : n ≤ 200) (HH : ∀ p, 0 ≤ p → p < σ.1 0 9 → s_H f A B Y dp n σ p) {Φ : Option tp_V → tp_M → Prop} (hΦ : ∀ (μ : tp_M) (kn : Int), v_M (v_S l σ (σ.1 0 9)) μ → v_F μ0 μ → tp_g G mX12_rebuilds 160 [some (tR (some 201)), some (tI kn), some (tI (σ.1 0 9))] [] μ Φ) : ∀ k, k ≤ σ.1 0 9 → ∀ (μ : tp_M) (kn : Int) (s : v_T), 0 ≤ k → s = v_S l σ k → kn = s.1 → v_M s μ → v_F μ0 μ → tp_g G mX12_rebuilds 9 [some (tR (some 201)), some (tI kn), some (tI k)] [] μ Φ := by
  refine tp_ind _ ?_
  intro k hkN ih μ kn s h0 hs hkn hM hF
  have hI := v_I_all (l := l) HH h0 hkN
  rw [← hs] at hI
  obtain ⟨i1, i2, i3, i4, i5, i6⟩ := hI
  have hR := v_R_fr hF hR0
  have hsz := hR.1
  have hm1 := hM.1
  have hkn01 : 0 ≤ kn ∧ kn ≤ 1 := by rcases i1 with q | q <;> omega
  have i3' : kn = 1 → 1 ≤ s.2.1 := fun z => (i3 (by omega)).1
  have i4' : kn = 1 → 0 ≤ s.2.2.1 (s.2.1 - 1) ∧ s.2.2.1 (s.2.1 - 1) ≤ 200 := fun z => by
    have a := i3 (by omega)
    have b := i4 (s.2.1 - 1) (by omega) (by omega)
    have c := (HH (k - 1) (by have := a.2.1.1; omega) (by omega)).2.1
    omega
  have h24' : kn = 1 → μ.1 224 (μ.1 201 62 - 1) = s.2.2.1 (s.2.1 - 1) := fun z => by rw [hm1]; exact (hM.2 _ (by have := i3' z; omega) (by omega)).1
  clear i3 i4 i5 i6 i1
  by_cases hend : σ.1 0 9 ≤ k
  case pos =>
    refine g_iload_n rfl rfl ?_
    refine g_aload_n rfl rfl ?_
    refine x_geti (v := (μ.1 201 47)) rfl rfl (by decide) (Or.inl rfl) rfl ?_
    refine g_icmp_ge (tgt := 160) rfl (by decide) (fun _ => ?_) (fun hx => absurd hx (by omega))
    have hkP : k = σ.1 0 9 := by omega
    rw [hkP] at hs ⊢
    rw [hs] at hM
    exact hΦ _ _ hM hF
  have hHk := HH k h0 (by omega)
  have hRk := hR.2 k h0 (by omega)
  have e2 := hRk.1
  have e5 := hRk.2.1
  have e6 := hRk.2.2.1
  have el := hRk.2.2.2
  have hl2 : 0 ≤ μ.1 223 k ∧ μ.1 223 k ≤ 1 := by rw [el]; rcases hl k with q | q <;> omega
  have h6b := hHk.2.1
  have hkb := hHk.1
  have h5b : σ.1 2 k = 0 → 0 ≤ σ.1 5 k ∧ σ.1 5 k < n := fun z => (hHk.2.2.2.2.1 z).1
  refine g_iload_n rfl rfl ?_
  refine g_aload_n rfl rfl ?_
  refine x_geti (v := (μ.1 201 47)) rfl rfl (by decide) (Or.inl rfl) rfl ?_
  refine g_icmp_ge (tgt := 160) rfl (by decide) (fun hx => absurd hx (by omega)) (fun _ => ?_)
  refine g_aload_n rfl rfl ?_
  refine x_getF (r := 223) hG rfl rfl (by decide) (Or.inr ⟨_, rfl⟩) rfl ?_
  refine g_iload_n rfl rfl ?_
  refine g_zald rfl rfl (by decide) (by omega) (by omega) ?_
  refine g_if_ne (tgt := 36) rfl (by decide) (fun h1 => ?_) (fun h1 => ?_)
  · refine g_iconst rfl ⟨by decide, by decide⟩ ?_
    refine g_istore_n rfl rfl rfl ?_
    refine g_goto (tgt := 154) rfl (by decide) ?_
    refine x_iinc (z := k + 1) rfl rfl (by omega) ⟨by omega, by omega⟩ rfl rfl ?_
    refine g_goto (tgt := 9) rfl (by decide) ?_
    first
      | exact ih (by omega) _ _ (0, s.2) (by omega) (by rw [v_S_s h0, ← hs, v_n_l (by omega)]) (by first | rfl | omega) hM hF
      | exact ih (by omega) _ _ s (by omega) (by rw [v_S_s h0, ← hs, v_n_o (by omega) (by omega) (by omega)]) (by omega) hM hF
  · refine g_aload_n rfl rfl ?_
    refine x_getF (r := 216) hG rfl rfl (by decide) (Or.inr ⟨_, rfl⟩) rfl ?_
    refine g_iload_n rfl rfl ?_
    refine x_iald (v := (μ.1 216 k)) rfl rfl (by decide) (by omega) (by omega) rfl ?_
    refine g_iconst rfl ⟨by decide, by decide⟩ ?_
    refine g_icmp_ne (tgt := 41) rfl (by decide) (fun h2 => ?_) (fun h2 => ?_)
    · refine g_aload_n rfl rfl ?_
      refine x_getF (r := 216) hG rfl rfl (by decide) (Or.inr ⟨_, rfl⟩) rfl ?_
      refine g_iload_n rfl rfl ?_
      refine x_iald (v := (μ.1 216 k)) rfl rfl (by decide) (by omega) (by omega) rfl ?_
      refine g_if_ne (tgt := 91) rfl (by decide) (fun h3 => ?_) (fun h3 => ?_)
      · refine g_iload_n rfl rfl ?_
        refine g_if_eq (tgt := 124) rfl (by decide) (fun h4 => ?_) (fun h4 => ?_)
        · refine g_iload_n rfl rfl ?_
          refine g_if_eq (tgt := 152) rfl (by decide) (fun _ => ?_) (fun hx => absurd hx (by omega))
          refine g_iconst rfl ⟨by decide, by decide⟩ ?_
          refine g_istore_n rfl rfl rfl ?_
          refine x_iinc (z := k + 1) rfl rfl (by omega) ⟨by omega, by omega⟩ rfl rfl ?_
          refine g_goto (tgt := 9) rfl (by decide) ?_
          first
            | exact ih (by omega) _ _ (0, s.2) (by omega) (by rw [v_S_s h0, ← hs, v_n_l (by omega)]) (by first | rfl | omega) hM hF
            | exact ih (by omega) _ _ s (by omega) (by rw [v_S_s h0, ← hs, v_n_o (by omega) (by omega) (by omega)]) (by omega) hM hF
        · refine g_aload_n rfl rfl ?_
          refine x_getF (r := 225) hG rfl rfl (by decide) (Or.inr ⟨_, rfl⟩) rfl ?_
          refine g_aload_n rfl rfl ?_
          refine x_geti (v := (μ.1 201 62)) rfl rfl (by decide) (Or.inl rfl) rfl ?_
          refine g_iconst rfl ⟨by decide, by decide⟩ ?_
          refine x_isub (z := (μ.1 201 62) - 1) rfl (by omega) ⟨by omega, by omega⟩ ?_
          refine g_aload_n rfl rfl ?_
          refine x_getF (r := 221) hG rfl rfl (by decide) (Or.inr ⟨_, rfl⟩) rfl ?_
          refine g_iload_n rfl rfl ?_
          refine x_iald (v := (μ.1 221 k)) rfl rfl (by decide) (by omega) (by omega) rfl ?_
          refine g_aload_n rfl rfl ?_
          refine x_getF (r := 224) hG rfl rfl (by decide) (Or.inr ⟨_, rfl⟩) rfl ?_
          refine g_aload_n rfl rfl ?_
          refine x_geti (v := (μ.1 201 62)) rfl rfl (by decide) (Or.inl rfl) rfl ?_
          refine g_iconst rfl ⟨by decide, by decide⟩ ?_
          refine x_isub (z := (μ.1 201 62) - 1) rfl (by omega) ⟨by omega, by omega⟩ ?_
          refine x_iald (v := (μ.1 224 (μ.1 201 62 - 1))) rfl rfl (by decide) (by omega) (by omega) rfl ?_
          refine x_isub (z := (μ.1 221 k) - (μ.1 224 (μ.1 201 62 - 1))) rfl (by omega) ⟨by omega, by omega⟩ ?_
          refine g_iast rfl rfl (by decide) (by omega) (by omega) ?_
          refine g_iload_n rfl rfl ?_
          refine g_if_eq (tgt := 152) rfl (by decide) (fun hx => absurd hx (by omega)) (fun _ => ?_)
          refine g_aload_n rfl rfl ?_
          refine x_getF (r := 216) hG rfl rfl (by decide) (Or.inr ⟨_, rfl⟩) rfl ?_
          refine g_iload_n rfl rfl ?_
          refine x_iald (v := (μ.1 216 k)) rfl rfl (by decide) (by omega) (by omega) rfl ?_
          refine g_iconst rfl ⟨by decide, by decide⟩ ?_
          refine g_icmp_eq (tgt := 152) rfl (by decide) (fun h5 => ?_) (fun h5 => ?_)
          · refine g_iconst rfl ⟨by decide, by decide⟩ ?_
            refine g_istore_n rfl rfl rfl ?_
            refine x_iinc (z := k + 1) rfl rfl (by omega) ⟨by omega, by omega⟩ rfl rfl ?_
            refine g_goto (tgt := 9) rfl (by decide) ?_
            have g225 : ∀ i, ((tp_pi μ 225 ((μ.1 201 62) - 1) ((μ.1 221 k) - (μ.1 224 (μ.1 201 62 - 1))))).1 225 i = if i = μ.1 201 62 - 1 then μ.1 221 k - μ.1 224 (μ.1 201 62 - 1) else μ.1 225 i := fun i => by
              by_cases q : i = μ.1 201 62 - 1
              · rw [if_pos q, q, tp_pi_at]
              · rw [if_neg q, tp_pi_ix q]
            have h24 := (hM.2 (s.2.1 - 1) (by omega) (by omega)).1
            have hix : μ.1 201 62 - 1 = s.2.1 - 1 := by omega
            exact ih (by omega) _ _ (if σ.1 2 k = 3 ∨ σ.1 2 k = 4 then 0 else 1, s.2.1, s.2.2.1, v_u s.2.2.2 (s.2.1 - 1) (σ.1 6 k - s.2.2.1 (s.2.1 - 1))) (by omega) (by rw [v_S_s h0, ← hs, v_n_t (by omega) (by omega)]) (by show _ = (if σ.1 2 k = 3 ∨ σ.1 2 k = 4 then (0 : Int) else 1); rw [if_pos (by omega)]) ⟨hM.1, fun i i0 i1 => by
              have i1 : i < s.2.1 := i1
              show ((tp_pi μ 225 ((μ.1 201 62) - 1) ((μ.1 221 k) - (μ.1 224 (μ.1 201 62 - 1))))).1 224 i = s.2.2.1 i ∧ ((tp_pi μ 225 ((μ.1 201 62) - 1) ((μ.1 221 k) - (μ.1 224 (μ.1 201 62 - 1))))).1 225 i = v_u s.2.2.2 (s.2.1 - 1) (σ.1 6 k - s.2.2.1 (s.2.1 - 1)) i
              rw [g225, hix, tp_pi_ne (by omega)]
              refine ⟨(hM.2 i i0 i1).1, ?_⟩
              by_cases q : i = s.2.1 - 1
              · rw [if_pos q, q, v_u_at, h24, e6]
              · rw [if_neg q, v_u_ne q]; exact (hM.2 i i0 i1).2⟩ ⟨fun c9 z1 z2 z3 => by rw [tp_pi_ne (by omega)]; exact hF.1 c9 z1 z2 z3, fun j9 z1 z2 => by rw [tp_pi_no (by omega)]; exact hF.2 j9 z1 z2⟩
          · refine g_aload_n rfl rfl ?_
            refine x_getF (r := 216) hG rfl rfl (by decide) (Or.inr ⟨_, rfl⟩) rfl ?_
            refine g_iload_n rfl rfl ?_
            refine x_iald (v := (μ.1 216 k)) rfl rfl (by decide) (by omega) (by omega) rfl ?_
            refine g_iconst rfl ⟨by decide, by decide⟩ ?_
            refine g_icmp_eq (tgt := 152) rfl (by decide) (fun h6 => ?_) (fun h6 => ?_)
            · refine g_iconst rfl ⟨by decide, by decide⟩ ?_
              refine g_istore_n rfl rfl rfl ?_
              refine x_iinc (z := k + 1) rfl rfl (by omega) ⟨by omega, by omega⟩ rfl rfl ?_
              refine g_goto (tgt := 9) rfl (by decide) ?_
              have g225 : ∀ i, ((tp_pi μ 225 ((μ.1 201 62) - 1) ((μ.1 221 k) - (μ.1 224 (μ.1 201 62 - 1))))).1 225 i = if i = μ.1 201 62 - 1 then μ.1 221 k - μ.1 224 (μ.1 201 62 - 1) else μ.1 225 i := fun i => by
                by_cases q : i = μ.1 201 62 - 1
                · rw [if_pos q, q, tp_pi_at]
                · rw [if_neg q, tp_pi_ix q]
              have h24 := (hM.2 (s.2.1 - 1) (by omega) (by omega)).1
              have hix : μ.1 201 62 - 1 = s.2.1 - 1 := by omega
              exact ih (by omega) _ _ (if σ.1 2 k = 3 ∨ σ.1 2 k = 4 then 0 else 1, s.2.1, s.2.2.1, v_u s.2.2.2 (s.2.1 - 1) (σ.1 6 k - s.2.2.1 (s.2.1 - 1))) (by omega) (by rw [v_S_s h0, ← hs, v_n_t (by omega) (by omega)]) (by show _ = (if σ.1 2 k = 3 ∨ σ.1 2 k = 4 then (0 : Int) else 1); rw [if_pos (by omega)]) ⟨hM.1, fun i i0 i1 => by
                have i1 : i < s.2.1 := i1
                show ((tp_pi μ 225 ((μ.1 201 62) - 1) ((μ.1 221 k) - (μ.1 224 (μ.1 201 62 - 1))))).1 224 i = s.2.2.1 i ∧ ((tp_pi μ 225 ((μ.1 201 62) - 1) ((μ.1 221 k) - (μ.1 224 (μ.1 201 62 - 1))))).1 225 i = v_u s.2.2.2 (s.2.1 - 1) (σ.1 6 k - s.2.2.1 (s.2.1 - 1)) i
                rw [g225, hix, tp_pi_ne (by omega)]
                refine ⟨(hM.2 i i0 i1).1, ?_⟩
                by_cases q : i = s.2.1 - 1
                · rw [if_pos q, q, v_u_at, h24, e6]
                · rw [if_neg q, v_u_ne q]; exact (hM.2 i i0 i1).2⟩ ⟨fun c9 z1 z2 z3 => by rw [tp_pi_ne (by omega)]; exact hF.1 c9 z1 z2 z3, fun j9 z1 z2 => by rw [tp_pi_no (by omega)]; exact hF.2 j9 z1 z2⟩
            · refine g_iconst rfl ⟨by decide, by decide⟩ ?_
              refine g_goto (tgt := 153) rfl (by decide) ?_
              refine g_istore_n rfl rfl rfl ?_
              refine x_iinc (z := k + 1) rfl rfl (by omega) ⟨by omega, by omega⟩ rfl rfl ?_
              refine g_goto (tgt := 9) rfl (by decide) ?_
              have g225 : ∀ i, ((tp_pi μ 225 ((μ.1 201 62) - 1) ((μ.1 221 k) - (μ.1 224 (μ.1 201 62 - 1))))).1 225 i = if i = μ.1 201 62 - 1 then μ.1 221 k - μ.1 224 (μ.1 201 62 - 1) else μ.1 225 i := fun i => by
                by_cases q : i = μ.1 201 62 - 1
                · rw [if_pos q, q, tp_pi_at]
                · rw [if_neg q, tp_pi_ix q]
              have h24 := (hM.2 (s.2.1 - 1) (by omega) (by omega)).1
              have hix : μ.1 201 62 - 1 = s.2.1 - 1 := by omega
              exact ih (by omega) _ _ (if σ.1 2 k = 3 ∨ σ.1 2 k = 4 then 0 else 1, s.2.1, s.2.2.1, v_u s.2.2.2 (s.2.1 - 1) (σ.1 6 k - s.2.2.1 (s.2.1 - 1))) (by omega) (by rw [v_S_s h0, ← hs, v_n_t (by omega) (by omega)]) (by show _ = (if σ.1 2 k = 3 ∨ σ.1 2 k = 4 then (0 : Int) else 1); rw [if_neg (by omega)]) ⟨hM.1, fun i i0 i1 => by
                have i1 : i < s.2.1 := i1
                show ((tp_pi μ 225 ((μ.1 201 62) - 1) ((μ.1 221 k) - (μ.1 224 (μ.1 201 62 - 1))))).1 224 i = s.2.2.1 i ∧ ((tp_pi μ 225 ((μ.1 201 62) - 1) ((μ.1 221 k) - (μ.1 224 (μ.1 201 62 - 1))))).1 225 i = v_u s.2.2.2 (s.2.1 - 1) (σ.1 6 k - s.2.2.1 (s.2.1 - 1)) i
                rw [g225, hix, tp_pi_ne (by omega)]
                refine ⟨(hM.2 i i0 i1).1, ?_⟩
                by_cases q : i = s.2.1 - 1
                · rw [if_pos q, q, v_u_at, h24, e6]
                · rw [if_neg q, v_u_ne q]; exact (hM.2 i i0 i1).2⟩ ⟨fun c9 z1 z2 z3 => by rw [tp_pi_ne (by omega)]; exact hF.1 c9 z1 z2 z3, fun j9 z1 z2 => by rw [tp_pi_no (by omega)]; exact hF.2 j9 z1 z2⟩
      · refine g_iload_n rfl rfl ?_
        refine g_if_ne (tgt := 91) rfl (by decide) (fun h7 => ?_) (fun h7 => ?_)
        · refine g_iload_n rfl rfl ?_
          refine g_if_eq (tgt := 124) rfl (by decide) (fun hx => absurd hx (by omega)) (fun _ => ?_)
          refine g_aload_n rfl rfl ?_
          refine x_getF (r := 225) hG rfl rfl (by decide) (Or.inr ⟨_, rfl⟩) rfl ?_
          refine g_aload_n rfl rfl ?_
          refine x_geti (v := (μ.1 201 62)) rfl rfl (by decide) (Or.inl rfl) rfl ?_
          refine g_iconst rfl ⟨by decide, by decide⟩ ?_
          refine x_isub (z := (μ.1 201 62) - 1) rfl (by omega) ⟨by omega, by omega⟩ ?_
          refine g_aload_n rfl rfl ?_
          refine x_getF (r := 221) hG rfl rfl (by decide) (Or.inr ⟨_, rfl⟩) rfl ?_
          refine g_iload_n rfl rfl ?_
          refine x_iald (v := (μ.1 221 k)) rfl rfl (by decide) (by omega) (by omega) rfl ?_
          refine g_aload_n rfl rfl ?_
          refine x_getF (r := 224) hG rfl rfl (by decide) (Or.inr ⟨_, rfl⟩) rfl ?_
          refine g_aload_n rfl rfl ?_
          refine x_geti (v := (μ.1 201 62)) rfl rfl (by decide) (Or.inl rfl) rfl ?_
          refine g_iconst rfl ⟨by decide, by decide⟩ ?_
          refine x_isub (z := (μ.1 201 62) - 1) rfl (by omega) ⟨by omega, by omega⟩ ?_
          refine x_iald (v := (μ.1 224 (μ.1 201 62 - 1))) rfl rfl (by decide) (by omega) (by omega) rfl ?_
          refine x_isub (z := (μ.1 221 k) - (μ.1 224 (μ.1 201 62 - 1))) rfl (by omega) ⟨by omega, by omega⟩ ?_
          refine g_iast rfl rfl (by decide) (by omega) (by omega) ?_
          refine g_iload_n rfl rfl ?_
          refine g_if_eq (tgt := 152) rfl (by decide) (fun hx => absurd hx (by omega)) (fun _ => ?_)
          refine g_aload_n rfl rfl ?_
          refine x_getF (r := 216) hG rfl rfl (by decide) (Or.inr ⟨_, rfl⟩) rfl ?_
          refine g_iload_n rfl rfl ?_
          refine x_iald (v := (μ.1 216 k)) rfl rfl (by decide) (by omega) (by omega) rfl ?_
          refine g_iconst rfl ⟨by decide, by decide⟩ ?_
          refine g_icmp_eq (tgt := 152) rfl (by decide) (fun hx => absurd hx (by omega)) (fun _ => ?_)
          refine g_aload_n rfl rfl ?_
          refine x_getF (r := 216) hG rfl rfl (by decide) (Or.inr ⟨_, rfl⟩) rfl ?_
          refine g_iload_n rfl rfl ?_
          refine x_iald (v := (μ.1 216 k)) rfl rfl (by decide) (by omega) (by omega) rfl ?_
          refine g_iconst rfl ⟨by decide, by decide⟩ ?_
          refine g_icmp_eq (tgt := 152) rfl (by decide) (fun hx => absurd hx (by omega)) (fun _ => ?_)
          refine g_iconst rfl ⟨by decide, by decide⟩ ?_
          refine g_goto (tgt := 153) rfl (by decide) ?_
          refine g_istore_n rfl rfl rfl ?_
          refine x_iinc (z := k + 1) rfl rfl (by omega) ⟨by omega, by omega⟩ rfl rfl ?_
          refine g_goto (tgt := 9) rfl (by decide) ?_
          have g225 : ∀ i, ((tp_pi μ 225 ((μ.1 201 62) - 1) ((μ.1 221 k) - (μ.1 224 (μ.1 201 62 - 1))))).1 225 i = if i = μ.1 201 62 - 1 then μ.1 221 k - μ.1 224 (μ.1 201 62 - 1) else μ.1 225 i := fun i => by
            by_cases q : i = μ.1 201 62 - 1
            · rw [if_pos q, q, tp_pi_at]
            · rw [if_neg q, tp_pi_ix q]
          have h24 := (hM.2 (s.2.1 - 1) (by omega) (by omega)).1
          have hix : μ.1 201 62 - 1 = s.2.1 - 1 := by omega
          exact ih (by omega) _ _ (if σ.1 2 k = 3 ∨ σ.1 2 k = 4 then 0 else 1, s.2.1, s.2.2.1, v_u s.2.2.2 (s.2.1 - 1) (σ.1 6 k - s.2.2.1 (s.2.1 - 1))) (by omega) (by rw [v_S_s h0, ← hs, v_n_t (by omega) (by omega)]) (by show _ = (if σ.1 2 k = 3 ∨ σ.1 2 k = 4 then (0 : Int) else 1); rw [if_neg (by omega)]) ⟨hM.1, fun i i0 i1 => by
            have i1 : i < s.2.1 := i1
            show ((tp_pi μ 225 ((μ.1 201 62) - 1) ((μ.1 221 k) - (μ.1 224 (μ.1 201 62 - 1))))).1 224 i = s.2.2.1 i ∧ ((tp_pi μ 225 ((μ.1 201 62) - 1) ((μ.1 221 k) - (μ.1 224 (μ.1 201 62 - 1))))).1 225 i = v_u s.2.2.2 (s.2.1 - 1) (σ.1 6 k - s.2.2.1 (s.2.1 - 1)) i
            rw [g225, hix, tp_pi_ne (by omega)]
            refine ⟨(hM.2 i i0 i1).1, ?_⟩
            by_cases q : i = s.2.1 - 1
            · rw [if_pos q, q, v_u_at, h24, e6]
            · rw [if_neg q, v_u_ne q]; exact (hM.2 i i0 i1).2⟩ ⟨fun c9 z1 z2 z3 => by rw [tp_pi_ne (by omega)]; exact hF.1 c9 z1 z2 z3, fun j9 z1 z2 => by rw [tp_pi_no (by omega)]; exact hF.2 j9 z1 z2⟩
        · refine g_aload_n rfl rfl ?_
          refine x_getF (r := 224) hG rfl rfl (by decide) (Or.inr ⟨_, rfl⟩) rfl ?_
          refine g_aload_n rfl rfl ?_
          refine x_geti (v := (μ.1 201 62)) rfl rfl (by decide) (Or.inl rfl) rfl ?_
          refine g_aload_n rfl rfl ?_
          refine x_getF (r := 220) hG rfl rfl (by decide) (Or.inr ⟨_, rfl⟩) rfl ?_
          refine g_iload_n rfl rfl ?_
          refine x_iald (v := (μ.1 220 k)) rfl rfl (by decide) (by omega) (by omega) rfl ?_
          refine g_iast rfl rfl (by decide) (by omega) (by omega) ?_
          refine g_aload_n rfl rfl ?_
          refine x_getF (r := 225) hG rfl rfl (by decide) (Or.inr ⟨_, rfl⟩) rfl ?_
          refine g_aload_n rfl rfl ?_
          refine x_geti (v := (μ.1 201 62)) rfl rfl (by decide) (Or.inl rfl) rfl ?_
          refine g_iconst rfl ⟨by decide, by decide⟩ ?_
          refine g_iast rfl rfl (by decide) (by omega) (by omega) ?_
          refine g_aload_n rfl rfl ?_
          refine g_dupr rfl ?_
          refine x_geti (v := (μ.1 201 62)) rfl rfl (by decide) (Or.inl rfl) rfl ?_
          refine g_iconst rfl ⟨by decide, by decide⟩ ?_
          refine x_iadd (z := (μ.1 201 62) + 1) rfl (by omega) ⟨by omega, by omega⟩ ?_
          refine g_puti rfl rfl (by decide) rfl rfl ?_
          refine g_iconst rfl ⟨by decide, by decide⟩ ?_
          refine g_istore_n rfl rfl rfl ?_
          refine g_iload_n rfl rfl ?_
          refine g_if_eq (tgt := 124) rfl (by decide) (fun hx => absurd hx (by omega)) (fun _ => ?_)
          refine g_aload_n rfl rfl ?_
          refine x_getF (r := 225) hG rfl rfl (by decide) (Or.inr ⟨_, rfl⟩) rfl ?_
          refine g_aload_n rfl rfl ?_
          refine x_geti (v := (μ.1 201 62) + 1) rfl rfl (by decide) (Or.inl rfl) rfl ?_
          refine g_iconst rfl ⟨by decide, by decide⟩ ?_
          refine x_isub (z := (μ.1 201 62)) rfl (by omega) ⟨by omega, by omega⟩ ?_
          refine g_aload_n rfl rfl ?_
          refine x_getF (r := 221) hG rfl rfl (by decide) (Or.inr ⟨_, rfl⟩) rfl ?_
          refine g_iload_n rfl rfl ?_
          refine x_iald (v := (μ.1 221 k)) rfl rfl (by decide) (by omega) (by omega) rfl ?_
          refine g_aload_n rfl rfl ?_
          refine x_getF (r := 224) hG rfl rfl (by decide) (Or.inr ⟨_, rfl⟩) rfl ?_
          refine g_aload_n rfl rfl ?_
          refine x_geti (v := (μ.1 201 62) + 1) rfl rfl (by decide) (Or.inl rfl) rfl ?_
          refine g_iconst rfl ⟨by decide, by decide⟩ ?_
          refine x_isub (z := (μ.1 201 62)) rfl (by omega) ⟨by omega, by omega⟩ ?_
          refine x_iald (v := (μ.1 220 k)) rfl rfl (by decide) (by omega) (by omega) (by simp [tp_pi1, tp_pr1]) ?_
          refine x_isub (z := (μ.1 221 k) - (μ.1 220 k)) rfl (by omega) ⟨by omega, by omega⟩ ?_
          refine g_iast rfl rfl (by decide) (by omega) (by omega) ?_
          refine g_iload_n rfl rfl ?_
          refine g_if_eq (tgt := 152) rfl (by decide) (fun hx => absurd hx (by omega)) (fun _ => ?_)
          refine g_aload_n rfl rfl ?_
          refine x_getF (r := 216) hG rfl rfl (by decide) (Or.inr ⟨_, rfl⟩) rfl ?_
          refine g_iload_n rfl rfl ?_
          refine x_iald (v := (μ.1 216 k)) rfl rfl (by decide) (by omega) (by omega) rfl ?_
          refine g_iconst rfl ⟨by decide, by decide⟩ ?_
          refine g_icmp_eq (tgt := 152) rfl (by decide) (fun hx => absurd hx (by omega)) (fun _ => ?_)
          refine g_aload_n rfl rfl ?_
          refine x_getF (r := 216) hG rfl rfl (by decide) (Or.inr ⟨_, rfl⟩) rfl ?_
          refine g_iload_n rfl rfl ?_
          refine x_iald (v := (μ.1 216 k)) rfl rfl (by decide) (by omega) (by omega) rfl ?_
          refine g_iconst rfl ⟨by decide, by decide⟩ ?_
          refine g_icmp_eq (tgt := 152) rfl (by decide) (fun hx => absurd hx (by omega)) (fun _ => ?_)
          refine g_iconst rfl ⟨by decide, by decide⟩ ?_
          refine g_goto (tgt := 153) rfl (by decide) ?_
          refine g_istore_n rfl rfl rfl ?_
          refine x_iinc (z := k + 1) rfl rfl (by omega) ⟨by omega, by omega⟩ rfl rfl ?_
          refine g_goto (tgt := 9) rfl (by decide) ?_
          have g224 : ∀ i, ((tp_pi (tp_pi (tp_pi (tp_pi μ 224 (μ.1 201 62) (μ.1 220 k)) 225 (μ.1 201 62) 0) 201 62 ((μ.1 201 62) + 1)) 225 (μ.1 201 62) ((μ.1 221 k) - (μ.1 220 k)))).1 224 i = if i = μ.1 201 62 then μ.1 220 k else μ.1 224 i := fun i => by
            rw [tp_pi_ne (by omega), tp_pi_ne (by omega), tp_pi_ne (by omega)]
            by_cases q : i = μ.1 201 62
            · rw [if_pos q, q, tp_pi_at]
            · rw [if_neg q, tp_pi_ix q]
          have g225 : ∀ i, ((tp_pi (tp_pi (tp_pi (tp_pi μ 224 (μ.1 201 62) (μ.1 220 k)) 225 (μ.1 201 62) 0) 201 62 ((μ.1 201 62) + 1)) 225 (μ.1 201 62) ((μ.1 221 k) - (μ.1 220 k)))).1 225 i = if i = μ.1 201 62 then μ.1 221 k - μ.1 220 k else μ.1 225 i := fun i => by
            by_cases q : i = μ.1 201 62
            · rw [if_pos q, q, tp_pi_at]
            · rw [if_neg q, tp_pi_ix q, tp_pi_ne (by omega), tp_pi_ix q, tp_pi_ne (by omega)]
          have c6 := (hHk.2.2.2.2.1 (by omega)).2.2.1
          exact ih (by omega) _ _ (1, s.2.1 + 1, v_u s.2.2.1 s.2.1 (σ.1 5 k), v_u s.2.2.2 s.2.1 0) (by omega) (by rw [v_S_s h0, ← hs, v_n_b (by omega) (by omega)]) (by show _ = (1 : Int); first | rfl | omega) ⟨by show μ.1 201 62 + 1 = s.2.1 + 1; omega, fun i i0 i1 => by
            have i1 : i < s.2.1 + 1 := i1
            show ((tp_pi (tp_pi (tp_pi (tp_pi μ 224 (μ.1 201 62) (μ.1 220 k)) 225 (μ.1 201 62) 0) 201 62 ((μ.1 201 62) + 1)) 225 (μ.1 201 62) ((μ.1 221 k) - (μ.1 220 k)))).1 224 i = v_u s.2.2.1 s.2.1 (σ.1 5 k) i ∧ ((tp_pi (tp_pi (tp_pi (tp_pi μ 224 (μ.1 201 62) (μ.1 220 k)) 225 (μ.1 201 62) 0) 201 62 ((μ.1 201 62) + 1)) 225 (μ.1 201 62) ((μ.1 221 k) - (μ.1 220 k)))).1 225 i = v_u s.2.2.2 s.2.1 0 i
            rw [g224, g225]
            by_cases q : i = s.2.1
            · rw [if_pos (by omega), if_pos (by omega), q, v_u_at, v_u_at]; exact ⟨by omega, by omega⟩
            · rw [if_neg (by omega), if_neg (by omega), v_u_ne q, v_u_ne q]; exact hM.2 i i0 (by omega)⟩ ⟨fun c9 z1 z2 z3 => by rw [tp_pi_ne (by omega), tp_pi_ne (by omega), tp_pi_ne (by omega), tp_pi_ne (by omega)]; exact hF.1 c9 z1 z2 z3, fun j9 z1 z2 => by rw [tp_pi_no (by omega), tp_pi_no (by omega), tp_pi_no (by omega), tp_pi_no (by omega)]; exact hF.2 j9 z1 z2⟩
    · refine g_iconst rfl ⟨by decide, by decide⟩ ?_
      refine g_istore_n rfl rfl rfl ?_
      refine g_goto (tgt := 154) rfl (by decide) ?_
      refine x_iinc (z := k + 1) rfl rfl (by omega) ⟨by omega, by omega⟩ rfl rfl ?_
      refine g_goto (tgt := 9) rfl (by decide) ?_
      first
        | exact ih (by omega) _ _ (0, s.2) (by omega) (by rw [v_S_s h0, ← hs, v_n_l (by omega)]) (by first | rfl | omega) hM hF
        | exact ih (by omega) _ _ s (by omega) (by rw [v_S_s h0, ← hs, v_n_o (by omega) (by omega) (by omega)]) (by omega) hM hF
