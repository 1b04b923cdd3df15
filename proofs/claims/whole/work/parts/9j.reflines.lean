theorem told_u {μ : tp_M} {D : Int → Int} {a v : Int} (h : ∀ j, 0 ≤ j → j < 129 → μ.1 211 j = D j) : ∀ j, 0 ≤ j → j < 129 → (tp_pi μ 211 a v).1 211 j = v_u D a v j := fun j j0 j1 => by
  by_cases q : j = a
  · rw [q, tp_pi_at, v_u_at]
  · rw [tp_pi_ix q, v_u_ne q]; exact h j j0 j1
theorem told_n {μ : tp_M} {D : Int → Int} {a v : Int} (h : ∀ j, 0 ≤ j → j < 129 → μ.1 211 j = D j) : ∀ j, 0 ≤ j → j < 129 → (tp_pi μ 201 a v).1 211 j = D j := fun j j0 j1 => by
  rw [tp_pi_ne (by omega)]; exact h j j0 j1
def m_Rel (so : Int) (st : t_S) (T : Int → Int) (len : Int) (μ : tp_M) : Prop := ∃ lo, (so = 2 → lo = min 12 st.2.2.1) ∧ ms T len st.1 st.2.1 st.2.2.2.1 st.2.2.2.2.1 lo st.2.2.2.2.2 μ
def l_P (so : Int) (T : Int → Int) (len i : Int) (st : t_S) (μ0 : tp_M) (r : Option tp_V) (μ' : tp_M) : Prop := mF μ0 μ' ∧ ((r = some (tI 0) ∧ ∃ x, t_ln so T len i st = ((0, x), st) ∧ μ'.1 201 16 = x) ∨ (r = some (tI 1) ∧ ∃ j st', (i ≤ j ∧ j ≤ len) ∧ rtk T len j μ' ∧ m_Rel so st' T len μ' ∧ (t_k T len j ≠ 3 → t_ln so T len i st = ((0, t_s T len j), st)) ∧ (t_k T len j = 3 → t_ln so T len i st = ((1, t_e T len j), st'))))
theorem t_wf_V {V k : Int} : ∀ (m : Nat) (w : Int), 0 ≤ w → t_wf V m w = k → (k ≠ -1 → V = t_wc k) ∧ (k = -1 → ∀ j, w ≤ j → j < w + m → V ≠ t_wc j) := by
  intro m
  induction m with
  | zero => intro w h e; exact ⟨fun z => absurd (show (-1 : Int) = k from e).symm z, fun _ j j0 j1 => by omega⟩
  | succ m ih =>
    intro w h e
    by_cases q : V = t_wc w
    · have e2 : t_wf V (m + 1) w = w := if_pos q
      have e3 : w = k := by rw [← e2]; exact e
      exact ⟨fun _ => by rw [← e3]; exact q, fun z => by omega⟩
    · have e2 : t_wf V (m + 1) w = t_wf V m (w + 1) := if_neg q
      have i := ih (w + 1) (by omega) (by rw [← e2]; exact e)
      refine ⟨i.1, fun z j j0 j1 => ?_⟩
      rcases (show j = w ∨ w + 1 ≤ j by omega) with u | u
      · rw [u]; exact q
      · exact i.2 z j u (by omega)
/-- the word that a line begins with, as a number -/
theorem t_wx_V {so : Int} {T : Int → Int} {len i : Int} (hs : 0 ≤ so ∧ so ≤ 3) (h0 : 0 ≤ i) (h1 : i ≤ len) : (t_wx so T len i ≠ -1 → t_wd T len i = t_wc (t_wx so T len i)) ∧ (t_wx so T len i = -1 → (so = 0 → ∀ j, 0 ≤ j → j < 16 → t_wd T len i ≠ t_wc j) ∧ (so = 1 → ∀ j, 16 ≤ j → j < 19 → t_wd T len i ≠ t_wc j) ∧ (so = 2 → t_wd T len i ≠ t_wc 19) ∧ (so = 3 → t_wd T len i ≠ t_wc 20)) := by
  by_cases q : t_k T len i = 1
  · have e := (t_k_1 h0 h1 q).2.2
    have ex : t_wx so T len i = t_wi so (t_wd T len i) := by unfold t_wx; rw [if_pos q, e]
    rw [ex]
    generalize t_wd T len i = V
    rcases (show so = 0 ∨ so = 1 ∨ so = 2 ∨ so = 3 by omega) with u | u | u | u <;> subst u
    · have a := t_wf_V (V := V) (k := t_wi 0 V) 16 0 (by decide) rfl
      exact ⟨a.1, fun z => ⟨fun _ j j0 j1 => a.2 z j j0 (by omega), fun y => absurd y (by decide), fun y => absurd y (by decide), fun y => absurd y (by decide)⟩⟩
    · have a := t_wf_V (V := V) (k := t_wi 1 V) 3 16 (by decide) rfl
      exact ⟨a.1, fun z => ⟨fun y => absurd y (by decide), fun _ j j0 j1 => a.2 z j j0 (by omega), fun y => absurd y (by decide), fun y => absurd y (by decide)⟩⟩
    · have a := t_wf_V (V := V) (k := t_wi 2 V) 1 19 (by decide) rfl
      exact ⟨a.1, fun z => ⟨fun y => absurd y (by decide), fun y => absurd y (by decide), fun _ => a.2 z 19 (by omega) (by omega), fun y => absurd y (by decide)⟩⟩
    · have a := t_wf_V (V := V) (k := t_wi 3 V) 1 20 (by decide) rfl
      exact ⟨a.1, fun z => ⟨fun y => absurd y (by decide), fun y => absurd y (by decide), fun y => absurd y (by decide), fun _ => a.2 z 20 (by omega) (by omega)⟩⟩
  · have ex : t_wx so T len i = -1 := by unfold t_wx; rw [if_neg q]
    have e : t_wd T len i = 0 := by unfold t_wd t_wds; rw [if_neg (fun z => q z.1)]
    rw [ex, e]
    exact ⟨fun z => absurd rfl z, fun _ => ⟨fun _ j j0 j1 => by have := t_wc_b (w := j) (by omega); omega, fun _ j j0 j1 => by have := t_wc_b (w := j) (by omega); omega, fun _ => by have := t_wc_b (w := 19) (by omega); omega, fun _ => by have := t_wc_b (w := 20) (by omega); omega⟩⟩
set_option maxHeartbeats 4000000 in
set_option maxRecDepth 100000 in
theorem s_li0 {G : tp_G} {μ : tp_M} (hG : tp_Gf G = true) {T : Int → Int} {len i f p it m ft lo : Int} {D : Int → Int} (hT : ∀ j, 0 ≤ T j ∧ T j ≤ 255) (h0 : 0 ≤ i) (h1 : i ≤ len) (h : ms T len f p m ft lo D μ) (ht : rtk T len i μ) (hI : t_I 0 i (f, p, it, m, ft, D)) (hlo : (0 : Int) = 2 → lo = min 12 it) (hwx : t_wx 0 T len i = 0) : tp_k G mX12_codeLine [tR (some 201), tL (482854660462), tI (t_s T len i)] μ (fun r μ' => l_P 0 T len i (f, p, it, m, ft, D) μ r μ') := by
  refine tp_ok_of mX12_codeLine_ok rfl (Nat.le_refl _) ?_
  obtain ⟨i1, he1⟩ : ∃ x, t_e T len i = x := ⟨_, rfl⟩
  obtain ⟨i2, he2⟩ : ∃ x, t_e T len i1 = x := ⟨_, rfl⟩
  obtain ⟨i3, he3⟩ : ∃ x, t_e T len i2 = x := ⟨_, rfl⟩
  have hkk : t_k T len i = 1 := by
    by_cases q : t_k T len i = 1
    · exact q
    · unfold t_wx at hwx; rw [if_neg q] at hwx; omega
  have hb0 := t_s_B (T := T) h1
  have hb1 := t_e_B (T := T) h1
  have hb2 := t_e_B (T := T) (len := len) (i := i1) (by omega)
  have hbs1 := t_s_B (T := T) (len := len) (i := i1) (by omega)
  have hb3 := t_e_B (T := T) (len := len) (i := i2) (by omega)
  have hbs2 := t_s_B (T := T) (len := len) (i := i2) (by omega)
  have hbs3 := t_s_B (T := T) (len := len) (i := i3) (by omega)
  have hpI : f ≠ 0 → 0 ≤ p ∧ p < i := hI.2.2.2.2.2.2.1
  have hitI : 0 ≤ it ∧ it ≤ i := hI.2.1
  have hlen := h.1.2.1
  have hftI : -1 ≤ ft ∧ ft ≤ 39 := hI.2.2.2.2.2.2.2.2.1
  have hD0 : D 0 = min 40 it := hI.2.2.1 (by decide)
  refine g_aload_n rfl rfl ?_
  refine g_lload_n rfl rfl ?_
  refine g_iV (as := [tL (482854660462)]) mX12_kindBy_ok rfl rfl rfl rfl rfl rfl (by decide) rfl rfl rfl ?_
  refine g_lload_n rfl rfl ?_
  refine g_ldc2 (z := 482854660462) rfl rfl ⟨by decide, by decide⟩ ?_
  refine x_lcmp (v := 0) rfl (by decide) ?_
  refine g_if_ne (tgt := 12) rfl (by decide) (fun hx => absurd hx (by omega)) (fun _ => ?_)
  refine g_iconst rfl ⟨by decide, by decide⟩ ?_
  refine g_goto (tgt := 86) rfl (by decide) ?_
  refine x_ireturn rfl rfl ?_
  intro _
  refine g_istore rfl rfl rfl ?_
  refine g_lload_n rfl rfl ?_
  refine g_iS (as := [tL (482854660462)]) mX12_partBy_ok rfl rfl rfl rfl rfl rfl rfl ?_
  refine g_lload_n rfl rfl ?_
  refine g_ldc2 (z := 1651078259) rfl rfl ⟨by decide, by decide⟩ ?_
  refine x_lcmp (v := 1) rfl (by decide) ?_
  refine g_if_ne (tgt := 12) rfl (by decide) (fun _ => ?_) (fun hx => absurd hx (by omega))
  refine g_lload_n rfl rfl ?_
  refine g_ldc2 (z := 1684366704) rfl rfl ⟨by decide, by decide⟩ ?_
  refine x_lcmp (v := 1) rfl (by decide) ?_
  refine g_if_ne (tgt := 24) rfl (by decide) (fun _ => ?_) (fun hx => absurd hx (by omega))
  refine g_lload_n rfl rfl ?_
  refine g_ldc2 (z := 1937337955) rfl rfl ⟨by decide, by decide⟩ ?_
  refine x_lcmp (v := 1) rfl (by decide) ?_
  refine g_if_ne (tgt := 36) rfl (by decide) (fun _ => ?_) (fun hx => absurd hx (by omega))
  refine g_lload_n rfl rfl ?_
  refine g_ldc2 (z := 1718775661) rfl rfl ⟨by decide, by decide⟩ ?_
  refine x_lcmp (v := 1) rfl (by decide) ?_
  refine g_if_ne (tgt := 48) rfl (by decide) (fun _ => ?_) (fun hx => absurd hx (by omega))
  refine g_lload_n rfl rfl ?_
  refine g_ldc2 (z := 29807) rfl rfl ⟨by decide, by decide⟩ ?_
  refine x_lcmp (v := 1) rfl (by decide) ?_
  refine g_if_ne (tgt := 60) rfl (by decide) (fun _ => ?_) (fun hx => absurd hx (by omega))
  refine g_lload_n rfl rfl ?_
  refine g_ldc2 (z := 1869507705) rfl rfl ⟨by decide, by decide⟩ ?_
  refine x_lcmp (v := 1) rfl (by decide) ?_
  refine g_if_ne (tgt := 73) rfl (by decide) (fun _ => ?_) (fun hx => absurd hx (by omega))
  refine g_lload_n rfl rfl ?_
  refine g_ldc2 (z := 1919905645) rfl rfl ⟨by decide, by decide⟩ ?_
  refine x_lcmp (v := 1) rfl (by decide) ?_
  refine g_if_ne (tgt := 86) rfl (by decide) (fun _ => ?_) (fun hx => absurd hx (by omega))
  refine g_lload_n rfl rfl ?_
  refine g_ldc2 (z := 1918989413) rfl rfl ⟨by decide, by decide⟩ ?_
  refine x_lcmp (v := 1) rfl (by decide) ?_
  refine g_if_ne (tgt := 99) rfl (by decide) (fun _ => ?_) (fun hx => absurd hx (by omega))
  refine g_iconst rfl ⟨by decide, by decide⟩ ?_
  refine x_ireturn rfl rfl ?_
  intro _
  refine g_istore rfl rfl rfl ?_
  refine g_iload rfl rfl ?_
  refine g_iconst rfl ⟨by decide, by decide⟩ ?_
  refine g_icmp_ne (tgt := 38) rfl (by decide) (fun _ => ?_) (fun hx => absurd hx (by omega))
  refine g_iload rfl rfl ?_
  refine g_iconst rfl ⟨by decide, by decide⟩ ?_
  refine g_icmp_eq (tgt := 61) rfl (by decide) (fun hx => absurd hx (by omega)) (fun _ => ?_)
  refine g_aload_n rfl rfl ?_
  refine x_getF (r := 211) hG rfl rfl (by decide) (Or.inr ⟨_, rfl⟩) rfl ?_
  refine g_iconst rfl ⟨by decide, by decide⟩ ?_
  refine x_iald (v := (D 0)) rfl rfl (by decide) (by decide) (by decide) (h.2.2.2.2.2 0 (by decide) (by decide)) ?_
  refine g_bipush rfl ⟨by decide, by decide⟩ (by decide) ?_
  refine g_icmp_ne (tgt := 61) rfl (by decide) (fun h1 => ?_) (fun h1 => ?_)
  · refine g_aload_n rfl rfl ?_
    refine g_cV (as := []) (s_tok9 hG hT (i := i1) ⟨rd_C_m mF_rf h.1, h.2.1, h.2.2.1, h.2.2.2.1, h.2.2.2.2.1, h.2.2.2.2.2⟩ (by omega) (by omega) (ht.1.trans he1)) rfl rfl mX12_token_ok rfl rfl rfl (by decide) rfl rfl rfl ?_
    rintro _ w1 ⟨rfl, htw1, hmw1, hrdw1, hFw1⟩ _
    have heqw1 : t_cnt 0 0 (t_s T len i) (f, p, it, m, ft, D) = (f, p, it + 1, m, ft, D) := t_cnt_b (by decide) (by show ¬ (f = 0 ∧ (40 : Int) ≤ it); omega)
    have hppw1 : f ≠ 0 → p ≤ t_s T len i := fun z => by omega
    have hkbw1 := t_k_b T len i1
    refine g_iload rfl rfl ?_
    refine g_iconst rfl ⟨by decide, by decide⟩ ?_
    refine g_icmp_eq (tgt := 103) rfl (by decide) (fun _ => ?_) (fun hx => absurd hx (by omega))
    refine g_lload_n rfl rfl ?_
    refine g_ldc2 (z := 1836016741) rfl rfl ⟨by decide, by decide⟩ ?_
    refine x_lcmp (v := 1) rfl (by decide) ?_
    refine g_if_ne (tgt := 130) rfl (by decide) (fun _ => ?_) (fun hx => absurd hx (by omega))
    refine g_aload_n rfl rfl ?_
    refine g_iconst rfl ⟨by decide, by decide⟩ ?_
    refine g_puti rfl rfl (by decide) rfl rfl ?_
    refine g_iload rfl rfl ?_
    refine g_iconst rfl ⟨by decide, by decide⟩ ?_
    refine g_iconst rfl ⟨by decide, by decide⟩ ?_
    refine g_iS (as := [tI 0, tI 1, tI 3]) mX12_in_ok rfl rfl rfl rfl rfl rfl rfl ?_
    refine g_iload_n rfl rfl ?_
    refine g_iload_n rfl rfl ?_
    refine g_icmp_lt (tgt := 14) rfl (by decide) (fun _ => ?_) (fun hx => absurd hx (by omega))
    refine g_iconst rfl ⟨by decide, by decide⟩ ?_
    refine x_zreturn rfl rfl (Or.inl rfl) ?_
    intro _
    refine g_if_eq (tgt := 172) rfl (by decide) (fun _ => ?_) (fun hx => absurd hx (by omega))
    refine g_aload_n rfl rfl ?_
    refine x_getF (r := 211) hG rfl rfl (by decide) (Or.inr ⟨_, rfl⟩) rfl ?_
    refine g_iconst rfl ⟨by decide, by decide⟩ ?_
    refine x_iald (v := (D 0)) rfl rfl (by decide) (by decide) (by decide) (by rw [tp_pi_ne (by omega)]; exact (hmw1.2.2.2.2.2 0 (by decide) (by decide))) ?_
    refine g_istore rfl rfl rfl ?_
    refine g_iload rfl rfl ?_
    refine g_bipush rfl ⟨by decide, by decide⟩ (by decide) ?_
    refine g_icmp_ge (tgt := 237) rfl (by decide) (fun hx => absurd hx (by omega)) (fun _ => ?_)
    refine g_aload_n rfl rfl ?_
    refine x_getF (r := 211) hG rfl rfl (by decide) (Or.inr ⟨_, rfl⟩) rfl ?_
    refine g_bipush rfl ⟨by decide, by decide⟩ (by decide) ?_
    refine g_iload rfl rfl ?_
    refine x_iadd (z := (D 0) + 9) rfl (by omega) ⟨by omega, by omega⟩ ?_
    refine g_iload rfl rfl ?_
    refine g_iast rfl rfl (by decide) (by omega) (by omega) ?_
    refine g_aload_n rfl rfl ?_
    refine x_getF (r := 211) hG rfl rfl (by decide) (Or.inr ⟨_, rfl⟩) rfl ?_
    refine g_bipush rfl ⟨by decide, by decide⟩ (by decide) ?_
    refine g_iload rfl rfl ?_
    refine x_iadd (z := (D 0) + 49) rfl (by omega) ⟨by omega, by omega⟩ ?_
    refine g_aload_n rfl rfl ?_
    refine x_geti (v := (-1)) rfl rfl (by decide) (Or.inl rfl) rfl ?_
    refine g_iast rfl rfl (by decide) (by omega) (by omega) ?_
    refine g_aload_n rfl rfl ?_
    refine x_getF (r := 211) hG rfl rfl (by decide) (Or.inr ⟨_, rfl⟩) rfl ?_
    refine g_bipush rfl ⟨by decide, by decide⟩ (by decide) ?_
    refine g_iload rfl rfl ?_
    refine x_iadd (z := (D 0) + 89) rfl (by omega) ⟨by omega, by omega⟩ ?_
    refine g_aload_n rfl rfl ?_
    refine x_geti (v := m) rfl rfl (by decide) (Or.inl rfl) hmw1.2.2.1 ?_
    refine g_iast rfl rfl (by decide) (by omega) (by omega) ?_
    refine g_aload_n rfl rfl ?_
    refine x_getF (r := 211) hG rfl rfl (by decide) (Or.inr ⟨_, rfl⟩) rfl ?_
    refine g_iconst rfl ⟨by decide, by decide⟩ ?_
    refine g_dup2 rfl ?_
    refine x_iald (v := (D 0)) rfl rfl (by decide) (by decide) (by decide) (by rw [tp_pi_ix (by omega), tp_pi_ix (by omega), tp_pi_ix (by omega), tp_pi_ne (by omega)]; exact (hmw1.2.2.2.2.2 0 (by decide) (by decide))) ?_
    refine g_iconst rfl ⟨by decide, by decide⟩ ?_
    refine x_iadd (z := (D 0) + 1) rfl (by omega) ⟨by omega, by omega⟩ ?_
    refine g_iast rfl rfl (by decide) (by decide) (by decide) ?_
    refine g_iconst rfl ⟨by decide, by decide⟩ ?_
    refine x_zreturn rfl rfl (Or.inr rfl) ?_
    rw [l_P]
    refine ⟨(mF_pt (mF_pt (mF_pt (mF_pt (mF_pi (by decide) (mF_tr (mF_tr mF_rf mF_rf) hFw1)))))), Or.inr ⟨rfl, i1, t_tk 0 0 0 (f, p, it + 1, m, ft, D), ⟨by omega, by omega⟩, ⟨htw1.1, htw1.2.1, htw1.2.2.1, htw1.2.2.2.1, htw1.2.2.2.2⟩, ⟨lo, fun z => absurd z (by decide), rd_C_m (mF_pt (mF_pt (mF_pt (mF_pt (mF_pi (by decide) mF_rf))))) hmw1.1, hmw1.2.1, hmw1.2.2.1, hmw1.2.2.2.1, hmw1.2.2.2.2.1, by show ∀ j, 0 ≤ j → j < 129 → _ = t_D 0 (t_rw 0 0) 0 m D j; rw [t_D_a (by decide) (by omega), Int.add_comm 9 (D 0), Int.add_comm 49 (D 0), Int.add_comm 89 (D 0)]; exact (told_u (told_u (told_u (told_u (told_n hmw1.2.2.2.2.2)))))⟩, fun z => ?_, fun z => ?_⟩⟩
    · rw [t_ln_w hwx (by decide), t_l0_0n rfl he1 z]
    · rw [t_ln_w hwx (by decide), t_l0_0y rfl he1 z, heqw1]
  · refine g_aload_n rfl rfl ?_
    refine g_iconst rfl ⟨by decide, by decide⟩ ?_
    refine g_iload_n rfl rfl ?_
    refine g_cV (as := [tI 3, tI (t_s T len i)]) (s_aF9 hG h ht (by omega)) rfl rfl mX12_addsFault_ok rfl rfl rfl (by decide) rfl rfl rfl ?_
    rintro _ w2 ⟨rfl, fw2, pw2, hzaw2, hzbw2, hmw2, htw2, hrdw2, hFw2⟩ _
    have heqw2 : t_cnt 0 0 (t_s T len i) (f, p, it, m, ft, D) = (fw2, pw2, it + 1, m, ft, D) := by
      by_cases u : f = 0
      · rw [t_cnt_a (by decide) ⟨u, by show (40 : Int) ≤ it; omega⟩, (hzaw2 u).1, (hzaw2 u).2]
      · rw [t_cnt_b (by decide) (fun z => u z.1), (hzbw2 u).1, (hzbw2 u).2]
    have hppw2 : fw2 ≠ 0 → pw2 ≤ t_s T len i := fun z => by
      by_cases u : f = 0
      · rw [(hzaw2 u).2]; omega
      · rw [(hzbw2 u).2]; omega
    refine g_aload_n rfl rfl ?_
    refine g_cV (as := []) (s_tok9 hG hT (i := i1) ⟨rd_C_m mF_rf hmw2.1, hmw2.2.1, hmw2.2.2.1, hmw2.2.2.2.1, hmw2.2.2.2.2.1, hmw2.2.2.2.2.2⟩ (by omega) (by omega) (htw2.1.trans he1)) rfl rfl mX12_token_ok rfl rfl rfl (by decide) rfl rfl rfl ?_
    rintro _ w3 ⟨rfl, htw3, hmw3, hrdw3, hFw3⟩ _
    have hkbw3 := t_k_b T len i1
    refine g_iload rfl rfl ?_
    refine g_iconst rfl ⟨by decide, by decide⟩ ?_
    refine g_icmp_eq (tgt := 103) rfl (by decide) (fun _ => ?_) (fun hx => absurd hx (by omega))
    refine g_lload_n rfl rfl ?_
    refine g_ldc2 (z := 1836016741) rfl rfl ⟨by decide, by decide⟩ ?_
    refine x_lcmp (v := 1) rfl (by decide) ?_
    refine g_if_ne (tgt := 130) rfl (by decide) (fun _ => ?_) (fun hx => absurd hx (by omega))
    refine g_aload_n rfl rfl ?_
    refine g_iconst rfl ⟨by decide, by decide⟩ ?_
    refine g_puti rfl rfl (by decide) rfl rfl ?_
    refine g_iload rfl rfl ?_
    refine g_iconst rfl ⟨by decide, by decide⟩ ?_
    refine g_iconst rfl ⟨by decide, by decide⟩ ?_
    refine g_iS (as := [tI 0, tI 1, tI 3]) mX12_in_ok rfl rfl rfl rfl rfl rfl rfl ?_
    refine g_iload_n rfl rfl ?_
    refine g_iload_n rfl rfl ?_
    refine g_icmp_lt (tgt := 14) rfl (by decide) (fun _ => ?_) (fun hx => absurd hx (by omega))
    refine g_iconst rfl ⟨by decide, by decide⟩ ?_
    refine x_zreturn rfl rfl (Or.inl rfl) ?_
    intro _
    refine g_if_eq (tgt := 172) rfl (by decide) (fun _ => ?_) (fun hx => absurd hx (by omega))
    refine g_aload_n rfl rfl ?_
    refine x_getF (r := 211) hG rfl rfl (by decide) (Or.inr ⟨_, rfl⟩) rfl ?_
    refine g_iconst rfl ⟨by decide, by decide⟩ ?_
    refine x_iald (v := (D 0)) rfl rfl (by decide) (by decide) (by decide) (by rw [tp_pi_ne (by omega)]; exact (hmw3.2.2.2.2.2 0 (by decide) (by decide))) ?_
    refine g_istore rfl rfl rfl ?_
    refine g_iload rfl rfl ?_
    refine g_bipush rfl ⟨by decide, by decide⟩ (by decide) ?_
    refine g_icmp_ge (tgt := 237) rfl (by decide) (fun _ => ?_) (fun hx => absurd hx (by omega))
    refine g_iconst rfl ⟨by decide, by decide⟩ ?_
    refine x_zreturn rfl rfl (Or.inr rfl) ?_
    rw [l_P]
    refine ⟨(mF_pi (by decide) (mF_tr (mF_tr (mF_tr mF_rf hFw2) mF_rf) hFw3)), Or.inr ⟨rfl, i1, t_tk 0 0 0 (fw2, pw2, it + 1, m, ft, D), ⟨by omega, by omega⟩, ⟨htw3.1, htw3.2.1, htw3.2.2.1, htw3.2.2.2.1, htw3.2.2.2.2⟩, ⟨lo, fun z => absurd z (by decide), rd_C_m (mF_pi (by decide) mF_rf) hmw3.1, hmw3.2.1, hmw3.2.2.1, hmw3.2.2.2.1, hmw3.2.2.2.2.1, by show ∀ j, 0 ≤ j → j < 129 → _ = t_D 0 (t_rw 0 0) 0 m D j; rw [show t_D 0 (t_rw 0 0) 0 m D = D by unfold t_D; rw [if_pos (by decide), if_neg (by omega)]]; exact (told_n hmw3.2.2.2.2.2)⟩, fun z => ?_, fun z => ?_⟩⟩
    · rw [t_ln_w hwx (by decide), t_l0_0n rfl he1 z]
    · rw [t_ln_w hwx (by decide), t_l0_0y rfl he1 z, heqw2]
set_option maxHeartbeats 4000000 in
set_option maxRecDepth 100000 in
theorem s_li1 {G : tp_G} {μ : tp_M} (hG : tp_Gf G = true) {T : Int → Int} {len i f p it m ft lo : Int} {D : Int → Int} (hT : ∀ j, 0 ≤ T j ∧ T j ≤ 255) (h0 : 0 ≤ i) (h1 : i ≤ len) (h : ms T len f p m ft lo D μ) (ht : rtk T len i μ) (hI : t_I 0 i (f, p, it, m, ft, D)) (hlo : (0 : Int) = 2 → lo = min 12 it) (hwx : t_wx 0 T len i = 1) : tp_k G mX12_codeLine [tR (some 201), tL (26982), tI (t_s T len i)] μ (fun r μ' => l_P 0 T len i (f, p, it, m, ft, D) μ r μ') := by
  refine tp_ok_of mX12_codeLine_ok rfl (Nat.le_refl _) ?_
  obtain ⟨i1, he1⟩ : ∃ x, t_e T len i = x := ⟨_, rfl⟩
  obtain ⟨i2, he2⟩ : ∃ x, t_e T len i1 = x := ⟨_, rfl⟩
  obtain ⟨i3, he3⟩ : ∃ x, t_e T len i2 = x := ⟨_, rfl⟩
  have hkk : t_k T len i = 1 := by
    by_cases q : t_k T len i = 1
    · exact q
    · unfold t_wx at hwx; rw [if_neg q] at hwx; omega
  have hb0 := t_s_B (T := T) h1
  have hb1 := t_e_B (T := T) h1
  have hb2 := t_e_B (T := T) (len := len) (i := i1) (by omega)
  have hbs1 := t_s_B (T := T) (len := len) (i := i1) (by omega)
  have hb3 := t_e_B (T := T) (len := len) (i := i2) (by omega)
  have hbs2 := t_s_B (T := T) (len := len) (i := i2) (by omega)
  have hbs3 := t_s_B (T := T) (len := len) (i := i3) (by omega)
  have hpI : f ≠ 0 → 0 ≤ p ∧ p < i := hI.2.2.2.2.2.2.1
  have hitI : 0 ≤ it ∧ it ≤ i := hI.2.1
  have hlen := h.1.2.1
  have hftI : -1 ≤ ft ∧ ft ≤ 39 := hI.2.2.2.2.2.2.2.2.1
  have hD0 : D 0 = min 40 it := hI.2.2.1 (by decide)
  have hcl : 0 ≤ t_cl 1 (t_v T len i1) ∧ t_cl 1 (t_v T len i1) ≤ 39 := t_cl_b (by decide)
  refine g_aload_n rfl rfl ?_
  refine g_lload_n rfl rfl ?_
  refine g_iV (as := [tL (26982)]) mX12_kindBy_ok rfl rfl rfl rfl rfl rfl (by decide) rfl rfl rfl ?_
  refine g_lload_n rfl rfl ?_
  refine g_ldc2 (z := 482854660462) rfl rfl ⟨by decide, by decide⟩ ?_
  refine x_lcmp (v := -1) rfl (by decide) ?_
  refine g_if_ne (tgt := 12) rfl (by decide) (fun _ => ?_) (fun hx => absurd hx (by omega))
  refine g_lload_n rfl rfl ?_
  refine g_ldc2 (z := 26982) rfl rfl ⟨by decide, by decide⟩ ?_
  refine x_lcmp (v := 0) rfl (by decide) ?_
  refine g_if_ne (tgt := 24) rfl (by decide) (fun hx => absurd hx (by omega)) (fun _ => ?_)
  refine g_iconst rfl ⟨by decide, by decide⟩ ?_
  refine g_goto (tgt := 86) rfl (by decide) ?_
  refine x_ireturn rfl rfl ?_
  intro _
  refine g_istore rfl rfl rfl ?_
  refine g_lload_n rfl rfl ?_
  refine g_iS (as := [tL (26982)]) mX12_partBy_ok rfl rfl rfl rfl rfl rfl rfl ?_
  refine g_lload_n rfl rfl ?_
  refine g_ldc2 (z := 1651078259) rfl rfl ⟨by decide, by decide⟩ ?_
  refine x_lcmp (v := -1) rfl (by decide) ?_
  refine g_if_ne (tgt := 12) rfl (by decide) (fun _ => ?_) (fun hx => absurd hx (by omega))
  refine g_lload_n rfl rfl ?_
  refine g_ldc2 (z := 1684366704) rfl rfl ⟨by decide, by decide⟩ ?_
  refine x_lcmp (v := -1) rfl (by decide) ?_
  refine g_if_ne (tgt := 24) rfl (by decide) (fun _ => ?_) (fun hx => absurd hx (by omega))
  refine g_lload_n rfl rfl ?_
  refine g_ldc2 (z := 1937337955) rfl rfl ⟨by decide, by decide⟩ ?_
  refine x_lcmp (v := -1) rfl (by decide) ?_
  refine g_if_ne (tgt := 36) rfl (by decide) (fun _ => ?_) (fun hx => absurd hx (by omega))
  refine g_lload_n rfl rfl ?_
  refine g_ldc2 (z := 1718775661) rfl rfl ⟨by decide, by decide⟩ ?_
  refine x_lcmp (v := -1) rfl (by decide) ?_
  refine g_if_ne (tgt := 48) rfl (by decide) (fun _ => ?_) (fun hx => absurd hx (by omega))
  refine g_lload_n rfl rfl ?_
  refine g_ldc2 (z := 29807) rfl rfl ⟨by decide, by decide⟩ ?_
  refine x_lcmp (v := -1) rfl (by decide) ?_
  refine g_if_ne (tgt := 60) rfl (by decide) (fun _ => ?_) (fun hx => absurd hx (by omega))
  refine g_lload_n rfl rfl ?_
  refine g_ldc2 (z := 1869507705) rfl rfl ⟨by decide, by decide⟩ ?_
  refine x_lcmp (v := -1) rfl (by decide) ?_
  refine g_if_ne (tgt := 73) rfl (by decide) (fun _ => ?_) (fun hx => absurd hx (by omega))
  refine g_lload_n rfl rfl ?_
  refine g_ldc2 (z := 1919905645) rfl rfl ⟨by decide, by decide⟩ ?_
  refine x_lcmp (v := -1) rfl (by decide) ?_
  refine g_if_ne (tgt := 86) rfl (by decide) (fun _ => ?_) (fun hx => absurd hx (by omega))
  refine g_lload_n rfl rfl ?_
  refine g_ldc2 (z := 1918989413) rfl rfl ⟨by decide, by decide⟩ ?_
  refine x_lcmp (v := -1) rfl (by decide) ?_
  refine g_if_ne (tgt := 99) rfl (by decide) (fun _ => ?_) (fun hx => absurd hx (by omega))
  refine g_iconst rfl ⟨by decide, by decide⟩ ?_
  refine x_ireturn rfl rfl ?_
  intro _
  refine g_istore rfl rfl rfl ?_
  refine g_iload rfl rfl ?_
  refine g_iconst rfl ⟨by decide, by decide⟩ ?_
  refine g_icmp_ne (tgt := 38) rfl (by decide) (fun _ => ?_) (fun hx => absurd hx (by omega))
  refine g_iload rfl rfl ?_
  refine g_iconst rfl ⟨by decide, by decide⟩ ?_
  refine g_icmp_eq (tgt := 61) rfl (by decide) (fun hx => absurd hx (by omega)) (fun _ => ?_)
  refine g_aload_n rfl rfl ?_
  refine x_getF (r := 211) hG rfl rfl (by decide) (Or.inr ⟨_, rfl⟩) rfl ?_
  refine g_iconst rfl ⟨by decide, by decide⟩ ?_
  refine x_iald (v := (D 0)) rfl rfl (by decide) (by decide) (by decide) (h.2.2.2.2.2 0 (by decide) (by decide)) ?_
  refine g_bipush rfl ⟨by decide, by decide⟩ (by decide) ?_
  refine g_icmp_ne (tgt := 61) rfl (by decide) (fun h1 => ?_) (fun h1 => ?_)
  · refine g_aload_n rfl rfl ?_
    refine g_cV (as := []) (s_tok9 hG hT (i := i1) ⟨rd_C_m mF_rf h.1, h.2.1, h.2.2.1, h.2.2.2.1, h.2.2.2.2.1, h.2.2.2.2.2⟩ (by omega) (by omega) (ht.1.trans he1)) rfl rfl mX12_token_ok rfl rfl rfl (by decide) rfl rfl rfl ?_
    rintro _ w1 ⟨rfl, htw1, hmw1, hrdw1, hFw1⟩ _
    have heqw1 : t_cnt 0 1 (t_s T len i) (f, p, it, m, ft, D) = (f, p, it + 1, m, ft, D) := t_cnt_b (by decide) (by show ¬ (f = 0 ∧ (40 : Int) ≤ it); omega)
    have hppw1 : f ≠ 0 → p ≤ t_s T len i := fun z => by omega
    have hkbw1 := t_k_b T len i1
    refine g_iload rfl rfl ?_
    refine g_iconst rfl ⟨by decide, by decide⟩ ?_
    refine g_icmp_eq (tgt := 103) rfl (by decide) (fun _ => ?_) (fun hx => absurd hx (by omega))
    refine g_lload_n rfl rfl ?_
    refine g_ldc2 (z := 1836016741) rfl rfl ⟨by decide, by decide⟩ ?_
    refine x_lcmp (v := -1) rfl (by decide) ?_
    refine g_if_ne (tgt := 130) rfl (by decide) (fun _ => ?_) (fun hx => absurd hx (by omega))
    refine g_aload_n rfl rfl ?_
    refine g_iconst rfl ⟨by decide, by decide⟩ ?_
    refine g_puti rfl rfl (by decide) rfl rfl ?_
    refine g_iload rfl rfl ?_
    refine g_iconst rfl ⟨by decide, by decide⟩ ?_
    refine g_iconst rfl ⟨by decide, by decide⟩ ?_
    refine g_iS (as := [tI 1, tI 1, tI 3]) mX12_in_ok rfl rfl rfl rfl rfl rfl rfl ?_
    refine g_iload_n rfl rfl ?_
    refine g_iload_n rfl rfl ?_
    refine g_icmp_lt (tgt := 14) rfl (by decide) (fun hx => absurd hx (by omega)) (fun _ => ?_)
    refine g_iload_n rfl rfl ?_
    refine g_iload_n rfl rfl ?_
    refine g_icmp_gt (tgt := 14) rfl (by decide) (fun hx => absurd hx (by omega)) (fun _ => ?_)
    refine g_iconst rfl ⟨by decide, by decide⟩ ?_
    refine g_goto (tgt := 15) rfl (by decide) ?_
    refine x_zreturn rfl rfl (Or.inr rfl) ?_
    intro _
    refine g_if_eq (tgt := 172) rfl (by decide) (fun hx => absurd hx (by omega)) (fun _ => ?_)
    refine g_aload_n rfl rfl ?_
    refine g_iconst rfl ⟨by decide, by decide⟩ ?_
    refine g_bipush rfl ⟨by decide, by decide⟩ (by decide) ?_
    refine g_cV (as := [tI 0, tI 39]) (s_take1 (R := (it + 1, m, ft, D)) hG hT (i := i1) (by omega) (by omega) ⟨rd_C_m (mF_pi (by decide) mF_rf) hmw1.1, hmw1.2.1, hmw1.2.2.1, hmw1.2.2.2.1, hmw1.2.2.2.2.1, (told_n hmw1.2.2.2.2.2)⟩ ⟨htw1.1, htw1.2.1, htw1.2.2.1, htw1.2.2.2.1, htw1.2.2.2.2⟩ (fun z => by have := hppw1 z; omega)) rfl rfl mX12_take_ok rfl rfl rfl (by decide) rfl rfl rfl ?_
    rintro _ w2 ⟨⟨hkw2, rfl, h16w2⟩ | ⟨hkw2, rfl, fw2, pw2, heqw2, hmw2, htw2, hrdw2⟩, hFw2⟩ _
    · obtain ⟨w3, hw39⟩ : ∃ x, x = w2 := ⟨_, rfl⟩
      rw [← hw39] at hFw2 h16w2 ⊢
      have hFw3 := hFw2
      refine g_if_ne (tgt := 157) rfl (by decide) (fun hx => absurd hx (by omega)) (fun _ => ?_)
      refine g_iconst rfl ⟨by decide, by decide⟩ ?_
      refine x_zreturn rfl rfl (Or.inl rfl) ?_
      rw [l_P]
      exact ⟨(mF_tr (mF_tr (mF_tr (mF_tr mF_rf mF_rf) hFw1) (mF_pi (by decide) mF_rf)) hFw3), Or.inl ⟨by first | rfl | omega, _, by rw [t_ln_w hwx (by decide), t_l0_1a (by decide) he1 (by omega)], h16w2⟩⟩
    · rw [he2] at htw2
      have hppw2 : fw2 ≠ 0 → pw2 ≤ t_s T len i1 := fun z => by
        have q1 := heqw2
        by_cases u : (t_v T len i1 < t_lo 1 ∨ t_hi 1 < t_v T len i1) ∧ f = 0
        · rw [t_chk_a u] at q1
          have q2 : t_s T len i1 = pw2 := congrArg (fun x => x.2.1) q1
          omega
        · rw [t_chk_b u] at q1
          have q2 : p = pw2 := congrArg (fun x => x.2.1) q1
          have q3 : f = fw2 := congrArg (fun x => x.1) q1
          have := hppw1 (by omega)
          omega
      refine g_if_ne (tgt := 157) rfl (by decide) (fun _ => ?_) (fun hx => absurd hx (by omega))
      refine g_aload_n rfl rfl ?_
      refine g_aload_n rfl rfl ?_
      refine x_geti (v := ft) rfl rfl (by decide) (Or.inl rfl) hmw2.2.2.2.1 ?_
      refine g_aload_n rfl rfl ?_
      refine x_geti (v := (t_cl 1 (t_v T len i1))) rfl rfl (by decide) (Or.inl rfl) hrdw2 ?_
      refine g_iS (as := [tI ft, tI (t_cl 1 (t_v T len i1))]) mX12_greater_ok rfl rfl rfl rfl rfl rfl rfl ?_
      refine g_iload_n rfl rfl ?_
      refine g_iload_n rfl rfl ?_
      refine g_icmp_le (tgt := 9) rfl (by decide) (fun h2 => ?_) (fun h2 => ?_)
      · refine g_iload_n rfl rfl ?_
        refine x_ireturn rfl rfl ?_
        intro _
        refine g_puti rfl rfl (by decide) rfl rfl ?_
        refine g_aload_n rfl rfl ?_
        refine x_getF (r := 211) hG rfl rfl (by decide) (Or.inr ⟨_, rfl⟩) rfl ?_
        refine g_iconst rfl ⟨by decide, by decide⟩ ?_
        refine x_iald (v := (D 0)) rfl rfl (by decide) (by decide) (by decide) (by rw [tp_pi_ne (by omega)]; exact (hmw2.2.2.2.2.2 0 (by decide) (by decide))) ?_
        refine g_istore rfl rfl rfl ?_
        refine g_iload rfl rfl ?_
        refine g_bipush rfl ⟨by decide, by decide⟩ (by decide) ?_
        refine g_icmp_ge (tgt := 237) rfl (by decide) (fun hx => absurd hx (by omega)) (fun _ => ?_)
        refine g_aload_n rfl rfl ?_
        refine x_getF (r := 211) hG rfl rfl (by decide) (Or.inr ⟨_, rfl⟩) rfl ?_
        refine g_bipush rfl ⟨by decide, by decide⟩ (by decide) ?_
        refine g_iload rfl rfl ?_
        refine x_iadd (z := (D 0) + 9) rfl (by omega) ⟨by omega, by omega⟩ ?_
        refine g_iload rfl rfl ?_
        refine g_iast rfl rfl (by decide) (by omega) (by omega) ?_
        refine g_aload_n rfl rfl ?_
        refine x_getF (r := 211) hG rfl rfl (by decide) (Or.inr ⟨_, rfl⟩) rfl ?_
        refine g_bipush rfl ⟨by decide, by decide⟩ (by decide) ?_
        refine g_iload rfl rfl ?_
        refine x_iadd (z := (D 0) + 49) rfl (by omega) ⟨by omega, by omega⟩ ?_
        refine g_aload_n rfl rfl ?_
        refine x_geti (v := (t_cl 1 (t_v T len i1))) rfl rfl (by decide) (Or.inl rfl) hrdw2 ?_
        refine g_iast rfl rfl (by decide) (by omega) (by omega) ?_
        refine g_aload_n rfl rfl ?_
        refine x_getF (r := 211) hG rfl rfl (by decide) (Or.inr ⟨_, rfl⟩) rfl ?_
        refine g_bipush rfl ⟨by decide, by decide⟩ (by decide) ?_
        refine g_iload rfl rfl ?_
        refine x_iadd (z := (D 0) + 89) rfl (by omega) ⟨by omega, by omega⟩ ?_
        refine g_aload_n rfl rfl ?_
        refine x_geti (v := m) rfl rfl (by decide) (Or.inl rfl) hmw2.2.2.1 ?_
        refine g_iast rfl rfl (by decide) (by omega) (by omega) ?_
        refine g_aload_n rfl rfl ?_
        refine x_getF (r := 211) hG rfl rfl (by decide) (Or.inr ⟨_, rfl⟩) rfl ?_
        refine g_iconst rfl ⟨by decide, by decide⟩ ?_
        refine g_dup2 rfl ?_
        refine x_iald (v := (D 0)) rfl rfl (by decide) (by decide) (by decide) (by rw [tp_pi_ix (by omega), tp_pi_ix (by omega), tp_pi_ix (by omega), tp_pi_ne (by omega)]; exact (hmw2.2.2.2.2.2 0 (by decide) (by decide))) ?_
        refine g_iconst rfl ⟨by decide, by decide⟩ ?_
        refine x_iadd (z := (D 0) + 1) rfl (by omega) ⟨by omega, by omega⟩ ?_
        refine g_iast rfl rfl (by decide) (by decide) (by decide) ?_
        refine g_iconst rfl ⟨by decide, by decide⟩ ?_
        refine x_zreturn rfl rfl (Or.inr rfl) ?_
        rw [l_P]
        refine ⟨(mF_pt (mF_pt (mF_pt (mF_pt (mF_pi (by decide) (mF_tr (mF_tr (mF_tr (mF_tr mF_rf mF_rf) hFw1) (mF_pi (by decide) mF_rf)) hFw2)))))), Or.inr ⟨rfl, i2, t_tk 1 (t_v T len i1) 0 (fw2, pw2, it + 1, m, ft, D), ⟨by omega, by omega⟩, ⟨htw2.1, htw2.2.1, htw2.2.2.1, htw2.2.2.2.1, htw2.2.2.2.2⟩, ⟨lo, fun z => absurd z (by decide), rd_C_m (mF_pt (mF_pt (mF_pt (mF_pt (mF_pi (by decide) mF_rf))))) hmw2.1, hmw2.2.1, hmw2.2.2.1, (by show (t_cl 1 (t_v T len i1)) = max ft (t_cl 1 (t_v T len i1)); omega), hmw2.2.2.2.2.1, by show ∀ j, 0 ≤ j → j < 129 → _ = t_D 1 (t_rw 1 (t_v T len i1)) 0 m D j; rw [t_D_a (by decide) (by omega), Int.add_comm 9 (D 0), Int.add_comm 49 (D 0), Int.add_comm 89 (D 0)]; exact (told_u (told_u (told_u (told_u (told_n hmw2.2.2.2.2.2)))))⟩, fun z => ?_, fun z => ?_⟩⟩
        · rw [t_ln_w hwx (by decide), t_l0_1n rfl he1 he2 (by omega) z]
        · rw [t_ln_w hwx (by decide), t_l0_1y rfl he1 he2 (by omega) z, heqw1, heqw2]
      · refine g_iload_n rfl rfl ?_
        refine g_goto (tgt := 10) rfl (by decide) ?_
        refine x_ireturn rfl rfl ?_
        intro _
        refine g_puti rfl rfl (by decide) rfl rfl ?_
        refine g_aload_n rfl rfl ?_
        refine x_getF (r := 211) hG rfl rfl (by decide) (Or.inr ⟨_, rfl⟩) rfl ?_
        refine g_iconst rfl ⟨by decide, by decide⟩ ?_
        refine x_iald (v := (D 0)) rfl rfl (by decide) (by decide) (by decide) (by rw [tp_pi_ne (by omega)]; exact (hmw2.2.2.2.2.2 0 (by decide) (by decide))) ?_
        refine g_istore rfl rfl rfl ?_
        refine g_iload rfl rfl ?_
        refine g_bipush rfl ⟨by decide, by decide⟩ (by decide) ?_
        refine g_icmp_ge (tgt := 237) rfl (by decide) (fun hx => absurd hx (by omega)) (fun _ => ?_)
        refine g_aload_n rfl rfl ?_
        refine x_getF (r := 211) hG rfl rfl (by decide) (Or.inr ⟨_, rfl⟩) rfl ?_
        refine g_bipush rfl ⟨by decide, by decide⟩ (by decide) ?_
        refine g_iload rfl rfl ?_
        refine x_iadd (z := (D 0) + 9) rfl (by omega) ⟨by omega, by omega⟩ ?_
        refine g_iload rfl rfl ?_
        refine g_iast rfl rfl (by decide) (by omega) (by omega) ?_
        refine g_aload_n rfl rfl ?_
        refine x_getF (r := 211) hG rfl rfl (by decide) (Or.inr ⟨_, rfl⟩) rfl ?_
        refine g_bipush rfl ⟨by decide, by decide⟩ (by decide) ?_
        refine g_iload rfl rfl ?_
        refine x_iadd (z := (D 0) + 49) rfl (by omega) ⟨by omega, by omega⟩ ?_
        refine g_aload_n rfl rfl ?_
        refine x_geti (v := (t_cl 1 (t_v T len i1))) rfl rfl (by decide) (Or.inl rfl) hrdw2 ?_
        refine g_iast rfl rfl (by decide) (by omega) (by omega) ?_
        refine g_aload_n rfl rfl ?_
        refine x_getF (r := 211) hG rfl rfl (by decide) (Or.inr ⟨_, rfl⟩) rfl ?_
        refine g_bipush rfl ⟨by decide, by decide⟩ (by decide) ?_
        refine g_iload rfl rfl ?_
        refine x_iadd (z := (D 0) + 89) rfl (by omega) ⟨by omega, by omega⟩ ?_
        refine g_aload_n rfl rfl ?_
        refine x_geti (v := m) rfl rfl (by decide) (Or.inl rfl) hmw2.2.2.1 ?_
        refine g_iast rfl rfl (by decide) (by omega) (by omega) ?_
        refine g_aload_n rfl rfl ?_
        refine x_getF (r := 211) hG rfl rfl (by decide) (Or.inr ⟨_, rfl⟩) rfl ?_
        refine g_iconst rfl ⟨by decide, by decide⟩ ?_
        refine g_dup2 rfl ?_
        refine x_iald (v := (D 0)) rfl rfl (by decide) (by decide) (by decide) (by rw [tp_pi_ix (by omega), tp_pi_ix (by omega), tp_pi_ix (by omega), tp_pi_ne (by omega)]; exact (hmw2.2.2.2.2.2 0 (by decide) (by decide))) ?_
        refine g_iconst rfl ⟨by decide, by decide⟩ ?_
        refine x_iadd (z := (D 0) + 1) rfl (by omega) ⟨by omega, by omega⟩ ?_
        refine g_iast rfl rfl (by decide) (by decide) (by decide) ?_
        refine g_iconst rfl ⟨by decide, by decide⟩ ?_
        refine x_zreturn rfl rfl (Or.inr rfl) ?_
        rw [l_P]
        refine ⟨(mF_pt (mF_pt (mF_pt (mF_pt (mF_pi (by decide) (mF_tr (mF_tr (mF_tr (mF_tr mF_rf mF_rf) hFw1) (mF_pi (by decide) mF_rf)) hFw2)))))), Or.inr ⟨rfl, i2, t_tk 1 (t_v T len i1) 0 (fw2, pw2, it + 1, m, ft, D), ⟨by omega, by omega⟩, ⟨htw2.1, htw2.2.1, htw2.2.2.1, htw2.2.2.2.1, htw2.2.2.2.2⟩, ⟨lo, fun z => absurd z (by decide), rd_C_m (mF_pt (mF_pt (mF_pt (mF_pt (mF_pi (by decide) mF_rf))))) hmw2.1, hmw2.2.1, hmw2.2.2.1, (by show ft = max ft (t_cl 1 (t_v T len i1)); omega), hmw2.2.2.2.2.1, by show ∀ j, 0 ≤ j → j < 129 → _ = t_D 1 (t_rw 1 (t_v T len i1)) 0 m D j; rw [t_D_a (by decide) (by omega), Int.add_comm 9 (D 0), Int.add_comm 49 (D 0), Int.add_comm 89 (D 0)]; exact (told_u (told_u (told_u (told_u (told_n hmw2.2.2.2.2.2)))))⟩, fun z => ?_, fun z => ?_⟩⟩
        · rw [t_ln_w hwx (by decide), t_l0_1n rfl he1 he2 (by omega) z]
        · rw [t_ln_w hwx (by decide), t_l0_1y rfl he1 he2 (by omega) z, heqw1, heqw2]
  · refine g_aload_n rfl rfl ?_
    refine g_iconst rfl ⟨by decide, by decide⟩ ?_
    refine g_iload_n rfl rfl ?_
    refine g_cV (as := [tI 3, tI (t_s T len i)]) (s_aF9 hG h ht (by omega)) rfl rfl mX12_addsFault_ok rfl rfl rfl (by decide) rfl rfl rfl ?_
    rintro _ w4 ⟨rfl, fw4, pw4, hzaw4, hzbw4, hmw4, htw4, hrdw4, hFw4⟩ _
    have heqw4 : t_cnt 0 1 (t_s T len i) (f, p, it, m, ft, D) = (fw4, pw4, it + 1, m, ft, D) := by
      by_cases u : f = 0
      · rw [t_cnt_a (by decide) ⟨u, by show (40 : Int) ≤ it; omega⟩, (hzaw4 u).1, (hzaw4 u).2]
      · rw [t_cnt_b (by decide) (fun z => u z.1), (hzbw4 u).1, (hzbw4 u).2]
    have hppw4 : fw4 ≠ 0 → pw4 ≤ t_s T len i := fun z => by
      by_cases u : f = 0
      · rw [(hzaw4 u).2]; omega
      · rw [(hzbw4 u).2]; omega
    refine g_aload_n rfl rfl ?_
    refine g_cV (as := []) (s_tok9 hG hT (i := i1) ⟨rd_C_m mF_rf hmw4.1, hmw4.2.1, hmw4.2.2.1, hmw4.2.2.2.1, hmw4.2.2.2.2.1, hmw4.2.2.2.2.2⟩ (by omega) (by omega) (htw4.1.trans he1)) rfl rfl mX12_token_ok rfl rfl rfl (by decide) rfl rfl rfl ?_
    rintro _ w5 ⟨rfl, htw5, hmw5, hrdw5, hFw5⟩ _
    have hkbw5 := t_k_b T len i1
    refine g_iload rfl rfl ?_
    refine g_iconst rfl ⟨by decide, by decide⟩ ?_
    refine g_icmp_eq (tgt := 103) rfl (by decide) (fun _ => ?_) (fun hx => absurd hx (by omega))
    refine g_lload_n rfl rfl ?_
    refine g_ldc2 (z := 1836016741) rfl rfl ⟨by decide, by decide⟩ ?_
    refine x_lcmp (v := -1) rfl (by decide) ?_
    refine g_if_ne (tgt := 130) rfl (by decide) (fun _ => ?_) (fun hx => absurd hx (by omega))
    refine g_aload_n rfl rfl ?_
    refine g_iconst rfl ⟨by decide, by decide⟩ ?_
    refine g_puti rfl rfl (by decide) rfl rfl ?_
    refine g_iload rfl rfl ?_
    refine g_iconst rfl ⟨by decide, by decide⟩ ?_
    refine g_iconst rfl ⟨by decide, by decide⟩ ?_
    refine g_iS (as := [tI 1, tI 1, tI 3]) mX12_in_ok rfl rfl rfl rfl rfl rfl rfl ?_
    refine g_iload_n rfl rfl ?_
    refine g_iload_n rfl rfl ?_
    refine g_icmp_lt (tgt := 14) rfl (by decide) (fun hx => absurd hx (by omega)) (fun _ => ?_)
    refine g_iload_n rfl rfl ?_
    refine g_iload_n rfl rfl ?_
    refine g_icmp_gt (tgt := 14) rfl (by decide) (fun hx => absurd hx (by omega)) (fun _ => ?_)
    refine g_iconst rfl ⟨by decide, by decide⟩ ?_
    refine g_goto (tgt := 15) rfl (by decide) ?_
    refine x_zreturn rfl rfl (Or.inr rfl) ?_
    intro _
    refine g_if_eq (tgt := 172) rfl (by decide) (fun hx => absurd hx (by omega)) (fun _ => ?_)
    refine g_aload_n rfl rfl ?_
    refine g_iconst rfl ⟨by decide, by decide⟩ ?_
    refine g_bipush rfl ⟨by decide, by decide⟩ (by decide) ?_
    refine g_cV (as := [tI 0, tI 39]) (s_take1 (R := (it + 1, m, ft, D)) hG hT (i := i1) (by omega) (by omega) ⟨rd_C_m (mF_pi (by decide) mF_rf) hmw5.1, hmw5.2.1, hmw5.2.2.1, hmw5.2.2.2.1, hmw5.2.2.2.2.1, (told_n hmw5.2.2.2.2.2)⟩ ⟨htw5.1, htw5.2.1, htw5.2.2.1, htw5.2.2.2.1, htw5.2.2.2.2⟩ (fun z => by have := hppw4 z; omega)) rfl rfl mX12_take_ok rfl rfl rfl (by decide) rfl rfl rfl ?_
    rintro _ w6 ⟨⟨hkw6, rfl, h16w6⟩ | ⟨hkw6, rfl, fw6, pw6, heqw6, hmw6, htw6, hrdw6⟩, hFw6⟩ _
    · obtain ⟨w7, hw79⟩ : ∃ x, x = w6 := ⟨_, rfl⟩
      rw [← hw79] at hFw6 h16w6 ⊢
      have hFw7 := hFw6
      refine g_if_ne (tgt := 157) rfl (by decide) (fun hx => absurd hx (by omega)) (fun _ => ?_)
      refine g_iconst rfl ⟨by decide, by decide⟩ ?_
      refine x_zreturn rfl rfl (Or.inl rfl) ?_
      rw [l_P]
      exact ⟨(mF_tr (mF_tr (mF_tr (mF_tr (mF_tr mF_rf hFw4) mF_rf) hFw5) (mF_pi (by decide) mF_rf)) hFw7), Or.inl ⟨by first | rfl | omega, _, by rw [t_ln_w hwx (by decide), t_l0_1a (by decide) he1 (by omega)], h16w6⟩⟩
    · rw [he2] at htw6
      have hppw6 : fw6 ≠ 0 → pw6 ≤ t_s T len i1 := fun z => by
        have q1 := heqw6
        by_cases u : (t_v T len i1 < t_lo 1 ∨ t_hi 1 < t_v T len i1) ∧ fw4 = 0
        · rw [t_chk_a u] at q1
          have q2 : t_s T len i1 = pw6 := congrArg (fun x => x.2.1) q1
          omega
        · rw [t_chk_b u] at q1
          have q2 : pw4 = pw6 := congrArg (fun x => x.2.1) q1
          have q3 : fw4 = fw6 := congrArg (fun x => x.1) q1
          have := hppw4 (by omega)
          omega
      refine g_if_ne (tgt := 157) rfl (by decide) (fun _ => ?_) (fun hx => absurd hx (by omega))
      refine g_aload_n rfl rfl ?_
      refine g_aload_n rfl rfl ?_
      refine x_geti (v := ft) rfl rfl (by decide) (Or.inl rfl) hmw6.2.2.2.1 ?_
      refine g_aload_n rfl rfl ?_
      refine x_geti (v := (t_cl 1 (t_v T len i1))) rfl rfl (by decide) (Or.inl rfl) hrdw6 ?_
      refine g_iS (as := [tI ft, tI (t_cl 1 (t_v T len i1))]) mX12_greater_ok rfl rfl rfl rfl rfl rfl rfl ?_
      refine g_iload_n rfl rfl ?_
      refine g_iload_n rfl rfl ?_
      refine g_icmp_le (tgt := 9) rfl (by decide) (fun h3 => ?_) (fun h3 => ?_)
      · refine g_iload_n rfl rfl ?_
        refine x_ireturn rfl rfl ?_
        intro _
        refine g_puti rfl rfl (by decide) rfl rfl ?_
        refine g_aload_n rfl rfl ?_
        refine x_getF (r := 211) hG rfl rfl (by decide) (Or.inr ⟨_, rfl⟩) rfl ?_
        refine g_iconst rfl ⟨by decide, by decide⟩ ?_
        refine x_iald (v := (D 0)) rfl rfl (by decide) (by decide) (by decide) (by rw [tp_pi_ne (by omega)]; exact (hmw6.2.2.2.2.2 0 (by decide) (by decide))) ?_
        refine g_istore rfl rfl rfl ?_
        refine g_iload rfl rfl ?_
        refine g_bipush rfl ⟨by decide, by decide⟩ (by decide) ?_
        refine g_icmp_ge (tgt := 237) rfl (by decide) (fun _ => ?_) (fun hx => absurd hx (by omega))
        refine g_iconst rfl ⟨by decide, by decide⟩ ?_
        refine x_zreturn rfl rfl (Or.inr rfl) ?_
        rw [l_P]
        refine ⟨(mF_pi (by decide) (mF_tr (mF_tr (mF_tr (mF_tr (mF_tr mF_rf hFw4) mF_rf) hFw5) (mF_pi (by decide) mF_rf)) hFw6)), Or.inr ⟨rfl, i2, t_tk 1 (t_v T len i1) 0 (fw6, pw6, it + 1, m, ft, D), ⟨by omega, by omega⟩, ⟨htw6.1, htw6.2.1, htw6.2.2.1, htw6.2.2.2.1, htw6.2.2.2.2⟩, ⟨lo, fun z => absurd z (by decide), rd_C_m (mF_pi (by decide) mF_rf) hmw6.1, hmw6.2.1, hmw6.2.2.1, (by show (t_cl 1 (t_v T len i1)) = max ft (t_cl 1 (t_v T len i1)); omega), hmw6.2.2.2.2.1, by show ∀ j, 0 ≤ j → j < 129 → _ = t_D 1 (t_rw 1 (t_v T len i1)) 0 m D j; rw [show t_D 1 (t_rw 1 (t_v T len i1)) 0 m D = D by unfold t_D; rw [if_pos (by decide), if_neg (by omega)]]; exact (told_n hmw6.2.2.2.2.2)⟩, fun z => ?_, fun z => ?_⟩⟩
        · rw [t_ln_w hwx (by decide), t_l0_1n rfl he1 he2 (by omega) z]
        · rw [t_ln_w hwx (by decide), t_l0_1y rfl he1 he2 (by omega) z, heqw4, heqw6]
      · refine g_iload_n rfl rfl ?_
        refine g_goto (tgt := 10) rfl (by decide) ?_
        refine x_ireturn rfl rfl ?_
        intro _
        refine g_puti rfl rfl (by decide) rfl rfl ?_
        refine g_aload_n rfl rfl ?_
        refine x_getF (r := 211) hG rfl rfl (by decide) (Or.inr ⟨_, rfl⟩) rfl ?_
        refine g_iconst rfl ⟨by decide, by decide⟩ ?_
        refine x_iald (v := (D 0)) rfl rfl (by decide) (by decide) (by decide) (by rw [tp_pi_ne (by omega)]; exact (hmw6.2.2.2.2.2 0 (by decide) (by decide))) ?_
        refine g_istore rfl rfl rfl ?_
        refine g_iload rfl rfl ?_
        refine g_bipush rfl ⟨by decide, by decide⟩ (by decide) ?_
        refine g_icmp_ge (tgt := 237) rfl (by decide) (fun _ => ?_) (fun hx => absurd hx (by omega))
        refine g_iconst rfl ⟨by decide, by decide⟩ ?_
        refine x_zreturn rfl rfl (Or.inr rfl) ?_
        rw [l_P]
        refine ⟨(mF_pi (by decide) (mF_tr (mF_tr (mF_tr (mF_tr (mF_tr mF_rf hFw4) mF_rf) hFw5) (mF_pi (by decide) mF_rf)) hFw6)), Or.inr ⟨rfl, i2, t_tk 1 (t_v T len i1) 0 (fw6, pw6, it + 1, m, ft, D), ⟨by omega, by omega⟩, ⟨htw6.1, htw6.2.1, htw6.2.2.1, htw6.2.2.2.1, htw6.2.2.2.2⟩, ⟨lo, fun z => absurd z (by decide), rd_C_m (mF_pi (by decide) mF_rf) hmw6.1, hmw6.2.1, hmw6.2.2.1, (by show ft = max ft (t_cl 1 (t_v T len i1)); omega), hmw6.2.2.2.2.1, by show ∀ j, 0 ≤ j → j < 129 → _ = t_D 1 (t_rw 1 (t_v T len i1)) 0 m D j; rw [show t_D 1 (t_rw 1 (t_v T len i1)) 0 m D = D by unfold t_D; rw [if_pos (by decide), if_neg (by omega)]]; exact (told_n hmw6.2.2.2.2.2)⟩, fun z => ?_, fun z => ?_⟩⟩
        · rw [t_ln_w hwx (by decide), t_l0_1n rfl he1 he2 (by omega) z]
        · rw [t_ln_w hwx (by decide), t_l0_1y rfl he1 he2 (by omega) z, heqw4, heqw6]
set_option maxHeartbeats 4000000 in
set_option maxRecDepth 100000 in
theorem s_li2 {G : tp_G} {μ : tp_M} (hG : tp_Gf G = true) {T : Int → Int} {len i f p it m ft lo : Int} {D : Int → Int} (hT : ∀ j, 0 ≤ T j ∧ T j ≤ 255) (h0 : 0 ≤ i) (h1 : i ≤ len) (h : ms T len f p m ft lo D μ) (ht : rtk T len i μ) (hI : t_I 0 i (f, p, it, m, ft, D)) (hlo : (0 : Int) = 2 → lo = min 12 it) (hwx : t_wx 0 T len i = 2) : tp_k G mX12_codeLine [tR (some 201), tL (1786080624), tI (t_s T len i)] μ (fun r μ' => l_P 0 T len i (f, p, it, m, ft, D) μ r μ') := by
  refine tp_ok_of mX12_codeLine_ok rfl (Nat.le_refl _) ?_
  obtain ⟨i1, he1⟩ : ∃ x, t_e T len i = x := ⟨_, rfl⟩
  obtain ⟨i2, he2⟩ : ∃ x, t_e T len i1 = x := ⟨_, rfl⟩
  obtain ⟨i3, he3⟩ : ∃ x, t_e T len i2 = x := ⟨_, rfl⟩
  have hkk : t_k T len i = 1 := by
    by_cases q : t_k T len i = 1
    · exact q
    · unfold t_wx at hwx; rw [if_neg q] at hwx; omega
  have hb0 := t_s_B (T := T) h1
  have hb1 := t_e_B (T := T) h1
  have hb2 := t_e_B (T := T) (len := len) (i := i1) (by omega)
  have hbs1 := t_s_B (T := T) (len := len) (i := i1) (by omega)
  have hb3 := t_e_B (T := T) (len := len) (i := i2) (by omega)
  have hbs2 := t_s_B (T := T) (len := len) (i := i2) (by omega)
  have hbs3 := t_s_B (T := T) (len := len) (i := i3) (by omega)
  have hpI : f ≠ 0 → 0 ≤ p ∧ p < i := hI.2.2.2.2.2.2.1
  have hitI : 0 ≤ it ∧ it ≤ i := hI.2.1
  have hlen := h.1.2.1
  have hftI : -1 ≤ ft ∧ ft ≤ 39 := hI.2.2.2.2.2.2.2.2.1
  have hD0 : D 0 = min 40 it := hI.2.2.1 (by decide)
  have hcl : 0 ≤ t_cl 2 (t_v T len i1) ∧ t_cl 2 (t_v T len i1) ≤ 39 := t_cl_b (by decide)
  refine g_aload_n rfl rfl ?_
  refine g_lload_n rfl rfl ?_
  refine g_iV (as := [tL (1786080624)]) mX12_kindBy_ok rfl rfl rfl rfl rfl rfl (by decide) rfl rfl rfl ?_
  refine g_lload_n rfl rfl ?_
  refine g_ldc2 (z := 482854660462) rfl rfl ⟨by decide, by decide⟩ ?_
  refine x_lcmp (v := -1) rfl (by decide) ?_
  refine g_if_ne (tgt := 12) rfl (by decide) (fun _ => ?_) (fun hx => absurd hx (by omega))
  refine g_lload_n rfl rfl ?_
  refine g_ldc2 (z := 26982) rfl rfl ⟨by decide, by decide⟩ ?_
  refine x_lcmp (v := 1) rfl (by decide) ?_
  refine g_if_ne (tgt := 24) rfl (by decide) (fun _ => ?_) (fun hx => absurd hx (by omega))
  refine g_lload_n rfl rfl ?_
  refine g_ldc2 (z := 1786080624) rfl rfl ⟨by decide, by decide⟩ ?_
  refine x_lcmp (v := 0) rfl (by decide) ?_
  refine g_if_ne (tgt := 36) rfl (by decide) (fun hx => absurd hx (by omega)) (fun _ => ?_)
  refine g_iconst rfl ⟨by decide, by decide⟩ ?_
  refine g_goto (tgt := 86) rfl (by decide) ?_
  refine x_ireturn rfl rfl ?_
  intro _
  refine g_istore rfl rfl rfl ?_
  refine g_lload_n rfl rfl ?_
  refine g_iS (as := [tL (1786080624)]) mX12_partBy_ok rfl rfl rfl rfl rfl rfl rfl ?_
  refine g_lload_n rfl rfl ?_
  refine g_ldc2 (z := 1651078259) rfl rfl ⟨by decide, by decide⟩ ?_
  refine x_lcmp (v := 1) rfl (by decide) ?_
  refine g_if_ne (tgt := 12) rfl (by decide) (fun _ => ?_) (fun hx => absurd hx (by omega))
  refine g_lload_n rfl rfl ?_
  refine g_ldc2 (z := 1684366704) rfl rfl ⟨by decide, by decide⟩ ?_
  refine x_lcmp (v := 1) rfl (by decide) ?_
  refine g_if_ne (tgt := 24) rfl (by decide) (fun _ => ?_) (fun hx => absurd hx (by omega))
  refine g_lload_n rfl rfl ?_
  refine g_ldc2 (z := 1937337955) rfl rfl ⟨by decide, by decide⟩ ?_
  refine x_lcmp (v := -1) rfl (by decide) ?_
  refine g_if_ne (tgt := 36) rfl (by decide) (fun _ => ?_) (fun hx => absurd hx (by omega))
  refine g_lload_n rfl rfl ?_
  refine g_ldc2 (z := 1718775661) rfl rfl ⟨by decide, by decide⟩ ?_
  refine x_lcmp (v := 1) rfl (by decide) ?_
  refine g_if_ne (tgt := 48) rfl (by decide) (fun _ => ?_) (fun hx => absurd hx (by omega))
  refine g_lload_n rfl rfl ?_
  refine g_ldc2 (z := 29807) rfl rfl ⟨by decide, by decide⟩ ?_
  refine x_lcmp (v := 1) rfl (by decide) ?_
  refine g_if_ne (tgt := 60) rfl (by decide) (fun _ => ?_) (fun hx => absurd hx (by omega))
  refine g_lload_n rfl rfl ?_
  refine g_ldc2 (z := 1869507705) rfl rfl ⟨by decide, by decide⟩ ?_
  refine x_lcmp (v := -1) rfl (by decide) ?_
  refine g_if_ne (tgt := 73) rfl (by decide) (fun _ => ?_) (fun hx => absurd hx (by omega))
  refine g_lload_n rfl rfl ?_
  refine g_ldc2 (z := 1919905645) rfl rfl ⟨by decide, by decide⟩ ?_
  refine x_lcmp (v := -1) rfl (by decide) ?_
  refine g_if_ne (tgt := 86) rfl (by decide) (fun _ => ?_) (fun hx => absurd hx (by omega))
  refine g_lload_n rfl rfl ?_
  refine g_ldc2 (z := 1918989413) rfl rfl ⟨by decide, by decide⟩ ?_
  refine x_lcmp (v := -1) rfl (by decide) ?_
  refine g_if_ne (tgt := 99) rfl (by decide) (fun _ => ?_) (fun hx => absurd hx (by omega))
  refine g_iconst rfl ⟨by decide, by decide⟩ ?_
  refine x_ireturn rfl rfl ?_
  intro _
  refine g_istore rfl rfl rfl ?_
  refine g_iload rfl rfl ?_
  refine g_iconst rfl ⟨by decide, by decide⟩ ?_
  refine g_icmp_ne (tgt := 38) rfl (by decide) (fun _ => ?_) (fun hx => absurd hx (by omega))
  refine g_iload rfl rfl ?_
  refine g_iconst rfl ⟨by decide, by decide⟩ ?_
  refine g_icmp_eq (tgt := 61) rfl (by decide) (fun hx => absurd hx (by omega)) (fun _ => ?_)
  refine g_aload_n rfl rfl ?_
  refine x_getF (r := 211) hG rfl rfl (by decide) (Or.inr ⟨_, rfl⟩) rfl ?_
  refine g_iconst rfl ⟨by decide, by decide⟩ ?_
  refine x_iald (v := (D 0)) rfl rfl (by decide) (by decide) (by decide) (h.2.2.2.2.2 0 (by decide) (by decide)) ?_
  refine g_bipush rfl ⟨by decide, by decide⟩ (by decide) ?_
  refine g_icmp_ne (tgt := 61) rfl (by decide) (fun h1 => ?_) (fun h1 => ?_)
  · refine g_aload_n rfl rfl ?_
    refine g_cV (as := []) (s_tok9 hG hT (i := i1) ⟨rd_C_m mF_rf h.1, h.2.1, h.2.2.1, h.2.2.2.1, h.2.2.2.2.1, h.2.2.2.2.2⟩ (by omega) (by omega) (ht.1.trans he1)) rfl rfl mX12_token_ok rfl rfl rfl (by decide) rfl rfl rfl ?_
    rintro _ w1 ⟨rfl, htw1, hmw1, hrdw1, hFw1⟩ _
    have heqw1 : t_cnt 0 2 (t_s T len i) (f, p, it, m, ft, D) = (f, p, it + 1, m, ft, D) := t_cnt_b (by decide) (by show ¬ (f = 0 ∧ (40 : Int) ≤ it); omega)
    have hppw1 : f ≠ 0 → p ≤ t_s T len i := fun z => by omega
    have hkbw1 := t_k_b T len i1
    refine g_iload rfl rfl ?_
    refine g_iconst rfl ⟨by decide, by decide⟩ ?_
    refine g_icmp_eq (tgt := 103) rfl (by decide) (fun _ => ?_) (fun hx => absurd hx (by omega))
    refine g_lload_n rfl rfl ?_
    refine g_ldc2 (z := 1836016741) rfl rfl ⟨by decide, by decide⟩ ?_
    refine x_lcmp (v := -1) rfl (by decide) ?_
    refine g_if_ne (tgt := 130) rfl (by decide) (fun _ => ?_) (fun hx => absurd hx (by omega))
    refine g_aload_n rfl rfl ?_
    refine g_iconst rfl ⟨by decide, by decide⟩ ?_
    refine g_puti rfl rfl (by decide) rfl rfl ?_
    refine g_iload rfl rfl ?_
    refine g_iconst rfl ⟨by decide, by decide⟩ ?_
    refine g_iconst rfl ⟨by decide, by decide⟩ ?_
    refine g_iS (as := [tI 2, tI 1, tI 3]) mX12_in_ok rfl rfl rfl rfl rfl rfl rfl ?_
    refine g_iload_n rfl rfl ?_
    refine g_iload_n rfl rfl ?_
    refine g_icmp_lt (tgt := 14) rfl (by decide) (fun hx => absurd hx (by omega)) (fun _ => ?_)
    refine g_iload_n rfl rfl ?_
    refine g_iload_n rfl rfl ?_
    refine g_icmp_gt (tgt := 14) rfl (by decide) (fun hx => absurd hx (by omega)) (fun _ => ?_)
    refine g_iconst rfl ⟨by decide, by decide⟩ ?_
    refine g_goto (tgt := 15) rfl (by decide) ?_
    refine x_zreturn rfl rfl (Or.inr rfl) ?_
    intro _
    refine g_if_eq (tgt := 172) rfl (by decide) (fun hx => absurd hx (by omega)) (fun _ => ?_)
    refine g_aload_n rfl rfl ?_
    refine g_iconst rfl ⟨by decide, by decide⟩ ?_
    refine g_bipush rfl ⟨by decide, by decide⟩ (by decide) ?_
    refine g_cV (as := [tI 0, tI 39]) (s_take2 (R := (it + 1, m, ft, D)) hG hT (i := i1) (by omega) (by omega) ⟨rd_C_m (mF_pi (by decide) mF_rf) hmw1.1, hmw1.2.1, hmw1.2.2.1, hmw1.2.2.2.1, hmw1.2.2.2.2.1, (told_n hmw1.2.2.2.2.2)⟩ ⟨htw1.1, htw1.2.1, htw1.2.2.1, htw1.2.2.2.1, htw1.2.2.2.2⟩ (fun z => by have := hppw1 z; omega)) rfl rfl mX12_take_ok rfl rfl rfl (by decide) rfl rfl rfl ?_
    rintro _ w2 ⟨⟨hkw2, rfl, h16w2⟩ | ⟨hkw2, rfl, fw2, pw2, heqw2, hmw2, htw2, hrdw2⟩, hFw2⟩ _
    · obtain ⟨w3, hw39⟩ : ∃ x, x = w2 := ⟨_, rfl⟩
      rw [← hw39] at hFw2 h16w2 ⊢
      have hFw3 := hFw2
      refine g_if_ne (tgt := 157) rfl (by decide) (fun hx => absurd hx (by omega)) (fun _ => ?_)
      refine g_iconst rfl ⟨by decide, by decide⟩ ?_
      refine x_zreturn rfl rfl (Or.inl rfl) ?_
      rw [l_P]
      exact ⟨(mF_tr (mF_tr (mF_tr (mF_tr mF_rf mF_rf) hFw1) (mF_pi (by decide) mF_rf)) hFw3), Or.inl ⟨by first | rfl | omega, _, by rw [t_ln_w hwx (by decide), t_l0_1a (by decide) he1 (by omega)], h16w2⟩⟩
    · rw [he2] at htw2
      have hppw2 : fw2 ≠ 0 → pw2 ≤ t_s T len i1 := fun z => by
        have q1 := heqw2
        by_cases u : (t_v T len i1 < t_lo 2 ∨ t_hi 2 < t_v T len i1) ∧ f = 0
        · rw [t_chk_a u] at q1
          have q2 : t_s T len i1 = pw2 := congrArg (fun x => x.2.1) q1
          omega
        · rw [t_chk_b u] at q1
          have q2 : p = pw2 := congrArg (fun x => x.2.1) q1
          have q3 : f = fw2 := congrArg (fun x => x.1) q1
          have := hppw1 (by omega)
          omega
      refine g_if_ne (tgt := 157) rfl (by decide) (fun _ => ?_) (fun hx => absurd hx (by omega))
      refine g_aload_n rfl rfl ?_
      refine g_aload_n rfl rfl ?_
      refine x_geti (v := ft) rfl rfl (by decide) (Or.inl rfl) hmw2.2.2.2.1 ?_
      refine g_aload_n rfl rfl ?_
      refine x_geti (v := (t_cl 2 (t_v T len i1))) rfl rfl (by decide) (Or.inl rfl) hrdw2 ?_
      refine g_iS (as := [tI ft, tI (t_cl 2 (t_v T len i1))]) mX12_greater_ok rfl rfl rfl rfl rfl rfl rfl ?_
      refine g_iload_n rfl rfl ?_
      refine g_iload_n rfl rfl ?_
      refine g_icmp_le (tgt := 9) rfl (by decide) (fun h2 => ?_) (fun h2 => ?_)
      · refine g_iload_n rfl rfl ?_
        refine x_ireturn rfl rfl ?_
        intro _
        refine g_puti rfl rfl (by decide) rfl rfl ?_
        refine g_aload_n rfl rfl ?_
        refine x_getF (r := 211) hG rfl rfl (by decide) (Or.inr ⟨_, rfl⟩) rfl ?_
        refine g_iconst rfl ⟨by decide, by decide⟩ ?_
        refine x_iald (v := (D 0)) rfl rfl (by decide) (by decide) (by decide) (by rw [tp_pi_ne (by omega)]; exact (hmw2.2.2.2.2.2 0 (by decide) (by decide))) ?_
        refine g_istore rfl rfl rfl ?_
        refine g_iload rfl rfl ?_
        refine g_bipush rfl ⟨by decide, by decide⟩ (by decide) ?_
        refine g_icmp_ge (tgt := 237) rfl (by decide) (fun hx => absurd hx (by omega)) (fun _ => ?_)
        refine g_aload_n rfl rfl ?_
        refine x_getF (r := 211) hG rfl rfl (by decide) (Or.inr ⟨_, rfl⟩) rfl ?_
        refine g_bipush rfl ⟨by decide, by decide⟩ (by decide) ?_
        refine g_iload rfl rfl ?_
        refine x_iadd (z := (D 0) + 9) rfl (by omega) ⟨by omega, by omega⟩ ?_
        refine g_iload rfl rfl ?_
        refine g_iast rfl rfl (by decide) (by omega) (by omega) ?_
        refine g_aload_n rfl rfl ?_
        refine x_getF (r := 211) hG rfl rfl (by decide) (Or.inr ⟨_, rfl⟩) rfl ?_
        refine g_bipush rfl ⟨by decide, by decide⟩ (by decide) ?_
        refine g_iload rfl rfl ?_
        refine x_iadd (z := (D 0) + 49) rfl (by omega) ⟨by omega, by omega⟩ ?_
        refine g_aload_n rfl rfl ?_
        refine x_geti (v := (t_cl 2 (t_v T len i1))) rfl rfl (by decide) (Or.inl rfl) hrdw2 ?_
        refine g_iast rfl rfl (by decide) (by omega) (by omega) ?_
        refine g_aload_n rfl rfl ?_
        refine x_getF (r := 211) hG rfl rfl (by decide) (Or.inr ⟨_, rfl⟩) rfl ?_
        refine g_bipush rfl ⟨by decide, by decide⟩ (by decide) ?_
        refine g_iload rfl rfl ?_
        refine x_iadd (z := (D 0) + 89) rfl (by omega) ⟨by omega, by omega⟩ ?_
        refine g_aload_n rfl rfl ?_
        refine x_geti (v := m) rfl rfl (by decide) (Or.inl rfl) hmw2.2.2.1 ?_
        refine g_iast rfl rfl (by decide) (by omega) (by omega) ?_
        refine g_aload_n rfl rfl ?_
        refine x_getF (r := 211) hG rfl rfl (by decide) (Or.inr ⟨_, rfl⟩) rfl ?_
        refine g_iconst rfl ⟨by decide, by decide⟩ ?_
        refine g_dup2 rfl ?_
        refine x_iald (v := (D 0)) rfl rfl (by decide) (by decide) (by decide) (by rw [tp_pi_ix (by omega), tp_pi_ix (by omega), tp_pi_ix (by omega), tp_pi_ne (by omega)]; exact (hmw2.2.2.2.2.2 0 (by decide) (by decide))) ?_
        refine g_iconst rfl ⟨by decide, by decide⟩ ?_
        refine x_iadd (z := (D 0) + 1) rfl (by omega) ⟨by omega, by omega⟩ ?_
        refine g_iast rfl rfl (by decide) (by decide) (by decide) ?_
        refine g_iconst rfl ⟨by decide, by decide⟩ ?_
        refine x_zreturn rfl rfl (Or.inr rfl) ?_
        rw [l_P]
        refine ⟨(mF_pt (mF_pt (mF_pt (mF_pt (mF_pi (by decide) (mF_tr (mF_tr (mF_tr (mF_tr mF_rf mF_rf) hFw1) (mF_pi (by decide) mF_rf)) hFw2)))))), Or.inr ⟨rfl, i2, t_tk 2 (t_v T len i1) 0 (fw2, pw2, it + 1, m, ft, D), ⟨by omega, by omega⟩, ⟨htw2.1, htw2.2.1, htw2.2.2.1, htw2.2.2.2.1, htw2.2.2.2.2⟩, ⟨lo, fun z => absurd z (by decide), rd_C_m (mF_pt (mF_pt (mF_pt (mF_pt (mF_pi (by decide) mF_rf))))) hmw2.1, hmw2.2.1, hmw2.2.2.1, (by show (t_cl 2 (t_v T len i1)) = max ft (t_cl 2 (t_v T len i1)); omega), hmw2.2.2.2.2.1, by show ∀ j, 0 ≤ j → j < 129 → _ = t_D 2 (t_rw 2 (t_v T len i1)) 0 m D j; rw [t_D_a (by decide) (by omega), Int.add_comm 9 (D 0), Int.add_comm 49 (D 0), Int.add_comm 89 (D 0)]; exact (told_u (told_u (told_u (told_u (told_n hmw2.2.2.2.2.2)))))⟩, fun z => ?_, fun z => ?_⟩⟩
        · rw [t_ln_w hwx (by decide), t_l0_1n rfl he1 he2 (by omega) z]
        · rw [t_ln_w hwx (by decide), t_l0_1y rfl he1 he2 (by omega) z, heqw1, heqw2]
      · refine g_iload_n rfl rfl ?_
        refine g_goto (tgt := 10) rfl (by decide) ?_
        refine x_ireturn rfl rfl ?_
        intro _
        refine g_puti rfl rfl (by decide) rfl rfl ?_
        refine g_aload_n rfl rfl ?_
        refine x_getF (r := 211) hG rfl rfl (by decide) (Or.inr ⟨_, rfl⟩) rfl ?_
        refine g_iconst rfl ⟨by decide, by decide⟩ ?_
        refine x_iald (v := (D 0)) rfl rfl (by decide) (by decide) (by decide) (by rw [tp_pi_ne (by omega)]; exact (hmw2.2.2.2.2.2 0 (by decide) (by decide))) ?_
        refine g_istore rfl rfl rfl ?_
        refine g_iload rfl rfl ?_
        refine g_bipush rfl ⟨by decide, by decide⟩ (by decide) ?_
        refine g_icmp_ge (tgt := 237) rfl (by decide) (fun hx => absurd hx (by omega)) (fun _ => ?_)
        refine g_aload_n rfl rfl ?_
        refine x_getF (r := 211) hG rfl rfl (by decide) (Or.inr ⟨_, rfl⟩) rfl ?_
        refine g_bipush rfl ⟨by decide, by decide⟩ (by decide) ?_
        refine g_iload rfl rfl ?_
        refine x_iadd (z := (D 0) + 9) rfl (by omega) ⟨by omega, by omega⟩ ?_
        refine g_iload rfl rfl ?_
        refine g_iast rfl rfl (by decide) (by omega) (by omega) ?_
        refine g_aload_n rfl rfl ?_
        refine x_getF (r := 211) hG rfl rfl (by decide) (Or.inr ⟨_, rfl⟩) rfl ?_
        refine g_bipush rfl ⟨by decide, by decide⟩ (by decide) ?_
        refine g_iload rfl rfl ?_
        refine x_iadd (z := (D 0) + 49) rfl (by omega) ⟨by omega, by omega⟩ ?_
        refine g_aload_n rfl rfl ?_
        refine x_geti (v := (t_cl 2 (t_v T len i1))) rfl rfl (by decide) (Or.inl rfl) hrdw2 ?_
        refine g_iast rfl rfl (by decide) (by omega) (by omega) ?_
        refine g_aload_n rfl rfl ?_
        refine x_getF (r := 211) hG rfl rfl (by decide) (Or.inr ⟨_, rfl⟩) rfl ?_
        refine g_bipush rfl ⟨by decide, by decide⟩ (by decide) ?_
        refine g_iload rfl rfl ?_
        refine x_iadd (z := (D 0) + 89) rfl (by omega) ⟨by omega, by omega⟩ ?_
        refine g_aload_n rfl rfl ?_
        refine x_geti (v := m) rfl rfl (by decide) (Or.inl rfl) hmw2.2.2.1 ?_
        refine g_iast rfl rfl (by decide) (by omega) (by omega) ?_
        refine g_aload_n rfl rfl ?_
        refine x_getF (r := 211) hG rfl rfl (by decide) (Or.inr ⟨_, rfl⟩) rfl ?_
        refine g_iconst rfl ⟨by decide, by decide⟩ ?_
        refine g_dup2 rfl ?_
        refine x_iald (v := (D 0)) rfl rfl (by decide) (by decide) (by decide) (by rw [tp_pi_ix (by omega), tp_pi_ix (by omega), tp_pi_ix (by omega), tp_pi_ne (by omega)]; exact (hmw2.2.2.2.2.2 0 (by decide) (by decide))) ?_
        refine g_iconst rfl ⟨by decide, by decide⟩ ?_
        refine x_iadd (z := (D 0) + 1) rfl (by omega) ⟨by omega, by omega⟩ ?_
        refine g_iast rfl rfl (by decide) (by decide) (by decide) ?_
        refine g_iconst rfl ⟨by decide, by decide⟩ ?_
        refine x_zreturn rfl rfl (Or.inr rfl) ?_
        rw [l_P]
        refine ⟨(mF_pt (mF_pt (mF_pt (mF_pt (mF_pi (by decide) (mF_tr (mF_tr (mF_tr (mF_tr mF_rf mF_rf) hFw1) (mF_pi (by decide) mF_rf)) hFw2)))))), Or.inr ⟨rfl, i2, t_tk 2 (t_v T len i1) 0 (fw2, pw2, it + 1, m, ft, D), ⟨by omega, by omega⟩, ⟨htw2.1, htw2.2.1, htw2.2.2.1, htw2.2.2.2.1, htw2.2.2.2.2⟩, ⟨lo, fun z => absurd z (by decide), rd_C_m (mF_pt (mF_pt (mF_pt (mF_pt (mF_pi (by decide) mF_rf))))) hmw2.1, hmw2.2.1, hmw2.2.2.1, (by show ft = max ft (t_cl 2 (t_v T len i1)); omega), hmw2.2.2.2.2.1, by show ∀ j, 0 ≤ j → j < 129 → _ = t_D 2 (t_rw 2 (t_v T len i1)) 0 m D j; rw [t_D_a (by decide) (by omega), Int.add_comm 9 (D 0), Int.add_comm 49 (D 0), Int.add_comm 89 (D 0)]; exact (told_u (told_u (told_u (told_u (told_n hmw2.2.2.2.2.2)))))⟩, fun z => ?_, fun z => ?_⟩⟩
        · rw [t_ln_w hwx (by decide), t_l0_1n rfl he1 he2 (by omega) z]
        · rw [t_ln_w hwx (by decide), t_l0_1y rfl he1 he2 (by omega) z, heqw1, heqw2]
  · refine g_aload_n rfl rfl ?_
    refine g_iconst rfl ⟨by decide, by decide⟩ ?_
    refine g_iload_n rfl rfl ?_
    refine g_cV (as := [tI 3, tI (t_s T len i)]) (s_aF9 hG h ht (by omega)) rfl rfl mX12_addsFault_ok rfl rfl rfl (by decide) rfl rfl rfl ?_
    rintro _ w4 ⟨rfl, fw4, pw4, hzaw4, hzbw4, hmw4, htw4, hrdw4, hFw4⟩ _
    have heqw4 : t_cnt 0 2 (t_s T len i) (f, p, it, m, ft, D) = (fw4, pw4, it + 1, m, ft, D) := by
      by_cases u : f = 0
      · rw [t_cnt_a (by decide) ⟨u, by show (40 : Int) ≤ it; omega⟩, (hzaw4 u).1, (hzaw4 u).2]
      · rw [t_cnt_b (by decide) (fun z => u z.1), (hzbw4 u).1, (hzbw4 u).2]
    have hppw4 : fw4 ≠ 0 → pw4 ≤ t_s T len i := fun z => by
      by_cases u : f = 0
      · rw [(hzaw4 u).2]; omega
      · rw [(hzbw4 u).2]; omega
    refine g_aload_n rfl rfl ?_
    refine g_cV (as := []) (s_tok9 hG hT (i := i1) ⟨rd_C_m mF_rf hmw4.1, hmw4.2.1, hmw4.2.2.1, hmw4.2.2.2.1, hmw4.2.2.2.2.1, hmw4.2.2.2.2.2⟩ (by omega) (by omega) (htw4.1.trans he1)) rfl rfl mX12_token_ok rfl rfl rfl (by decide) rfl rfl rfl ?_
    rintro _ w5 ⟨rfl, htw5, hmw5, hrdw5, hFw5⟩ _
    have hkbw5 := t_k_b T len i1
    refine g_iload rfl rfl ?_
    refine g_iconst rfl ⟨by decide, by decide⟩ ?_
    refine g_icmp_eq (tgt := 103) rfl (by decide) (fun _ => ?_) (fun hx => absurd hx (by omega))
    refine g_lload_n rfl rfl ?_
    refine g_ldc2 (z := 1836016741) rfl rfl ⟨by decide, by decide⟩ ?_
    refine x_lcmp (v := -1) rfl (by decide) ?_
    refine g_if_ne (tgt := 130) rfl (by decide) (fun _ => ?_) (fun hx => absurd hx (by omega))
    refine g_aload_n rfl rfl ?_
    refine g_iconst rfl ⟨by decide, by decide⟩ ?_
    refine g_puti rfl rfl (by decide) rfl rfl ?_
    refine g_iload rfl rfl ?_
    refine g_iconst rfl ⟨by decide, by decide⟩ ?_
    refine g_iconst rfl ⟨by decide, by decide⟩ ?_
    refine g_iS (as := [tI 2, tI 1, tI 3]) mX12_in_ok rfl rfl rfl rfl rfl rfl rfl ?_
    refine g_iload_n rfl rfl ?_
    refine g_iload_n rfl rfl ?_
    refine g_icmp_lt (tgt := 14) rfl (by decide) (fun hx => absurd hx (by omega)) (fun _ => ?_)
    refine g_iload_n rfl rfl ?_
    refine g_iload_n rfl rfl ?_
    refine g_icmp_gt (tgt := 14) rfl (by decide) (fun hx => absurd hx (by omega)) (fun _ => ?_)
    refine g_iconst rfl ⟨by decide, by decide⟩ ?_
    refine g_goto (tgt := 15) rfl (by decide) ?_
    refine x_zreturn rfl rfl (Or.inr rfl) ?_
    intro _
    refine g_if_eq (tgt := 172) rfl (by decide) (fun hx => absurd hx (by omega)) (fun _ => ?_)
    refine g_aload_n rfl rfl ?_
    refine g_iconst rfl ⟨by decide, by decide⟩ ?_
    refine g_bipush rfl ⟨by decide, by decide⟩ (by decide) ?_
    refine g_cV (as := [tI 0, tI 39]) (s_take2 (R := (it + 1, m, ft, D)) hG hT (i := i1) (by omega) (by omega) ⟨rd_C_m (mF_pi (by decide) mF_rf) hmw5.1, hmw5.2.1, hmw5.2.2.1, hmw5.2.2.2.1, hmw5.2.2.2.2.1, (told_n hmw5.2.2.2.2.2)⟩ ⟨htw5.1, htw5.2.1, htw5.2.2.1, htw5.2.2.2.1, htw5.2.2.2.2⟩ (fun z => by have := hppw4 z; omega)) rfl rfl mX12_take_ok rfl rfl rfl (by decide) rfl rfl rfl ?_
    rintro _ w6 ⟨⟨hkw6, rfl, h16w6⟩ | ⟨hkw6, rfl, fw6, pw6, heqw6, hmw6, htw6, hrdw6⟩, hFw6⟩ _
    · obtain ⟨w7, hw79⟩ : ∃ x, x = w6 := ⟨_, rfl⟩
      rw [← hw79] at hFw6 h16w6 ⊢
      have hFw7 := hFw6
      refine g_if_ne (tgt := 157) rfl (by decide) (fun hx => absurd hx (by omega)) (fun _ => ?_)
      refine g_iconst rfl ⟨by decide, by decide⟩ ?_
      refine x_zreturn rfl rfl (Or.inl rfl) ?_
      rw [l_P]
      exact ⟨(mF_tr (mF_tr (mF_tr (mF_tr (mF_tr mF_rf hFw4) mF_rf) hFw5) (mF_pi (by decide) mF_rf)) hFw7), Or.inl ⟨by first | rfl | omega, _, by rw [t_ln_w hwx (by decide), t_l0_1a (by decide) he1 (by omega)], h16w6⟩⟩
    · rw [he2] at htw6
      have hppw6 : fw6 ≠ 0 → pw6 ≤ t_s T len i1 := fun z => by
        have q1 := heqw6
        by_cases u : (t_v T len i1 < t_lo 2 ∨ t_hi 2 < t_v T len i1) ∧ fw4 = 0
        · rw [t_chk_a u] at q1
          have q2 : t_s T len i1 = pw6 := congrArg (fun x => x.2.1) q1
          omega
        · rw [t_chk_b u] at q1
          have q2 : pw4 = pw6 := congrArg (fun x => x.2.1) q1
          have q3 : fw4 = fw6 := congrArg (fun x => x.1) q1
          have := hppw4 (by omega)
          omega
      refine g_if_ne (tgt := 157) rfl (by decide) (fun _ => ?_) (fun hx => absurd hx (by omega))
      refine g_aload_n rfl rfl ?_
      refine g_aload_n rfl rfl ?_
      refine x_geti (v := ft) rfl rfl (by decide) (Or.inl rfl) hmw6.2.2.2.1 ?_
      refine g_aload_n rfl rfl ?_
      refine x_geti (v := (t_cl 2 (t_v T len i1))) rfl rfl (by decide) (Or.inl rfl) hrdw6 ?_
      refine g_iS (as := [tI ft, tI (t_cl 2 (t_v T len i1))]) mX12_greater_ok rfl rfl rfl rfl rfl rfl rfl ?_
      refine g_iload_n rfl rfl ?_
      refine g_iload_n rfl rfl ?_
      refine g_icmp_le (tgt := 9) rfl (by decide) (fun h3 => ?_) (fun h3 => ?_)
      · refine g_iload_n rfl rfl ?_
        refine x_ireturn rfl rfl ?_
        intro _
        refine g_puti rfl rfl (by decide) rfl rfl ?_
        refine g_aload_n rfl rfl ?_
        refine x_getF (r := 211) hG rfl rfl (by decide) (Or.inr ⟨_, rfl⟩) rfl ?_
        refine g_iconst rfl ⟨by decide, by decide⟩ ?_
        refine x_iald (v := (D 0)) rfl rfl (by decide) (by decide) (by decide) (by rw [tp_pi_ne (by omega)]; exact (hmw6.2.2.2.2.2 0 (by decide) (by decide))) ?_
        refine g_istore rfl rfl rfl ?_
        refine g_iload rfl rfl ?_
        refine g_bipush rfl ⟨by decide, by decide⟩ (by decide) ?_
        refine g_icmp_ge (tgt := 237) rfl (by decide) (fun _ => ?_) (fun hx => absurd hx (by omega))
        refine g_iconst rfl ⟨by decide, by decide⟩ ?_
        refine x_zreturn rfl rfl (Or.inr rfl) ?_
        rw [l_P]
        refine ⟨(mF_pi (by decide) (mF_tr (mF_tr (mF_tr (mF_tr (mF_tr mF_rf hFw4) mF_rf) hFw5) (mF_pi (by decide) mF_rf)) hFw6)), Or.inr ⟨rfl, i2, t_tk 2 (t_v T len i1) 0 (fw6, pw6, it + 1, m, ft, D), ⟨by omega, by omega⟩, ⟨htw6.1, htw6.2.1, htw6.2.2.1, htw6.2.2.2.1, htw6.2.2.2.2⟩, ⟨lo, fun z => absurd z (by decide), rd_C_m (mF_pi (by decide) mF_rf) hmw6.1, hmw6.2.1, hmw6.2.2.1, (by show (t_cl 2 (t_v T len i1)) = max ft (t_cl 2 (t_v T len i1)); omega), hmw6.2.2.2.2.1, by show ∀ j, 0 ≤ j → j < 129 → _ = t_D 2 (t_rw 2 (t_v T len i1)) 0 m D j; rw [show t_D 2 (t_rw 2 (t_v T len i1)) 0 m D = D by unfold t_D; rw [if_pos (by decide), if_neg (by omega)]]; exact (told_n hmw6.2.2.2.2.2)⟩, fun z => ?_, fun z => ?_⟩⟩
        · rw [t_ln_w hwx (by decide), t_l0_1n rfl he1 he2 (by omega) z]
        · rw [t_ln_w hwx (by decide), t_l0_1y rfl he1 he2 (by omega) z, heqw4, heqw6]
      · refine g_iload_n rfl rfl ?_
        refine g_goto (tgt := 10) rfl (by decide) ?_
        refine x_ireturn rfl rfl ?_
        intro _
        refine g_puti rfl rfl (by decide) rfl rfl ?_
        refine g_aload_n rfl rfl ?_
        refine x_getF (r := 211) hG rfl rfl (by decide) (Or.inr ⟨_, rfl⟩) rfl ?_
        refine g_iconst rfl ⟨by decide, by decide⟩ ?_
        refine x_iald (v := (D 0)) rfl rfl (by decide) (by decide) (by decide) (by rw [tp_pi_ne (by omega)]; exact (hmw6.2.2.2.2.2 0 (by decide) (by decide))) ?_
        refine g_istore rfl rfl rfl ?_
        refine g_iload rfl rfl ?_
        refine g_bipush rfl ⟨by decide, by decide⟩ (by decide) ?_
        refine g_icmp_ge (tgt := 237) rfl (by decide) (fun _ => ?_) (fun hx => absurd hx (by omega))
        refine g_iconst rfl ⟨by decide, by decide⟩ ?_
        refine x_zreturn rfl rfl (Or.inr rfl) ?_
        rw [l_P]
        refine ⟨(mF_pi (by decide) (mF_tr (mF_tr (mF_tr (mF_tr (mF_tr mF_rf hFw4) mF_rf) hFw5) (mF_pi (by decide) mF_rf)) hFw6)), Or.inr ⟨rfl, i2, t_tk 2 (t_v T len i1) 0 (fw6, pw6, it + 1, m, ft, D), ⟨by omega, by omega⟩, ⟨htw6.1, htw6.2.1, htw6.2.2.1, htw6.2.2.2.1, htw6.2.2.2.2⟩, ⟨lo, fun z => absurd z (by decide), rd_C_m (mF_pi (by decide) mF_rf) hmw6.1, hmw6.2.1, hmw6.2.2.1, (by show ft = max ft (t_cl 2 (t_v T len i1)); omega), hmw6.2.2.2.2.1, by show ∀ j, 0 ≤ j → j < 129 → _ = t_D 2 (t_rw 2 (t_v T len i1)) 0 m D j; rw [show t_D 2 (t_rw 2 (t_v T len i1)) 0 m D = D by unfold t_D; rw [if_pos (by decide), if_neg (by omega)]]; exact (told_n hmw6.2.2.2.2.2)⟩, fun z => ?_, fun z => ?_⟩⟩
        · rw [t_ln_w hwx (by decide), t_l0_1n rfl he1 he2 (by omega) z]
        · rw [t_ln_w hwx (by decide), t_l0_1y rfl he1 he2 (by omega) z, heqw4, heqw6]
set_option maxHeartbeats 4000000 in
set_option maxRecDepth 100000 in
theorem s_li3 {G : tp_G} {μ : tp_M} (hG : tp_Gf G = true) {T : Int → Int} {len i f p it m ft lo : Int} {D : Int → Int} (hT : ∀ j, 0 ≤ T j ∧ T j ≤ 255) (h0 : 0 ≤ i) (h1 : i ≤ len) (h : ms T len f p m ft lo D μ) (ht : rtk T len i μ) (hI : t_I 0 i (f, p, it, m, ft, D)) (hlo : (0 : Int) = 2 → lo = min 12 it) (hwx : t_wx 0 T len i = 3) : tp_k G mX12_codeLine [tR (some 201), tL (1667329132), tI (t_s T len i)] μ (fun r μ' => l_P 0 T len i (f, p, it, m, ft, D) μ r μ') := by
  refine tp_ok_of mX12_codeLine_ok rfl (Nat.le_refl _) ?_
  obtain ⟨i1, he1⟩ : ∃ x, t_e T len i = x := ⟨_, rfl⟩
  obtain ⟨i2, he2⟩ : ∃ x, t_e T len i1 = x := ⟨_, rfl⟩
  obtain ⟨i3, he3⟩ : ∃ x, t_e T len i2 = x := ⟨_, rfl⟩
  have hkk : t_k T len i = 1 := by
    by_cases q : t_k T len i = 1
    · exact q
    · unfold t_wx at hwx; rw [if_neg q] at hwx; omega
  have hb0 := t_s_B (T := T) h1
  have hb1 := t_e_B (T := T) h1
  have hb2 := t_e_B (T := T) (len := len) (i := i1) (by omega)
  have hbs1 := t_s_B (T := T) (len := len) (i := i1) (by omega)
  have hb3 := t_e_B (T := T) (len := len) (i := i2) (by omega)
  have hbs2 := t_s_B (T := T) (len := len) (i := i2) (by omega)
  have hbs3 := t_s_B (T := T) (len := len) (i := i3) (by omega)
  have hpI : f ≠ 0 → 0 ≤ p ∧ p < i := hI.2.2.2.2.2.2.1
  have hitI : 0 ≤ it ∧ it ≤ i := hI.2.1
  have hlen := h.1.2.1
  have hftI : -1 ≤ ft ∧ ft ≤ 39 := hI.2.2.2.2.2.2.2.2.1
  have hD0 : D 0 = min 40 it := hI.2.2.1 (by decide)
  have hcl : 0 ≤ t_cl 3 (t_v T len i1) ∧ t_cl 3 (t_v T len i1) ≤ 39 := t_cl_b (by decide)
  refine g_aload_n rfl rfl ?_
  refine g_lload_n rfl rfl ?_
  refine g_iV (as := [tL (1667329132)]) mX12_kindBy_ok rfl rfl rfl rfl rfl rfl (by decide) rfl rfl rfl ?_
  refine g_lload_n rfl rfl ?_
  refine g_ldc2 (z := 482854660462) rfl rfl ⟨by decide, by decide⟩ ?_
  refine x_lcmp (v := -1) rfl (by decide) ?_
  refine g_if_ne (tgt := 12) rfl (by decide) (fun _ => ?_) (fun hx => absurd hx (by omega))
  refine g_lload_n rfl rfl ?_
  refine g_ldc2 (z := 26982) rfl rfl ⟨by decide, by decide⟩ ?_
  refine x_lcmp (v := 1) rfl (by decide) ?_
  refine g_if_ne (tgt := 24) rfl (by decide) (fun _ => ?_) (fun hx => absurd hx (by omega))
  refine g_lload_n rfl rfl ?_
  refine g_ldc2 (z := 1786080624) rfl rfl ⟨by decide, by decide⟩ ?_
  refine x_lcmp (v := -1) rfl (by decide) ?_
  refine g_if_ne (tgt := 36) rfl (by decide) (fun _ => ?_) (fun hx => absurd hx (by omega))
  refine g_lload_n rfl rfl ?_
  refine g_ldc2 (z := 1667329132) rfl rfl ⟨by decide, by decide⟩ ?_
  refine x_lcmp (v := 0) rfl (by decide) ?_
  refine g_if_ne (tgt := 48) rfl (by decide) (fun hx => absurd hx (by omega)) (fun _ => ?_)
  refine g_iconst rfl ⟨by decide, by decide⟩ ?_
  refine g_goto (tgt := 86) rfl (by decide) ?_
  refine x_ireturn rfl rfl ?_
  intro _
  refine g_istore rfl rfl rfl ?_
  refine g_lload_n rfl rfl ?_
  refine g_iS (as := [tL (1667329132)]) mX12_partBy_ok rfl rfl rfl rfl rfl rfl rfl ?_
  refine g_lload_n rfl rfl ?_
  refine g_ldc2 (z := 1651078259) rfl rfl ⟨by decide, by decide⟩ ?_
  refine x_lcmp (v := 1) rfl (by decide) ?_
  refine g_if_ne (tgt := 12) rfl (by decide) (fun _ => ?_) (fun hx => absurd hx (by omega))
  refine g_lload_n rfl rfl ?_
  refine g_ldc2 (z := 1684366704) rfl rfl ⟨by decide, by decide⟩ ?_
  refine x_lcmp (v := -1) rfl (by decide) ?_
  refine g_if_ne (tgt := 24) rfl (by decide) (fun _ => ?_) (fun hx => absurd hx (by omega))
  refine g_lload_n rfl rfl ?_
  refine g_ldc2 (z := 1937337955) rfl rfl ⟨by decide, by decide⟩ ?_
  refine x_lcmp (v := -1) rfl (by decide) ?_
  refine g_if_ne (tgt := 36) rfl (by decide) (fun _ => ?_) (fun hx => absurd hx (by omega))
  refine g_lload_n rfl rfl ?_
  refine g_ldc2 (z := 1718775661) rfl rfl ⟨by decide, by decide⟩ ?_
  refine x_lcmp (v := -1) rfl (by decide) ?_
  refine g_if_ne (tgt := 48) rfl (by decide) (fun _ => ?_) (fun hx => absurd hx (by omega))
  refine g_lload_n rfl rfl ?_
  refine g_ldc2 (z := 29807) rfl rfl ⟨by decide, by decide⟩ ?_
  refine x_lcmp (v := 1) rfl (by decide) ?_
  refine g_if_ne (tgt := 60) rfl (by decide) (fun _ => ?_) (fun hx => absurd hx (by omega))
  refine g_lload_n rfl rfl ?_
  refine g_ldc2 (z := 1869507705) rfl rfl ⟨by decide, by decide⟩ ?_
  refine x_lcmp (v := -1) rfl (by decide) ?_
  refine g_if_ne (tgt := 73) rfl (by decide) (fun _ => ?_) (fun hx => absurd hx (by omega))
  refine g_lload_n rfl rfl ?_
  refine g_ldc2 (z := 1919905645) rfl rfl ⟨by decide, by decide⟩ ?_
  refine x_lcmp (v := -1) rfl (by decide) ?_
  refine g_if_ne (tgt := 86) rfl (by decide) (fun _ => ?_) (fun hx => absurd hx (by omega))
  refine g_lload_n rfl rfl ?_
  refine g_ldc2 (z := 1918989413) rfl rfl ⟨by decide, by decide⟩ ?_
  refine x_lcmp (v := -1) rfl (by decide) ?_
  refine g_if_ne (tgt := 99) rfl (by decide) (fun _ => ?_) (fun hx => absurd hx (by omega))
  refine g_iconst rfl ⟨by decide, by decide⟩ ?_
  refine x_ireturn rfl rfl ?_
  intro _
  refine g_istore rfl rfl rfl ?_
  refine g_iload rfl rfl ?_
  refine g_iconst rfl ⟨by decide, by decide⟩ ?_
  refine g_icmp_ne (tgt := 38) rfl (by decide) (fun _ => ?_) (fun hx => absurd hx (by omega))
  refine g_iload rfl rfl ?_
  refine g_iconst rfl ⟨by decide, by decide⟩ ?_
  refine g_icmp_eq (tgt := 61) rfl (by decide) (fun hx => absurd hx (by omega)) (fun _ => ?_)
  refine g_aload_n rfl rfl ?_
  refine x_getF (r := 211) hG rfl rfl (by decide) (Or.inr ⟨_, rfl⟩) rfl ?_
  refine g_iconst rfl ⟨by decide, by decide⟩ ?_
  refine x_iald (v := (D 0)) rfl rfl (by decide) (by decide) (by decide) (h.2.2.2.2.2 0 (by decide) (by decide)) ?_
  refine g_bipush rfl ⟨by decide, by decide⟩ (by decide) ?_
  refine g_icmp_ne (tgt := 61) rfl (by decide) (fun h1 => ?_) (fun h1 => ?_)
  · refine g_aload_n rfl rfl ?_
    refine g_cV (as := []) (s_tok9 hG hT (i := i1) ⟨rd_C_m mF_rf h.1, h.2.1, h.2.2.1, h.2.2.2.1, h.2.2.2.2.1, h.2.2.2.2.2⟩ (by omega) (by omega) (ht.1.trans he1)) rfl rfl mX12_token_ok rfl rfl rfl (by decide) rfl rfl rfl ?_
    rintro _ w1 ⟨rfl, htw1, hmw1, hrdw1, hFw1⟩ _
    have heqw1 : t_cnt 0 3 (t_s T len i) (f, p, it, m, ft, D) = (f, p, it + 1, m, ft, D) := t_cnt_b (by decide) (by show ¬ (f = 0 ∧ (40 : Int) ≤ it); omega)
    have hppw1 : f ≠ 0 → p ≤ t_s T len i := fun z => by omega
    have hkbw1 := t_k_b T len i1
    refine g_iload rfl rfl ?_
    refine g_iconst rfl ⟨by decide, by decide⟩ ?_
    refine g_icmp_eq (tgt := 103) rfl (by decide) (fun _ => ?_) (fun hx => absurd hx (by omega))
    refine g_lload_n rfl rfl ?_
    refine g_ldc2 (z := 1836016741) rfl rfl ⟨by decide, by decide⟩ ?_
    refine x_lcmp (v := -1) rfl (by decide) ?_
    refine g_if_ne (tgt := 130) rfl (by decide) (fun _ => ?_) (fun hx => absurd hx (by omega))
    refine g_aload_n rfl rfl ?_
    refine g_iconst rfl ⟨by decide, by decide⟩ ?_
    refine g_puti rfl rfl (by decide) rfl rfl ?_
    refine g_iload rfl rfl ?_
    refine g_iconst rfl ⟨by decide, by decide⟩ ?_
    refine g_iconst rfl ⟨by decide, by decide⟩ ?_
    refine g_iS (as := [tI 3, tI 1, tI 3]) mX12_in_ok rfl rfl rfl rfl rfl rfl rfl ?_
    refine g_iload_n rfl rfl ?_
    refine g_iload_n rfl rfl ?_
    refine g_icmp_lt (tgt := 14) rfl (by decide) (fun hx => absurd hx (by omega)) (fun _ => ?_)
    refine g_iload_n rfl rfl ?_
    refine g_iload_n rfl rfl ?_
    refine g_icmp_gt (tgt := 14) rfl (by decide) (fun hx => absurd hx (by omega)) (fun _ => ?_)
    refine g_iconst rfl ⟨by decide, by decide⟩ ?_
    refine g_goto (tgt := 15) rfl (by decide) ?_
    refine x_zreturn rfl rfl (Or.inr rfl) ?_
    intro _
    refine g_if_eq (tgt := 172) rfl (by decide) (fun hx => absurd hx (by omega)) (fun _ => ?_)
    refine g_aload_n rfl rfl ?_
    refine g_iconst rfl ⟨by decide, by decide⟩ ?_
    refine g_bipush rfl ⟨by decide, by decide⟩ (by decide) ?_
    refine g_cV (as := [tI 0, tI 39]) (s_take3 (R := (it + 1, m, ft, D)) hG hT (i := i1) (by omega) (by omega) ⟨rd_C_m (mF_pi (by decide) mF_rf) hmw1.1, hmw1.2.1, hmw1.2.2.1, hmw1.2.2.2.1, hmw1.2.2.2.2.1, (told_n hmw1.2.2.2.2.2)⟩ ⟨htw1.1, htw1.2.1, htw1.2.2.1, htw1.2.2.2.1, htw1.2.2.2.2⟩ (fun z => by have := hppw1 z; omega)) rfl rfl mX12_take_ok rfl rfl rfl (by decide) rfl rfl rfl ?_
    rintro _ w2 ⟨⟨hkw2, rfl, h16w2⟩ | ⟨hkw2, rfl, fw2, pw2, heqw2, hmw2, htw2, hrdw2⟩, hFw2⟩ _
    · obtain ⟨w3, hw39⟩ : ∃ x, x = w2 := ⟨_, rfl⟩
      rw [← hw39] at hFw2 h16w2 ⊢
      have hFw3 := hFw2
      refine g_if_ne (tgt := 157) rfl (by decide) (fun hx => absurd hx (by omega)) (fun _ => ?_)
      refine g_iconst rfl ⟨by decide, by decide⟩ ?_
      refine x_zreturn rfl rfl (Or.inl rfl) ?_
      rw [l_P]
      exact ⟨(mF_tr (mF_tr (mF_tr (mF_tr mF_rf mF_rf) hFw1) (mF_pi (by decide) mF_rf)) hFw3), Or.inl ⟨by first | rfl | omega, _, by rw [t_ln_w hwx (by decide), t_l0_1a (by decide) he1 (by omega)], h16w2⟩⟩
    · rw [he2] at htw2
      have hppw2 : fw2 ≠ 0 → pw2 ≤ t_s T len i1 := fun z => by
        have q1 := heqw2
        by_cases u : (t_v T len i1 < t_lo 3 ∨ t_hi 3 < t_v T len i1) ∧ f = 0
        · rw [t_chk_a u] at q1
          have q2 : t_s T len i1 = pw2 := congrArg (fun x => x.2.1) q1
          omega
        · rw [t_chk_b u] at q1
          have q2 : p = pw2 := congrArg (fun x => x.2.1) q1
          have q3 : f = fw2 := congrArg (fun x => x.1) q1
          have := hppw1 (by omega)
          omega
      refine g_if_ne (tgt := 157) rfl (by decide) (fun _ => ?_) (fun hx => absurd hx (by omega))
      refine g_aload_n rfl rfl ?_
      refine g_aload_n rfl rfl ?_
      refine x_geti (v := ft) rfl rfl (by decide) (Or.inl rfl) hmw2.2.2.2.1 ?_
      refine g_aload_n rfl rfl ?_
      refine x_geti (v := (t_cl 3 (t_v T len i1))) rfl rfl (by decide) (Or.inl rfl) hrdw2 ?_
      refine g_iS (as := [tI ft, tI (t_cl 3 (t_v T len i1))]) mX12_greater_ok rfl rfl rfl rfl rfl rfl rfl ?_
      refine g_iload_n rfl rfl ?_
      refine g_iload_n rfl rfl ?_
      refine g_icmp_le (tgt := 9) rfl (by decide) (fun h2 => ?_) (fun h2 => ?_)
      · refine g_iload_n rfl rfl ?_
        refine x_ireturn rfl rfl ?_
        intro _
        refine g_puti rfl rfl (by decide) rfl rfl ?_
        refine g_aload_n rfl rfl ?_
        refine x_getF (r := 211) hG rfl rfl (by decide) (Or.inr ⟨_, rfl⟩) rfl ?_
        refine g_iconst rfl ⟨by decide, by decide⟩ ?_
        refine x_iald (v := (D 0)) rfl rfl (by decide) (by decide) (by decide) (by rw [tp_pi_ne (by omega)]; exact (hmw2.2.2.2.2.2 0 (by decide) (by decide))) ?_
        refine g_istore rfl rfl rfl ?_
        refine g_iload rfl rfl ?_
        refine g_bipush rfl ⟨by decide, by decide⟩ (by decide) ?_
        refine g_icmp_ge (tgt := 237) rfl (by decide) (fun hx => absurd hx (by omega)) (fun _ => ?_)
        refine g_aload_n rfl rfl ?_
        refine x_getF (r := 211) hG rfl rfl (by decide) (Or.inr ⟨_, rfl⟩) rfl ?_
        refine g_bipush rfl ⟨by decide, by decide⟩ (by decide) ?_
        refine g_iload rfl rfl ?_
        refine x_iadd (z := (D 0) + 9) rfl (by omega) ⟨by omega, by omega⟩ ?_
        refine g_iload rfl rfl ?_
        refine g_iast rfl rfl (by decide) (by omega) (by omega) ?_
        refine g_aload_n rfl rfl ?_
        refine x_getF (r := 211) hG rfl rfl (by decide) (Or.inr ⟨_, rfl⟩) rfl ?_
        refine g_bipush rfl ⟨by decide, by decide⟩ (by decide) ?_
        refine g_iload rfl rfl ?_
        refine x_iadd (z := (D 0) + 49) rfl (by omega) ⟨by omega, by omega⟩ ?_
        refine g_aload_n rfl rfl ?_
        refine x_geti (v := (t_cl 3 (t_v T len i1))) rfl rfl (by decide) (Or.inl rfl) hrdw2 ?_
        refine g_iast rfl rfl (by decide) (by omega) (by omega) ?_
        refine g_aload_n rfl rfl ?_
        refine x_getF (r := 211) hG rfl rfl (by decide) (Or.inr ⟨_, rfl⟩) rfl ?_
        refine g_bipush rfl ⟨by decide, by decide⟩ (by decide) ?_
        refine g_iload rfl rfl ?_
        refine x_iadd (z := (D 0) + 89) rfl (by omega) ⟨by omega, by omega⟩ ?_
        refine g_aload_n rfl rfl ?_
        refine x_geti (v := m) rfl rfl (by decide) (Or.inl rfl) hmw2.2.2.1 ?_
        refine g_iast rfl rfl (by decide) (by omega) (by omega) ?_
        refine g_aload_n rfl rfl ?_
        refine x_getF (r := 211) hG rfl rfl (by decide) (Or.inr ⟨_, rfl⟩) rfl ?_
        refine g_iconst rfl ⟨by decide, by decide⟩ ?_
        refine g_dup2 rfl ?_
        refine x_iald (v := (D 0)) rfl rfl (by decide) (by decide) (by decide) (by rw [tp_pi_ix (by omega), tp_pi_ix (by omega), tp_pi_ix (by omega), tp_pi_ne (by omega)]; exact (hmw2.2.2.2.2.2 0 (by decide) (by decide))) ?_
        refine g_iconst rfl ⟨by decide, by decide⟩ ?_
        refine x_iadd (z := (D 0) + 1) rfl (by omega) ⟨by omega, by omega⟩ ?_
        refine g_iast rfl rfl (by decide) (by decide) (by decide) ?_
        refine g_iconst rfl ⟨by decide, by decide⟩ ?_
        refine x_zreturn rfl rfl (Or.inr rfl) ?_
        rw [l_P]
        refine ⟨(mF_pt (mF_pt (mF_pt (mF_pt (mF_pi (by decide) (mF_tr (mF_tr (mF_tr (mF_tr mF_rf mF_rf) hFw1) (mF_pi (by decide) mF_rf)) hFw2)))))), Or.inr ⟨rfl, i2, t_tk 3 (t_v T len i1) 0 (fw2, pw2, it + 1, m, ft, D), ⟨by omega, by omega⟩, ⟨htw2.1, htw2.2.1, htw2.2.2.1, htw2.2.2.2.1, htw2.2.2.2.2⟩, ⟨lo, fun z => absurd z (by decide), rd_C_m (mF_pt (mF_pt (mF_pt (mF_pt (mF_pi (by decide) mF_rf))))) hmw2.1, hmw2.2.1, hmw2.2.2.1, (by show (t_cl 3 (t_v T len i1)) = max ft (t_cl 3 (t_v T len i1)); omega), hmw2.2.2.2.2.1, by show ∀ j, 0 ≤ j → j < 129 → _ = t_D 3 (t_rw 3 (t_v T len i1)) 0 m D j; rw [t_D_a (by decide) (by omega), Int.add_comm 9 (D 0), Int.add_comm 49 (D 0), Int.add_comm 89 (D 0)]; exact (told_u (told_u (told_u (told_u (told_n hmw2.2.2.2.2.2)))))⟩, fun z => ?_, fun z => ?_⟩⟩
        · rw [t_ln_w hwx (by decide), t_l0_1n rfl he1 he2 (by omega) z]
        · rw [t_ln_w hwx (by decide), t_l0_1y rfl he1 he2 (by omega) z, heqw1, heqw2]
      · refine g_iload_n rfl rfl ?_
        refine g_goto (tgt := 10) rfl (by decide) ?_
        refine x_ireturn rfl rfl ?_
        intro _
        refine g_puti rfl rfl (by decide) rfl rfl ?_
        refine g_aload_n rfl rfl ?_
        refine x_getF (r := 211) hG rfl rfl (by decide) (Or.inr ⟨_, rfl⟩) rfl ?_
        refine g_iconst rfl ⟨by decide, by decide⟩ ?_
        refine x_iald (v := (D 0)) rfl rfl (by decide) (by decide) (by decide) (by rw [tp_pi_ne (by omega)]; exact (hmw2.2.2.2.2.2 0 (by decide) (by decide))) ?_
        refine g_istore rfl rfl rfl ?_
        refine g_iload rfl rfl ?_
        refine g_bipush rfl ⟨by decide, by decide⟩ (by decide) ?_
        refine g_icmp_ge (tgt := 237) rfl (by decide) (fun hx => absurd hx (by omega)) (fun _ => ?_)
        refine g_aload_n rfl rfl ?_
        refine x_getF (r := 211) hG rfl rfl (by decide) (Or.inr ⟨_, rfl⟩) rfl ?_
        refine g_bipush rfl ⟨by decide, by decide⟩ (by decide) ?_
        refine g_iload rfl rfl ?_
        refine x_iadd (z := (D 0) + 9) rfl (by omega) ⟨by omega, by omega⟩ ?_
        refine g_iload rfl rfl ?_
        refine g_iast rfl rfl (by decide) (by omega) (by omega) ?_
        refine g_aload_n rfl rfl ?_
        refine x_getF (r := 211) hG rfl rfl (by decide) (Or.inr ⟨_, rfl⟩) rfl ?_
        refine g_bipush rfl ⟨by decide, by decide⟩ (by decide) ?_
        refine g_iload rfl rfl ?_
        refine x_iadd (z := (D 0) + 49) rfl (by omega) ⟨by omega, by omega⟩ ?_
        refine g_aload_n rfl rfl ?_
        refine x_geti (v := (t_cl 3 (t_v T len i1))) rfl rfl (by decide) (Or.inl rfl) hrdw2 ?_
        refine g_iast rfl rfl (by decide) (by omega) (by omega) ?_
        refine g_aload_n rfl rfl ?_
        refine x_getF (r := 211) hG rfl rfl (by decide) (Or.inr ⟨_, rfl⟩) rfl ?_
        refine g_bipush rfl ⟨by decide, by decide⟩ (by decide) ?_
        refine g_iload rfl rfl ?_
        refine x_iadd (z := (D 0) + 89) rfl (by omega) ⟨by omega, by omega⟩ ?_
        refine g_aload_n rfl rfl ?_
        refine x_geti (v := m) rfl rfl (by decide) (Or.inl rfl) hmw2.2.2.1 ?_
        refine g_iast rfl rfl (by decide) (by omega) (by omega) ?_
        refine g_aload_n rfl rfl ?_
        refine x_getF (r := 211) hG rfl rfl (by decide) (Or.inr ⟨_, rfl⟩) rfl ?_
        refine g_iconst rfl ⟨by decide, by decide⟩ ?_
        refine g_dup2 rfl ?_
        refine x_iald (v := (D 0)) rfl rfl (by decide) (by decide) (by decide) (by rw [tp_pi_ix (by omega), tp_pi_ix (by omega), tp_pi_ix (by omega), tp_pi_ne (by omega)]; exact (hmw2.2.2.2.2.2 0 (by decide) (by decide))) ?_
        refine g_iconst rfl ⟨by decide, by decide⟩ ?_
        refine x_iadd (z := (D 0) + 1) rfl (by omega) ⟨by omega, by omega⟩ ?_
        refine g_iast rfl rfl (by decide) (by decide) (by decide) ?_
        refine g_iconst rfl ⟨by decide, by decide⟩ ?_
        refine x_zreturn rfl rfl (Or.inr rfl) ?_
        rw [l_P]
        refine ⟨(mF_pt (mF_pt (mF_pt (mF_pt (mF_pi (by decide) (mF_tr (mF_tr (mF_tr (mF_tr mF_rf mF_rf) hFw1) (mF_pi (by decide) mF_rf)) hFw2)))))), Or.inr ⟨rfl, i2, t_tk 3 (t_v T len i1) 0 (fw2, pw2, it + 1, m, ft, D), ⟨by omega, by omega⟩, ⟨htw2.1, htw2.2.1, htw2.2.2.1, htw2.2.2.2.1, htw2.2.2.2.2⟩, ⟨lo, fun z => absurd z (by decide), rd_C_m (mF_pt (mF_pt (mF_pt (mF_pt (mF_pi (by decide) mF_rf))))) hmw2.1, hmw2.2.1, hmw2.2.2.1, (by show ft = max ft (t_cl 3 (t_v T len i1)); omega), hmw2.2.2.2.2.1, by show ∀ j, 0 ≤ j → j < 129 → _ = t_D 3 (t_rw 3 (t_v T len i1)) 0 m D j; rw [t_D_a (by decide) (by omega), Int.add_comm 9 (D 0), Int.add_comm 49 (D 0), Int.add_comm 89 (D 0)]; exact (told_u (told_u (told_u (told_u (told_n hmw2.2.2.2.2.2)))))⟩, fun z => ?_, fun z => ?_⟩⟩
        · rw [t_ln_w hwx (by decide), t_l0_1n rfl he1 he2 (by omega) z]
        · rw [t_ln_w hwx (by decide), t_l0_1y rfl he1 he2 (by omega) z, heqw1, heqw2]
  · refine g_aload_n rfl rfl ?_
    refine g_iconst rfl ⟨by decide, by decide⟩ ?_
    refine g_iload_n rfl rfl ?_
    refine g_cV (as := [tI 3, tI (t_s T len i)]) (s_aF9 hG h ht (by omega)) rfl rfl mX12_addsFault_ok rfl rfl rfl (by decide) rfl rfl rfl ?_
    rintro _ w4 ⟨rfl, fw4, pw4, hzaw4, hzbw4, hmw4, htw4, hrdw4, hFw4⟩ _
    have heqw4 : t_cnt 0 3 (t_s T len i) (f, p, it, m, ft, D) = (fw4, pw4, it + 1, m, ft, D) := by
      by_cases u : f = 0
      · rw [t_cnt_a (by decide) ⟨u, by show (40 : Int) ≤ it; omega⟩, (hzaw4 u).1, (hzaw4 u).2]
      · rw [t_cnt_b (by decide) (fun z => u z.1), (hzbw4 u).1, (hzbw4 u).2]
    have hppw4 : fw4 ≠ 0 → pw4 ≤ t_s T len i := fun z => by
      by_cases u : f = 0
      · rw [(hzaw4 u).2]; omega
      · rw [(hzbw4 u).2]; omega
    refine g_aload_n rfl rfl ?_
    refine g_cV (as := []) (s_tok9 hG hT (i := i1) ⟨rd_C_m mF_rf hmw4.1, hmw4.2.1, hmw4.2.2.1, hmw4.2.2.2.1, hmw4.2.2.2.2.1, hmw4.2.2.2.2.2⟩ (by omega) (by omega) (htw4.1.trans he1)) rfl rfl mX12_token_ok rfl rfl rfl (by decide) rfl rfl rfl ?_
    rintro _ w5 ⟨rfl, htw5, hmw5, hrdw5, hFw5⟩ _
    have hkbw5 := t_k_b T len i1
    refine g_iload rfl rfl ?_
    refine g_iconst rfl ⟨by decide, by decide⟩ ?_
    refine g_icmp_eq (tgt := 103) rfl (by decide) (fun _ => ?_) (fun hx => absurd hx (by omega))
    refine g_lload_n rfl rfl ?_
    refine g_ldc2 (z := 1836016741) rfl rfl ⟨by decide, by decide⟩ ?_
    refine x_lcmp (v := -1) rfl (by decide) ?_
    refine g_if_ne (tgt := 130) rfl (by decide) (fun _ => ?_) (fun hx => absurd hx (by omega))
    refine g_aload_n rfl rfl ?_
    refine g_iconst rfl ⟨by decide, by decide⟩ ?_
    refine g_puti rfl rfl (by decide) rfl rfl ?_
    refine g_iload rfl rfl ?_
    refine g_iconst rfl ⟨by decide, by decide⟩ ?_
    refine g_iconst rfl ⟨by decide, by decide⟩ ?_
    refine g_iS (as := [tI 3, tI 1, tI 3]) mX12_in_ok rfl rfl rfl rfl rfl rfl rfl ?_
    refine g_iload_n rfl rfl ?_
    refine g_iload_n rfl rfl ?_
    refine g_icmp_lt (tgt := 14) rfl (by decide) (fun hx => absurd hx (by omega)) (fun _ => ?_)
    refine g_iload_n rfl rfl ?_
    refine g_iload_n rfl rfl ?_
    refine g_icmp_gt (tgt := 14) rfl (by decide) (fun hx => absurd hx (by omega)) (fun _ => ?_)
    refine g_iconst rfl ⟨by decide, by decide⟩ ?_
    refine g_goto (tgt := 15) rfl (by decide) ?_
    refine x_zreturn rfl rfl (Or.inr rfl) ?_
    intro _
    refine g_if_eq (tgt := 172) rfl (by decide) (fun hx => absurd hx (by omega)) (fun _ => ?_)
    refine g_aload_n rfl rfl ?_
    refine g_iconst rfl ⟨by decide, by decide⟩ ?_
    refine g_bipush rfl ⟨by decide, by decide⟩ (by decide) ?_
    refine g_cV (as := [tI 0, tI 39]) (s_take3 (R := (it + 1, m, ft, D)) hG hT (i := i1) (by omega) (by omega) ⟨rd_C_m (mF_pi (by decide) mF_rf) hmw5.1, hmw5.2.1, hmw5.2.2.1, hmw5.2.2.2.1, hmw5.2.2.2.2.1, (told_n hmw5.2.2.2.2.2)⟩ ⟨htw5.1, htw5.2.1, htw5.2.2.1, htw5.2.2.2.1, htw5.2.2.2.2⟩ (fun z => by have := hppw4 z; omega)) rfl rfl mX12_take_ok rfl rfl rfl (by decide) rfl rfl rfl ?_
    rintro _ w6 ⟨⟨hkw6, rfl, h16w6⟩ | ⟨hkw6, rfl, fw6, pw6, heqw6, hmw6, htw6, hrdw6⟩, hFw6⟩ _
    · obtain ⟨w7, hw79⟩ : ∃ x, x = w6 := ⟨_, rfl⟩
      rw [← hw79] at hFw6 h16w6 ⊢
      have hFw7 := hFw6
      refine g_if_ne (tgt := 157) rfl (by decide) (fun hx => absurd hx (by omega)) (fun _ => ?_)
      refine g_iconst rfl ⟨by decide, by decide⟩ ?_
      refine x_zreturn rfl rfl (Or.inl rfl) ?_
      rw [l_P]
      exact ⟨(mF_tr (mF_tr (mF_tr (mF_tr (mF_tr mF_rf hFw4) mF_rf) hFw5) (mF_pi (by decide) mF_rf)) hFw7), Or.inl ⟨by first | rfl | omega, _, by rw [t_ln_w hwx (by decide), t_l0_1a (by decide) he1 (by omega)], h16w6⟩⟩
    · rw [he2] at htw6
      have hppw6 : fw6 ≠ 0 → pw6 ≤ t_s T len i1 := fun z => by
        have q1 := heqw6
        by_cases u : (t_v T len i1 < t_lo 3 ∨ t_hi 3 < t_v T len i1) ∧ fw4 = 0
        · rw [t_chk_a u] at q1
          have q2 : t_s T len i1 = pw6 := congrArg (fun x => x.2.1) q1
          omega
        · rw [t_chk_b u] at q1
          have q2 : pw4 = pw6 := congrArg (fun x => x.2.1) q1
          have q3 : fw4 = fw6 := congrArg (fun x => x.1) q1
          have := hppw4 (by omega)
          omega
      refine g_if_ne (tgt := 157) rfl (by decide) (fun _ => ?_) (fun hx => absurd hx (by omega))
      refine g_aload_n rfl rfl ?_
      refine g_aload_n rfl rfl ?_
      refine x_geti (v := ft) rfl rfl (by decide) (Or.inl rfl) hmw6.2.2.2.1 ?_
      refine g_aload_n rfl rfl ?_
      refine x_geti (v := (t_cl 3 (t_v T len i1))) rfl rfl (by decide) (Or.inl rfl) hrdw6 ?_
      refine g_iS (as := [tI ft, tI (t_cl 3 (t_v T len i1))]) mX12_greater_ok rfl rfl rfl rfl rfl rfl rfl ?_
      refine g_iload_n rfl rfl ?_
      refine g_iload_n rfl rfl ?_
      refine g_icmp_le (tgt := 9) rfl (by decide) (fun h3 => ?_) (fun h3 => ?_)
      · refine g_iload_n rfl rfl ?_
        refine x_ireturn rfl rfl ?_
        intro _
        refine g_puti rfl rfl (by decide) rfl rfl ?_
        refine g_aload_n rfl rfl ?_
        refine x_getF (r := 211) hG rfl rfl (by decide) (Or.inr ⟨_, rfl⟩) rfl ?_
        refine g_iconst rfl ⟨by decide, by decide⟩ ?_
        refine x_iald (v := (D 0)) rfl rfl (by decide) (by decide) (by decide) (by rw [tp_pi_ne (by omega)]; exact (hmw6.2.2.2.2.2 0 (by decide) (by decide))) ?_
        refine g_istore rfl rfl rfl ?_
        refine g_iload rfl rfl ?_
        refine g_bipush rfl ⟨by decide, by decide⟩ (by decide) ?_
        refine g_icmp_ge (tgt := 237) rfl (by decide) (fun _ => ?_) (fun hx => absurd hx (by omega))
        refine g_iconst rfl ⟨by decide, by decide⟩ ?_
        refine x_zreturn rfl rfl (Or.inr rfl) ?_
        rw [l_P]
        refine ⟨(mF_pi (by decide) (mF_tr (mF_tr (mF_tr (mF_tr (mF_tr mF_rf hFw4) mF_rf) hFw5) (mF_pi (by decide) mF_rf)) hFw6)), Or.inr ⟨rfl, i2, t_tk 3 (t_v T len i1) 0 (fw6, pw6, it + 1, m, ft, D), ⟨by omega, by omega⟩, ⟨htw6.1, htw6.2.1, htw6.2.2.1, htw6.2.2.2.1, htw6.2.2.2.2⟩, ⟨lo, fun z => absurd z (by decide), rd_C_m (mF_pi (by decide) mF_rf) hmw6.1, hmw6.2.1, hmw6.2.2.1, (by show (t_cl 3 (t_v T len i1)) = max ft (t_cl 3 (t_v T len i1)); omega), hmw6.2.2.2.2.1, by show ∀ j, 0 ≤ j → j < 129 → _ = t_D 3 (t_rw 3 (t_v T len i1)) 0 m D j; rw [show t_D 3 (t_rw 3 (t_v T len i1)) 0 m D = D by unfold t_D; rw [if_pos (by decide), if_neg (by omega)]]; exact (told_n hmw6.2.2.2.2.2)⟩, fun z => ?_, fun z => ?_⟩⟩
        · rw [t_ln_w hwx (by decide), t_l0_1n rfl he1 he2 (by omega) z]
        · rw [t_ln_w hwx (by decide), t_l0_1y rfl he1 he2 (by omega) z, heqw4, heqw6]
      · refine g_iload_n rfl rfl ?_
        refine g_goto (tgt := 10) rfl (by decide) ?_
        refine x_ireturn rfl rfl ?_
        intro _
        refine g_puti rfl rfl (by decide) rfl rfl ?_
        refine g_aload_n rfl rfl ?_
        refine x_getF (r := 211) hG rfl rfl (by decide) (Or.inr ⟨_, rfl⟩) rfl ?_
        refine g_iconst rfl ⟨by decide, by decide⟩ ?_
        refine x_iald (v := (D 0)) rfl rfl (by decide) (by decide) (by decide) (by rw [tp_pi_ne (by omega)]; exact (hmw6.2.2.2.2.2 0 (by decide) (by decide))) ?_
        refine g_istore rfl rfl rfl ?_
        refine g_iload rfl rfl ?_
        refine g_bipush rfl ⟨by decide, by decide⟩ (by decide) ?_
        refine g_icmp_ge (tgt := 237) rfl (by decide) (fun _ => ?_) (fun hx => absurd hx (by omega))
        refine g_iconst rfl ⟨by decide, by decide⟩ ?_
        refine x_zreturn rfl rfl (Or.inr rfl) ?_
        rw [l_P]
        refine ⟨(mF_pi (by decide) (mF_tr (mF_tr (mF_tr (mF_tr (mF_tr mF_rf hFw4) mF_rf) hFw5) (mF_pi (by decide) mF_rf)) hFw6)), Or.inr ⟨rfl, i2, t_tk 3 (t_v T len i1) 0 (fw6, pw6, it + 1, m, ft, D), ⟨by omega, by omega⟩, ⟨htw6.1, htw6.2.1, htw6.2.2.1, htw6.2.2.2.1, htw6.2.2.2.2⟩, ⟨lo, fun z => absurd z (by decide), rd_C_m (mF_pi (by decide) mF_rf) hmw6.1, hmw6.2.1, hmw6.2.2.1, (by show ft = max ft (t_cl 3 (t_v T len i1)); omega), hmw6.2.2.2.2.1, by show ∀ j, 0 ≤ j → j < 129 → _ = t_D 3 (t_rw 3 (t_v T len i1)) 0 m D j; rw [show t_D 3 (t_rw 3 (t_v T len i1)) 0 m D = D by unfold t_D; rw [if_pos (by decide), if_neg (by omega)]]; exact (told_n hmw6.2.2.2.2.2)⟩, fun z => ?_, fun z => ?_⟩⟩
        · rw [t_ln_w hwx (by decide), t_l0_1n rfl he1 he2 (by omega) z]
        · rw [t_ln_w hwx (by decide), t_l0_1y rfl he1 he2 (by omega) z, heqw4, heqw6]
set_option maxHeartbeats 4000000 in
set_option maxRecDepth 100000 in
theorem s_li4 {G : tp_G} {μ : tp_M} (hG : tp_Gf G = true) {T : Int → Int} {len i f p it m ft lo : Int} {D : Int → Int} (hT : ∀ j, 0 ≤ T j ∧ T j ≤ 255) (h0 : 0 ≤ i) (h1 : i ≤ len) (h : ms T len f p m ft lo D μ) (ht : rtk T len i μ) (hI : t_I 0 i (f, p, it, m, ft, D)) (hlo : (0 : Int) = 2 → lo = min 12 it) (hwx : t_wx 0 T len i = 4) : tp_k G mX12_codeLine [tR (some 201), tL (7497076), tI (t_s T len i)] μ (fun r μ' => l_P 0 T len i (f, p, it, m, ft, D) μ r μ') := by
  refine tp_ok_of mX12_codeLine_ok rfl (Nat.le_refl _) ?_
  obtain ⟨i1, he1⟩ : ∃ x, t_e T len i = x := ⟨_, rfl⟩
  obtain ⟨i2, he2⟩ : ∃ x, t_e T len i1 = x := ⟨_, rfl⟩
  obtain ⟨i3, he3⟩ : ∃ x, t_e T len i2 = x := ⟨_, rfl⟩
  have hkk : t_k T len i = 1 := by
    by_cases q : t_k T len i = 1
    · exact q
    · unfold t_wx at hwx; rw [if_neg q] at hwx; omega
  have hb0 := t_s_B (T := T) h1
  have hb1 := t_e_B (T := T) h1
  have hb2 := t_e_B (T := T) (len := len) (i := i1) (by omega)
  have hbs1 := t_s_B (T := T) (len := len) (i := i1) (by omega)
  have hb3 := t_e_B (T := T) (len := len) (i := i2) (by omega)
  have hbs2 := t_s_B (T := T) (len := len) (i := i2) (by omega)
  have hbs3 := t_s_B (T := T) (len := len) (i := i3) (by omega)
  have hpI : f ≠ 0 → 0 ≤ p ∧ p < i := hI.2.2.2.2.2.2.1
  have hitI : 0 ≤ it ∧ it ≤ i := hI.2.1
  have hlen := h.1.2.1
  have hftI : -1 ≤ ft ∧ ft ≤ 39 := hI.2.2.2.2.2.2.2.2.1
  have hD0 : D 0 = min 40 it := hI.2.2.1 (by decide)
  refine g_aload_n rfl rfl ?_
  refine g_lload_n rfl rfl ?_
  refine g_iV (as := [tL (7497076)]) mX12_kindBy_ok rfl rfl rfl rfl rfl rfl (by decide) rfl rfl rfl ?_
  refine g_lload_n rfl rfl ?_
  refine g_ldc2 (z := 482854660462) rfl rfl ⟨by decide, by decide⟩ ?_
  refine x_lcmp (v := -1) rfl (by decide) ?_
  refine g_if_ne (tgt := 12) rfl (by decide) (fun _ => ?_) (fun hx => absurd hx (by omega))
  refine g_lload_n rfl rfl ?_
  refine g_ldc2 (z := 26982) rfl rfl ⟨by decide, by decide⟩ ?_
  refine x_lcmp (v := 1) rfl (by decide) ?_
  refine g_if_ne (tgt := 24) rfl (by decide) (fun _ => ?_) (fun hx => absurd hx (by omega))
  refine g_lload_n rfl rfl ?_
  refine g_ldc2 (z := 1786080624) rfl rfl ⟨by decide, by decide⟩ ?_
  refine x_lcmp (v := -1) rfl (by decide) ?_
  refine g_if_ne (tgt := 36) rfl (by decide) (fun _ => ?_) (fun hx => absurd hx (by omega))
  refine g_lload_n rfl rfl ?_
  refine g_ldc2 (z := 1667329132) rfl rfl ⟨by decide, by decide⟩ ?_
  refine x_lcmp (v := -1) rfl (by decide) ?_
  refine g_if_ne (tgt := 48) rfl (by decide) (fun _ => ?_) (fun hx => absurd hx (by omega))
  refine g_lload_n rfl rfl ?_
  refine g_ldc2 (z := 7497076) rfl rfl ⟨by decide, by decide⟩ ?_
  refine x_lcmp (v := 0) rfl (by decide) ?_
  refine g_if_ne (tgt := 60) rfl (by decide) (fun hx => absurd hx (by omega)) (fun _ => ?_)
  refine g_iconst rfl ⟨by decide, by decide⟩ ?_
  refine g_goto (tgt := 86) rfl (by decide) ?_
  refine x_ireturn rfl rfl ?_
  intro _
  refine g_istore rfl rfl rfl ?_
  refine g_lload_n rfl rfl ?_
  refine g_iS (as := [tL (7497076)]) mX12_partBy_ok rfl rfl rfl rfl rfl rfl rfl ?_
  refine g_lload_n rfl rfl ?_
  refine g_ldc2 (z := 1651078259) rfl rfl ⟨by decide, by decide⟩ ?_
  refine x_lcmp (v := -1) rfl (by decide) ?_
  refine g_if_ne (tgt := 12) rfl (by decide) (fun _ => ?_) (fun hx => absurd hx (by omega))
  refine g_lload_n rfl rfl ?_
  refine g_ldc2 (z := 1684366704) rfl rfl ⟨by decide, by decide⟩ ?_
  refine x_lcmp (v := -1) rfl (by decide) ?_
  refine g_if_ne (tgt := 24) rfl (by decide) (fun _ => ?_) (fun hx => absurd hx (by omega))
  refine g_lload_n rfl rfl ?_
  refine g_ldc2 (z := 1937337955) rfl rfl ⟨by decide, by decide⟩ ?_
  refine x_lcmp (v := -1) rfl (by decide) ?_
  refine g_if_ne (tgt := 36) rfl (by decide) (fun _ => ?_) (fun hx => absurd hx (by omega))
  refine g_lload_n rfl rfl ?_
  refine g_ldc2 (z := 1718775661) rfl rfl ⟨by decide, by decide⟩ ?_
  refine x_lcmp (v := -1) rfl (by decide) ?_
  refine g_if_ne (tgt := 48) rfl (by decide) (fun _ => ?_) (fun hx => absurd hx (by omega))
  refine g_lload_n rfl rfl ?_
  refine g_ldc2 (z := 29807) rfl rfl ⟨by decide, by decide⟩ ?_
  refine x_lcmp (v := 1) rfl (by decide) ?_
  refine g_if_ne (tgt := 60) rfl (by decide) (fun _ => ?_) (fun hx => absurd hx (by omega))
  refine g_lload_n rfl rfl ?_
  refine g_ldc2 (z := 1869507705) rfl rfl ⟨by decide, by decide⟩ ?_
  refine x_lcmp (v := -1) rfl (by decide) ?_
  refine g_if_ne (tgt := 73) rfl (by decide) (fun _ => ?_) (fun hx => absurd hx (by omega))
  refine g_lload_n rfl rfl ?_
  refine g_ldc2 (z := 1919905645) rfl rfl ⟨by decide, by decide⟩ ?_
  refine x_lcmp (v := -1) rfl (by decide) ?_
  refine g_if_ne (tgt := 86) rfl (by decide) (fun _ => ?_) (fun hx => absurd hx (by omega))
  refine g_lload_n rfl rfl ?_
  refine g_ldc2 (z := 1918989413) rfl rfl ⟨by decide, by decide⟩ ?_
  refine x_lcmp (v := -1) rfl (by decide) ?_
  refine g_if_ne (tgt := 99) rfl (by decide) (fun _ => ?_) (fun hx => absurd hx (by omega))
  refine g_iconst rfl ⟨by decide, by decide⟩ ?_
  refine x_ireturn rfl rfl ?_
  intro _
  refine g_istore rfl rfl rfl ?_
  refine g_iload rfl rfl ?_
  refine g_iconst rfl ⟨by decide, by decide⟩ ?_
  refine g_icmp_ne (tgt := 38) rfl (by decide) (fun _ => ?_) (fun hx => absurd hx (by omega))
  refine g_iload rfl rfl ?_
  refine g_iconst rfl ⟨by decide, by decide⟩ ?_
  refine g_icmp_eq (tgt := 61) rfl (by decide) (fun hx => absurd hx (by omega)) (fun _ => ?_)
  refine g_aload_n rfl rfl ?_
  refine x_getF (r := 211) hG rfl rfl (by decide) (Or.inr ⟨_, rfl⟩) rfl ?_
  refine g_iconst rfl ⟨by decide, by decide⟩ ?_
  refine x_iald (v := (D 0)) rfl rfl (by decide) (by decide) (by decide) (h.2.2.2.2.2 0 (by decide) (by decide)) ?_
  refine g_bipush rfl ⟨by decide, by decide⟩ (by decide) ?_
  refine g_icmp_ne (tgt := 61) rfl (by decide) (fun h1 => ?_) (fun h1 => ?_)
  · refine g_aload_n rfl rfl ?_
    refine g_cV (as := []) (s_tok9 hG hT (i := i1) ⟨rd_C_m mF_rf h.1, h.2.1, h.2.2.1, h.2.2.2.1, h.2.2.2.2.1, h.2.2.2.2.2⟩ (by omega) (by omega) (ht.1.trans he1)) rfl rfl mX12_token_ok rfl rfl rfl (by decide) rfl rfl rfl ?_
    rintro _ w1 ⟨rfl, htw1, hmw1, hrdw1, hFw1⟩ _
    have heqw1 : t_cnt 0 4 (t_s T len i) (f, p, it, m, ft, D) = (f, p, it + 1, m, ft, D) := t_cnt_b (by decide) (by show ¬ (f = 0 ∧ (40 : Int) ≤ it); omega)
    have hppw1 : f ≠ 0 → p ≤ t_s T len i := fun z => by omega
    have hkbw1 := t_k_b T len i1
    refine g_iload rfl rfl ?_
    refine g_iconst rfl ⟨by decide, by decide⟩ ?_
    refine g_icmp_eq (tgt := 103) rfl (by decide) (fun _ => ?_) (fun hx => absurd hx (by omega))
    refine g_lload_n rfl rfl ?_
    refine g_ldc2 (z := 1836016741) rfl rfl ⟨by decide, by decide⟩ ?_
    refine x_lcmp (v := -1) rfl (by decide) ?_
    refine g_if_ne (tgt := 130) rfl (by decide) (fun _ => ?_) (fun hx => absurd hx (by omega))
    refine g_aload_n rfl rfl ?_
    refine g_iconst rfl ⟨by decide, by decide⟩ ?_
    refine g_puti rfl rfl (by decide) rfl rfl ?_
    refine g_iload rfl rfl ?_
    refine g_iconst rfl ⟨by decide, by decide⟩ ?_
    refine g_iconst rfl ⟨by decide, by decide⟩ ?_
    refine g_iS (as := [tI 4, tI 1, tI 3]) mX12_in_ok rfl rfl rfl rfl rfl rfl rfl ?_
    refine g_iload_n rfl rfl ?_
    refine g_iload_n rfl rfl ?_
    refine g_icmp_lt (tgt := 14) rfl (by decide) (fun hx => absurd hx (by omega)) (fun _ => ?_)
    refine g_iload_n rfl rfl ?_
    refine g_iload_n rfl rfl ?_
    refine g_icmp_gt (tgt := 14) rfl (by decide) (fun _ => ?_) (fun hx => absurd hx (by omega))
    refine g_iconst rfl ⟨by decide, by decide⟩ ?_
    refine x_zreturn rfl rfl (Or.inl rfl) ?_
    intro _
    refine g_if_eq (tgt := 172) rfl (by decide) (fun _ => ?_) (fun hx => absurd hx (by omega))
    refine g_aload_n rfl rfl ?_
    refine x_getF (r := 211) hG rfl rfl (by decide) (Or.inr ⟨_, rfl⟩) rfl ?_
    refine g_iconst rfl ⟨by decide, by decide⟩ ?_
    refine x_iald (v := (D 0)) rfl rfl (by decide) (by decide) (by decide) (by rw [tp_pi_ne (by omega)]; exact (hmw1.2.2.2.2.2 0 (by decide) (by decide))) ?_
    refine g_istore rfl rfl rfl ?_
    refine g_iload rfl rfl ?_
    refine g_bipush rfl ⟨by decide, by decide⟩ (by decide) ?_
    refine g_icmp_ge (tgt := 237) rfl (by decide) (fun hx => absurd hx (by omega)) (fun _ => ?_)
    refine g_aload_n rfl rfl ?_
    refine x_getF (r := 211) hG rfl rfl (by decide) (Or.inr ⟨_, rfl⟩) rfl ?_
    refine g_bipush rfl ⟨by decide, by decide⟩ (by decide) ?_
    refine g_iload rfl rfl ?_
    refine x_iadd (z := (D 0) + 9) rfl (by omega) ⟨by omega, by omega⟩ ?_
    refine g_iload rfl rfl ?_
    refine g_iast rfl rfl (by decide) (by omega) (by omega) ?_
    refine g_aload_n rfl rfl ?_
    refine x_getF (r := 211) hG rfl rfl (by decide) (Or.inr ⟨_, rfl⟩) rfl ?_
    refine g_bipush rfl ⟨by decide, by decide⟩ (by decide) ?_
    refine g_iload rfl rfl ?_
    refine x_iadd (z := (D 0) + 49) rfl (by omega) ⟨by omega, by omega⟩ ?_
    refine g_aload_n rfl rfl ?_
    refine x_geti (v := (-1)) rfl rfl (by decide) (Or.inl rfl) rfl ?_
    refine g_iast rfl rfl (by decide) (by omega) (by omega) ?_
    refine g_aload_n rfl rfl ?_
    refine x_getF (r := 211) hG rfl rfl (by decide) (Or.inr ⟨_, rfl⟩) rfl ?_
    refine g_bipush rfl ⟨by decide, by decide⟩ (by decide) ?_
    refine g_iload rfl rfl ?_
    refine x_iadd (z := (D 0) + 89) rfl (by omega) ⟨by omega, by omega⟩ ?_
    refine g_aload_n rfl rfl ?_
    refine x_geti (v := m) rfl rfl (by decide) (Or.inl rfl) hmw1.2.2.1 ?_
    refine g_iast rfl rfl (by decide) (by omega) (by omega) ?_
    refine g_aload_n rfl rfl ?_
    refine x_getF (r := 211) hG rfl rfl (by decide) (Or.inr ⟨_, rfl⟩) rfl ?_
    refine g_iconst rfl ⟨by decide, by decide⟩ ?_
    refine g_dup2 rfl ?_
    refine x_iald (v := (D 0)) rfl rfl (by decide) (by decide) (by decide) (by rw [tp_pi_ix (by omega), tp_pi_ix (by omega), tp_pi_ix (by omega), tp_pi_ne (by omega)]; exact (hmw1.2.2.2.2.2 0 (by decide) (by decide))) ?_
    refine g_iconst rfl ⟨by decide, by decide⟩ ?_
    refine x_iadd (z := (D 0) + 1) rfl (by omega) ⟨by omega, by omega⟩ ?_
    refine g_iast rfl rfl (by decide) (by decide) (by decide) ?_
    refine g_iconst rfl ⟨by decide, by decide⟩ ?_
    refine x_zreturn rfl rfl (Or.inr rfl) ?_
    rw [l_P]
    refine ⟨(mF_pt (mF_pt (mF_pt (mF_pt (mF_pi (by decide) (mF_tr (mF_tr mF_rf mF_rf) hFw1)))))), Or.inr ⟨rfl, i1, t_tk 4 0 0 (f, p, it + 1, m, ft, D), ⟨by omega, by omega⟩, ⟨htw1.1, htw1.2.1, htw1.2.2.1, htw1.2.2.2.1, htw1.2.2.2.2⟩, ⟨lo, fun z => absurd z (by decide), rd_C_m (mF_pt (mF_pt (mF_pt (mF_pt (mF_pi (by decide) mF_rf))))) hmw1.1, hmw1.2.1, hmw1.2.2.1, hmw1.2.2.2.1, hmw1.2.2.2.2.1, by show ∀ j, 0 ≤ j → j < 129 → _ = t_D 4 (t_rw 4 0) 0 m D j; rw [t_D_a (by decide) (by omega), Int.add_comm 9 (D 0), Int.add_comm 49 (D 0), Int.add_comm 89 (D 0)]; exact (told_u (told_u (told_u (told_u (told_n hmw1.2.2.2.2.2)))))⟩, fun z => ?_, fun z => ?_⟩⟩
    · rw [t_ln_w hwx (by decide), t_l0_0n rfl he1 z]
    · rw [t_ln_w hwx (by decide), t_l0_0y rfl he1 z, heqw1]
  · refine g_aload_n rfl rfl ?_
    refine g_iconst rfl ⟨by decide, by decide⟩ ?_
    refine g_iload_n rfl rfl ?_
    refine g_cV (as := [tI 3, tI (t_s T len i)]) (s_aF9 hG h ht (by omega)) rfl rfl mX12_addsFault_ok rfl rfl rfl (by decide) rfl rfl rfl ?_
    rintro _ w2 ⟨rfl, fw2, pw2, hzaw2, hzbw2, hmw2, htw2, hrdw2, hFw2⟩ _
    have heqw2 : t_cnt 0 4 (t_s T len i) (f, p, it, m, ft, D) = (fw2, pw2, it + 1, m, ft, D) := by
      by_cases u : f = 0
      · rw [t_cnt_a (by decide) ⟨u, by show (40 : Int) ≤ it; omega⟩, (hzaw2 u).1, (hzaw2 u).2]
      · rw [t_cnt_b (by decide) (fun z => u z.1), (hzbw2 u).1, (hzbw2 u).2]
    have hppw2 : fw2 ≠ 0 → pw2 ≤ t_s T len i := fun z => by
      by_cases u : f = 0
      · rw [(hzaw2 u).2]; omega
      · rw [(hzbw2 u).2]; omega
    refine g_aload_n rfl rfl ?_
    refine g_cV (as := []) (s_tok9 hG hT (i := i1) ⟨rd_C_m mF_rf hmw2.1, hmw2.2.1, hmw2.2.2.1, hmw2.2.2.2.1, hmw2.2.2.2.2.1, hmw2.2.2.2.2.2⟩ (by omega) (by omega) (htw2.1.trans he1)) rfl rfl mX12_token_ok rfl rfl rfl (by decide) rfl rfl rfl ?_
    rintro _ w3 ⟨rfl, htw3, hmw3, hrdw3, hFw3⟩ _
    have hkbw3 := t_k_b T len i1
    refine g_iload rfl rfl ?_
    refine g_iconst rfl ⟨by decide, by decide⟩ ?_
    refine g_icmp_eq (tgt := 103) rfl (by decide) (fun _ => ?_) (fun hx => absurd hx (by omega))
    refine g_lload_n rfl rfl ?_
    refine g_ldc2 (z := 1836016741) rfl rfl ⟨by decide, by decide⟩ ?_
    refine x_lcmp (v := -1) rfl (by decide) ?_
    refine g_if_ne (tgt := 130) rfl (by decide) (fun _ => ?_) (fun hx => absurd hx (by omega))
    refine g_aload_n rfl rfl ?_
    refine g_iconst rfl ⟨by decide, by decide⟩ ?_
    refine g_puti rfl rfl (by decide) rfl rfl ?_
    refine g_iload rfl rfl ?_
    refine g_iconst rfl ⟨by decide, by decide⟩ ?_
    refine g_iconst rfl ⟨by decide, by decide⟩ ?_
    refine g_iS (as := [tI 4, tI 1, tI 3]) mX12_in_ok rfl rfl rfl rfl rfl rfl rfl ?_
    refine g_iload_n rfl rfl ?_
    refine g_iload_n rfl rfl ?_
    refine g_icmp_lt (tgt := 14) rfl (by decide) (fun hx => absurd hx (by omega)) (fun _ => ?_)
    refine g_iload_n rfl rfl ?_
    refine g_iload_n rfl rfl ?_
    refine g_icmp_gt (tgt := 14) rfl (by decide) (fun _ => ?_) (fun hx => absurd hx (by omega))
    refine g_iconst rfl ⟨by decide, by decide⟩ ?_
    refine x_zreturn rfl rfl (Or.inl rfl) ?_
    intro _
    refine g_if_eq (tgt := 172) rfl (by decide) (fun _ => ?_) (fun hx => absurd hx (by omega))
    refine g_aload_n rfl rfl ?_
    refine x_getF (r := 211) hG rfl rfl (by decide) (Or.inr ⟨_, rfl⟩) rfl ?_
    refine g_iconst rfl ⟨by decide, by decide⟩ ?_
    refine x_iald (v := (D 0)) rfl rfl (by decide) (by decide) (by decide) (by rw [tp_pi_ne (by omega)]; exact (hmw3.2.2.2.2.2 0 (by decide) (by decide))) ?_
    refine g_istore rfl rfl rfl ?_
    refine g_iload rfl rfl ?_
    refine g_bipush rfl ⟨by decide, by decide⟩ (by decide) ?_
    refine g_icmp_ge (tgt := 237) rfl (by decide) (fun _ => ?_) (fun hx => absurd hx (by omega))
    refine g_iconst rfl ⟨by decide, by decide⟩ ?_
    refine x_zreturn rfl rfl (Or.inr rfl) ?_
    rw [l_P]
    refine ⟨(mF_pi (by decide) (mF_tr (mF_tr (mF_tr mF_rf hFw2) mF_rf) hFw3)), Or.inr ⟨rfl, i1, t_tk 4 0 0 (fw2, pw2, it + 1, m, ft, D), ⟨by omega, by omega⟩, ⟨htw3.1, htw3.2.1, htw3.2.2.1, htw3.2.2.2.1, htw3.2.2.2.2⟩, ⟨lo, fun z => absurd z (by decide), rd_C_m (mF_pi (by decide) mF_rf) hmw3.1, hmw3.2.1, hmw3.2.2.1, hmw3.2.2.2.1, hmw3.2.2.2.2.1, by show ∀ j, 0 ≤ j → j < 129 → _ = t_D 4 (t_rw 4 0) 0 m D j; rw [show t_D 4 (t_rw 4 0) 0 m D = D by unfold t_D; rw [if_pos (by decide), if_neg (by omega)]]; exact (told_n hmw3.2.2.2.2.2)⟩, fun z => ?_, fun z => ?_⟩⟩
    · rw [t_ln_w hwx (by decide), t_l0_0n rfl he1 z]
    · rw [t_ln_w hwx (by decide), t_l0_0y rfl he1 z, heqw2]
set_option maxHeartbeats 4000000 in
set_option maxRecDepth 100000 in
theorem s_li5 {G : tp_G} {μ : tp_M} (hG : tp_Gf G = true) {T : Int → Int} {len i f p it m ft lo : Int} {D : Int → Int} (hT : ∀ j, 0 ≤ T j ∧ T j ≤ 255) (h0 : 0 ≤ i) (h1 : i ≤ len) (h : ms T len f p m ft lo D μ) (ht : rtk T len i μ) (hI : t_I 0 i (f, p, it, m, ft, D)) (hlo : (0 : Int) = 2 → lo = min 12 it) (hwx : t_wx 0 T len i = 5) : tp_k G mX12_codeLine [tR (some 201), tL (7760225), tI (t_s T len i)] μ (fun r μ' => l_P 0 T len i (f, p, it, m, ft, D) μ r μ') := by
  refine tp_ok_of mX12_codeLine_ok rfl (Nat.le_refl _) ?_
  obtain ⟨i1, he1⟩ : ∃ x, t_e T len i = x := ⟨_, rfl⟩
  obtain ⟨i2, he2⟩ : ∃ x, t_e T len i1 = x := ⟨_, rfl⟩
  obtain ⟨i3, he3⟩ : ∃ x, t_e T len i2 = x := ⟨_, rfl⟩
  have hkk : t_k T len i = 1 := by
    by_cases q : t_k T len i = 1
    · exact q
    · unfold t_wx at hwx; rw [if_neg q] at hwx; omega
  have hb0 := t_s_B (T := T) h1
  have hb1 := t_e_B (T := T) h1
  have hb2 := t_e_B (T := T) (len := len) (i := i1) (by omega)
  have hbs1 := t_s_B (T := T) (len := len) (i := i1) (by omega)
  have hb3 := t_e_B (T := T) (len := len) (i := i2) (by omega)
  have hbs2 := t_s_B (T := T) (len := len) (i := i2) (by omega)
  have hbs3 := t_s_B (T := T) (len := len) (i := i3) (by omega)
  have hpI : f ≠ 0 → 0 ≤ p ∧ p < i := hI.2.2.2.2.2.2.1
  have hitI : 0 ≤ it ∧ it ≤ i := hI.2.1
  have hlen := h.1.2.1
  have hftI : -1 ≤ ft ∧ ft ≤ 39 := hI.2.2.2.2.2.2.2.2.1
  have hD0 : D 0 = min 40 it := hI.2.2.1 (by decide)
  refine g_aload_n rfl rfl ?_
  refine g_lload_n rfl rfl ?_
  refine g_iV (as := [tL (7760225)]) mX12_kindBy_ok rfl rfl rfl rfl rfl rfl (by decide) rfl rfl rfl ?_
  refine g_lload_n rfl rfl ?_
  refine g_ldc2 (z := 482854660462) rfl rfl ⟨by decide, by decide⟩ ?_
  refine x_lcmp (v := -1) rfl (by decide) ?_
  refine g_if_ne (tgt := 12) rfl (by decide) (fun _ => ?_) (fun hx => absurd hx (by omega))
  refine g_lload_n rfl rfl ?_
  refine g_ldc2 (z := 26982) rfl rfl ⟨by decide, by decide⟩ ?_
  refine x_lcmp (v := 1) rfl (by decide) ?_
  refine g_if_ne (tgt := 24) rfl (by decide) (fun _ => ?_) (fun hx => absurd hx (by omega))
  refine g_lload_n rfl rfl ?_
  refine g_ldc2 (z := 1786080624) rfl rfl ⟨by decide, by decide⟩ ?_
  refine x_lcmp (v := -1) rfl (by decide) ?_
  refine g_if_ne (tgt := 36) rfl (by decide) (fun _ => ?_) (fun hx => absurd hx (by omega))
  refine g_lload_n rfl rfl ?_
  refine g_ldc2 (z := 1667329132) rfl rfl ⟨by decide, by decide⟩ ?_
  refine x_lcmp (v := -1) rfl (by decide) ?_
  refine g_if_ne (tgt := 48) rfl (by decide) (fun _ => ?_) (fun hx => absurd hx (by omega))
  refine g_lload_n rfl rfl ?_
  refine g_ldc2 (z := 7497076) rfl rfl ⟨by decide, by decide⟩ ?_
  refine x_lcmp (v := 1) rfl (by decide) ?_
  refine g_if_ne (tgt := 60) rfl (by decide) (fun _ => ?_) (fun hx => absurd hx (by omega))
  refine g_lload_n rfl rfl ?_
  refine g_ldc2 (z := 7760225) rfl rfl ⟨by decide, by decide⟩ ?_
  refine x_lcmp (v := 0) rfl (by decide) ?_
  refine g_if_ne (tgt := 72) rfl (by decide) (fun hx => absurd hx (by omega)) (fun _ => ?_)
  refine g_iconst rfl ⟨by decide, by decide⟩ ?_
  refine g_goto (tgt := 86) rfl (by decide) ?_
  refine x_ireturn rfl rfl ?_
  intro _
  refine g_istore rfl rfl rfl ?_
  refine g_lload_n rfl rfl ?_
  refine g_iS (as := [tL (7760225)]) mX12_partBy_ok rfl rfl rfl rfl rfl rfl rfl ?_
  refine g_lload_n rfl rfl ?_
  refine g_ldc2 (z := 1651078259) rfl rfl ⟨by decide, by decide⟩ ?_
  refine x_lcmp (v := -1) rfl (by decide) ?_
  refine g_if_ne (tgt := 12) rfl (by decide) (fun _ => ?_) (fun hx => absurd hx (by omega))
  refine g_lload_n rfl rfl ?_
  refine g_ldc2 (z := 1684366704) rfl rfl ⟨by decide, by decide⟩ ?_
  refine x_lcmp (v := -1) rfl (by decide) ?_
  refine g_if_ne (tgt := 24) rfl (by decide) (fun _ => ?_) (fun hx => absurd hx (by omega))
  refine g_lload_n rfl rfl ?_
  refine g_ldc2 (z := 1937337955) rfl rfl ⟨by decide, by decide⟩ ?_
  refine x_lcmp (v := -1) rfl (by decide) ?_
  refine g_if_ne (tgt := 36) rfl (by decide) (fun _ => ?_) (fun hx => absurd hx (by omega))
  refine g_lload_n rfl rfl ?_
  refine g_ldc2 (z := 1718775661) rfl rfl ⟨by decide, by decide⟩ ?_
  refine x_lcmp (v := -1) rfl (by decide) ?_
  refine g_if_ne (tgt := 48) rfl (by decide) (fun _ => ?_) (fun hx => absurd hx (by omega))
  refine g_lload_n rfl rfl ?_
  refine g_ldc2 (z := 29807) rfl rfl ⟨by decide, by decide⟩ ?_
  refine x_lcmp (v := 1) rfl (by decide) ?_
  refine g_if_ne (tgt := 60) rfl (by decide) (fun _ => ?_) (fun hx => absurd hx (by omega))
  refine g_lload_n rfl rfl ?_
  refine g_ldc2 (z := 1869507705) rfl rfl ⟨by decide, by decide⟩ ?_
  refine x_lcmp (v := -1) rfl (by decide) ?_
  refine g_if_ne (tgt := 73) rfl (by decide) (fun _ => ?_) (fun hx => absurd hx (by omega))
  refine g_lload_n rfl rfl ?_
  refine g_ldc2 (z := 1919905645) rfl rfl ⟨by decide, by decide⟩ ?_
  refine x_lcmp (v := -1) rfl (by decide) ?_
  refine g_if_ne (tgt := 86) rfl (by decide) (fun _ => ?_) (fun hx => absurd hx (by omega))
  refine g_lload_n rfl rfl ?_
  refine g_ldc2 (z := 1918989413) rfl rfl ⟨by decide, by decide⟩ ?_
  refine x_lcmp (v := -1) rfl (by decide) ?_
  refine g_if_ne (tgt := 99) rfl (by decide) (fun _ => ?_) (fun hx => absurd hx (by omega))
  refine g_iconst rfl ⟨by decide, by decide⟩ ?_
  refine x_ireturn rfl rfl ?_
  intro _
  refine g_istore rfl rfl rfl ?_
  refine g_iload rfl rfl ?_
  refine g_iconst rfl ⟨by decide, by decide⟩ ?_
  refine g_icmp_ne (tgt := 38) rfl (by decide) (fun _ => ?_) (fun hx => absurd hx (by omega))
  refine g_iload rfl rfl ?_
  refine g_iconst rfl ⟨by decide, by decide⟩ ?_
  refine g_icmp_eq (tgt := 61) rfl (by decide) (fun hx => absurd hx (by omega)) (fun _ => ?_)
  refine g_aload_n rfl rfl ?_
  refine x_getF (r := 211) hG rfl rfl (by decide) (Or.inr ⟨_, rfl⟩) rfl ?_
  refine g_iconst rfl ⟨by decide, by decide⟩ ?_
  refine x_iald (v := (D 0)) rfl rfl (by decide) (by decide) (by decide) (h.2.2.2.2.2 0 (by decide) (by decide)) ?_
  refine g_bipush rfl ⟨by decide, by decide⟩ (by decide) ?_
  refine g_icmp_ne (tgt := 61) rfl (by decide) (fun h1 => ?_) (fun h1 => ?_)
  · refine g_aload_n rfl rfl ?_
    refine g_cV (as := []) (s_tok9 hG hT (i := i1) ⟨rd_C_m mF_rf h.1, h.2.1, h.2.2.1, h.2.2.2.1, h.2.2.2.2.1, h.2.2.2.2.2⟩ (by omega) (by omega) (ht.1.trans he1)) rfl rfl mX12_token_ok rfl rfl rfl (by decide) rfl rfl rfl ?_
    rintro _ w1 ⟨rfl, htw1, hmw1, hrdw1, hFw1⟩ _
    have heqw1 : t_cnt 0 5 (t_s T len i) (f, p, it, m, ft, D) = (f, p, it + 1, m, ft, D) := t_cnt_b (by decide) (by show ¬ (f = 0 ∧ (40 : Int) ≤ it); omega)
    have hppw1 : f ≠ 0 → p ≤ t_s T len i := fun z => by omega
    have hkbw1 := t_k_b T len i1
    refine g_iload rfl rfl ?_
    refine g_iconst rfl ⟨by decide, by decide⟩ ?_
    refine g_icmp_eq (tgt := 103) rfl (by decide) (fun _ => ?_) (fun hx => absurd hx (by omega))
    refine g_lload_n rfl rfl ?_
    refine g_ldc2 (z := 1836016741) rfl rfl ⟨by decide, by decide⟩ ?_
    refine x_lcmp (v := -1) rfl (by decide) ?_
    refine g_if_ne (tgt := 130) rfl (by decide) (fun _ => ?_) (fun hx => absurd hx (by omega))
    refine g_aload_n rfl rfl ?_
    refine g_iconst rfl ⟨by decide, by decide⟩ ?_
    refine g_puti rfl rfl (by decide) rfl rfl ?_
    refine g_iload rfl rfl ?_
    refine g_iconst rfl ⟨by decide, by decide⟩ ?_
    refine g_iconst rfl ⟨by decide, by decide⟩ ?_
    refine g_iS (as := [tI 5, tI 1, tI 3]) mX12_in_ok rfl rfl rfl rfl rfl rfl rfl ?_
    refine g_iload_n rfl rfl ?_
    refine g_iload_n rfl rfl ?_
    refine g_icmp_lt (tgt := 14) rfl (by decide) (fun hx => absurd hx (by omega)) (fun _ => ?_)
    refine g_iload_n rfl rfl ?_
    refine g_iload_n rfl rfl ?_
    refine g_icmp_gt (tgt := 14) rfl (by decide) (fun _ => ?_) (fun hx => absurd hx (by omega))
    refine g_iconst rfl ⟨by decide, by decide⟩ ?_
    refine x_zreturn rfl rfl (Or.inl rfl) ?_
    intro _
    refine g_if_eq (tgt := 172) rfl (by decide) (fun _ => ?_) (fun hx => absurd hx (by omega))
    refine g_aload_n rfl rfl ?_
    refine x_getF (r := 211) hG rfl rfl (by decide) (Or.inr ⟨_, rfl⟩) rfl ?_
    refine g_iconst rfl ⟨by decide, by decide⟩ ?_
    refine x_iald (v := (D 0)) rfl rfl (by decide) (by decide) (by decide) (by rw [tp_pi_ne (by omega)]; exact (hmw1.2.2.2.2.2 0 (by decide) (by decide))) ?_
    refine g_istore rfl rfl rfl ?_
    refine g_iload rfl rfl ?_
    refine g_bipush rfl ⟨by decide, by decide⟩ (by decide) ?_
    refine g_icmp_ge (tgt := 237) rfl (by decide) (fun hx => absurd hx (by omega)) (fun _ => ?_)
    refine g_aload_n rfl rfl ?_
    refine x_getF (r := 211) hG rfl rfl (by decide) (Or.inr ⟨_, rfl⟩) rfl ?_
    refine g_bipush rfl ⟨by decide, by decide⟩ (by decide) ?_
    refine g_iload rfl rfl ?_
    refine x_iadd (z := (D 0) + 9) rfl (by omega) ⟨by omega, by omega⟩ ?_
    refine g_iload rfl rfl ?_
    refine g_iast rfl rfl (by decide) (by omega) (by omega) ?_
    refine g_aload_n rfl rfl ?_
    refine x_getF (r := 211) hG rfl rfl (by decide) (Or.inr ⟨_, rfl⟩) rfl ?_
    refine g_bipush rfl ⟨by decide, by decide⟩ (by decide) ?_
    refine g_iload rfl rfl ?_
    refine x_iadd (z := (D 0) + 49) rfl (by omega) ⟨by omega, by omega⟩ ?_
    refine g_aload_n rfl rfl ?_
    refine x_geti (v := (-1)) rfl rfl (by decide) (Or.inl rfl) rfl ?_
    refine g_iast rfl rfl (by decide) (by omega) (by omega) ?_
    refine g_aload_n rfl rfl ?_
    refine x_getF (r := 211) hG rfl rfl (by decide) (Or.inr ⟨_, rfl⟩) rfl ?_
    refine g_bipush rfl ⟨by decide, by decide⟩ (by decide) ?_
    refine g_iload rfl rfl ?_
    refine x_iadd (z := (D 0) + 89) rfl (by omega) ⟨by omega, by omega⟩ ?_
    refine g_aload_n rfl rfl ?_
    refine x_geti (v := m) rfl rfl (by decide) (Or.inl rfl) hmw1.2.2.1 ?_
    refine g_iast rfl rfl (by decide) (by omega) (by omega) ?_
    refine g_aload_n rfl rfl ?_
    refine x_getF (r := 211) hG rfl rfl (by decide) (Or.inr ⟨_, rfl⟩) rfl ?_
    refine g_iconst rfl ⟨by decide, by decide⟩ ?_
    refine g_dup2 rfl ?_
    refine x_iald (v := (D 0)) rfl rfl (by decide) (by decide) (by decide) (by rw [tp_pi_ix (by omega), tp_pi_ix (by omega), tp_pi_ix (by omega), tp_pi_ne (by omega)]; exact (hmw1.2.2.2.2.2 0 (by decide) (by decide))) ?_
    refine g_iconst rfl ⟨by decide, by decide⟩ ?_
    refine x_iadd (z := (D 0) + 1) rfl (by omega) ⟨by omega, by omega⟩ ?_
    refine g_iast rfl rfl (by decide) (by decide) (by decide) ?_
    refine g_iconst rfl ⟨by decide, by decide⟩ ?_
    refine x_zreturn rfl rfl (Or.inr rfl) ?_
    rw [l_P]
    refine ⟨(mF_pt (mF_pt (mF_pt (mF_pt (mF_pi (by decide) (mF_tr (mF_tr mF_rf mF_rf) hFw1)))))), Or.inr ⟨rfl, i1, t_tk 5 0 0 (f, p, it + 1, m, ft, D), ⟨by omega, by omega⟩, ⟨htw1.1, htw1.2.1, htw1.2.2.1, htw1.2.2.2.1, htw1.2.2.2.2⟩, ⟨lo, fun z => absurd z (by decide), rd_C_m (mF_pt (mF_pt (mF_pt (mF_pt (mF_pi (by decide) mF_rf))))) hmw1.1, hmw1.2.1, hmw1.2.2.1, hmw1.2.2.2.1, hmw1.2.2.2.2.1, by show ∀ j, 0 ≤ j → j < 129 → _ = t_D 5 (t_rw 5 0) 0 m D j; rw [t_D_a (by decide) (by omega), Int.add_comm 9 (D 0), Int.add_comm 49 (D 0), Int.add_comm 89 (D 0)]; exact (told_u (told_u (told_u (told_u (told_n hmw1.2.2.2.2.2)))))⟩, fun z => ?_, fun z => ?_⟩⟩
    · rw [t_ln_w hwx (by decide), t_l0_0n rfl he1 z]
    · rw [t_ln_w hwx (by decide), t_l0_0y rfl he1 z, heqw1]
  · refine g_aload_n rfl rfl ?_
    refine g_iconst rfl ⟨by decide, by decide⟩ ?_
    refine g_iload_n rfl rfl ?_
    refine g_cV (as := [tI 3, tI (t_s T len i)]) (s_aF9 hG h ht (by omega)) rfl rfl mX12_addsFault_ok rfl rfl rfl (by decide) rfl rfl rfl ?_
    rintro _ w2 ⟨rfl, fw2, pw2, hzaw2, hzbw2, hmw2, htw2, hrdw2, hFw2⟩ _
    have heqw2 : t_cnt 0 5 (t_s T len i) (f, p, it, m, ft, D) = (fw2, pw2, it + 1, m, ft, D) := by
      by_cases u : f = 0
      · rw [t_cnt_a (by decide) ⟨u, by show (40 : Int) ≤ it; omega⟩, (hzaw2 u).1, (hzaw2 u).2]
      · rw [t_cnt_b (by decide) (fun z => u z.1), (hzbw2 u).1, (hzbw2 u).2]
    have hppw2 : fw2 ≠ 0 → pw2 ≤ t_s T len i := fun z => by
      by_cases u : f = 0
      · rw [(hzaw2 u).2]; omega
      · rw [(hzbw2 u).2]; omega
    refine g_aload_n rfl rfl ?_
    refine g_cV (as := []) (s_tok9 hG hT (i := i1) ⟨rd_C_m mF_rf hmw2.1, hmw2.2.1, hmw2.2.2.1, hmw2.2.2.2.1, hmw2.2.2.2.2.1, hmw2.2.2.2.2.2⟩ (by omega) (by omega) (htw2.1.trans he1)) rfl rfl mX12_token_ok rfl rfl rfl (by decide) rfl rfl rfl ?_
    rintro _ w3 ⟨rfl, htw3, hmw3, hrdw3, hFw3⟩ _
    have hkbw3 := t_k_b T len i1
    refine g_iload rfl rfl ?_
    refine g_iconst rfl ⟨by decide, by decide⟩ ?_
    refine g_icmp_eq (tgt := 103) rfl (by decide) (fun _ => ?_) (fun hx => absurd hx (by omega))
    refine g_lload_n rfl rfl ?_
    refine g_ldc2 (z := 1836016741) rfl rfl ⟨by decide, by decide⟩ ?_
    refine x_lcmp (v := -1) rfl (by decide) ?_
    refine g_if_ne (tgt := 130) rfl (by decide) (fun _ => ?_) (fun hx => absurd hx (by omega))
    refine g_aload_n rfl rfl ?_
    refine g_iconst rfl ⟨by decide, by decide⟩ ?_
    refine g_puti rfl rfl (by decide) rfl rfl ?_
    refine g_iload rfl rfl ?_
    refine g_iconst rfl ⟨by decide, by decide⟩ ?_
    refine g_iconst rfl ⟨by decide, by decide⟩ ?_
    refine g_iS (as := [tI 5, tI 1, tI 3]) mX12_in_ok rfl rfl rfl rfl rfl rfl rfl ?_
    refine g_iload_n rfl rfl ?_
    refine g_iload_n rfl rfl ?_
    refine g_icmp_lt (tgt := 14) rfl (by decide) (fun hx => absurd hx (by omega)) (fun _ => ?_)
    refine g_iload_n rfl rfl ?_
    refine g_iload_n rfl rfl ?_
    refine g_icmp_gt (tgt := 14) rfl (by decide) (fun _ => ?_) (fun hx => absurd hx (by omega))
    refine g_iconst rfl ⟨by decide, by decide⟩ ?_
    refine x_zreturn rfl rfl (Or.inl rfl) ?_
    intro _
    refine g_if_eq (tgt := 172) rfl (by decide) (fun _ => ?_) (fun hx => absurd hx (by omega))
    refine g_aload_n rfl rfl ?_
    refine x_getF (r := 211) hG rfl rfl (by decide) (Or.inr ⟨_, rfl⟩) rfl ?_
    refine g_iconst rfl ⟨by decide, by decide⟩ ?_
    refine x_iald (v := (D 0)) rfl rfl (by decide) (by decide) (by decide) (by rw [tp_pi_ne (by omega)]; exact (hmw3.2.2.2.2.2 0 (by decide) (by decide))) ?_
    refine g_istore rfl rfl rfl ?_
    refine g_iload rfl rfl ?_
    refine g_bipush rfl ⟨by decide, by decide⟩ (by decide) ?_
    refine g_icmp_ge (tgt := 237) rfl (by decide) (fun _ => ?_) (fun hx => absurd hx (by omega))
    refine g_iconst rfl ⟨by decide, by decide⟩ ?_
    refine x_zreturn rfl rfl (Or.inr rfl) ?_
    rw [l_P]
    refine ⟨(mF_pi (by decide) (mF_tr (mF_tr (mF_tr mF_rf hFw2) mF_rf) hFw3)), Or.inr ⟨rfl, i1, t_tk 5 0 0 (fw2, pw2, it + 1, m, ft, D), ⟨by omega, by omega⟩, ⟨htw3.1, htw3.2.1, htw3.2.2.1, htw3.2.2.2.1, htw3.2.2.2.2⟩, ⟨lo, fun z => absurd z (by decide), rd_C_m (mF_pi (by decide) mF_rf) hmw3.1, hmw3.2.1, hmw3.2.2.1, hmw3.2.2.2.1, hmw3.2.2.2.2.1, by show ∀ j, 0 ≤ j → j < 129 → _ = t_D 5 (t_rw 5 0) 0 m D j; rw [show t_D 5 (t_rw 5 0) 0 m D = D by unfold t_D; rw [if_pos (by decide), if_neg (by omega)]]; exact (told_n hmw3.2.2.2.2.2)⟩, fun z => ?_, fun z => ?_⟩⟩
    · rw [t_ln_w hwx (by decide), t_l0_0n rfl he1 z]
    · rw [t_ln_w hwx (by decide), t_l0_0y rfl he1 z, heqw2]
set_option maxHeartbeats 4000000 in
set_option maxRecDepth 100000 in
theorem s_li6 {G : tp_G} {μ : tp_M} (hG : tp_Gf G = true) {T : Int → Int} {len i f p it m ft lo : Int} {D : Int → Int} (hT : ∀ j, 0 ≤ T j ∧ T j ≤ 255) (h0 : 0 ≤ i) (h1 : i ≤ len) (h : ms T len f p m ft lo D μ) (ht : rtk T len i μ) (hI : t_I 0 i (f, p, it, m, ft, D)) (hlo : (0 : Int) = 2 → lo = min 12 it) (hwx : t_wx 0 T len i = 6) : tp_k G mX12_codeLine [tR (some 201), tL (1937010544), tI (t_s T len i)] μ (fun r μ' => l_P 0 T len i (f, p, it, m, ft, D) μ r μ') := by
  refine tp_ok_of mX12_codeLine_ok rfl (Nat.le_refl _) ?_
  obtain ⟨i1, he1⟩ : ∃ x, t_e T len i = x := ⟨_, rfl⟩
  obtain ⟨i2, he2⟩ : ∃ x, t_e T len i1 = x := ⟨_, rfl⟩
  obtain ⟨i3, he3⟩ : ∃ x, t_e T len i2 = x := ⟨_, rfl⟩
  have hkk : t_k T len i = 1 := by
    by_cases q : t_k T len i = 1
    · exact q
    · unfold t_wx at hwx; rw [if_neg q] at hwx; omega
  have hb0 := t_s_B (T := T) h1
  have hb1 := t_e_B (T := T) h1
  have hb2 := t_e_B (T := T) (len := len) (i := i1) (by omega)
  have hbs1 := t_s_B (T := T) (len := len) (i := i1) (by omega)
  have hb3 := t_e_B (T := T) (len := len) (i := i2) (by omega)
  have hbs2 := t_s_B (T := T) (len := len) (i := i2) (by omega)
  have hbs3 := t_s_B (T := T) (len := len) (i := i3) (by omega)
  have hpI : f ≠ 0 → 0 ≤ p ∧ p < i := hI.2.2.2.2.2.2.1
  have hitI : 0 ≤ it ∧ it ≤ i := hI.2.1
  have hlen := h.1.2.1
  have hftI : -1 ≤ ft ∧ ft ≤ 39 := hI.2.2.2.2.2.2.2.2.1
  have hD0 : D 0 = min 40 it := hI.2.2.1 (by decide)
  refine g_aload_n rfl rfl ?_
  refine g_lload_n rfl rfl ?_
  refine g_iV (as := [tL (1937010544)]) mX12_kindBy_ok rfl rfl rfl rfl rfl rfl (by decide) rfl rfl rfl ?_
  refine g_lload_n rfl rfl ?_
  refine g_ldc2 (z := 482854660462) rfl rfl ⟨by decide, by decide⟩ ?_
  refine x_lcmp (v := -1) rfl (by decide) ?_
  refine g_if_ne (tgt := 12) rfl (by decide) (fun _ => ?_) (fun hx => absurd hx (by omega))
  refine g_lload_n rfl rfl ?_
  refine g_ldc2 (z := 26982) rfl rfl ⟨by decide, by decide⟩ ?_
  refine x_lcmp (v := 1) rfl (by decide) ?_
  refine g_if_ne (tgt := 24) rfl (by decide) (fun _ => ?_) (fun hx => absurd hx (by omega))
  refine g_lload_n rfl rfl ?_
  refine g_ldc2 (z := 1786080624) rfl rfl ⟨by decide, by decide⟩ ?_
  refine x_lcmp (v := 1) rfl (by decide) ?_
  refine g_if_ne (tgt := 36) rfl (by decide) (fun _ => ?_) (fun hx => absurd hx (by omega))
  refine g_lload_n rfl rfl ?_
  refine g_ldc2 (z := 1667329132) rfl rfl ⟨by decide, by decide⟩ ?_
  refine x_lcmp (v := 1) rfl (by decide) ?_
  refine g_if_ne (tgt := 48) rfl (by decide) (fun _ => ?_) (fun hx => absurd hx (by omega))
  refine g_lload_n rfl rfl ?_
  refine g_ldc2 (z := 7497076) rfl rfl ⟨by decide, by decide⟩ ?_
  refine x_lcmp (v := 1) rfl (by decide) ?_
  refine g_if_ne (tgt := 60) rfl (by decide) (fun _ => ?_) (fun hx => absurd hx (by omega))
  refine g_lload_n rfl rfl ?_
  refine g_ldc2 (z := 7760225) rfl rfl ⟨by decide, by decide⟩ ?_
  refine x_lcmp (v := 1) rfl (by decide) ?_
  refine g_if_ne (tgt := 72) rfl (by decide) (fun _ => ?_) (fun hx => absurd hx (by omega))
  refine g_lload_n rfl rfl ?_
  refine g_ldc2 (z := 1937010544) rfl rfl ⟨by decide, by decide⟩ ?_
  refine x_lcmp (v := 0) rfl (by decide) ?_
  refine g_if_ne (tgt := 85) rfl (by decide) (fun hx => absurd hx (by omega)) (fun _ => ?_)
  refine g_bipush rfl ⟨by decide, by decide⟩ (by decide) ?_
  refine g_goto (tgt := 86) rfl (by decide) ?_
  refine x_ireturn rfl rfl ?_
  intro _
  refine g_istore rfl rfl rfl ?_
  refine g_lload_n rfl rfl ?_
  refine g_iS (as := [tL (1937010544)]) mX12_partBy_ok rfl rfl rfl rfl rfl rfl rfl ?_
  refine g_lload_n rfl rfl ?_
  refine g_ldc2 (z := 1651078259) rfl rfl ⟨by decide, by decide⟩ ?_
  refine x_lcmp (v := 1) rfl (by decide) ?_
  refine g_if_ne (tgt := 12) rfl (by decide) (fun _ => ?_) (fun hx => absurd hx (by omega))
  refine g_lload_n rfl rfl ?_
  refine g_ldc2 (z := 1684366704) rfl rfl ⟨by decide, by decide⟩ ?_
  refine x_lcmp (v := 1) rfl (by decide) ?_
  refine g_if_ne (tgt := 24) rfl (by decide) (fun _ => ?_) (fun hx => absurd hx (by omega))
  refine g_lload_n rfl rfl ?_
  refine g_ldc2 (z := 1937337955) rfl rfl ⟨by decide, by decide⟩ ?_
  refine x_lcmp (v := -1) rfl (by decide) ?_
  refine g_if_ne (tgt := 36) rfl (by decide) (fun _ => ?_) (fun hx => absurd hx (by omega))
  refine g_lload_n rfl rfl ?_
  refine g_ldc2 (z := 1718775661) rfl rfl ⟨by decide, by decide⟩ ?_
  refine x_lcmp (v := 1) rfl (by decide) ?_
  refine g_if_ne (tgt := 48) rfl (by decide) (fun _ => ?_) (fun hx => absurd hx (by omega))
  refine g_lload_n rfl rfl ?_
  refine g_ldc2 (z := 29807) rfl rfl ⟨by decide, by decide⟩ ?_
  refine x_lcmp (v := 1) rfl (by decide) ?_
  refine g_if_ne (tgt := 60) rfl (by decide) (fun _ => ?_) (fun hx => absurd hx (by omega))
  refine g_lload_n rfl rfl ?_
  refine g_ldc2 (z := 1869507705) rfl rfl ⟨by decide, by decide⟩ ?_
  refine x_lcmp (v := 1) rfl (by decide) ?_
  refine g_if_ne (tgt := 73) rfl (by decide) (fun _ => ?_) (fun hx => absurd hx (by omega))
  refine g_lload_n rfl rfl ?_
  refine g_ldc2 (z := 1919905645) rfl rfl ⟨by decide, by decide⟩ ?_
  refine x_lcmp (v := 1) rfl (by decide) ?_
  refine g_if_ne (tgt := 86) rfl (by decide) (fun _ => ?_) (fun hx => absurd hx (by omega))
  refine g_lload_n rfl rfl ?_
  refine g_ldc2 (z := 1918989413) rfl rfl ⟨by decide, by decide⟩ ?_
  refine x_lcmp (v := 1) rfl (by decide) ?_
  refine g_if_ne (tgt := 99) rfl (by decide) (fun _ => ?_) (fun hx => absurd hx (by omega))
  refine g_iconst rfl ⟨by decide, by decide⟩ ?_
  refine x_ireturn rfl rfl ?_
  intro _
  refine g_istore rfl rfl rfl ?_
  refine g_iload rfl rfl ?_
  refine g_iconst rfl ⟨by decide, by decide⟩ ?_
  refine g_icmp_ne (tgt := 38) rfl (by decide) (fun _ => ?_) (fun hx => absurd hx (by omega))
  refine g_iload rfl rfl ?_
  refine g_iconst rfl ⟨by decide, by decide⟩ ?_
  refine g_icmp_eq (tgt := 61) rfl (by decide) (fun hx => absurd hx (by omega)) (fun _ => ?_)
  refine g_aload_n rfl rfl ?_
  refine x_getF (r := 211) hG rfl rfl (by decide) (Or.inr ⟨_, rfl⟩) rfl ?_
  refine g_iconst rfl ⟨by decide, by decide⟩ ?_
  refine x_iald (v := (D 0)) rfl rfl (by decide) (by decide) (by decide) (h.2.2.2.2.2 0 (by decide) (by decide)) ?_
  refine g_bipush rfl ⟨by decide, by decide⟩ (by decide) ?_
  refine g_icmp_ne (tgt := 61) rfl (by decide) (fun h1 => ?_) (fun h1 => ?_)
  · refine g_aload_n rfl rfl ?_
    refine g_cV (as := []) (s_tok9 hG hT (i := i1) ⟨rd_C_m mF_rf h.1, h.2.1, h.2.2.1, h.2.2.2.1, h.2.2.2.2.1, h.2.2.2.2.2⟩ (by omega) (by omega) (ht.1.trans he1)) rfl rfl mX12_token_ok rfl rfl rfl (by decide) rfl rfl rfl ?_
    rintro _ w1 ⟨rfl, htw1, hmw1, hrdw1, hFw1⟩ _
    have heqw1 : t_cnt 0 6 (t_s T len i) (f, p, it, m, ft, D) = (f, p, it + 1, m, ft, D) := t_cnt_b (by decide) (by show ¬ (f = 0 ∧ (40 : Int) ≤ it); omega)
    have hppw1 : f ≠ 0 → p ≤ t_s T len i := fun z => by omega
    have hkbw1 := t_k_b T len i1
    refine g_iload rfl rfl ?_
    refine g_iconst rfl ⟨by decide, by decide⟩ ?_
    refine g_icmp_eq (tgt := 103) rfl (by decide) (fun _ => ?_) (fun hx => absurd hx (by omega))
    refine g_lload_n rfl rfl ?_
    refine g_ldc2 (z := 1836016741) rfl rfl ⟨by decide, by decide⟩ ?_
    refine x_lcmp (v := 1) rfl (by decide) ?_
    refine g_if_ne (tgt := 130) rfl (by decide) (fun _ => ?_) (fun hx => absurd hx (by omega))
    refine g_aload_n rfl rfl ?_
    refine g_iconst rfl ⟨by decide, by decide⟩ ?_
    refine g_puti rfl rfl (by decide) rfl rfl ?_
    refine g_iload rfl rfl ?_
    refine g_iconst rfl ⟨by decide, by decide⟩ ?_
    refine g_iconst rfl ⟨by decide, by decide⟩ ?_
    refine g_iS (as := [tI 6, tI 1, tI 3]) mX12_in_ok rfl rfl rfl rfl rfl rfl rfl ?_
    refine g_iload_n rfl rfl ?_
    refine g_iload_n rfl rfl ?_
    refine g_icmp_lt (tgt := 14) rfl (by decide) (fun hx => absurd hx (by omega)) (fun _ => ?_)
    refine g_iload_n rfl rfl ?_
    refine g_iload_n rfl rfl ?_
    refine g_icmp_gt (tgt := 14) rfl (by decide) (fun _ => ?_) (fun hx => absurd hx (by omega))
    refine g_iconst rfl ⟨by decide, by decide⟩ ?_
    refine x_zreturn rfl rfl (Or.inl rfl) ?_
    intro _
    refine g_if_eq (tgt := 172) rfl (by decide) (fun _ => ?_) (fun hx => absurd hx (by omega))
    refine g_aload_n rfl rfl ?_
    refine x_getF (r := 211) hG rfl rfl (by decide) (Or.inr ⟨_, rfl⟩) rfl ?_
    refine g_iconst rfl ⟨by decide, by decide⟩ ?_
    refine x_iald (v := (D 0)) rfl rfl (by decide) (by decide) (by decide) (by rw [tp_pi_ne (by omega)]; exact (hmw1.2.2.2.2.2 0 (by decide) (by decide))) ?_
    refine g_istore rfl rfl rfl ?_
    refine g_iload rfl rfl ?_
    refine g_bipush rfl ⟨by decide, by decide⟩ (by decide) ?_
    refine g_icmp_ge (tgt := 237) rfl (by decide) (fun hx => absurd hx (by omega)) (fun _ => ?_)
    refine g_aload_n rfl rfl ?_
    refine x_getF (r := 211) hG rfl rfl (by decide) (Or.inr ⟨_, rfl⟩) rfl ?_
    refine g_bipush rfl ⟨by decide, by decide⟩ (by decide) ?_
    refine g_iload rfl rfl ?_
    refine x_iadd (z := (D 0) + 9) rfl (by omega) ⟨by omega, by omega⟩ ?_
    refine g_iload rfl rfl ?_
    refine g_iast rfl rfl (by decide) (by omega) (by omega) ?_
    refine g_aload_n rfl rfl ?_
    refine x_getF (r := 211) hG rfl rfl (by decide) (Or.inr ⟨_, rfl⟩) rfl ?_
    refine g_bipush rfl ⟨by decide, by decide⟩ (by decide) ?_
    refine g_iload rfl rfl ?_
    refine x_iadd (z := (D 0) + 49) rfl (by omega) ⟨by omega, by omega⟩ ?_
    refine g_aload_n rfl rfl ?_
    refine x_geti (v := (-1)) rfl rfl (by decide) (Or.inl rfl) rfl ?_
    refine g_iast rfl rfl (by decide) (by omega) (by omega) ?_
    refine g_aload_n rfl rfl ?_
    refine x_getF (r := 211) hG rfl rfl (by decide) (Or.inr ⟨_, rfl⟩) rfl ?_
    refine g_bipush rfl ⟨by decide, by decide⟩ (by decide) ?_
    refine g_iload rfl rfl ?_
    refine x_iadd (z := (D 0) + 89) rfl (by omega) ⟨by omega, by omega⟩ ?_
    refine g_aload_n rfl rfl ?_
    refine x_geti (v := m) rfl rfl (by decide) (Or.inl rfl) hmw1.2.2.1 ?_
    refine g_iast rfl rfl (by decide) (by omega) (by omega) ?_
    refine g_aload_n rfl rfl ?_
    refine x_getF (r := 211) hG rfl rfl (by decide) (Or.inr ⟨_, rfl⟩) rfl ?_
    refine g_iconst rfl ⟨by decide, by decide⟩ ?_
    refine g_dup2 rfl ?_
    refine x_iald (v := (D 0)) rfl rfl (by decide) (by decide) (by decide) (by rw [tp_pi_ix (by omega), tp_pi_ix (by omega), tp_pi_ix (by omega), tp_pi_ne (by omega)]; exact (hmw1.2.2.2.2.2 0 (by decide) (by decide))) ?_
    refine g_iconst rfl ⟨by decide, by decide⟩ ?_
    refine x_iadd (z := (D 0) + 1) rfl (by omega) ⟨by omega, by omega⟩ ?_
    refine g_iast rfl rfl (by decide) (by decide) (by decide) ?_
    refine g_iconst rfl ⟨by decide, by decide⟩ ?_
    refine x_zreturn rfl rfl (Or.inr rfl) ?_
    rw [l_P]
    refine ⟨(mF_pt (mF_pt (mF_pt (mF_pt (mF_pi (by decide) (mF_tr (mF_tr mF_rf mF_rf) hFw1)))))), Or.inr ⟨rfl, i1, t_tk 6 0 0 (f, p, it + 1, m, ft, D), ⟨by omega, by omega⟩, ⟨htw1.1, htw1.2.1, htw1.2.2.1, htw1.2.2.2.1, htw1.2.2.2.2⟩, ⟨lo, fun z => absurd z (by decide), rd_C_m (mF_pt (mF_pt (mF_pt (mF_pt (mF_pi (by decide) mF_rf))))) hmw1.1, hmw1.2.1, hmw1.2.2.1, hmw1.2.2.2.1, hmw1.2.2.2.2.1, by show ∀ j, 0 ≤ j → j < 129 → _ = t_D 6 (t_rw 6 0) 0 m D j; rw [t_D_a (by decide) (by omega), Int.add_comm 9 (D 0), Int.add_comm 49 (D 0), Int.add_comm 89 (D 0)]; exact (told_u (told_u (told_u (told_u (told_n hmw1.2.2.2.2.2)))))⟩, fun z => ?_, fun z => ?_⟩⟩
    · rw [t_ln_w hwx (by decide), t_l0_0n rfl he1 z]
    · rw [t_ln_w hwx (by decide), t_l0_0y rfl he1 z, heqw1]
  · refine g_aload_n rfl rfl ?_
    refine g_iconst rfl ⟨by decide, by decide⟩ ?_
    refine g_iload_n rfl rfl ?_
    refine g_cV (as := [tI 3, tI (t_s T len i)]) (s_aF9 hG h ht (by omega)) rfl rfl mX12_addsFault_ok rfl rfl rfl (by decide) rfl rfl rfl ?_
    rintro _ w2 ⟨rfl, fw2, pw2, hzaw2, hzbw2, hmw2, htw2, hrdw2, hFw2⟩ _
    have heqw2 : t_cnt 0 6 (t_s T len i) (f, p, it, m, ft, D) = (fw2, pw2, it + 1, m, ft, D) := by
      by_cases u : f = 0
      · rw [t_cnt_a (by decide) ⟨u, by show (40 : Int) ≤ it; omega⟩, (hzaw2 u).1, (hzaw2 u).2]
      · rw [t_cnt_b (by decide) (fun z => u z.1), (hzbw2 u).1, (hzbw2 u).2]
    have hppw2 : fw2 ≠ 0 → pw2 ≤ t_s T len i := fun z => by
      by_cases u : f = 0
      · rw [(hzaw2 u).2]; omega
      · rw [(hzbw2 u).2]; omega
    refine g_aload_n rfl rfl ?_
    refine g_cV (as := []) (s_tok9 hG hT (i := i1) ⟨rd_C_m mF_rf hmw2.1, hmw2.2.1, hmw2.2.2.1, hmw2.2.2.2.1, hmw2.2.2.2.2.1, hmw2.2.2.2.2.2⟩ (by omega) (by omega) (htw2.1.trans he1)) rfl rfl mX12_token_ok rfl rfl rfl (by decide) rfl rfl rfl ?_
    rintro _ w3 ⟨rfl, htw3, hmw3, hrdw3, hFw3⟩ _
    have hkbw3 := t_k_b T len i1
    refine g_iload rfl rfl ?_
    refine g_iconst rfl ⟨by decide, by decide⟩ ?_
    refine g_icmp_eq (tgt := 103) rfl (by decide) (fun _ => ?_) (fun hx => absurd hx (by omega))
    refine g_lload_n rfl rfl ?_
    refine g_ldc2 (z := 1836016741) rfl rfl ⟨by decide, by decide⟩ ?_
    refine x_lcmp (v := 1) rfl (by decide) ?_
    refine g_if_ne (tgt := 130) rfl (by decide) (fun _ => ?_) (fun hx => absurd hx (by omega))
    refine g_aload_n rfl rfl ?_
    refine g_iconst rfl ⟨by decide, by decide⟩ ?_
    refine g_puti rfl rfl (by decide) rfl rfl ?_
    refine g_iload rfl rfl ?_
    refine g_iconst rfl ⟨by decide, by decide⟩ ?_
    refine g_iconst rfl ⟨by decide, by decide⟩ ?_
    refine g_iS (as := [tI 6, tI 1, tI 3]) mX12_in_ok rfl rfl rfl rfl rfl rfl rfl ?_
    refine g_iload_n rfl rfl ?_
    refine g_iload_n rfl rfl ?_
    refine g_icmp_lt (tgt := 14) rfl (by decide) (fun hx => absurd hx (by omega)) (fun _ => ?_)
    refine g_iload_n rfl rfl ?_
    refine g_iload_n rfl rfl ?_
    refine g_icmp_gt (tgt := 14) rfl (by decide) (fun _ => ?_) (fun hx => absurd hx (by omega))
    refine g_iconst rfl ⟨by decide, by decide⟩ ?_
    refine x_zreturn rfl rfl (Or.inl rfl) ?_
    intro _
    refine g_if_eq (tgt := 172) rfl (by decide) (fun _ => ?_) (fun hx => absurd hx (by omega))
    refine g_aload_n rfl rfl ?_
    refine x_getF (r := 211) hG rfl rfl (by decide) (Or.inr ⟨_, rfl⟩) rfl ?_
    refine g_iconst rfl ⟨by decide, by decide⟩ ?_
    refine x_iald (v := (D 0)) rfl rfl (by decide) (by decide) (by decide) (by rw [tp_pi_ne (by omega)]; exact (hmw3.2.2.2.2.2 0 (by decide) (by decide))) ?_
    refine g_istore rfl rfl rfl ?_
    refine g_iload rfl rfl ?_
    refine g_bipush rfl ⟨by decide, by decide⟩ (by decide) ?_
    refine g_icmp_ge (tgt := 237) rfl (by decide) (fun _ => ?_) (fun hx => absurd hx (by omega))
    refine g_iconst rfl ⟨by decide, by decide⟩ ?_
    refine x_zreturn rfl rfl (Or.inr rfl) ?_
    rw [l_P]
    refine ⟨(mF_pi (by decide) (mF_tr (mF_tr (mF_tr mF_rf hFw2) mF_rf) hFw3)), Or.inr ⟨rfl, i1, t_tk 6 0 0 (fw2, pw2, it + 1, m, ft, D), ⟨by omega, by omega⟩, ⟨htw3.1, htw3.2.1, htw3.2.2.1, htw3.2.2.2.1, htw3.2.2.2.2⟩, ⟨lo, fun z => absurd z (by decide), rd_C_m (mF_pi (by decide) mF_rf) hmw3.1, hmw3.2.1, hmw3.2.2.1, hmw3.2.2.2.1, hmw3.2.2.2.2.1, by show ∀ j, 0 ≤ j → j < 129 → _ = t_D 6 (t_rw 6 0) 0 m D j; rw [show t_D 6 (t_rw 6 0) 0 m D = D by unfold t_D; rw [if_pos (by decide), if_neg (by omega)]]; exact (told_n hmw3.2.2.2.2.2)⟩, fun z => ?_, fun z => ?_⟩⟩
    · rw [t_ln_w hwx (by decide), t_l0_0n rfl he1 z]
    · rw [t_ln_w hwx (by decide), t_l0_0y rfl he1 z, heqw2]
set_option maxHeartbeats 4000000 in
set_option maxRecDepth 100000 in
theorem s_li7 {G : tp_G} {μ : tp_M} (hG : tp_Gf G = true) {T : Int → Int} {len i f p it m ft lo : Int} {D : Int → Int} (hT : ∀ j, 0 ≤ T j ∧ T j ≤ 255) (h0 : 0 ≤ i) (h1 : i ≤ len) (h : ms T len f p m ft lo D μ) (ht : rtk T len i μ) (hI : t_I 0 i (f, p, it, m, ft, D)) (hlo : (0 : Int) = 2 → lo = min 12 it) (hwx : t_wx 0 T len i = 7) : tp_k G mX12_codeLine [tR (some 201), tL (1836016741), tI (t_s T len i)] μ (fun r μ' => l_P 0 T len i (f, p, it, m, ft, D) μ r μ') := by
  refine tp_ok_of mX12_codeLine_ok rfl (Nat.le_refl _) ?_
  obtain ⟨i1, he1⟩ : ∃ x, t_e T len i = x := ⟨_, rfl⟩
  obtain ⟨i2, he2⟩ : ∃ x, t_e T len i1 = x := ⟨_, rfl⟩
  obtain ⟨i3, he3⟩ : ∃ x, t_e T len i2 = x := ⟨_, rfl⟩
  have hkk : t_k T len i = 1 := by
    by_cases q : t_k T len i = 1
    · exact q
    · unfold t_wx at hwx; rw [if_neg q] at hwx; omega
  have hb0 := t_s_B (T := T) h1
  have hb1 := t_e_B (T := T) h1
  have hb2 := t_e_B (T := T) (len := len) (i := i1) (by omega)
  have hbs1 := t_s_B (T := T) (len := len) (i := i1) (by omega)
  have hb3 := t_e_B (T := T) (len := len) (i := i2) (by omega)
  have hbs2 := t_s_B (T := T) (len := len) (i := i2) (by omega)
  have hbs3 := t_s_B (T := T) (len := len) (i := i3) (by omega)
  have hpI : f ≠ 0 → 0 ≤ p ∧ p < i := hI.2.2.2.2.2.2.1
  have hitI : 0 ≤ it ∧ it ≤ i := hI.2.1
  have hlen := h.1.2.1
  have hftI : -1 ≤ ft ∧ ft ≤ 39 := hI.2.2.2.2.2.2.2.2.1
  have hD0 : D 0 = min 40 it := hI.2.2.1 (by decide)
  have hcl : 0 ≤ t_cl 7 (t_v T len i1) ∧ t_cl 7 (t_v T len i1) ≤ 1 := t_cl_b (by decide)
  refine g_aload_n rfl rfl ?_
  refine g_lload_n rfl rfl ?_
  refine g_iV (as := [tL (1836016741)]) mX12_kindBy_ok rfl rfl rfl rfl rfl rfl (by decide) rfl rfl rfl ?_
  refine g_lload_n rfl rfl ?_
  refine g_ldc2 (z := 482854660462) rfl rfl ⟨by decide, by decide⟩ ?_
  refine x_lcmp (v := -1) rfl (by decide) ?_
  refine g_if_ne (tgt := 12) rfl (by decide) (fun _ => ?_) (fun hx => absurd hx (by omega))
  refine g_lload_n rfl rfl ?_
  refine g_ldc2 (z := 26982) rfl rfl ⟨by decide, by decide⟩ ?_
  refine x_lcmp (v := 1) rfl (by decide) ?_
  refine g_if_ne (tgt := 24) rfl (by decide) (fun _ => ?_) (fun hx => absurd hx (by omega))
  refine g_lload_n rfl rfl ?_
  refine g_ldc2 (z := 1786080624) rfl rfl ⟨by decide, by decide⟩ ?_
  refine x_lcmp (v := 1) rfl (by decide) ?_
  refine g_if_ne (tgt := 36) rfl (by decide) (fun _ => ?_) (fun hx => absurd hx (by omega))
  refine g_lload_n rfl rfl ?_
  refine g_ldc2 (z := 1667329132) rfl rfl ⟨by decide, by decide⟩ ?_
  refine x_lcmp (v := 1) rfl (by decide) ?_
  refine g_if_ne (tgt := 48) rfl (by decide) (fun _ => ?_) (fun hx => absurd hx (by omega))
  refine g_lload_n rfl rfl ?_
  refine g_ldc2 (z := 7497076) rfl rfl ⟨by decide, by decide⟩ ?_
  refine x_lcmp (v := 1) rfl (by decide) ?_
  refine g_if_ne (tgt := 60) rfl (by decide) (fun _ => ?_) (fun hx => absurd hx (by omega))
  refine g_lload_n rfl rfl ?_
  refine g_ldc2 (z := 7760225) rfl rfl ⟨by decide, by decide⟩ ?_
  refine x_lcmp (v := 1) rfl (by decide) ?_
  refine g_if_ne (tgt := 72) rfl (by decide) (fun _ => ?_) (fun hx => absurd hx (by omega))
  refine g_lload_n rfl rfl ?_
  refine g_ldc2 (z := 1937010544) rfl rfl ⟨by decide, by decide⟩ ?_
  refine x_lcmp (v := -1) rfl (by decide) ?_
  refine g_if_ne (tgt := 85) rfl (by decide) (fun _ => ?_) (fun hx => absurd hx (by omega))
  refine g_iconst rfl ⟨by decide, by decide⟩ ?_
  refine x_ireturn rfl rfl ?_
  intro _
  refine g_istore rfl rfl rfl ?_
  refine g_lload_n rfl rfl ?_
  refine g_iS (as := [tL (1836016741)]) mX12_partBy_ok rfl rfl rfl rfl rfl rfl rfl ?_
  refine g_lload_n rfl rfl ?_
  refine g_ldc2 (z := 1651078259) rfl rfl ⟨by decide, by decide⟩ ?_
  refine x_lcmp (v := 1) rfl (by decide) ?_
  refine g_if_ne (tgt := 12) rfl (by decide) (fun _ => ?_) (fun hx => absurd hx (by omega))
  refine g_lload_n rfl rfl ?_
  refine g_ldc2 (z := 1684366704) rfl rfl ⟨by decide, by decide⟩ ?_
  refine x_lcmp (v := 1) rfl (by decide) ?_
  refine g_if_ne (tgt := 24) rfl (by decide) (fun _ => ?_) (fun hx => absurd hx (by omega))
  refine g_lload_n rfl rfl ?_
  refine g_ldc2 (z := 1937337955) rfl rfl ⟨by decide, by decide⟩ ?_
  refine x_lcmp (v := -1) rfl (by decide) ?_
  refine g_if_ne (tgt := 36) rfl (by decide) (fun _ => ?_) (fun hx => absurd hx (by omega))
  refine g_lload_n rfl rfl ?_
  refine g_ldc2 (z := 1718775661) rfl rfl ⟨by decide, by decide⟩ ?_
  refine x_lcmp (v := 1) rfl (by decide) ?_
  refine g_if_ne (tgt := 48) rfl (by decide) (fun _ => ?_) (fun hx => absurd hx (by omega))
  refine g_lload_n rfl rfl ?_
  refine g_ldc2 (z := 29807) rfl rfl ⟨by decide, by decide⟩ ?_
  refine x_lcmp (v := 1) rfl (by decide) ?_
  refine g_if_ne (tgt := 60) rfl (by decide) (fun _ => ?_) (fun hx => absurd hx (by omega))
  refine g_lload_n rfl rfl ?_
  refine g_ldc2 (z := 1869507705) rfl rfl ⟨by decide, by decide⟩ ?_
  refine x_lcmp (v := -1) rfl (by decide) ?_
  refine g_if_ne (tgt := 73) rfl (by decide) (fun _ => ?_) (fun hx => absurd hx (by omega))
  refine g_lload_n rfl rfl ?_
  refine g_ldc2 (z := 1919905645) rfl rfl ⟨by decide, by decide⟩ ?_
  refine x_lcmp (v := -1) rfl (by decide) ?_
  refine g_if_ne (tgt := 86) rfl (by decide) (fun _ => ?_) (fun hx => absurd hx (by omega))
  refine g_lload_n rfl rfl ?_
  refine g_ldc2 (z := 1918989413) rfl rfl ⟨by decide, by decide⟩ ?_
  refine x_lcmp (v := -1) rfl (by decide) ?_
  refine g_if_ne (tgt := 99) rfl (by decide) (fun _ => ?_) (fun hx => absurd hx (by omega))
  refine g_iconst rfl ⟨by decide, by decide⟩ ?_
  refine x_ireturn rfl rfl ?_
  intro _
  refine g_istore rfl rfl rfl ?_
  refine g_iload rfl rfl ?_
  refine g_iconst rfl ⟨by decide, by decide⟩ ?_
  refine g_icmp_ne (tgt := 38) rfl (by decide) (fun hx => absurd hx (by omega)) (fun _ => ?_)
  refine g_iload rfl rfl ?_
  refine g_iconst rfl ⟨by decide, by decide⟩ ?_
  refine g_icmp_ne (tgt := 38) rfl (by decide) (fun hx => absurd hx (by omega)) (fun _ => ?_)
  refine g_lload_n rfl rfl ?_
  refine g_ldc2 (z := 1836016741) rfl rfl ⟨by decide, by decide⟩ ?_
  refine x_lcmp (v := 0) rfl (by decide) ?_
  refine g_if_eq (tgt := 38) rfl (by decide) (fun _ => ?_) (fun hx => absurd hx (by omega))
  refine g_iload rfl rfl ?_
  refine g_iconst rfl ⟨by decide, by decide⟩ ?_
  refine g_icmp_eq (tgt := 61) rfl (by decide) (fun _ => ?_) (fun hx => absurd hx (by omega))
  refine g_aload_n rfl rfl ?_
  refine g_cV (as := []) (s_tok9 hG hT (i := i1) ⟨rd_C_m mF_rf h.1, h.2.1, h.2.2.1, h.2.2.2.1, h.2.2.2.2.1, h.2.2.2.2.2⟩ (by omega) (by omega) (ht.1.trans he1)) rfl rfl mX12_token_ok rfl rfl rfl (by decide) rfl rfl rfl ?_
  rintro _ w1 ⟨rfl, htw1, hmw1, hrdw1, hFw1⟩ _
  have heqw1 : t_cnt 0 7 (t_s T len i) (f, p, it, m, ft, D) = (f, p, it, m, ft, D) := t_cnt_c (by decide)
  have hppw1 : f ≠ 0 → p ≤ t_s T len i := fun z => by omega
  have hkbw1 := t_k_b T len i1
  refine g_iload rfl rfl ?_
  refine g_iconst rfl ⟨by decide, by decide⟩ ?_
  refine g_icmp_eq (tgt := 103) rfl (by decide) (fun _ => ?_) (fun hx => absurd hx (by omega))
  refine g_lload_n rfl rfl ?_
  refine g_ldc2 (z := 1836016741) rfl rfl ⟨by decide, by decide⟩ ?_
  refine x_lcmp (v := 0) rfl (by decide) ?_
  refine g_if_ne (tgt := 130) rfl (by decide) (fun hx => absurd hx (by omega)) (fun _ => ?_)
  refine g_aload_n rfl rfl ?_
  refine g_iconst rfl ⟨by decide, by decide⟩ ?_
  refine g_iconst rfl ⟨by decide, by decide⟩ ?_
  refine g_cV (as := [tI 0, tI 1]) (s_take7 (R := (it, m, ft, D)) hG hT (i := i1) (by omega) (by omega) ⟨rd_C_m mF_rf hmw1.1, hmw1.2.1, hmw1.2.2.1, hmw1.2.2.2.1, hmw1.2.2.2.2.1, hmw1.2.2.2.2.2⟩ ⟨htw1.1, htw1.2.1, htw1.2.2.1, htw1.2.2.2.1, htw1.2.2.2.2⟩ (fun z => by have := hppw1 z; omega)) rfl rfl mX12_take_ok rfl rfl rfl (by decide) rfl rfl rfl ?_
  rintro _ w2 ⟨⟨hkw2, rfl, h16w2⟩ | ⟨hkw2, rfl, fw2, pw2, heqw2, hmw2, htw2, hrdw2⟩, hFw2⟩ _
  · obtain ⟨w3, hw39⟩ : ∃ x, x = w2 := ⟨_, rfl⟩
    rw [← hw39] at hFw2 h16w2 ⊢
    have hFw3 := hFw2
    refine g_istore rfl rfl rfl ?_
    refine g_aload_n rfl rfl ?_
    refine g_aload_n rfl rfl ?_
    refine x_geti (v := (w3.1 201 20)) rfl rfl (by decide) (Or.inl rfl) rfl ?_
    refine g_puti rfl rfl (by decide) rfl rfl ?_
    refine g_iload rfl rfl ?_
    refine x_zreturn rfl rfl (Or.inl rfl) ?_
    rw [l_P]
    exact ⟨(mF_pi (by decide) (mF_tr (mF_tr (mF_tr (mF_tr mF_rf mF_rf) hFw1) mF_rf) hFw3)), Or.inl ⟨by first | rfl | omega, _, by rw [t_ln_w hwx (by decide), t_l0_1a (by decide) he1 (by omega)], h16w2⟩⟩
  · rw [he2] at htw2
    have hppw2 : fw2 ≠ 0 → pw2 ≤ t_s T len i1 := fun z => by
      have q1 := heqw2
      by_cases u : (t_v T len i1 < t_lo 7 ∨ t_hi 7 < t_v T len i1) ∧ f = 0
      · rw [t_chk_a u] at q1
        have q2 : t_s T len i1 = pw2 := congrArg (fun x => x.2.1) q1
        omega
      · rw [t_chk_b u] at q1
        have q2 : p = pw2 := congrArg (fun x => x.2.1) q1
        have q3 : f = fw2 := congrArg (fun x => x.1) q1
        have := hppw1 (by omega)
        omega
    refine g_istore rfl rfl rfl ?_
    refine g_aload_n rfl rfl ?_
    refine g_aload_n rfl rfl ?_
    refine x_geti (v := (t_cl 7 (t_v T len i1))) rfl rfl (by decide) (Or.inl rfl) hrdw2 ?_
    refine g_puti rfl rfl (by decide) rfl rfl ?_
    refine g_iload rfl rfl ?_
    refine x_zreturn rfl rfl (Or.inr rfl) ?_
    rw [l_P]
    refine ⟨(mF_pi (by decide) (mF_tr (mF_tr (mF_tr (mF_tr mF_rf mF_rf) hFw1) mF_rf) hFw2)), Or.inr ⟨rfl, i2, t_tk 7 (t_v T len i1) 0 (fw2, pw2, it, m, ft, D), ⟨by omega, by omega⟩, ⟨htw2.1, htw2.2.1, htw2.2.2.1, htw2.2.2.2.1, htw2.2.2.2.2⟩, ⟨lo, fun z => absurd z (by decide), rd_C_m (mF_pi (by decide) mF_rf) hmw2.1, hmw2.2.1, rfl, hmw2.2.2.2.1, hmw2.2.2.2.2.1, (told_n hmw2.2.2.2.2.2)⟩, fun z => ?_, fun z => ?_⟩⟩
    · rw [t_ln_w hwx (by decide), t_l0_1n rfl he1 he2 (by omega) z]
    · rw [t_ln_w hwx (by decide), t_l0_1y rfl he1 he2 (by omega) z, heqw1, heqw2]
set_option maxHeartbeats 4000000 in
set_option maxRecDepth 100000 in
theorem s_li8 {G : tp_G} {μ : tp_M} (hG : tp_Gf G = true) {T : Int → Int} {len i f p it m ft lo : Int} {D : Int → Int} (hT : ∀ j, 0 ≤ T j ∧ T j ≤ 255) (h0 : 0 ≤ i) (h1 : i ≤ len) (h : ms T len f p m ft lo D μ) (ht : rtk T len i μ) (hI : t_I 0 i (f, p, it, m, ft, D)) (hlo : (0 : Int) = 2 → lo = min 12 it) (hwx : t_wx 0 T len i = 8) : tp_k G mX12_codeLine [tR (some 201), tL (1651078259), tI (t_s T len i)] μ (fun r μ' => l_P 0 T len i (f, p, it, m, ft, D) μ r μ') := by
  refine tp_ok_of mX12_codeLine_ok rfl (Nat.le_refl _) ?_
  obtain ⟨i1, he1⟩ : ∃ x, t_e T len i = x := ⟨_, rfl⟩
  obtain ⟨i2, he2⟩ : ∃ x, t_e T len i1 = x := ⟨_, rfl⟩
  obtain ⟨i3, he3⟩ : ∃ x, t_e T len i2 = x := ⟨_, rfl⟩
  have hkk : t_k T len i = 1 := by
    by_cases q : t_k T len i = 1
    · exact q
    · unfold t_wx at hwx; rw [if_neg q] at hwx; omega
  have hb0 := t_s_B (T := T) h1
  have hb1 := t_e_B (T := T) h1
  have hb2 := t_e_B (T := T) (len := len) (i := i1) (by omega)
  have hbs1 := t_s_B (T := T) (len := len) (i := i1) (by omega)
  have hb3 := t_e_B (T := T) (len := len) (i := i2) (by omega)
  have hbs2 := t_s_B (T := T) (len := len) (i := i2) (by omega)
  have hbs3 := t_s_B (T := T) (len := len) (i := i3) (by omega)
  have hpI : f ≠ 0 → 0 ≤ p ∧ p < i := hI.2.2.2.2.2.2.1
  have hitI : 0 ≤ it ∧ it ≤ i := hI.2.1
  have hlen := h.1.2.1
  have hftI : -1 ≤ ft ∧ ft ≤ 39 := hI.2.2.2.2.2.2.2.2.1
  have hD0 : D 0 = min 40 it := hI.2.2.1 (by decide)
  have hcl : 1 ≤ t_cl 8 (t_v T len i1) ∧ t_cl 8 (t_v T len i1) ≤ 9 := t_cl_b (by decide)
  refine g_aload_n rfl rfl ?_
  refine g_lload_n rfl rfl ?_
  refine g_iV (as := [tL (1651078259)]) mX12_kindBy_ok rfl rfl rfl rfl rfl rfl (by decide) rfl rfl rfl ?_
  refine g_lload_n rfl rfl ?_
  refine g_ldc2 (z := 482854660462) rfl rfl ⟨by decide, by decide⟩ ?_
  refine x_lcmp (v := -1) rfl (by decide) ?_
  refine g_if_ne (tgt := 12) rfl (by decide) (fun _ => ?_) (fun hx => absurd hx (by omega))
  refine g_lload_n rfl rfl ?_
  refine g_ldc2 (z := 26982) rfl rfl ⟨by decide, by decide⟩ ?_
  refine x_lcmp (v := 1) rfl (by decide) ?_
  refine g_if_ne (tgt := 24) rfl (by decide) (fun _ => ?_) (fun hx => absurd hx (by omega))
  refine g_lload_n rfl rfl ?_
  refine g_ldc2 (z := 1786080624) rfl rfl ⟨by decide, by decide⟩ ?_
  refine x_lcmp (v := -1) rfl (by decide) ?_
  refine g_if_ne (tgt := 36) rfl (by decide) (fun _ => ?_) (fun hx => absurd hx (by omega))
  refine g_lload_n rfl rfl ?_
  refine g_ldc2 (z := 1667329132) rfl rfl ⟨by decide, by decide⟩ ?_
  refine x_lcmp (v := -1) rfl (by decide) ?_
  refine g_if_ne (tgt := 48) rfl (by decide) (fun _ => ?_) (fun hx => absurd hx (by omega))
  refine g_lload_n rfl rfl ?_
  refine g_ldc2 (z := 7497076) rfl rfl ⟨by decide, by decide⟩ ?_
  refine x_lcmp (v := 1) rfl (by decide) ?_
  refine g_if_ne (tgt := 60) rfl (by decide) (fun _ => ?_) (fun hx => absurd hx (by omega))
  refine g_lload_n rfl rfl ?_
  refine g_ldc2 (z := 7760225) rfl rfl ⟨by decide, by decide⟩ ?_
  refine x_lcmp (v := 1) rfl (by decide) ?_
  refine g_if_ne (tgt := 72) rfl (by decide) (fun _ => ?_) (fun hx => absurd hx (by omega))
  refine g_lload_n rfl rfl ?_
  refine g_ldc2 (z := 1937010544) rfl rfl ⟨by decide, by decide⟩ ?_
  refine x_lcmp (v := -1) rfl (by decide) ?_
  refine g_if_ne (tgt := 85) rfl (by decide) (fun _ => ?_) (fun hx => absurd hx (by omega))
  refine g_iconst rfl ⟨by decide, by decide⟩ ?_
  refine x_ireturn rfl rfl ?_
  intro _
  refine g_istore rfl rfl rfl ?_
  refine g_lload_n rfl rfl ?_
  refine g_iS (as := [tL (1651078259)]) mX12_partBy_ok rfl rfl rfl rfl rfl rfl rfl ?_
  refine g_lload_n rfl rfl ?_
  refine g_ldc2 (z := 1651078259) rfl rfl ⟨by decide, by decide⟩ ?_
  refine x_lcmp (v := 0) rfl (by decide) ?_
  refine g_if_ne (tgt := 12) rfl (by decide) (fun hx => absurd hx (by omega)) (fun _ => ?_)
  refine g_iconst rfl ⟨by decide, by decide⟩ ?_
  refine g_goto (tgt := 100) rfl (by decide) ?_
  refine x_ireturn rfl rfl ?_
  intro _
  refine g_istore rfl rfl rfl ?_
  refine g_iload rfl rfl ?_
  refine g_iconst rfl ⟨by decide, by decide⟩ ?_
  refine g_icmp_ne (tgt := 38) rfl (by decide) (fun hx => absurd hx (by omega)) (fun _ => ?_)
  refine g_iload rfl rfl ?_
  refine g_iconst rfl ⟨by decide, by decide⟩ ?_
  refine g_icmp_ne (tgt := 38) rfl (by decide) (fun _ => ?_) (fun hx => absurd hx (by omega))
  refine g_iload rfl rfl ?_
  refine g_iconst rfl ⟨by decide, by decide⟩ ?_
  refine g_icmp_eq (tgt := 61) rfl (by decide) (fun _ => ?_) (fun hx => absurd hx (by omega))
  refine g_aload_n rfl rfl ?_
  refine g_cV (as := []) (s_tok9 hG hT (i := i1) ⟨rd_C_m mF_rf h.1, h.2.1, h.2.2.1, h.2.2.2.1, h.2.2.2.2.1, h.2.2.2.2.2⟩ (by omega) (by omega) (ht.1.trans he1)) rfl rfl mX12_token_ok rfl rfl rfl (by decide) rfl rfl rfl ?_
  rintro _ w1 ⟨rfl, htw1, hmw1, hrdw1, hFw1⟩ _
  have heqw1 : t_cnt 0 8 (t_s T len i) (f, p, it, m, ft, D) = (f, p, it, m, ft, D) := t_cnt_c (by decide)
  have hppw1 : f ≠ 0 → p ≤ t_s T len i := fun z => by omega
  have hkbw1 := t_k_b T len i1
  refine g_iload rfl rfl ?_
  refine g_iconst rfl ⟨by decide, by decide⟩ ?_
  refine g_icmp_eq (tgt := 103) rfl (by decide) (fun hx => absurd hx (by omega)) (fun _ => ?_)
  refine g_aload_n rfl rfl ?_
  refine g_iload rfl rfl ?_
  refine g_iS (as := [tI 1]) mX12_leastOf_ok rfl rfl rfl rfl rfl rfl rfl ?_
  refine g_iload_n rfl rfl ?_
  refine g_iconst rfl ⟨by decide, by decide⟩ ?_
  refine g_icmp_eq (tgt := 11) rfl (by decide) (fun _ => ?_) (fun hx => absurd hx (by omega))
  refine g_iconst rfl ⟨by decide, by decide⟩ ?_
  refine g_goto (tgt := 35) rfl (by decide) ?_
  refine x_ireturn rfl rfl ?_
  intro _
  refine g_iload rfl rfl ?_
  refine g_iS (as := [tI 1]) mX12_mostOf_ok rfl rfl rfl rfl rfl rfl rfl ?_
  refine g_iload_n rfl rfl ?_
  refine g_iconst rfl ⟨by decide, by decide⟩ ?_
  refine g_icmp_ne (tgt := 9) rfl (by decide) (fun _ => ?_) (fun hx => absurd hx (by omega))
  refine g_iload_n rfl rfl ?_
  refine g_iconst rfl ⟨by decide, by decide⟩ ?_
  refine g_icmp_ne (tgt := 19) rfl (by decide) (fun _ => ?_) (fun hx => absurd hx (by omega))
  refine g_iload_n rfl rfl ?_
  refine g_iconst rfl ⟨by decide, by decide⟩ ?_
  refine g_icmp_eq (tgt := 29) rfl (by decide) (fun hx => absurd hx (by omega)) (fun _ => ?_)
  refine g_iload_n rfl rfl ?_
  refine g_iconst rfl ⟨by decide, by decide⟩ ?_
  refine g_icmp_ne (tgt := 34) rfl (by decide) (fun _ => ?_) (fun hx => absurd hx (by omega))
  refine g_iload_n rfl rfl ?_
  refine g_bipush rfl ⟨by decide, by decide⟩ (by decide) ?_
  refine g_icmp_ne (tgt := 44) rfl (by decide) (fun _ => ?_) (fun hx => absurd hx (by omega))
  refine g_bipush rfl ⟨by decide, by decide⟩ (by decide) ?_
  refine x_ireturn rfl rfl ?_
  intro _
  refine g_cV (as := [tI 1, tI 9]) (s_take8 (R := (it, m, ft, D)) hG hT (i := i1) (by omega) (by omega) ⟨rd_C_m mF_rf hmw1.1, hmw1.2.1, hmw1.2.2.1, hmw1.2.2.2.1, hmw1.2.2.2.2.1, hmw1.2.2.2.2.2⟩ ⟨htw1.1, htw1.2.1, htw1.2.2.1, htw1.2.2.2.1, htw1.2.2.2.2⟩ (fun z => by have := hppw1 z; omega)) rfl rfl mX12_take_ok rfl rfl rfl (by decide) rfl rfl rfl ?_
  rintro _ w2 ⟨⟨hkw2, rfl, h16w2⟩ | ⟨hkw2, rfl, fw2, pw2, heqw2, hmw2, htw2, hrdw2⟩, hFw2⟩ _
  · obtain ⟨w3, hw39⟩ : ∃ x, x = w2 := ⟨_, rfl⟩
    rw [← hw39] at hFw2 h16w2 ⊢
    have hFw3 := hFw2
    refine g_if_ne (tgt := 90) rfl (by decide) (fun hx => absurd hx (by omega)) (fun _ => ?_)
    refine g_iconst rfl ⟨by decide, by decide⟩ ?_
    refine x_zreturn rfl rfl (Or.inl rfl) ?_
    rw [l_P]
    exact ⟨(mF_tr (mF_tr (mF_tr (mF_tr mF_rf mF_rf) hFw1) mF_rf) hFw3), Or.inl ⟨by first | rfl | omega, _, by rw [t_ln_w hwx (by decide), t_l0_1a (by decide) he1 (by omega)], h16w2⟩⟩
  · rw [he2] at htw2
    have hppw2 : fw2 ≠ 0 → pw2 ≤ t_s T len i1 := fun z => by
      have q1 := heqw2
      by_cases u : (t_v T len i1 < t_lo 8 ∨ t_hi 8 < t_v T len i1) ∧ f = 0
      · rw [t_chk_a u] at q1
        have q2 : t_s T len i1 = pw2 := congrArg (fun x => x.2.1) q1
        omega
      · rw [t_chk_b u] at q1
        have q2 : p = pw2 := congrArg (fun x => x.2.1) q1
        have q3 : f = fw2 := congrArg (fun x => x.1) q1
        have := hppw1 (by omega)
        omega
    refine g_if_ne (tgt := 90) rfl (by decide) (fun _ => ?_) (fun hx => absurd hx (by omega))
    refine g_aload_n rfl rfl ?_
    refine x_getF (r := 211) hG rfl rfl (by decide) (Or.inr ⟨_, rfl⟩) rfl ?_
    refine g_iload rfl rfl ?_
    refine g_aload_n rfl rfl ?_
    refine x_geti (v := (t_cl 8 (t_v T len i1))) rfl rfl (by decide) (Or.inl rfl) hrdw2 ?_
    refine g_iast rfl rfl (by decide) (by decide) (by decide) ?_
    refine g_iconst rfl ⟨by decide, by decide⟩ ?_
    refine x_zreturn rfl rfl (Or.inr rfl) ?_
    rw [l_P]
    refine ⟨(mF_pt (mF_tr (mF_tr (mF_tr (mF_tr mF_rf mF_rf) hFw1) mF_rf) hFw2)), Or.inr ⟨rfl, i2, t_tk 8 (t_v T len i1) 0 (fw2, pw2, it, m, ft, D), ⟨by omega, by omega⟩, ⟨htw2.1, htw2.2.1, htw2.2.2.1, htw2.2.2.2.1, htw2.2.2.2.2⟩, ⟨lo, fun z => absurd z (by decide), rd_C_m (mF_pt mF_rf) hmw2.1, hmw2.2.1, hmw2.2.2.1, hmw2.2.2.2.1, hmw2.2.2.2.2.1, by show ∀ j, 0 ≤ j → j < 129 → _ = t_D 8 (t_rw 8 (t_v T len i1)) 0 m D j; rw [t_D_r (by decide)]; exact (told_u hmw2.2.2.2.2.2)⟩, fun z => ?_, fun z => ?_⟩⟩
    · rw [t_ln_w hwx (by decide), t_l0_1n rfl he1 he2 (by omega) z]
    · rw [t_ln_w hwx (by decide), t_l0_1y rfl he1 he2 (by omega) z, heqw1, heqw2]
set_option maxHeartbeats 4000000 in
set_option maxRecDepth 100000 in
theorem s_li9 {G : tp_G} {μ : tp_M} (hG : tp_Gf G = true) {T : Int → Int} {len i f p it m ft lo : Int} {D : Int → Int} (hT : ∀ j, 0 ≤ T j ∧ T j ≤ 255) (h0 : 0 ≤ i) (h1 : i ≤ len) (h : ms T len f p m ft lo D μ) (ht : rtk T len i μ) (hI : t_I 0 i (f, p, it, m, ft, D)) (hlo : (0 : Int) = 2 → lo = min 12 it) (hwx : t_wx 0 T len i = 9) : tp_k G mX12_codeLine [tR (some 201), tL (1684366704), tI (t_s T len i)] μ (fun r μ' => l_P 0 T len i (f, p, it, m, ft, D) μ r μ') := by
  refine tp_ok_of mX12_codeLine_ok rfl (Nat.le_refl _) ?_
  obtain ⟨i1, he1⟩ : ∃ x, t_e T len i = x := ⟨_, rfl⟩
  obtain ⟨i2, he2⟩ : ∃ x, t_e T len i1 = x := ⟨_, rfl⟩
  obtain ⟨i3, he3⟩ : ∃ x, t_e T len i2 = x := ⟨_, rfl⟩
  have hkk : t_k T len i = 1 := by
    by_cases q : t_k T len i = 1
    · exact q
    · unfold t_wx at hwx; rw [if_neg q] at hwx; omega
  have hb0 := t_s_B (T := T) h1
  have hb1 := t_e_B (T := T) h1
  have hb2 := t_e_B (T := T) (len := len) (i := i1) (by omega)
  have hbs1 := t_s_B (T := T) (len := len) (i := i1) (by omega)
  have hb3 := t_e_B (T := T) (len := len) (i := i2) (by omega)
  have hbs2 := t_s_B (T := T) (len := len) (i := i2) (by omega)
  have hbs3 := t_s_B (T := T) (len := len) (i := i3) (by omega)
  have hpI : f ≠ 0 → 0 ≤ p ∧ p < i := hI.2.2.2.2.2.2.1
  have hitI : 0 ≤ it ∧ it ≤ i := hI.2.1
  have hlen := h.1.2.1
  have hftI : -1 ≤ ft ∧ ft ≤ 39 := hI.2.2.2.2.2.2.2.2.1
  have hD0 : D 0 = min 40 it := hI.2.2.1 (by decide)
  have hcl : 0 ≤ t_cl 9 (t_v T len i1) ∧ t_cl 9 (t_v T len i1) ≤ 4 := t_cl_b (by decide)
  refine g_aload_n rfl rfl ?_
  refine g_lload_n rfl rfl ?_
  refine g_iV (as := [tL (1684366704)]) mX12_kindBy_ok rfl rfl rfl rfl rfl rfl (by decide) rfl rfl rfl ?_
  refine g_lload_n rfl rfl ?_
  refine g_ldc2 (z := 482854660462) rfl rfl ⟨by decide, by decide⟩ ?_
  refine x_lcmp (v := -1) rfl (by decide) ?_
  refine g_if_ne (tgt := 12) rfl (by decide) (fun _ => ?_) (fun hx => absurd hx (by omega))
  refine g_lload_n rfl rfl ?_
  refine g_ldc2 (z := 26982) rfl rfl ⟨by decide, by decide⟩ ?_
  refine x_lcmp (v := 1) rfl (by decide) ?_
  refine g_if_ne (tgt := 24) rfl (by decide) (fun _ => ?_) (fun hx => absurd hx (by omega))
  refine g_lload_n rfl rfl ?_
  refine g_ldc2 (z := 1786080624) rfl rfl ⟨by decide, by decide⟩ ?_
  refine x_lcmp (v := -1) rfl (by decide) ?_
  refine g_if_ne (tgt := 36) rfl (by decide) (fun _ => ?_) (fun hx => absurd hx (by omega))
  refine g_lload_n rfl rfl ?_
  refine g_ldc2 (z := 1667329132) rfl rfl ⟨by decide, by decide⟩ ?_
  refine x_lcmp (v := 1) rfl (by decide) ?_
  refine g_if_ne (tgt := 48) rfl (by decide) (fun _ => ?_) (fun hx => absurd hx (by omega))
  refine g_lload_n rfl rfl ?_
  refine g_ldc2 (z := 7497076) rfl rfl ⟨by decide, by decide⟩ ?_
  refine x_lcmp (v := 1) rfl (by decide) ?_
  refine g_if_ne (tgt := 60) rfl (by decide) (fun _ => ?_) (fun hx => absurd hx (by omega))
  refine g_lload_n rfl rfl ?_
  refine g_ldc2 (z := 7760225) rfl rfl ⟨by decide, by decide⟩ ?_
  refine x_lcmp (v := 1) rfl (by decide) ?_
  refine g_if_ne (tgt := 72) rfl (by decide) (fun _ => ?_) (fun hx => absurd hx (by omega))
  refine g_lload_n rfl rfl ?_
  refine g_ldc2 (z := 1937010544) rfl rfl ⟨by decide, by decide⟩ ?_
  refine x_lcmp (v := -1) rfl (by decide) ?_
  refine g_if_ne (tgt := 85) rfl (by decide) (fun _ => ?_) (fun hx => absurd hx (by omega))
  refine g_iconst rfl ⟨by decide, by decide⟩ ?_
  refine x_ireturn rfl rfl ?_
  intro _
  refine g_istore rfl rfl rfl ?_
  refine g_lload_n rfl rfl ?_
  refine g_iS (as := [tL (1684366704)]) mX12_partBy_ok rfl rfl rfl rfl rfl rfl rfl ?_
  refine g_lload_n rfl rfl ?_
  refine g_ldc2 (z := 1651078259) rfl rfl ⟨by decide, by decide⟩ ?_
  refine x_lcmp (v := 1) rfl (by decide) ?_
  refine g_if_ne (tgt := 12) rfl (by decide) (fun _ => ?_) (fun hx => absurd hx (by omega))
  refine g_lload_n rfl rfl ?_
  refine g_ldc2 (z := 1684366704) rfl rfl ⟨by decide, by decide⟩ ?_
  refine x_lcmp (v := 0) rfl (by decide) ?_
  refine g_if_ne (tgt := 24) rfl (by decide) (fun hx => absurd hx (by omega)) (fun _ => ?_)
  refine g_iconst rfl ⟨by decide, by decide⟩ ?_
  refine g_goto (tgt := 100) rfl (by decide) ?_
  refine x_ireturn rfl rfl ?_
  intro _
  refine g_istore rfl rfl rfl ?_
  refine g_iload rfl rfl ?_
  refine g_iconst rfl ⟨by decide, by decide⟩ ?_
  refine g_icmp_ne (tgt := 38) rfl (by decide) (fun hx => absurd hx (by omega)) (fun _ => ?_)
  refine g_iload rfl rfl ?_
  refine g_iconst rfl ⟨by decide, by decide⟩ ?_
  refine g_icmp_ne (tgt := 38) rfl (by decide) (fun _ => ?_) (fun hx => absurd hx (by omega))
  refine g_iload rfl rfl ?_
  refine g_iconst rfl ⟨by decide, by decide⟩ ?_
  refine g_icmp_eq (tgt := 61) rfl (by decide) (fun _ => ?_) (fun hx => absurd hx (by omega))
  refine g_aload_n rfl rfl ?_
  refine g_cV (as := []) (s_tok9 hG hT (i := i1) ⟨rd_C_m mF_rf h.1, h.2.1, h.2.2.1, h.2.2.2.1, h.2.2.2.2.1, h.2.2.2.2.2⟩ (by omega) (by omega) (ht.1.trans he1)) rfl rfl mX12_token_ok rfl rfl rfl (by decide) rfl rfl rfl ?_
  rintro _ w1 ⟨rfl, htw1, hmw1, hrdw1, hFw1⟩ _
  have heqw1 : t_cnt 0 9 (t_s T len i) (f, p, it, m, ft, D) = (f, p, it, m, ft, D) := t_cnt_c (by decide)
  have hppw1 : f ≠ 0 → p ≤ t_s T len i := fun z => by omega
  have hkbw1 := t_k_b T len i1
  refine g_iload rfl rfl ?_
  refine g_iconst rfl ⟨by decide, by decide⟩ ?_
  refine g_icmp_eq (tgt := 103) rfl (by decide) (fun hx => absurd hx (by omega)) (fun _ => ?_)
  refine g_aload_n rfl rfl ?_
  refine g_iload rfl rfl ?_
  refine g_iS (as := [tI 2]) mX12_leastOf_ok rfl rfl rfl rfl rfl rfl rfl ?_
  refine g_iload_n rfl rfl ?_
  refine g_iconst rfl ⟨by decide, by decide⟩ ?_
  refine g_icmp_eq (tgt := 11) rfl (by decide) (fun hx => absurd hx (by omega)) (fun _ => ?_)
  refine g_iload_n rfl rfl ?_
  refine g_bipush rfl ⟨by decide, by decide⟩ (by decide) ?_
  refine g_icmp_ne (tgt := 15) rfl (by decide) (fun _ => ?_) (fun hx => absurd hx (by omega))
  refine g_iload_n rfl rfl ?_
  refine g_iconst rfl ⟨by decide, by decide⟩ ?_
  refine g_icmp_ne (tgt := 24) rfl (by decide) (fun _ => ?_) (fun hx => absurd hx (by omega))
  refine g_iload_n rfl rfl ?_
  refine g_bipush rfl ⟨by decide, by decide⟩ (by decide) ?_
  refine g_icmp_ne (tgt := 34) rfl (by decide) (fun _ => ?_) (fun hx => absurd hx (by omega))
  refine g_iconst rfl ⟨by decide, by decide⟩ ?_
  refine x_ireturn rfl rfl ?_
  intro _
  refine g_iload rfl rfl ?_
  refine g_iS (as := [tI 2]) mX12_mostOf_ok rfl rfl rfl rfl rfl rfl rfl ?_
  refine g_iload_n rfl rfl ?_
  refine g_iconst rfl ⟨by decide, by decide⟩ ?_
  refine g_icmp_ne (tgt := 9) rfl (by decide) (fun hx => absurd hx (by omega)) (fun _ => ?_)
  refine g_iconst rfl ⟨by decide, by decide⟩ ?_
  refine g_goto (tgt := 46) rfl (by decide) ?_
  refine x_ireturn rfl rfl ?_
  intro _
  refine g_cV (as := [tI 0, tI 4]) (s_take9 (R := (it, m, ft, D)) hG hT (i := i1) (by omega) (by omega) ⟨rd_C_m mF_rf hmw1.1, hmw1.2.1, hmw1.2.2.1, hmw1.2.2.2.1, hmw1.2.2.2.2.1, hmw1.2.2.2.2.2⟩ ⟨htw1.1, htw1.2.1, htw1.2.2.1, htw1.2.2.2.1, htw1.2.2.2.2⟩ (fun z => by have := hppw1 z; omega)) rfl rfl mX12_take_ok rfl rfl rfl (by decide) rfl rfl rfl ?_
  rintro _ w2 ⟨⟨hkw2, rfl, h16w2⟩ | ⟨hkw2, rfl, fw2, pw2, heqw2, hmw2, htw2, hrdw2⟩, hFw2⟩ _
  · obtain ⟨w3, hw39⟩ : ∃ x, x = w2 := ⟨_, rfl⟩
    rw [← hw39] at hFw2 h16w2 ⊢
    have hFw3 := hFw2
    refine g_if_ne (tgt := 90) rfl (by decide) (fun hx => absurd hx (by omega)) (fun _ => ?_)
    refine g_iconst rfl ⟨by decide, by decide⟩ ?_
    refine x_zreturn rfl rfl (Or.inl rfl) ?_
    rw [l_P]
    exact ⟨(mF_tr (mF_tr (mF_tr (mF_tr mF_rf mF_rf) hFw1) mF_rf) hFw3), Or.inl ⟨by first | rfl | omega, _, by rw [t_ln_w hwx (by decide), t_l0_1a (by decide) he1 (by omega)], h16w2⟩⟩
  · rw [he2] at htw2
    have hppw2 : fw2 ≠ 0 → pw2 ≤ t_s T len i1 := fun z => by
      have q1 := heqw2
      by_cases u : (t_v T len i1 < t_lo 9 ∨ t_hi 9 < t_v T len i1) ∧ f = 0
      · rw [t_chk_a u] at q1
        have q2 : t_s T len i1 = pw2 := congrArg (fun x => x.2.1) q1
        omega
      · rw [t_chk_b u] at q1
        have q2 : p = pw2 := congrArg (fun x => x.2.1) q1
        have q3 : f = fw2 := congrArg (fun x => x.1) q1
        have := hppw1 (by omega)
        omega
    refine g_if_ne (tgt := 90) rfl (by decide) (fun _ => ?_) (fun hx => absurd hx (by omega))
    refine g_aload_n rfl rfl ?_
    refine x_getF (r := 211) hG rfl rfl (by decide) (Or.inr ⟨_, rfl⟩) rfl ?_
    refine g_iload rfl rfl ?_
    refine g_aload_n rfl rfl ?_
    refine x_geti (v := (t_cl 9 (t_v T len i1))) rfl rfl (by decide) (Or.inl rfl) hrdw2 ?_
    refine g_iast rfl rfl (by decide) (by decide) (by decide) ?_
    refine g_iconst rfl ⟨by decide, by decide⟩ ?_
    refine x_zreturn rfl rfl (Or.inr rfl) ?_
    rw [l_P]
    refine ⟨(mF_pt (mF_tr (mF_tr (mF_tr (mF_tr mF_rf mF_rf) hFw1) mF_rf) hFw2)), Or.inr ⟨rfl, i2, t_tk 9 (t_v T len i1) 0 (fw2, pw2, it, m, ft, D), ⟨by omega, by omega⟩, ⟨htw2.1, htw2.2.1, htw2.2.2.1, htw2.2.2.2.1, htw2.2.2.2.2⟩, ⟨lo, fun z => absurd z (by decide), rd_C_m (mF_pt mF_rf) hmw2.1, hmw2.2.1, hmw2.2.2.1, hmw2.2.2.2.1, hmw2.2.2.2.2.1, by show ∀ j, 0 ≤ j → j < 129 → _ = t_D 9 (t_rw 9 (t_v T len i1)) 0 m D j; rw [t_D_r (by decide)]; exact (told_u hmw2.2.2.2.2.2)⟩, fun z => ?_, fun z => ?_⟩⟩
    · rw [t_ln_w hwx (by decide), t_l0_1n rfl he1 he2 (by omega) z]
    · rw [t_ln_w hwx (by decide), t_l0_1y rfl he1 he2 (by omega) z, heqw1, heqw2]
set_option maxHeartbeats 4000000 in
set_option maxRecDepth 100000 in
theorem s_li10 {G : tp_G} {μ : tp_M} (hG : tp_Gf G = true) {T : Int → Int} {len i f p it m ft lo : Int} {D : Int → Int} (hT : ∀ j, 0 ≤ T j ∧ T j ≤ 255) (h0 : 0 ≤ i) (h1 : i ≤ len) (h : ms T len f p m ft lo D μ) (ht : rtk T len i μ) (hI : t_I 0 i (f, p, it, m, ft, D)) (hlo : (0 : Int) = 2 → lo = min 12 it) (hwx : t_wx 0 T len i = 10) : tp_k G mX12_codeLine [tR (some 201), tL (1937337955), tI (t_s T len i)] μ (fun r μ' => l_P 0 T len i (f, p, it, m, ft, D) μ r μ') := by
  refine tp_ok_of mX12_codeLine_ok rfl (Nat.le_refl _) ?_
  obtain ⟨i1, he1⟩ : ∃ x, t_e T len i = x := ⟨_, rfl⟩
  obtain ⟨i2, he2⟩ : ∃ x, t_e T len i1 = x := ⟨_, rfl⟩
  obtain ⟨i3, he3⟩ : ∃ x, t_e T len i2 = x := ⟨_, rfl⟩
  have hkk : t_k T len i = 1 := by
    by_cases q : t_k T len i = 1
    · exact q
    · unfold t_wx at hwx; rw [if_neg q] at hwx; omega
  have hb0 := t_s_B (T := T) h1
  have hb1 := t_e_B (T := T) h1
  have hb2 := t_e_B (T := T) (len := len) (i := i1) (by omega)
  have hbs1 := t_s_B (T := T) (len := len) (i := i1) (by omega)
  have hb3 := t_e_B (T := T) (len := len) (i := i2) (by omega)
  have hbs2 := t_s_B (T := T) (len := len) (i := i2) (by omega)
  have hbs3 := t_s_B (T := T) (len := len) (i := i3) (by omega)
  have hpI : f ≠ 0 → 0 ≤ p ∧ p < i := hI.2.2.2.2.2.2.1
  have hitI : 0 ≤ it ∧ it ≤ i := hI.2.1
  have hlen := h.1.2.1
  have hftI : -1 ≤ ft ∧ ft ≤ 39 := hI.2.2.2.2.2.2.2.2.1
  have hD0 : D 0 = min 40 it := hI.2.2.1 (by decide)
  have hcl : 2 ≤ t_cl 10 (t_v T len i1) ∧ t_cl 10 (t_v T len i1) ≤ 99 := t_cl_b (by decide)
  refine g_aload_n rfl rfl ?_
  refine g_lload_n rfl rfl ?_
  refine g_iV (as := [tL (1937337955)]) mX12_kindBy_ok rfl rfl rfl rfl rfl rfl (by decide) rfl rfl rfl ?_
  refine g_lload_n rfl rfl ?_
  refine g_ldc2 (z := 482854660462) rfl rfl ⟨by decide, by decide⟩ ?_
  refine x_lcmp (v := -1) rfl (by decide) ?_
  refine g_if_ne (tgt := 12) rfl (by decide) (fun _ => ?_) (fun hx => absurd hx (by omega))
  refine g_lload_n rfl rfl ?_
  refine g_ldc2 (z := 26982) rfl rfl ⟨by decide, by decide⟩ ?_
  refine x_lcmp (v := 1) rfl (by decide) ?_
  refine g_if_ne (tgt := 24) rfl (by decide) (fun _ => ?_) (fun hx => absurd hx (by omega))
  refine g_lload_n rfl rfl ?_
  refine g_ldc2 (z := 1786080624) rfl rfl ⟨by decide, by decide⟩ ?_
  refine x_lcmp (v := 1) rfl (by decide) ?_
  refine g_if_ne (tgt := 36) rfl (by decide) (fun _ => ?_) (fun hx => absurd hx (by omega))
  refine g_lload_n rfl rfl ?_
  refine g_ldc2 (z := 1667329132) rfl rfl ⟨by decide, by decide⟩ ?_
  refine x_lcmp (v := 1) rfl (by decide) ?_
  refine g_if_ne (tgt := 48) rfl (by decide) (fun _ => ?_) (fun hx => absurd hx (by omega))
  refine g_lload_n rfl rfl ?_
  refine g_ldc2 (z := 7497076) rfl rfl ⟨by decide, by decide⟩ ?_
  refine x_lcmp (v := 1) rfl (by decide) ?_
  refine g_if_ne (tgt := 60) rfl (by decide) (fun _ => ?_) (fun hx => absurd hx (by omega))
  refine g_lload_n rfl rfl ?_
  refine g_ldc2 (z := 7760225) rfl rfl ⟨by decide, by decide⟩ ?_
  refine x_lcmp (v := 1) rfl (by decide) ?_
  refine g_if_ne (tgt := 72) rfl (by decide) (fun _ => ?_) (fun hx => absurd hx (by omega))
  refine g_lload_n rfl rfl ?_
  refine g_ldc2 (z := 1937010544) rfl rfl ⟨by decide, by decide⟩ ?_
  refine x_lcmp (v := 1) rfl (by decide) ?_
  refine g_if_ne (tgt := 85) rfl (by decide) (fun _ => ?_) (fun hx => absurd hx (by omega))
  refine g_iconst rfl ⟨by decide, by decide⟩ ?_
  refine x_ireturn rfl rfl ?_
  intro _
  refine g_istore rfl rfl rfl ?_
  refine g_lload_n rfl rfl ?_
  refine g_iS (as := [tL (1937337955)]) mX12_partBy_ok rfl rfl rfl rfl rfl rfl rfl ?_
  refine g_lload_n rfl rfl ?_
  refine g_ldc2 (z := 1651078259) rfl rfl ⟨by decide, by decide⟩ ?_
  refine x_lcmp (v := 1) rfl (by decide) ?_
  refine g_if_ne (tgt := 12) rfl (by decide) (fun _ => ?_) (fun hx => absurd hx (by omega))
  refine g_lload_n rfl rfl ?_
  refine g_ldc2 (z := 1684366704) rfl rfl ⟨by decide, by decide⟩ ?_
  refine x_lcmp (v := 1) rfl (by decide) ?_
  refine g_if_ne (tgt := 24) rfl (by decide) (fun _ => ?_) (fun hx => absurd hx (by omega))
  refine g_lload_n rfl rfl ?_
  refine g_ldc2 (z := 1937337955) rfl rfl ⟨by decide, by decide⟩ ?_
  refine x_lcmp (v := 0) rfl (by decide) ?_
  refine g_if_ne (tgt := 36) rfl (by decide) (fun hx => absurd hx (by omega)) (fun _ => ?_)
  refine g_iconst rfl ⟨by decide, by decide⟩ ?_
  refine g_goto (tgt := 100) rfl (by decide) ?_
  refine x_ireturn rfl rfl ?_
  intro _
  refine g_istore rfl rfl rfl ?_
  refine g_iload rfl rfl ?_
  refine g_iconst rfl ⟨by decide, by decide⟩ ?_
  refine g_icmp_ne (tgt := 38) rfl (by decide) (fun hx => absurd hx (by omega)) (fun _ => ?_)
  refine g_iload rfl rfl ?_
  refine g_iconst rfl ⟨by decide, by decide⟩ ?_
  refine g_icmp_ne (tgt := 38) rfl (by decide) (fun _ => ?_) (fun hx => absurd hx (by omega))
  refine g_iload rfl rfl ?_
  refine g_iconst rfl ⟨by decide, by decide⟩ ?_
  refine g_icmp_eq (tgt := 61) rfl (by decide) (fun _ => ?_) (fun hx => absurd hx (by omega))
  refine g_aload_n rfl rfl ?_
  refine g_cV (as := []) (s_tok9 hG hT (i := i1) ⟨rd_C_m mF_rf h.1, h.2.1, h.2.2.1, h.2.2.2.1, h.2.2.2.2.1, h.2.2.2.2.2⟩ (by omega) (by omega) (ht.1.trans he1)) rfl rfl mX12_token_ok rfl rfl rfl (by decide) rfl rfl rfl ?_
  rintro _ w1 ⟨rfl, htw1, hmw1, hrdw1, hFw1⟩ _
  have heqw1 : t_cnt 0 10 (t_s T len i) (f, p, it, m, ft, D) = (f, p, it, m, ft, D) := t_cnt_c (by decide)
  have hppw1 : f ≠ 0 → p ≤ t_s T len i := fun z => by omega
  have hkbw1 := t_k_b T len i1
  refine g_iload rfl rfl ?_
  refine g_iconst rfl ⟨by decide, by decide⟩ ?_
  refine g_icmp_eq (tgt := 103) rfl (by decide) (fun hx => absurd hx (by omega)) (fun _ => ?_)
  refine g_aload_n rfl rfl ?_
  refine g_iload rfl rfl ?_
  refine g_iS (as := [tI 3]) mX12_leastOf_ok rfl rfl rfl rfl rfl rfl rfl ?_
  refine g_iload_n rfl rfl ?_
  refine g_iconst rfl ⟨by decide, by decide⟩ ?_
  refine g_icmp_eq (tgt := 11) rfl (by decide) (fun hx => absurd hx (by omega)) (fun _ => ?_)
  refine g_iload_n rfl rfl ?_
  refine g_bipush rfl ⟨by decide, by decide⟩ (by decide) ?_
  refine g_icmp_ne (tgt := 15) rfl (by decide) (fun _ => ?_) (fun hx => absurd hx (by omega))
  refine g_iload_n rfl rfl ?_
  refine g_iconst rfl ⟨by decide, by decide⟩ ?_
  refine g_icmp_ne (tgt := 24) rfl (by decide) (fun hx => absurd hx (by omega)) (fun _ => ?_)
  refine g_iconst rfl ⟨by decide, by decide⟩ ?_
  refine g_goto (tgt := 35) rfl (by decide) ?_
  refine x_ireturn rfl rfl ?_
  intro _
  refine g_iload rfl rfl ?_
  refine g_iS (as := [tI 3]) mX12_mostOf_ok rfl rfl rfl rfl rfl rfl rfl ?_
  refine g_iload_n rfl rfl ?_
  refine g_iconst rfl ⟨by decide, by decide⟩ ?_
  refine g_icmp_ne (tgt := 9) rfl (by decide) (fun _ => ?_) (fun hx => absurd hx (by omega))
  refine g_iload_n rfl rfl ?_
  refine g_iconst rfl ⟨by decide, by decide⟩ ?_
  refine g_icmp_ne (tgt := 19) rfl (by decide) (fun hx => absurd hx (by omega)) (fun _ => ?_)
  refine g_bipush rfl ⟨by decide, by decide⟩ (by decide) ?_
  refine g_goto (tgt := 46) rfl (by decide) ?_
  refine x_ireturn rfl rfl ?_
  intro _
  refine g_cV (as := [tI 2, tI 99]) (s_take10 (R := (it, m, ft, D)) hG hT (i := i1) (by omega) (by omega) ⟨rd_C_m mF_rf hmw1.1, hmw1.2.1, hmw1.2.2.1, hmw1.2.2.2.1, hmw1.2.2.2.2.1, hmw1.2.2.2.2.2⟩ ⟨htw1.1, htw1.2.1, htw1.2.2.1, htw1.2.2.2.1, htw1.2.2.2.2⟩ (fun z => by have := hppw1 z; omega)) rfl rfl mX12_take_ok rfl rfl rfl (by decide) rfl rfl rfl ?_
  rintro _ w2 ⟨⟨hkw2, rfl, h16w2⟩ | ⟨hkw2, rfl, fw2, pw2, heqw2, hmw2, htw2, hrdw2⟩, hFw2⟩ _
  · obtain ⟨w3, hw39⟩ : ∃ x, x = w2 := ⟨_, rfl⟩
    rw [← hw39] at hFw2 h16w2 ⊢
    have hFw3 := hFw2
    refine g_if_ne (tgt := 90) rfl (by decide) (fun hx => absurd hx (by omega)) (fun _ => ?_)
    refine g_iconst rfl ⟨by decide, by decide⟩ ?_
    refine x_zreturn rfl rfl (Or.inl rfl) ?_
    rw [l_P]
    exact ⟨(mF_tr (mF_tr (mF_tr (mF_tr mF_rf mF_rf) hFw1) mF_rf) hFw3), Or.inl ⟨by first | rfl | omega, _, by rw [t_ln_w hwx (by decide), t_l0_1a (by decide) he1 (by omega)], h16w2⟩⟩
  · rw [he2] at htw2
    have hppw2 : fw2 ≠ 0 → pw2 ≤ t_s T len i1 := fun z => by
      have q1 := heqw2
      by_cases u : (t_v T len i1 < t_lo 10 ∨ t_hi 10 < t_v T len i1) ∧ f = 0
      · rw [t_chk_a u] at q1
        have q2 : t_s T len i1 = pw2 := congrArg (fun x => x.2.1) q1
        omega
      · rw [t_chk_b u] at q1
        have q2 : p = pw2 := congrArg (fun x => x.2.1) q1
        have q3 : f = fw2 := congrArg (fun x => x.1) q1
        have := hppw1 (by omega)
        omega
    refine g_if_ne (tgt := 90) rfl (by decide) (fun _ => ?_) (fun hx => absurd hx (by omega))
    refine g_aload_n rfl rfl ?_
    refine x_getF (r := 211) hG rfl rfl (by decide) (Or.inr ⟨_, rfl⟩) rfl ?_
    refine g_iload rfl rfl ?_
    refine g_aload_n rfl rfl ?_
    refine x_geti (v := (t_cl 10 (t_v T len i1))) rfl rfl (by decide) (Or.inl rfl) hrdw2 ?_
    refine g_iast rfl rfl (by decide) (by decide) (by decide) ?_
    refine g_iconst rfl ⟨by decide, by decide⟩ ?_
    refine x_zreturn rfl rfl (Or.inr rfl) ?_
    rw [l_P]
    refine ⟨(mF_pt (mF_tr (mF_tr (mF_tr (mF_tr mF_rf mF_rf) hFw1) mF_rf) hFw2)), Or.inr ⟨rfl, i2, t_tk 10 (t_v T len i1) 0 (fw2, pw2, it, m, ft, D), ⟨by omega, by omega⟩, ⟨htw2.1, htw2.2.1, htw2.2.2.1, htw2.2.2.2.1, htw2.2.2.2.2⟩, ⟨lo, fun z => absurd z (by decide), rd_C_m (mF_pt mF_rf) hmw2.1, hmw2.2.1, hmw2.2.2.1, hmw2.2.2.2.1, hmw2.2.2.2.2.1, by show ∀ j, 0 ≤ j → j < 129 → _ = t_D 10 (t_rw 10 (t_v T len i1)) 0 m D j; rw [t_D_r (by decide)]; exact (told_u hmw2.2.2.2.2.2)⟩, fun z => ?_, fun z => ?_⟩⟩
    · rw [t_ln_w hwx (by decide), t_l0_1n rfl he1 he2 (by omega) z]
    · rw [t_ln_w hwx (by decide), t_l0_1y rfl he1 he2 (by omega) z, heqw1, heqw2]
set_option maxHeartbeats 4000000 in
set_option maxRecDepth 100000 in
theorem s_li11 {G : tp_G} {μ : tp_M} (hG : tp_Gf G = true) {T : Int → Int} {len i f p it m ft lo : Int} {D : Int → Int} (hT : ∀ j, 0 ≤ T j ∧ T j ≤ 255) (h0 : 0 ≤ i) (h1 : i ≤ len) (h : ms T len f p m ft lo D μ) (ht : rtk T len i μ) (hI : t_I 0 i (f, p, it, m, ft, D)) (hlo : (0 : Int) = 2 → lo = min 12 it) (hwx : t_wx 0 T len i = 11) : tp_k G mX12_codeLine [tR (some 201), tL (1718775661), tI (t_s T len i)] μ (fun r μ' => l_P 0 T len i (f, p, it, m, ft, D) μ r μ') := by
  refine tp_ok_of mX12_codeLine_ok rfl (Nat.le_refl _) ?_
  obtain ⟨i1, he1⟩ : ∃ x, t_e T len i = x := ⟨_, rfl⟩
  obtain ⟨i2, he2⟩ : ∃ x, t_e T len i1 = x := ⟨_, rfl⟩
  obtain ⟨i3, he3⟩ : ∃ x, t_e T len i2 = x := ⟨_, rfl⟩
  have hkk : t_k T len i = 1 := by
    by_cases q : t_k T len i = 1
    · exact q
    · unfold t_wx at hwx; rw [if_neg q] at hwx; omega
  have hb0 := t_s_B (T := T) h1
  have hb1 := t_e_B (T := T) h1
  have hb2 := t_e_B (T := T) (len := len) (i := i1) (by omega)
  have hbs1 := t_s_B (T := T) (len := len) (i := i1) (by omega)
  have hb3 := t_e_B (T := T) (len := len) (i := i2) (by omega)
  have hbs2 := t_s_B (T := T) (len := len) (i := i2) (by omega)
  have hbs3 := t_s_B (T := T) (len := len) (i := i3) (by omega)
  have hpI : f ≠ 0 → 0 ≤ p ∧ p < i := hI.2.2.2.2.2.2.1
  have hitI : 0 ≤ it ∧ it ≤ i := hI.2.1
  have hlen := h.1.2.1
  have hftI : -1 ≤ ft ∧ ft ≤ 39 := hI.2.2.2.2.2.2.2.2.1
  have hD0 : D 0 = min 40 it := hI.2.2.1 (by decide)
  have hcl : 0 ≤ t_cl 11 (t_v T len i1) ∧ t_cl 11 (t_v T len i1) ≤ 39 := t_cl_b (by decide)
  refine g_aload_n rfl rfl ?_
  refine g_lload_n rfl rfl ?_
  refine g_iV (as := [tL (1718775661)]) mX12_kindBy_ok rfl rfl rfl rfl rfl rfl (by decide) rfl rfl rfl ?_
  refine g_lload_n rfl rfl ?_
  refine g_ldc2 (z := 482854660462) rfl rfl ⟨by decide, by decide⟩ ?_
  refine x_lcmp (v := -1) rfl (by decide) ?_
  refine g_if_ne (tgt := 12) rfl (by decide) (fun _ => ?_) (fun hx => absurd hx (by omega))
  refine g_lload_n rfl rfl ?_
  refine g_ldc2 (z := 26982) rfl rfl ⟨by decide, by decide⟩ ?_
  refine x_lcmp (v := 1) rfl (by decide) ?_
  refine g_if_ne (tgt := 24) rfl (by decide) (fun _ => ?_) (fun hx => absurd hx (by omega))
  refine g_lload_n rfl rfl ?_
  refine g_ldc2 (z := 1786080624) rfl rfl ⟨by decide, by decide⟩ ?_
  refine x_lcmp (v := -1) rfl (by decide) ?_
  refine g_if_ne (tgt := 36) rfl (by decide) (fun _ => ?_) (fun hx => absurd hx (by omega))
  refine g_lload_n rfl rfl ?_
  refine g_ldc2 (z := 1667329132) rfl rfl ⟨by decide, by decide⟩ ?_
  refine x_lcmp (v := 1) rfl (by decide) ?_
  refine g_if_ne (tgt := 48) rfl (by decide) (fun _ => ?_) (fun hx => absurd hx (by omega))
  refine g_lload_n rfl rfl ?_
  refine g_ldc2 (z := 7497076) rfl rfl ⟨by decide, by decide⟩ ?_
  refine x_lcmp (v := 1) rfl (by decide) ?_
  refine g_if_ne (tgt := 60) rfl (by decide) (fun _ => ?_) (fun hx => absurd hx (by omega))
  refine g_lload_n rfl rfl ?_
  refine g_ldc2 (z := 7760225) rfl rfl ⟨by decide, by decide⟩ ?_
  refine x_lcmp (v := 1) rfl (by decide) ?_
  refine g_if_ne (tgt := 72) rfl (by decide) (fun _ => ?_) (fun hx => absurd hx (by omega))
  refine g_lload_n rfl rfl ?_
  refine g_ldc2 (z := 1937010544) rfl rfl ⟨by decide, by decide⟩ ?_
  refine x_lcmp (v := -1) rfl (by decide) ?_
  refine g_if_ne (tgt := 85) rfl (by decide) (fun _ => ?_) (fun hx => absurd hx (by omega))
  refine g_iconst rfl ⟨by decide, by decide⟩ ?_
  refine x_ireturn rfl rfl ?_
  intro _
  refine g_istore rfl rfl rfl ?_
  refine g_lload_n rfl rfl ?_
  refine g_iS (as := [tL (1718775661)]) mX12_partBy_ok rfl rfl rfl rfl rfl rfl rfl ?_
  refine g_lload_n rfl rfl ?_
  refine g_ldc2 (z := 1651078259) rfl rfl ⟨by decide, by decide⟩ ?_
  refine x_lcmp (v := 1) rfl (by decide) ?_
  refine g_if_ne (tgt := 12) rfl (by decide) (fun _ => ?_) (fun hx => absurd hx (by omega))
  refine g_lload_n rfl rfl ?_
  refine g_ldc2 (z := 1684366704) rfl rfl ⟨by decide, by decide⟩ ?_
  refine x_lcmp (v := 1) rfl (by decide) ?_
  refine g_if_ne (tgt := 24) rfl (by decide) (fun _ => ?_) (fun hx => absurd hx (by omega))
  refine g_lload_n rfl rfl ?_
  refine g_ldc2 (z := 1937337955) rfl rfl ⟨by decide, by decide⟩ ?_
  refine x_lcmp (v := -1) rfl (by decide) ?_
  refine g_if_ne (tgt := 36) rfl (by decide) (fun _ => ?_) (fun hx => absurd hx (by omega))
  refine g_lload_n rfl rfl ?_
  refine g_ldc2 (z := 1718775661) rfl rfl ⟨by decide, by decide⟩ ?_
  refine x_lcmp (v := 0) rfl (by decide) ?_
  refine g_if_ne (tgt := 48) rfl (by decide) (fun hx => absurd hx (by omega)) (fun _ => ?_)
  refine g_iconst rfl ⟨by decide, by decide⟩ ?_
  refine g_goto (tgt := 100) rfl (by decide) ?_
  refine x_ireturn rfl rfl ?_
  intro _
  refine g_istore rfl rfl rfl ?_
  refine g_iload rfl rfl ?_
  refine g_iconst rfl ⟨by decide, by decide⟩ ?_
  refine g_icmp_ne (tgt := 38) rfl (by decide) (fun hx => absurd hx (by omega)) (fun _ => ?_)
  refine g_iload rfl rfl ?_
  refine g_iconst rfl ⟨by decide, by decide⟩ ?_
  refine g_icmp_ne (tgt := 38) rfl (by decide) (fun _ => ?_) (fun hx => absurd hx (by omega))
  refine g_iload rfl rfl ?_
  refine g_iconst rfl ⟨by decide, by decide⟩ ?_
  refine g_icmp_eq (tgt := 61) rfl (by decide) (fun _ => ?_) (fun hx => absurd hx (by omega))
  refine g_aload_n rfl rfl ?_
  refine g_cV (as := []) (s_tok9 hG hT (i := i1) ⟨rd_C_m mF_rf h.1, h.2.1, h.2.2.1, h.2.2.2.1, h.2.2.2.2.1, h.2.2.2.2.2⟩ (by omega) (by omega) (ht.1.trans he1)) rfl rfl mX12_token_ok rfl rfl rfl (by decide) rfl rfl rfl ?_
  rintro _ w1 ⟨rfl, htw1, hmw1, hrdw1, hFw1⟩ _
  have heqw1 : t_cnt 0 11 (t_s T len i) (f, p, it, m, ft, D) = (f, p, it, m, ft, D) := t_cnt_c (by decide)
  have hppw1 : f ≠ 0 → p ≤ t_s T len i := fun z => by omega
  have hkbw1 := t_k_b T len i1
  refine g_iload rfl rfl ?_
  refine g_iconst rfl ⟨by decide, by decide⟩ ?_
  refine g_icmp_eq (tgt := 103) rfl (by decide) (fun hx => absurd hx (by omega)) (fun _ => ?_)
  refine g_aload_n rfl rfl ?_
  refine g_iload rfl rfl ?_
  refine g_iS (as := [tI 4]) mX12_leastOf_ok rfl rfl rfl rfl rfl rfl rfl ?_
  refine g_iload_n rfl rfl ?_
  refine g_iconst rfl ⟨by decide, by decide⟩ ?_
  refine g_icmp_eq (tgt := 11) rfl (by decide) (fun hx => absurd hx (by omega)) (fun _ => ?_)
  refine g_iload_n rfl rfl ?_
  refine g_bipush rfl ⟨by decide, by decide⟩ (by decide) ?_
  refine g_icmp_ne (tgt := 15) rfl (by decide) (fun _ => ?_) (fun hx => absurd hx (by omega))
  refine g_iload_n rfl rfl ?_
  refine g_iconst rfl ⟨by decide, by decide⟩ ?_
  refine g_icmp_ne (tgt := 24) rfl (by decide) (fun _ => ?_) (fun hx => absurd hx (by omega))
  refine g_iload_n rfl rfl ?_
  refine g_bipush rfl ⟨by decide, by decide⟩ (by decide) ?_
  refine g_icmp_ne (tgt := 34) rfl (by decide) (fun _ => ?_) (fun hx => absurd hx (by omega))
  refine g_iconst rfl ⟨by decide, by decide⟩ ?_
  refine x_ireturn rfl rfl ?_
  intro _
  refine g_iload rfl rfl ?_
  refine g_iS (as := [tI 4]) mX12_mostOf_ok rfl rfl rfl rfl rfl rfl rfl ?_
  refine g_iload_n rfl rfl ?_
  refine g_iconst rfl ⟨by decide, by decide⟩ ?_
  refine g_icmp_ne (tgt := 9) rfl (by decide) (fun _ => ?_) (fun hx => absurd hx (by omega))
  refine g_iload_n rfl rfl ?_
  refine g_iconst rfl ⟨by decide, by decide⟩ ?_
  refine g_icmp_ne (tgt := 19) rfl (by decide) (fun _ => ?_) (fun hx => absurd hx (by omega))
  refine g_iload_n rfl rfl ?_
  refine g_iconst rfl ⟨by decide, by decide⟩ ?_
  refine g_icmp_eq (tgt := 29) rfl (by decide) (fun _ => ?_) (fun hx => absurd hx (by omega))
  refine g_bipush rfl ⟨by decide, by decide⟩ (by decide) ?_
  refine g_goto (tgt := 46) rfl (by decide) ?_
  refine x_ireturn rfl rfl ?_
  intro _
  refine g_cV (as := [tI 0, tI 39]) (s_take11 (R := (it, m, ft, D)) hG hT (i := i1) (by omega) (by omega) ⟨rd_C_m mF_rf hmw1.1, hmw1.2.1, hmw1.2.2.1, hmw1.2.2.2.1, hmw1.2.2.2.2.1, hmw1.2.2.2.2.2⟩ ⟨htw1.1, htw1.2.1, htw1.2.2.1, htw1.2.2.2.1, htw1.2.2.2.2⟩ (fun z => by have := hppw1 z; omega)) rfl rfl mX12_take_ok rfl rfl rfl (by decide) rfl rfl rfl ?_
  rintro _ w2 ⟨⟨hkw2, rfl, h16w2⟩ | ⟨hkw2, rfl, fw2, pw2, heqw2, hmw2, htw2, hrdw2⟩, hFw2⟩ _
  · obtain ⟨w3, hw39⟩ : ∃ x, x = w2 := ⟨_, rfl⟩
    rw [← hw39] at hFw2 h16w2 ⊢
    have hFw3 := hFw2
    refine g_if_ne (tgt := 90) rfl (by decide) (fun hx => absurd hx (by omega)) (fun _ => ?_)
    refine g_iconst rfl ⟨by decide, by decide⟩ ?_
    refine x_zreturn rfl rfl (Or.inl rfl) ?_
    rw [l_P]
    exact ⟨(mF_tr (mF_tr (mF_tr (mF_tr mF_rf mF_rf) hFw1) mF_rf) hFw3), Or.inl ⟨by first | rfl | omega, _, by rw [t_ln_w hwx (by decide), t_l0_1a (by decide) he1 (by omega)], h16w2⟩⟩
  · rw [he2] at htw2
    have hppw2 : fw2 ≠ 0 → pw2 ≤ t_s T len i1 := fun z => by
      have q1 := heqw2
      by_cases u : (t_v T len i1 < t_lo 11 ∨ t_hi 11 < t_v T len i1) ∧ f = 0
      · rw [t_chk_a u] at q1
        have q2 : t_s T len i1 = pw2 := congrArg (fun x => x.2.1) q1
        omega
      · rw [t_chk_b u] at q1
        have q2 : p = pw2 := congrArg (fun x => x.2.1) q1
        have q3 : f = fw2 := congrArg (fun x => x.1) q1
        have := hppw1 (by omega)
        omega
    refine g_if_ne (tgt := 90) rfl (by decide) (fun _ => ?_) (fun hx => absurd hx (by omega))
    refine g_aload_n rfl rfl ?_
    refine x_getF (r := 211) hG rfl rfl (by decide) (Or.inr ⟨_, rfl⟩) rfl ?_
    refine g_iload rfl rfl ?_
    refine g_aload_n rfl rfl ?_
    refine x_geti (v := (t_cl 11 (t_v T len i1))) rfl rfl (by decide) (Or.inl rfl) hrdw2 ?_
    refine g_iast rfl rfl (by decide) (by decide) (by decide) ?_
    refine g_iconst rfl ⟨by decide, by decide⟩ ?_
    refine x_zreturn rfl rfl (Or.inr rfl) ?_
    rw [l_P]
    refine ⟨(mF_pt (mF_tr (mF_tr (mF_tr (mF_tr mF_rf mF_rf) hFw1) mF_rf) hFw2)), Or.inr ⟨rfl, i2, t_tk 11 (t_v T len i1) 0 (fw2, pw2, it, m, ft, D), ⟨by omega, by omega⟩, ⟨htw2.1, htw2.2.1, htw2.2.2.1, htw2.2.2.2.1, htw2.2.2.2.2⟩, ⟨lo, fun z => absurd z (by decide), rd_C_m (mF_pt mF_rf) hmw2.1, hmw2.2.1, hmw2.2.2.1, hmw2.2.2.2.1, hmw2.2.2.2.2.1, by show ∀ j, 0 ≤ j → j < 129 → _ = t_D 11 (t_rw 11 (t_v T len i1)) 0 m D j; rw [t_D_r (by decide)]; exact (told_u hmw2.2.2.2.2.2)⟩, fun z => ?_, fun z => ?_⟩⟩
    · rw [t_ln_w hwx (by decide), t_l0_1n rfl he1 he2 (by omega) z]
    · rw [t_ln_w hwx (by decide), t_l0_1y rfl he1 he2 (by omega) z, heqw1, heqw2]
set_option maxHeartbeats 4000000 in
set_option maxRecDepth 100000 in
theorem s_li12 {G : tp_G} {μ : tp_M} (hG : tp_Gf G = true) {T : Int → Int} {len i f p it m ft lo : Int} {D : Int → Int} (hT : ∀ j, 0 ≤ T j ∧ T j ≤ 255) (h0 : 0 ≤ i) (h1 : i ≤ len) (h : ms T len f p m ft lo D μ) (ht : rtk T len i μ) (hI : t_I 0 i (f, p, it, m, ft, D)) (hlo : (0 : Int) = 2 → lo = min 12 it) (hwx : t_wx 0 T len i = 12) : tp_k G mX12_codeLine [tR (some 201), tL (29807), tI (t_s T len i)] μ (fun r μ' => l_P 0 T len i (f, p, it, m, ft, D) μ r μ') := by
  refine tp_ok_of mX12_codeLine_ok rfl (Nat.le_refl _) ?_
  obtain ⟨i1, he1⟩ : ∃ x, t_e T len i = x := ⟨_, rfl⟩
  obtain ⟨i2, he2⟩ : ∃ x, t_e T len i1 = x := ⟨_, rfl⟩
  obtain ⟨i3, he3⟩ : ∃ x, t_e T len i2 = x := ⟨_, rfl⟩
  have hkk : t_k T len i = 1 := by
    by_cases q : t_k T len i = 1
    · exact q
    · unfold t_wx at hwx; rw [if_neg q] at hwx; omega
  have hb0 := t_s_B (T := T) h1
  have hb1 := t_e_B (T := T) h1
  have hb2 := t_e_B (T := T) (len := len) (i := i1) (by omega)
  have hbs1 := t_s_B (T := T) (len := len) (i := i1) (by omega)
  have hb3 := t_e_B (T := T) (len := len) (i := i2) (by omega)
  have hbs2 := t_s_B (T := T) (len := len) (i := i2) (by omega)
  have hbs3 := t_s_B (T := T) (len := len) (i := i3) (by omega)
  have hpI : f ≠ 0 → 0 ≤ p ∧ p < i := hI.2.2.2.2.2.2.1
  have hitI : 0 ≤ it ∧ it ≤ i := hI.2.1
  have hlen := h.1.2.1
  have hftI : -1 ≤ ft ∧ ft ≤ 39 := hI.2.2.2.2.2.2.2.2.1
  have hD0 : D 0 = min 40 it := hI.2.2.1 (by decide)
  have hcl : 0 ≤ t_cl 12 (t_v T len i1) ∧ t_cl 12 (t_v T len i1) ≤ 39 := t_cl_b (by decide)
  refine g_aload_n rfl rfl ?_
  refine g_lload_n rfl rfl ?_
  refine g_iV (as := [tL (29807)]) mX12_kindBy_ok rfl rfl rfl rfl rfl rfl (by decide) rfl rfl rfl ?_
  refine g_lload_n rfl rfl ?_
  refine g_ldc2 (z := 482854660462) rfl rfl ⟨by decide, by decide⟩ ?_
  refine x_lcmp (v := -1) rfl (by decide) ?_
  refine g_if_ne (tgt := 12) rfl (by decide) (fun _ => ?_) (fun hx => absurd hx (by omega))
  refine g_lload_n rfl rfl ?_
  refine g_ldc2 (z := 26982) rfl rfl ⟨by decide, by decide⟩ ?_
  refine x_lcmp (v := 1) rfl (by decide) ?_
  refine g_if_ne (tgt := 24) rfl (by decide) (fun _ => ?_) (fun hx => absurd hx (by omega))
  refine g_lload_n rfl rfl ?_
  refine g_ldc2 (z := 1786080624) rfl rfl ⟨by decide, by decide⟩ ?_
  refine x_lcmp (v := -1) rfl (by decide) ?_
  refine g_if_ne (tgt := 36) rfl (by decide) (fun _ => ?_) (fun hx => absurd hx (by omega))
  refine g_lload_n rfl rfl ?_
  refine g_ldc2 (z := 1667329132) rfl rfl ⟨by decide, by decide⟩ ?_
  refine x_lcmp (v := -1) rfl (by decide) ?_
  refine g_if_ne (tgt := 48) rfl (by decide) (fun _ => ?_) (fun hx => absurd hx (by omega))
  refine g_lload_n rfl rfl ?_
  refine g_ldc2 (z := 7497076) rfl rfl ⟨by decide, by decide⟩ ?_
  refine x_lcmp (v := -1) rfl (by decide) ?_
  refine g_if_ne (tgt := 60) rfl (by decide) (fun _ => ?_) (fun hx => absurd hx (by omega))
  refine g_lload_n rfl rfl ?_
  refine g_ldc2 (z := 7760225) rfl rfl ⟨by decide, by decide⟩ ?_
  refine x_lcmp (v := -1) rfl (by decide) ?_
  refine g_if_ne (tgt := 72) rfl (by decide) (fun _ => ?_) (fun hx => absurd hx (by omega))
  refine g_lload_n rfl rfl ?_
  refine g_ldc2 (z := 1937010544) rfl rfl ⟨by decide, by decide⟩ ?_
  refine x_lcmp (v := -1) rfl (by decide) ?_
  refine g_if_ne (tgt := 85) rfl (by decide) (fun _ => ?_) (fun hx => absurd hx (by omega))
  refine g_iconst rfl ⟨by decide, by decide⟩ ?_
  refine x_ireturn rfl rfl ?_
  intro _
  refine g_istore rfl rfl rfl ?_
  refine g_lload_n rfl rfl ?_
  refine g_iS (as := [tL (29807)]) mX12_partBy_ok rfl rfl rfl rfl rfl rfl rfl ?_
  refine g_lload_n rfl rfl ?_
  refine g_ldc2 (z := 1651078259) rfl rfl ⟨by decide, by decide⟩ ?_
  refine x_lcmp (v := -1) rfl (by decide) ?_
  refine g_if_ne (tgt := 12) rfl (by decide) (fun _ => ?_) (fun hx => absurd hx (by omega))
  refine g_lload_n rfl rfl ?_
  refine g_ldc2 (z := 1684366704) rfl rfl ⟨by decide, by decide⟩ ?_
  refine x_lcmp (v := -1) rfl (by decide) ?_
  refine g_if_ne (tgt := 24) rfl (by decide) (fun _ => ?_) (fun hx => absurd hx (by omega))
  refine g_lload_n rfl rfl ?_
  refine g_ldc2 (z := 1937337955) rfl rfl ⟨by decide, by decide⟩ ?_
  refine x_lcmp (v := -1) rfl (by decide) ?_
  refine g_if_ne (tgt := 36) rfl (by decide) (fun _ => ?_) (fun hx => absurd hx (by omega))
  refine g_lload_n rfl rfl ?_
  refine g_ldc2 (z := 1718775661) rfl rfl ⟨by decide, by decide⟩ ?_
  refine x_lcmp (v := -1) rfl (by decide) ?_
  refine g_if_ne (tgt := 48) rfl (by decide) (fun _ => ?_) (fun hx => absurd hx (by omega))
  refine g_lload_n rfl rfl ?_
  refine g_ldc2 (z := 29807) rfl rfl ⟨by decide, by decide⟩ ?_
  refine x_lcmp (v := 0) rfl (by decide) ?_
  refine g_if_ne (tgt := 60) rfl (by decide) (fun hx => absurd hx (by omega)) (fun _ => ?_)
  refine g_iconst rfl ⟨by decide, by decide⟩ ?_
  refine g_goto (tgt := 100) rfl (by decide) ?_
  refine x_ireturn rfl rfl ?_
  intro _
  refine g_istore rfl rfl rfl ?_
  refine g_iload rfl rfl ?_
  refine g_iconst rfl ⟨by decide, by decide⟩ ?_
  refine g_icmp_ne (tgt := 38) rfl (by decide) (fun hx => absurd hx (by omega)) (fun _ => ?_)
  refine g_iload rfl rfl ?_
  refine g_iconst rfl ⟨by decide, by decide⟩ ?_
  refine g_icmp_ne (tgt := 38) rfl (by decide) (fun _ => ?_) (fun hx => absurd hx (by omega))
  refine g_iload rfl rfl ?_
  refine g_iconst rfl ⟨by decide, by decide⟩ ?_
  refine g_icmp_eq (tgt := 61) rfl (by decide) (fun _ => ?_) (fun hx => absurd hx (by omega))
  refine g_aload_n rfl rfl ?_
  refine g_cV (as := []) (s_tok9 hG hT (i := i1) ⟨rd_C_m mF_rf h.1, h.2.1, h.2.2.1, h.2.2.2.1, h.2.2.2.2.1, h.2.2.2.2.2⟩ (by omega) (by omega) (ht.1.trans he1)) rfl rfl mX12_token_ok rfl rfl rfl (by decide) rfl rfl rfl ?_
  rintro _ w1 ⟨rfl, htw1, hmw1, hrdw1, hFw1⟩ _
  have heqw1 : t_cnt 0 12 (t_s T len i) (f, p, it, m, ft, D) = (f, p, it, m, ft, D) := t_cnt_c (by decide)
  have hppw1 : f ≠ 0 → p ≤ t_s T len i := fun z => by omega
  have hkbw1 := t_k_b T len i1
  refine g_iload rfl rfl ?_
  refine g_iconst rfl ⟨by decide, by decide⟩ ?_
  refine g_icmp_eq (tgt := 103) rfl (by decide) (fun hx => absurd hx (by omega)) (fun _ => ?_)
  refine g_aload_n rfl rfl ?_
  refine g_iload rfl rfl ?_
  refine g_iS (as := [tI 5]) mX12_leastOf_ok rfl rfl rfl rfl rfl rfl rfl ?_
  refine g_iload_n rfl rfl ?_
  refine g_iconst rfl ⟨by decide, by decide⟩ ?_
  refine g_icmp_eq (tgt := 11) rfl (by decide) (fun hx => absurd hx (by omega)) (fun _ => ?_)
  refine g_iload_n rfl rfl ?_
  refine g_bipush rfl ⟨by decide, by decide⟩ (by decide) ?_
  refine g_icmp_ne (tgt := 15) rfl (by decide) (fun _ => ?_) (fun hx => absurd hx (by omega))
  refine g_iload_n rfl rfl ?_
  refine g_iconst rfl ⟨by decide, by decide⟩ ?_
  refine g_icmp_ne (tgt := 24) rfl (by decide) (fun _ => ?_) (fun hx => absurd hx (by omega))
  refine g_iload_n rfl rfl ?_
  refine g_bipush rfl ⟨by decide, by decide⟩ (by decide) ?_
  refine g_icmp_ne (tgt := 34) rfl (by decide) (fun _ => ?_) (fun hx => absurd hx (by omega))
  refine g_iconst rfl ⟨by decide, by decide⟩ ?_
  refine x_ireturn rfl rfl ?_
  intro _
  refine g_iload rfl rfl ?_
  refine g_iS (as := [tI 5]) mX12_mostOf_ok rfl rfl rfl rfl rfl rfl rfl ?_
  refine g_iload_n rfl rfl ?_
  refine g_iconst rfl ⟨by decide, by decide⟩ ?_
  refine g_icmp_ne (tgt := 9) rfl (by decide) (fun _ => ?_) (fun hx => absurd hx (by omega))
  refine g_iload_n rfl rfl ?_
  refine g_iconst rfl ⟨by decide, by decide⟩ ?_
  refine g_icmp_ne (tgt := 19) rfl (by decide) (fun _ => ?_) (fun hx => absurd hx (by omega))
  refine g_iload_n rfl rfl ?_
  refine g_iconst rfl ⟨by decide, by decide⟩ ?_
  refine g_icmp_eq (tgt := 29) rfl (by decide) (fun hx => absurd hx (by omega)) (fun _ => ?_)
  refine g_iload_n rfl rfl ?_
  refine g_iconst rfl ⟨by decide, by decide⟩ ?_
  refine g_icmp_ne (tgt := 34) rfl (by decide) (fun hx => absurd hx (by omega)) (fun _ => ?_)
  refine g_bipush rfl ⟨by decide, by decide⟩ (by decide) ?_
  refine g_goto (tgt := 46) rfl (by decide) ?_
  refine x_ireturn rfl rfl ?_
  intro _
  refine g_cV (as := [tI 0, tI 39]) (s_take12 (R := (it, m, ft, D)) hG hT (i := i1) (by omega) (by omega) ⟨rd_C_m mF_rf hmw1.1, hmw1.2.1, hmw1.2.2.1, hmw1.2.2.2.1, hmw1.2.2.2.2.1, hmw1.2.2.2.2.2⟩ ⟨htw1.1, htw1.2.1, htw1.2.2.1, htw1.2.2.2.1, htw1.2.2.2.2⟩ (fun z => by have := hppw1 z; omega)) rfl rfl mX12_take_ok rfl rfl rfl (by decide) rfl rfl rfl ?_
  rintro _ w2 ⟨⟨hkw2, rfl, h16w2⟩ | ⟨hkw2, rfl, fw2, pw2, heqw2, hmw2, htw2, hrdw2⟩, hFw2⟩ _
  · obtain ⟨w3, hw39⟩ : ∃ x, x = w2 := ⟨_, rfl⟩
    rw [← hw39] at hFw2 h16w2 ⊢
    have hFw3 := hFw2
    refine g_if_ne (tgt := 90) rfl (by decide) (fun hx => absurd hx (by omega)) (fun _ => ?_)
    refine g_iconst rfl ⟨by decide, by decide⟩ ?_
    refine x_zreturn rfl rfl (Or.inl rfl) ?_
    rw [l_P]
    exact ⟨(mF_tr (mF_tr (mF_tr (mF_tr mF_rf mF_rf) hFw1) mF_rf) hFw3), Or.inl ⟨by first | rfl | omega, _, by rw [t_ln_w hwx (by decide), t_l0_1a (by decide) he1 (by omega)], h16w2⟩⟩
  · rw [he2] at htw2
    have hppw2 : fw2 ≠ 0 → pw2 ≤ t_s T len i1 := fun z => by
      have q1 := heqw2
      by_cases u : (t_v T len i1 < t_lo 12 ∨ t_hi 12 < t_v T len i1) ∧ f = 0
      · rw [t_chk_a u] at q1
        have q2 : t_s T len i1 = pw2 := congrArg (fun x => x.2.1) q1
        omega
      · rw [t_chk_b u] at q1
        have q2 : p = pw2 := congrArg (fun x => x.2.1) q1
        have q3 : f = fw2 := congrArg (fun x => x.1) q1
        have := hppw1 (by omega)
        omega
    refine g_if_ne (tgt := 90) rfl (by decide) (fun _ => ?_) (fun hx => absurd hx (by omega))
    refine g_aload_n rfl rfl ?_
    refine x_getF (r := 211) hG rfl rfl (by decide) (Or.inr ⟨_, rfl⟩) rfl ?_
    refine g_iload rfl rfl ?_
    refine g_aload_n rfl rfl ?_
    refine x_geti (v := (t_cl 12 (t_v T len i1))) rfl rfl (by decide) (Or.inl rfl) hrdw2 ?_
    refine g_iast rfl rfl (by decide) (by decide) (by decide) ?_
    refine g_iconst rfl ⟨by decide, by decide⟩ ?_
    refine x_zreturn rfl rfl (Or.inr rfl) ?_
    rw [l_P]
    refine ⟨(mF_pt (mF_tr (mF_tr (mF_tr (mF_tr mF_rf mF_rf) hFw1) mF_rf) hFw2)), Or.inr ⟨rfl, i2, t_tk 12 (t_v T len i1) 0 (fw2, pw2, it, m, ft, D), ⟨by omega, by omega⟩, ⟨htw2.1, htw2.2.1, htw2.2.2.1, htw2.2.2.2.1, htw2.2.2.2.2⟩, ⟨lo, fun z => absurd z (by decide), rd_C_m (mF_pt mF_rf) hmw2.1, hmw2.2.1, hmw2.2.2.1, hmw2.2.2.2.1, hmw2.2.2.2.2.1, by show ∀ j, 0 ≤ j → j < 129 → _ = t_D 12 (t_rw 12 (t_v T len i1)) 0 m D j; rw [t_D_r (by decide)]; exact (told_u hmw2.2.2.2.2.2)⟩, fun z => ?_, fun z => ?_⟩⟩
    · rw [t_ln_w hwx (by decide), t_l0_1n rfl he1 he2 (by omega) z]
    · rw [t_ln_w hwx (by decide), t_l0_1y rfl he1 he2 (by omega) z, heqw1, heqw2]
set_option maxHeartbeats 4000000 in
set_option maxRecDepth 100000 in
theorem s_li13 {G : tp_G} {μ : tp_M} (hG : tp_Gf G = true) {T : Int → Int} {len i f p it m ft lo : Int} {D : Int → Int} (hT : ∀ j, 0 ≤ T j ∧ T j ≤ 255) (h0 : 0 ≤ i) (h1 : i ≤ len) (h : ms T len f p m ft lo D μ) (ht : rtk T len i μ) (hI : t_I 0 i (f, p, it, m, ft, D)) (hlo : (0 : Int) = 2 → lo = min 12 it) (hwx : t_wx 0 T len i = 13) : tp_k G mX12_codeLine [tR (some 201), tL (1869507705), tI (t_s T len i)] μ (fun r μ' => l_P 0 T len i (f, p, it, m, ft, D) μ r μ') := by
  refine tp_ok_of mX12_codeLine_ok rfl (Nat.le_refl _) ?_
  obtain ⟨i1, he1⟩ : ∃ x, t_e T len i = x := ⟨_, rfl⟩
  obtain ⟨i2, he2⟩ : ∃ x, t_e T len i1 = x := ⟨_, rfl⟩
  obtain ⟨i3, he3⟩ : ∃ x, t_e T len i2 = x := ⟨_, rfl⟩
  have hkk : t_k T len i = 1 := by
    by_cases q : t_k T len i = 1
    · exact q
    · unfold t_wx at hwx; rw [if_neg q] at hwx; omega
  have hb0 := t_s_B (T := T) h1
  have hb1 := t_e_B (T := T) h1
  have hb2 := t_e_B (T := T) (len := len) (i := i1) (by omega)
  have hbs1 := t_s_B (T := T) (len := len) (i := i1) (by omega)
  have hb3 := t_e_B (T := T) (len := len) (i := i2) (by omega)
  have hbs2 := t_s_B (T := T) (len := len) (i := i2) (by omega)
  have hbs3 := t_s_B (T := T) (len := len) (i := i3) (by omega)
  have hpI : f ≠ 0 → 0 ≤ p ∧ p < i := hI.2.2.2.2.2.2.1
  have hitI : 0 ≤ it ∧ it ≤ i := hI.2.1
  have hlen := h.1.2.1
  have hftI : -1 ≤ ft ∧ ft ≤ 39 := hI.2.2.2.2.2.2.2.2.1
  have hD0 : D 0 = min 40 it := hI.2.2.1 (by decide)
  have hcl : 0 ≤ t_cl 13 (t_v T len i1) ∧ t_cl 13 (t_v T len i1) ≤ 2 := t_cl_b (by decide)
  refine g_aload_n rfl rfl ?_
  refine g_lload_n rfl rfl ?_
  refine g_iV (as := [tL (1869507705)]) mX12_kindBy_ok rfl rfl rfl rfl rfl rfl (by decide) rfl rfl rfl ?_
  refine g_lload_n rfl rfl ?_
  refine g_ldc2 (z := 482854660462) rfl rfl ⟨by decide, by decide⟩ ?_
  refine x_lcmp (v := -1) rfl (by decide) ?_
  refine g_if_ne (tgt := 12) rfl (by decide) (fun _ => ?_) (fun hx => absurd hx (by omega))
  refine g_lload_n rfl rfl ?_
  refine g_ldc2 (z := 26982) rfl rfl ⟨by decide, by decide⟩ ?_
  refine x_lcmp (v := 1) rfl (by decide) ?_
  refine g_if_ne (tgt := 24) rfl (by decide) (fun _ => ?_) (fun hx => absurd hx (by omega))
  refine g_lload_n rfl rfl ?_
  refine g_ldc2 (z := 1786080624) rfl rfl ⟨by decide, by decide⟩ ?_
  refine x_lcmp (v := 1) rfl (by decide) ?_
  refine g_if_ne (tgt := 36) rfl (by decide) (fun _ => ?_) (fun hx => absurd hx (by omega))
  refine g_lload_n rfl rfl ?_
  refine g_ldc2 (z := 1667329132) rfl rfl ⟨by decide, by decide⟩ ?_
  refine x_lcmp (v := 1) rfl (by decide) ?_
  refine g_if_ne (tgt := 48) rfl (by decide) (fun _ => ?_) (fun hx => absurd hx (by omega))
  refine g_lload_n rfl rfl ?_
  refine g_ldc2 (z := 7497076) rfl rfl ⟨by decide, by decide⟩ ?_
  refine x_lcmp (v := 1) rfl (by decide) ?_
  refine g_if_ne (tgt := 60) rfl (by decide) (fun _ => ?_) (fun hx => absurd hx (by omega))
  refine g_lload_n rfl rfl ?_
  refine g_ldc2 (z := 7760225) rfl rfl ⟨by decide, by decide⟩ ?_
  refine x_lcmp (v := 1) rfl (by decide) ?_
  refine g_if_ne (tgt := 72) rfl (by decide) (fun _ => ?_) (fun hx => absurd hx (by omega))
  refine g_lload_n rfl rfl ?_
  refine g_ldc2 (z := 1937010544) rfl rfl ⟨by decide, by decide⟩ ?_
  refine x_lcmp (v := -1) rfl (by decide) ?_
  refine g_if_ne (tgt := 85) rfl (by decide) (fun _ => ?_) (fun hx => absurd hx (by omega))
  refine g_iconst rfl ⟨by decide, by decide⟩ ?_
  refine x_ireturn rfl rfl ?_
  intro _
  refine g_istore rfl rfl rfl ?_
  refine g_lload_n rfl rfl ?_
  refine g_iS (as := [tL (1869507705)]) mX12_partBy_ok rfl rfl rfl rfl rfl rfl rfl ?_
  refine g_lload_n rfl rfl ?_
  refine g_ldc2 (z := 1651078259) rfl rfl ⟨by decide, by decide⟩ ?_
  refine x_lcmp (v := 1) rfl (by decide) ?_
  refine g_if_ne (tgt := 12) rfl (by decide) (fun _ => ?_) (fun hx => absurd hx (by omega))
  refine g_lload_n rfl rfl ?_
  refine g_ldc2 (z := 1684366704) rfl rfl ⟨by decide, by decide⟩ ?_
  refine x_lcmp (v := 1) rfl (by decide) ?_
  refine g_if_ne (tgt := 24) rfl (by decide) (fun _ => ?_) (fun hx => absurd hx (by omega))
  refine g_lload_n rfl rfl ?_
  refine g_ldc2 (z := 1937337955) rfl rfl ⟨by decide, by decide⟩ ?_
  refine x_lcmp (v := -1) rfl (by decide) ?_
  refine g_if_ne (tgt := 36) rfl (by decide) (fun _ => ?_) (fun hx => absurd hx (by omega))
  refine g_lload_n rfl rfl ?_
  refine g_ldc2 (z := 1718775661) rfl rfl ⟨by decide, by decide⟩ ?_
  refine x_lcmp (v := 1) rfl (by decide) ?_
  refine g_if_ne (tgt := 48) rfl (by decide) (fun _ => ?_) (fun hx => absurd hx (by omega))
  refine g_lload_n rfl rfl ?_
  refine g_ldc2 (z := 29807) rfl rfl ⟨by decide, by decide⟩ ?_
  refine x_lcmp (v := 1) rfl (by decide) ?_
  refine g_if_ne (tgt := 60) rfl (by decide) (fun _ => ?_) (fun hx => absurd hx (by omega))
  refine g_lload_n rfl rfl ?_
  refine g_ldc2 (z := 1869507705) rfl rfl ⟨by decide, by decide⟩ ?_
  refine x_lcmp (v := 0) rfl (by decide) ?_
  refine g_if_ne (tgt := 73) rfl (by decide) (fun hx => absurd hx (by omega)) (fun _ => ?_)
  refine g_bipush rfl ⟨by decide, by decide⟩ (by decide) ?_
  refine g_goto (tgt := 100) rfl (by decide) ?_
  refine x_ireturn rfl rfl ?_
  intro _
  refine g_istore rfl rfl rfl ?_
  refine g_iload rfl rfl ?_
  refine g_iconst rfl ⟨by decide, by decide⟩ ?_
  refine g_icmp_ne (tgt := 38) rfl (by decide) (fun hx => absurd hx (by omega)) (fun _ => ?_)
  refine g_iload rfl rfl ?_
  refine g_iconst rfl ⟨by decide, by decide⟩ ?_
  refine g_icmp_ne (tgt := 38) rfl (by decide) (fun _ => ?_) (fun hx => absurd hx (by omega))
  refine g_iload rfl rfl ?_
  refine g_iconst rfl ⟨by decide, by decide⟩ ?_
  refine g_icmp_eq (tgt := 61) rfl (by decide) (fun _ => ?_) (fun hx => absurd hx (by omega))
  refine g_aload_n rfl rfl ?_
  refine g_cV (as := []) (s_tok9 hG hT (i := i1) ⟨rd_C_m mF_rf h.1, h.2.1, h.2.2.1, h.2.2.2.1, h.2.2.2.2.1, h.2.2.2.2.2⟩ (by omega) (by omega) (ht.1.trans he1)) rfl rfl mX12_token_ok rfl rfl rfl (by decide) rfl rfl rfl ?_
  rintro _ w1 ⟨rfl, htw1, hmw1, hrdw1, hFw1⟩ _
  have heqw1 : t_cnt 0 13 (t_s T len i) (f, p, it, m, ft, D) = (f, p, it, m, ft, D) := t_cnt_c (by decide)
  have hppw1 : f ≠ 0 → p ≤ t_s T len i := fun z => by omega
  have hkbw1 := t_k_b T len i1
  refine g_iload rfl rfl ?_
  refine g_iconst rfl ⟨by decide, by decide⟩ ?_
  refine g_icmp_eq (tgt := 103) rfl (by decide) (fun hx => absurd hx (by omega)) (fun _ => ?_)
  refine g_aload_n rfl rfl ?_
  refine g_iload rfl rfl ?_
  refine g_iS (as := [tI 6]) mX12_leastOf_ok rfl rfl rfl rfl rfl rfl rfl ?_
  refine g_iload_n rfl rfl ?_
  refine g_iconst rfl ⟨by decide, by decide⟩ ?_
  refine g_icmp_eq (tgt := 11) rfl (by decide) (fun hx => absurd hx (by omega)) (fun _ => ?_)
  refine g_iload_n rfl rfl ?_
  refine g_bipush rfl ⟨by decide, by decide⟩ (by decide) ?_
  refine g_icmp_ne (tgt := 15) rfl (by decide) (fun _ => ?_) (fun hx => absurd hx (by omega))
  refine g_iload_n rfl rfl ?_
  refine g_iconst rfl ⟨by decide, by decide⟩ ?_
  refine g_icmp_ne (tgt := 24) rfl (by decide) (fun _ => ?_) (fun hx => absurd hx (by omega))
  refine g_iload_n rfl rfl ?_
  refine g_bipush rfl ⟨by decide, by decide⟩ (by decide) ?_
  refine g_icmp_ne (tgt := 34) rfl (by decide) (fun _ => ?_) (fun hx => absurd hx (by omega))
  refine g_iconst rfl ⟨by decide, by decide⟩ ?_
  refine x_ireturn rfl rfl ?_
  intro _
  refine g_iload rfl rfl ?_
  refine g_iS (as := [tI 6]) mX12_mostOf_ok rfl rfl rfl rfl rfl rfl rfl ?_
  refine g_iload_n rfl rfl ?_
  refine g_iconst rfl ⟨by decide, by decide⟩ ?_
  refine g_icmp_ne (tgt := 9) rfl (by decide) (fun _ => ?_) (fun hx => absurd hx (by omega))
  refine g_iload_n rfl rfl ?_
  refine g_iconst rfl ⟨by decide, by decide⟩ ?_
  refine g_icmp_ne (tgt := 19) rfl (by decide) (fun _ => ?_) (fun hx => absurd hx (by omega))
  refine g_iload_n rfl rfl ?_
  refine g_iconst rfl ⟨by decide, by decide⟩ ?_
  refine g_icmp_eq (tgt := 29) rfl (by decide) (fun hx => absurd hx (by omega)) (fun _ => ?_)
  refine g_iload_n rfl rfl ?_
  refine g_iconst rfl ⟨by decide, by decide⟩ ?_
  refine g_icmp_ne (tgt := 34) rfl (by decide) (fun _ => ?_) (fun hx => absurd hx (by omega))
  refine g_iload_n rfl rfl ?_
  refine g_bipush rfl ⟨by decide, by decide⟩ (by decide) ?_
  refine g_icmp_ne (tgt := 44) rfl (by decide) (fun hx => absurd hx (by omega)) (fun _ => ?_)
  refine g_iconst rfl ⟨by decide, by decide⟩ ?_
  refine g_goto (tgt := 46) rfl (by decide) ?_
  refine x_ireturn rfl rfl ?_
  intro _
  refine g_cV (as := [tI 0, tI 2]) (s_take13 (R := (it, m, ft, D)) hG hT (i := i1) (by omega) (by omega) ⟨rd_C_m mF_rf hmw1.1, hmw1.2.1, hmw1.2.2.1, hmw1.2.2.2.1, hmw1.2.2.2.2.1, hmw1.2.2.2.2.2⟩ ⟨htw1.1, htw1.2.1, htw1.2.2.1, htw1.2.2.2.1, htw1.2.2.2.2⟩ (fun z => by have := hppw1 z; omega)) rfl rfl mX12_take_ok rfl rfl rfl (by decide) rfl rfl rfl ?_
  rintro _ w2 ⟨⟨hkw2, rfl, h16w2⟩ | ⟨hkw2, rfl, fw2, pw2, heqw2, hmw2, htw2, hrdw2⟩, hFw2⟩ _
  · obtain ⟨w3, hw39⟩ : ∃ x, x = w2 := ⟨_, rfl⟩
    rw [← hw39] at hFw2 h16w2 ⊢
    have hFw3 := hFw2
    refine g_if_ne (tgt := 90) rfl (by decide) (fun hx => absurd hx (by omega)) (fun _ => ?_)
    refine g_iconst rfl ⟨by decide, by decide⟩ ?_
    refine x_zreturn rfl rfl (Or.inl rfl) ?_
    rw [l_P]
    exact ⟨(mF_tr (mF_tr (mF_tr (mF_tr mF_rf mF_rf) hFw1) mF_rf) hFw3), Or.inl ⟨by first | rfl | omega, _, by rw [t_ln_w hwx (by decide), t_l0_1a (by decide) he1 (by omega)], h16w2⟩⟩
  · rw [he2] at htw2
    have hppw2 : fw2 ≠ 0 → pw2 ≤ t_s T len i1 := fun z => by
      have q1 := heqw2
      by_cases u : (t_v T len i1 < t_lo 13 ∨ t_hi 13 < t_v T len i1) ∧ f = 0
      · rw [t_chk_a u] at q1
        have q2 : t_s T len i1 = pw2 := congrArg (fun x => x.2.1) q1
        omega
      · rw [t_chk_b u] at q1
        have q2 : p = pw2 := congrArg (fun x => x.2.1) q1
        have q3 : f = fw2 := congrArg (fun x => x.1) q1
        have := hppw1 (by omega)
        omega
    refine g_if_ne (tgt := 90) rfl (by decide) (fun _ => ?_) (fun hx => absurd hx (by omega))
    refine g_aload_n rfl rfl ?_
    refine x_getF (r := 211) hG rfl rfl (by decide) (Or.inr ⟨_, rfl⟩) rfl ?_
    refine g_iload rfl rfl ?_
    refine g_aload_n rfl rfl ?_
    refine x_geti (v := (t_cl 13 (t_v T len i1))) rfl rfl (by decide) (Or.inl rfl) hrdw2 ?_
    refine g_iast rfl rfl (by decide) (by decide) (by decide) ?_
    refine g_iconst rfl ⟨by decide, by decide⟩ ?_
    refine x_zreturn rfl rfl (Or.inr rfl) ?_
    rw [l_P]
    refine ⟨(mF_pt (mF_tr (mF_tr (mF_tr (mF_tr mF_rf mF_rf) hFw1) mF_rf) hFw2)), Or.inr ⟨rfl, i2, t_tk 13 (t_v T len i1) 0 (fw2, pw2, it, m, ft, D), ⟨by omega, by omega⟩, ⟨htw2.1, htw2.2.1, htw2.2.2.1, htw2.2.2.2.1, htw2.2.2.2.2⟩, ⟨lo, fun z => absurd z (by decide), rd_C_m (mF_pt mF_rf) hmw2.1, hmw2.2.1, hmw2.2.2.1, hmw2.2.2.2.1, hmw2.2.2.2.2.1, by show ∀ j, 0 ≤ j → j < 129 → _ = t_D 13 (t_rw 13 (t_v T len i1)) 0 m D j; rw [t_D_r (by decide)]; exact (told_u hmw2.2.2.2.2.2)⟩, fun z => ?_, fun z => ?_⟩⟩
    · rw [t_ln_w hwx (by decide), t_l0_1n rfl he1 he2 (by omega) z]
    · rw [t_ln_w hwx (by decide), t_l0_1y rfl he1 he2 (by omega) z, heqw1, heqw2]
set_option maxHeartbeats 4000000 in
set_option maxRecDepth 100000 in
theorem s_li14 {G : tp_G} {μ : tp_M} (hG : tp_Gf G = true) {T : Int → Int} {len i f p it m ft lo : Int} {D : Int → Int} (hT : ∀ j, 0 ≤ T j ∧ T j ≤ 255) (h0 : 0 ≤ i) (h1 : i ≤ len) (h : ms T len f p m ft lo D μ) (ht : rtk T len i μ) (hI : t_I 0 i (f, p, it, m, ft, D)) (hlo : (0 : Int) = 2 → lo = min 12 it) (hwx : t_wx 0 T len i = 14) : tp_k G mX12_codeLine [tR (some 201), tL (1919905645), tI (t_s T len i)] μ (fun r μ' => l_P 0 T len i (f, p, it, m, ft, D) μ r μ') := by
  refine tp_ok_of mX12_codeLine_ok rfl (Nat.le_refl _) ?_
  obtain ⟨i1, he1⟩ : ∃ x, t_e T len i = x := ⟨_, rfl⟩
  obtain ⟨i2, he2⟩ : ∃ x, t_e T len i1 = x := ⟨_, rfl⟩
  obtain ⟨i3, he3⟩ : ∃ x, t_e T len i2 = x := ⟨_, rfl⟩
  have hkk : t_k T len i = 1 := by
    by_cases q : t_k T len i = 1
    · exact q
    · unfold t_wx at hwx; rw [if_neg q] at hwx; omega
  have hb0 := t_s_B (T := T) h1
  have hb1 := t_e_B (T := T) h1
  have hb2 := t_e_B (T := T) (len := len) (i := i1) (by omega)
  have hbs1 := t_s_B (T := T) (len := len) (i := i1) (by omega)
  have hb3 := t_e_B (T := T) (len := len) (i := i2) (by omega)
  have hbs2 := t_s_B (T := T) (len := len) (i := i2) (by omega)
  have hbs3 := t_s_B (T := T) (len := len) (i := i3) (by omega)
  have hpI : f ≠ 0 → 0 ≤ p ∧ p < i := hI.2.2.2.2.2.2.1
  have hitI : 0 ≤ it ∧ it ≤ i := hI.2.1
  have hlen := h.1.2.1
  have hftI : -1 ≤ ft ∧ ft ≤ 39 := hI.2.2.2.2.2.2.2.2.1
  have hD0 : D 0 = min 40 it := hI.2.2.1 (by decide)
  have hcl : 3 ≤ t_cl 14 (t_v T len i1) ∧ t_cl 14 (t_v T len i1) ≤ 9 := t_cl_b (by decide)
  refine g_aload_n rfl rfl ?_
  refine g_lload_n rfl rfl ?_
  refine g_iV (as := [tL (1919905645)]) mX12_kindBy_ok rfl rfl rfl rfl rfl rfl (by decide) rfl rfl rfl ?_
  refine g_lload_n rfl rfl ?_
  refine g_ldc2 (z := 482854660462) rfl rfl ⟨by decide, by decide⟩ ?_
  refine x_lcmp (v := -1) rfl (by decide) ?_
  refine g_if_ne (tgt := 12) rfl (by decide) (fun _ => ?_) (fun hx => absurd hx (by omega))
  refine g_lload_n rfl rfl ?_
  refine g_ldc2 (z := 26982) rfl rfl ⟨by decide, by decide⟩ ?_
  refine x_lcmp (v := 1) rfl (by decide) ?_
  refine g_if_ne (tgt := 24) rfl (by decide) (fun _ => ?_) (fun hx => absurd hx (by omega))
  refine g_lload_n rfl rfl ?_
  refine g_ldc2 (z := 1786080624) rfl rfl ⟨by decide, by decide⟩ ?_
  refine x_lcmp (v := 1) rfl (by decide) ?_
  refine g_if_ne (tgt := 36) rfl (by decide) (fun _ => ?_) (fun hx => absurd hx (by omega))
  refine g_lload_n rfl rfl ?_
  refine g_ldc2 (z := 1667329132) rfl rfl ⟨by decide, by decide⟩ ?_
  refine x_lcmp (v := 1) rfl (by decide) ?_
  refine g_if_ne (tgt := 48) rfl (by decide) (fun _ => ?_) (fun hx => absurd hx (by omega))
  refine g_lload_n rfl rfl ?_
  refine g_ldc2 (z := 7497076) rfl rfl ⟨by decide, by decide⟩ ?_
  refine x_lcmp (v := 1) rfl (by decide) ?_
  refine g_if_ne (tgt := 60) rfl (by decide) (fun _ => ?_) (fun hx => absurd hx (by omega))
  refine g_lload_n rfl rfl ?_
  refine g_ldc2 (z := 7760225) rfl rfl ⟨by decide, by decide⟩ ?_
  refine x_lcmp (v := 1) rfl (by decide) ?_
  refine g_if_ne (tgt := 72) rfl (by decide) (fun _ => ?_) (fun hx => absurd hx (by omega))
  refine g_lload_n rfl rfl ?_
  refine g_ldc2 (z := 1937010544) rfl rfl ⟨by decide, by decide⟩ ?_
  refine x_lcmp (v := -1) rfl (by decide) ?_
  refine g_if_ne (tgt := 85) rfl (by decide) (fun _ => ?_) (fun hx => absurd hx (by omega))
  refine g_iconst rfl ⟨by decide, by decide⟩ ?_
  refine x_ireturn rfl rfl ?_
  intro _
  refine g_istore rfl rfl rfl ?_
  refine g_lload_n rfl rfl ?_
  refine g_iS (as := [tL (1919905645)]) mX12_partBy_ok rfl rfl rfl rfl rfl rfl rfl ?_
  refine g_lload_n rfl rfl ?_
  refine g_ldc2 (z := 1651078259) rfl rfl ⟨by decide, by decide⟩ ?_
  refine x_lcmp (v := 1) rfl (by decide) ?_
  refine g_if_ne (tgt := 12) rfl (by decide) (fun _ => ?_) (fun hx => absurd hx (by omega))
  refine g_lload_n rfl rfl ?_
  refine g_ldc2 (z := 1684366704) rfl rfl ⟨by decide, by decide⟩ ?_
  refine x_lcmp (v := 1) rfl (by decide) ?_
  refine g_if_ne (tgt := 24) rfl (by decide) (fun _ => ?_) (fun hx => absurd hx (by omega))
  refine g_lload_n rfl rfl ?_
  refine g_ldc2 (z := 1937337955) rfl rfl ⟨by decide, by decide⟩ ?_
  refine x_lcmp (v := -1) rfl (by decide) ?_
  refine g_if_ne (tgt := 36) rfl (by decide) (fun _ => ?_) (fun hx => absurd hx (by omega))
  refine g_lload_n rfl rfl ?_
  refine g_ldc2 (z := 1718775661) rfl rfl ⟨by decide, by decide⟩ ?_
  refine x_lcmp (v := 1) rfl (by decide) ?_
  refine g_if_ne (tgt := 48) rfl (by decide) (fun _ => ?_) (fun hx => absurd hx (by omega))
  refine g_lload_n rfl rfl ?_
  refine g_ldc2 (z := 29807) rfl rfl ⟨by decide, by decide⟩ ?_
  refine x_lcmp (v := 1) rfl (by decide) ?_
  refine g_if_ne (tgt := 60) rfl (by decide) (fun _ => ?_) (fun hx => absurd hx (by omega))
  refine g_lload_n rfl rfl ?_
  refine g_ldc2 (z := 1869507705) rfl rfl ⟨by decide, by decide⟩ ?_
  refine x_lcmp (v := 1) rfl (by decide) ?_
  refine g_if_ne (tgt := 73) rfl (by decide) (fun _ => ?_) (fun hx => absurd hx (by omega))
  refine g_lload_n rfl rfl ?_
  refine g_ldc2 (z := 1919905645) rfl rfl ⟨by decide, by decide⟩ ?_
  refine x_lcmp (v := 0) rfl (by decide) ?_
  refine g_if_ne (tgt := 86) rfl (by decide) (fun hx => absurd hx (by omega)) (fun _ => ?_)
  refine g_bipush rfl ⟨by decide, by decide⟩ (by decide) ?_
  refine g_goto (tgt := 100) rfl (by decide) ?_
  refine x_ireturn rfl rfl ?_
  intro _
  refine g_istore rfl rfl rfl ?_
  refine g_iload rfl rfl ?_
  refine g_iconst rfl ⟨by decide, by decide⟩ ?_
  refine g_icmp_ne (tgt := 38) rfl (by decide) (fun hx => absurd hx (by omega)) (fun _ => ?_)
  refine g_iload rfl rfl ?_
  refine g_iconst rfl ⟨by decide, by decide⟩ ?_
  refine g_icmp_ne (tgt := 38) rfl (by decide) (fun _ => ?_) (fun hx => absurd hx (by omega))
  refine g_iload rfl rfl ?_
  refine g_iconst rfl ⟨by decide, by decide⟩ ?_
  refine g_icmp_eq (tgt := 61) rfl (by decide) (fun _ => ?_) (fun hx => absurd hx (by omega))
  refine g_aload_n rfl rfl ?_
  refine g_cV (as := []) (s_tok9 hG hT (i := i1) ⟨rd_C_m mF_rf h.1, h.2.1, h.2.2.1, h.2.2.2.1, h.2.2.2.2.1, h.2.2.2.2.2⟩ (by omega) (by omega) (ht.1.trans he1)) rfl rfl mX12_token_ok rfl rfl rfl (by decide) rfl rfl rfl ?_
  rintro _ w1 ⟨rfl, htw1, hmw1, hrdw1, hFw1⟩ _
  have heqw1 : t_cnt 0 14 (t_s T len i) (f, p, it, m, ft, D) = (f, p, it, m, ft, D) := t_cnt_c (by decide)
  have hppw1 : f ≠ 0 → p ≤ t_s T len i := fun z => by omega
  have hkbw1 := t_k_b T len i1
  refine g_iload rfl rfl ?_
  refine g_iconst rfl ⟨by decide, by decide⟩ ?_
  refine g_icmp_eq (tgt := 103) rfl (by decide) (fun hx => absurd hx (by omega)) (fun _ => ?_)
  refine g_aload_n rfl rfl ?_
  refine g_iload rfl rfl ?_
  refine g_iS (as := [tI 7]) mX12_leastOf_ok rfl rfl rfl rfl rfl rfl rfl ?_
  refine g_iload_n rfl rfl ?_
  refine g_iconst rfl ⟨by decide, by decide⟩ ?_
  refine g_icmp_eq (tgt := 11) rfl (by decide) (fun hx => absurd hx (by omega)) (fun _ => ?_)
  refine g_iload_n rfl rfl ?_
  refine g_bipush rfl ⟨by decide, by decide⟩ (by decide) ?_
  refine g_icmp_ne (tgt := 15) rfl (by decide) (fun _ => ?_) (fun hx => absurd hx (by omega))
  refine g_iload_n rfl rfl ?_
  refine g_iconst rfl ⟨by decide, by decide⟩ ?_
  refine g_icmp_ne (tgt := 24) rfl (by decide) (fun _ => ?_) (fun hx => absurd hx (by omega))
  refine g_iload_n rfl rfl ?_
  refine g_bipush rfl ⟨by decide, by decide⟩ (by decide) ?_
  refine g_icmp_ne (tgt := 34) rfl (by decide) (fun hx => absurd hx (by omega)) (fun _ => ?_)
  refine g_iconst rfl ⟨by decide, by decide⟩ ?_
  refine g_goto (tgt := 35) rfl (by decide) ?_
  refine x_ireturn rfl rfl ?_
  intro _
  refine g_iload rfl rfl ?_
  refine g_iS (as := [tI 7]) mX12_mostOf_ok rfl rfl rfl rfl rfl rfl rfl ?_
  refine g_iload_n rfl rfl ?_
  refine g_iconst rfl ⟨by decide, by decide⟩ ?_
  refine g_icmp_ne (tgt := 9) rfl (by decide) (fun _ => ?_) (fun hx => absurd hx (by omega))
  refine g_iload_n rfl rfl ?_
  refine g_iconst rfl ⟨by decide, by decide⟩ ?_
  refine g_icmp_ne (tgt := 19) rfl (by decide) (fun _ => ?_) (fun hx => absurd hx (by omega))
  refine g_iload_n rfl rfl ?_
  refine g_iconst rfl ⟨by decide, by decide⟩ ?_
  refine g_icmp_eq (tgt := 29) rfl (by decide) (fun hx => absurd hx (by omega)) (fun _ => ?_)
  refine g_iload_n rfl rfl ?_
  refine g_iconst rfl ⟨by decide, by decide⟩ ?_
  refine g_icmp_ne (tgt := 34) rfl (by decide) (fun _ => ?_) (fun hx => absurd hx (by omega))
  refine g_iload_n rfl rfl ?_
  refine g_bipush rfl ⟨by decide, by decide⟩ (by decide) ?_
  refine g_icmp_ne (tgt := 44) rfl (by decide) (fun _ => ?_) (fun hx => absurd hx (by omega))
  refine g_bipush rfl ⟨by decide, by decide⟩ (by decide) ?_
  refine x_ireturn rfl rfl ?_
  intro _
  refine g_cV (as := [tI 3, tI 9]) (s_take14 (R := (it, m, ft, D)) hG hT (i := i1) (by omega) (by omega) ⟨rd_C_m mF_rf hmw1.1, hmw1.2.1, hmw1.2.2.1, hmw1.2.2.2.1, hmw1.2.2.2.2.1, hmw1.2.2.2.2.2⟩ ⟨htw1.1, htw1.2.1, htw1.2.2.1, htw1.2.2.2.1, htw1.2.2.2.2⟩ (fun z => by have := hppw1 z; omega)) rfl rfl mX12_take_ok rfl rfl rfl (by decide) rfl rfl rfl ?_
  rintro _ w2 ⟨⟨hkw2, rfl, h16w2⟩ | ⟨hkw2, rfl, fw2, pw2, heqw2, hmw2, htw2, hrdw2⟩, hFw2⟩ _
  · obtain ⟨w3, hw39⟩ : ∃ x, x = w2 := ⟨_, rfl⟩
    rw [← hw39] at hFw2 h16w2 ⊢
    have hFw3 := hFw2
    refine g_if_ne (tgt := 90) rfl (by decide) (fun hx => absurd hx (by omega)) (fun _ => ?_)
    refine g_iconst rfl ⟨by decide, by decide⟩ ?_
    refine x_zreturn rfl rfl (Or.inl rfl) ?_
    rw [l_P]
    exact ⟨(mF_tr (mF_tr (mF_tr (mF_tr mF_rf mF_rf) hFw1) mF_rf) hFw3), Or.inl ⟨by first | rfl | omega, _, by rw [t_ln_w hwx (by decide), t_l0_1a (by decide) he1 (by omega)], h16w2⟩⟩
  · rw [he2] at htw2
    have hppw2 : fw2 ≠ 0 → pw2 ≤ t_s T len i1 := fun z => by
      have q1 := heqw2
      by_cases u : (t_v T len i1 < t_lo 14 ∨ t_hi 14 < t_v T len i1) ∧ f = 0
      · rw [t_chk_a u] at q1
        have q2 : t_s T len i1 = pw2 := congrArg (fun x => x.2.1) q1
        omega
      · rw [t_chk_b u] at q1
        have q2 : p = pw2 := congrArg (fun x => x.2.1) q1
        have q3 : f = fw2 := congrArg (fun x => x.1) q1
        have := hppw1 (by omega)
        omega
    refine g_if_ne (tgt := 90) rfl (by decide) (fun _ => ?_) (fun hx => absurd hx (by omega))
    refine g_aload_n rfl rfl ?_
    refine x_getF (r := 211) hG rfl rfl (by decide) (Or.inr ⟨_, rfl⟩) rfl ?_
    refine g_iload rfl rfl ?_
    refine g_aload_n rfl rfl ?_
    refine x_geti (v := (t_cl 14 (t_v T len i1))) rfl rfl (by decide) (Or.inl rfl) hrdw2 ?_
    refine g_iast rfl rfl (by decide) (by decide) (by decide) ?_
    refine g_iconst rfl ⟨by decide, by decide⟩ ?_
    refine x_zreturn rfl rfl (Or.inr rfl) ?_
    rw [l_P]
    refine ⟨(mF_pt (mF_tr (mF_tr (mF_tr (mF_tr mF_rf mF_rf) hFw1) mF_rf) hFw2)), Or.inr ⟨rfl, i2, t_tk 14 (t_v T len i1) 0 (fw2, pw2, it, m, ft, D), ⟨by omega, by omega⟩, ⟨htw2.1, htw2.2.1, htw2.2.2.1, htw2.2.2.2.1, htw2.2.2.2.2⟩, ⟨lo, fun z => absurd z (by decide), rd_C_m (mF_pt mF_rf) hmw2.1, hmw2.2.1, hmw2.2.2.1, hmw2.2.2.2.1, hmw2.2.2.2.2.1, by show ∀ j, 0 ≤ j → j < 129 → _ = t_D 14 (t_rw 14 (t_v T len i1)) 0 m D j; rw [t_D_r (by decide)]; exact (told_u hmw2.2.2.2.2.2)⟩, fun z => ?_, fun z => ?_⟩⟩
    · rw [t_ln_w hwx (by decide), t_l0_1n rfl he1 he2 (by omega) z]
    · rw [t_ln_w hwx (by decide), t_l0_1y rfl he1 he2 (by omega) z, heqw1, heqw2]
set_option maxHeartbeats 4000000 in
set_option maxRecDepth 100000 in
theorem s_li15 {G : tp_G} {μ : tp_M} (hG : tp_Gf G = true) {T : Int → Int} {len i f p it m ft lo : Int} {D : Int → Int} (hT : ∀ j, 0 ≤ T j ∧ T j ≤ 255) (h0 : 0 ≤ i) (h1 : i ≤ len) (h : ms T len f p m ft lo D μ) (ht : rtk T len i μ) (hI : t_I 0 i (f, p, it, m, ft, D)) (hlo : (0 : Int) = 2 → lo = min 12 it) (hwx : t_wx 0 T len i = 15) : tp_k G mX12_codeLine [tR (some 201), tL (1918989413), tI (t_s T len i)] μ (fun r μ' => l_P 0 T len i (f, p, it, m, ft, D) μ r μ') := by
  refine tp_ok_of mX12_codeLine_ok rfl (Nat.le_refl _) ?_
  obtain ⟨i1, he1⟩ : ∃ x, t_e T len i = x := ⟨_, rfl⟩
  obtain ⟨i2, he2⟩ : ∃ x, t_e T len i1 = x := ⟨_, rfl⟩
  obtain ⟨i3, he3⟩ : ∃ x, t_e T len i2 = x := ⟨_, rfl⟩
  have hkk : t_k T len i = 1 := by
    by_cases q : t_k T len i = 1
    · exact q
    · unfold t_wx at hwx; rw [if_neg q] at hwx; omega
  have hb0 := t_s_B (T := T) h1
  have hb1 := t_e_B (T := T) h1
  have hb2 := t_e_B (T := T) (len := len) (i := i1) (by omega)
  have hbs1 := t_s_B (T := T) (len := len) (i := i1) (by omega)
  have hb3 := t_e_B (T := T) (len := len) (i := i2) (by omega)
  have hbs2 := t_s_B (T := T) (len := len) (i := i2) (by omega)
  have hbs3 := t_s_B (T := T) (len := len) (i := i3) (by omega)
  have hpI : f ≠ 0 → 0 ≤ p ∧ p < i := hI.2.2.2.2.2.2.1
  have hitI : 0 ≤ it ∧ it ≤ i := hI.2.1
  have hlen := h.1.2.1
  have hftI : -1 ≤ ft ∧ ft ≤ 39 := hI.2.2.2.2.2.2.2.2.1
  have hD0 : D 0 = min 40 it := hI.2.2.1 (by decide)
  have hcl : 1 ≤ t_cl 15 (t_v T len i1) ∧ t_cl 15 (t_v T len i1) ≤ 9 := t_cl_b (by decide)
  refine g_aload_n rfl rfl ?_
  refine g_lload_n rfl rfl ?_
  refine g_iV (as := [tL (1918989413)]) mX12_kindBy_ok rfl rfl rfl rfl rfl rfl (by decide) rfl rfl rfl ?_
  refine g_lload_n rfl rfl ?_
  refine g_ldc2 (z := 482854660462) rfl rfl ⟨by decide, by decide⟩ ?_
  refine x_lcmp (v := -1) rfl (by decide) ?_
  refine g_if_ne (tgt := 12) rfl (by decide) (fun _ => ?_) (fun hx => absurd hx (by omega))
  refine g_lload_n rfl rfl ?_
  refine g_ldc2 (z := 26982) rfl rfl ⟨by decide, by decide⟩ ?_
  refine x_lcmp (v := 1) rfl (by decide) ?_
  refine g_if_ne (tgt := 24) rfl (by decide) (fun _ => ?_) (fun hx => absurd hx (by omega))
  refine g_lload_n rfl rfl ?_
  refine g_ldc2 (z := 1786080624) rfl rfl ⟨by decide, by decide⟩ ?_
  refine x_lcmp (v := 1) rfl (by decide) ?_
  refine g_if_ne (tgt := 36) rfl (by decide) (fun _ => ?_) (fun hx => absurd hx (by omega))
  refine g_lload_n rfl rfl ?_
  refine g_ldc2 (z := 1667329132) rfl rfl ⟨by decide, by decide⟩ ?_
  refine x_lcmp (v := 1) rfl (by decide) ?_
  refine g_if_ne (tgt := 48) rfl (by decide) (fun _ => ?_) (fun hx => absurd hx (by omega))
  refine g_lload_n rfl rfl ?_
  refine g_ldc2 (z := 7497076) rfl rfl ⟨by decide, by decide⟩ ?_
  refine x_lcmp (v := 1) rfl (by decide) ?_
  refine g_if_ne (tgt := 60) rfl (by decide) (fun _ => ?_) (fun hx => absurd hx (by omega))
  refine g_lload_n rfl rfl ?_
  refine g_ldc2 (z := 7760225) rfl rfl ⟨by decide, by decide⟩ ?_
  refine x_lcmp (v := 1) rfl (by decide) ?_
  refine g_if_ne (tgt := 72) rfl (by decide) (fun _ => ?_) (fun hx => absurd hx (by omega))
  refine g_lload_n rfl rfl ?_
  refine g_ldc2 (z := 1937010544) rfl rfl ⟨by decide, by decide⟩ ?_
  refine x_lcmp (v := -1) rfl (by decide) ?_
  refine g_if_ne (tgt := 85) rfl (by decide) (fun _ => ?_) (fun hx => absurd hx (by omega))
  refine g_iconst rfl ⟨by decide, by decide⟩ ?_
  refine x_ireturn rfl rfl ?_
  intro _
  refine g_istore rfl rfl rfl ?_
  refine g_lload_n rfl rfl ?_
  refine g_iS (as := [tL (1918989413)]) mX12_partBy_ok rfl rfl rfl rfl rfl rfl rfl ?_
  refine g_lload_n rfl rfl ?_
  refine g_ldc2 (z := 1651078259) rfl rfl ⟨by decide, by decide⟩ ?_
  refine x_lcmp (v := 1) rfl (by decide) ?_
  refine g_if_ne (tgt := 12) rfl (by decide) (fun _ => ?_) (fun hx => absurd hx (by omega))
  refine g_lload_n rfl rfl ?_
  refine g_ldc2 (z := 1684366704) rfl rfl ⟨by decide, by decide⟩ ?_
  refine x_lcmp (v := 1) rfl (by decide) ?_
  refine g_if_ne (tgt := 24) rfl (by decide) (fun _ => ?_) (fun hx => absurd hx (by omega))
  refine g_lload_n rfl rfl ?_
  refine g_ldc2 (z := 1937337955) rfl rfl ⟨by decide, by decide⟩ ?_
  refine x_lcmp (v := -1) rfl (by decide) ?_
  refine g_if_ne (tgt := 36) rfl (by decide) (fun _ => ?_) (fun hx => absurd hx (by omega))
  refine g_lload_n rfl rfl ?_
  refine g_ldc2 (z := 1718775661) rfl rfl ⟨by decide, by decide⟩ ?_
  refine x_lcmp (v := 1) rfl (by decide) ?_
  refine g_if_ne (tgt := 48) rfl (by decide) (fun _ => ?_) (fun hx => absurd hx (by omega))
  refine g_lload_n rfl rfl ?_
  refine g_ldc2 (z := 29807) rfl rfl ⟨by decide, by decide⟩ ?_
  refine x_lcmp (v := 1) rfl (by decide) ?_
  refine g_if_ne (tgt := 60) rfl (by decide) (fun _ => ?_) (fun hx => absurd hx (by omega))
  refine g_lload_n rfl rfl ?_
  refine g_ldc2 (z := 1869507705) rfl rfl ⟨by decide, by decide⟩ ?_
  refine x_lcmp (v := 1) rfl (by decide) ?_
  refine g_if_ne (tgt := 73) rfl (by decide) (fun _ => ?_) (fun hx => absurd hx (by omega))
  refine g_lload_n rfl rfl ?_
  refine g_ldc2 (z := 1919905645) rfl rfl ⟨by decide, by decide⟩ ?_
  refine x_lcmp (v := -1) rfl (by decide) ?_
  refine g_if_ne (tgt := 86) rfl (by decide) (fun _ => ?_) (fun hx => absurd hx (by omega))
  refine g_lload_n rfl rfl ?_
  refine g_ldc2 (z := 1918989413) rfl rfl ⟨by decide, by decide⟩ ?_
  refine x_lcmp (v := 0) rfl (by decide) ?_
  refine g_if_ne (tgt := 99) rfl (by decide) (fun hx => absurd hx (by omega)) (fun _ => ?_)
  refine g_bipush rfl ⟨by decide, by decide⟩ (by decide) ?_
  refine g_goto (tgt := 100) rfl (by decide) ?_
  refine x_ireturn rfl rfl ?_
  intro _
  refine g_istore rfl rfl rfl ?_
  refine g_iload rfl rfl ?_
  refine g_iconst rfl ⟨by decide, by decide⟩ ?_
  refine g_icmp_ne (tgt := 38) rfl (by decide) (fun hx => absurd hx (by omega)) (fun _ => ?_)
  refine g_iload rfl rfl ?_
  refine g_iconst rfl ⟨by decide, by decide⟩ ?_
  refine g_icmp_ne (tgt := 38) rfl (by decide) (fun _ => ?_) (fun hx => absurd hx (by omega))
  refine g_iload rfl rfl ?_
  refine g_iconst rfl ⟨by decide, by decide⟩ ?_
  refine g_icmp_eq (tgt := 61) rfl (by decide) (fun _ => ?_) (fun hx => absurd hx (by omega))
  refine g_aload_n rfl rfl ?_
  refine g_cV (as := []) (s_tok9 hG hT (i := i1) ⟨rd_C_m mF_rf h.1, h.2.1, h.2.2.1, h.2.2.2.1, h.2.2.2.2.1, h.2.2.2.2.2⟩ (by omega) (by omega) (ht.1.trans he1)) rfl rfl mX12_token_ok rfl rfl rfl (by decide) rfl rfl rfl ?_
  rintro _ w1 ⟨rfl, htw1, hmw1, hrdw1, hFw1⟩ _
  have heqw1 : t_cnt 0 15 (t_s T len i) (f, p, it, m, ft, D) = (f, p, it, m, ft, D) := t_cnt_c (by decide)
  have hppw1 : f ≠ 0 → p ≤ t_s T len i := fun z => by omega
  have hkbw1 := t_k_b T len i1
  refine g_iload rfl rfl ?_
  refine g_iconst rfl ⟨by decide, by decide⟩ ?_
  refine g_icmp_eq (tgt := 103) rfl (by decide) (fun hx => absurd hx (by omega)) (fun _ => ?_)
  refine g_aload_n rfl rfl ?_
  refine g_iload rfl rfl ?_
  refine g_iS (as := [tI 8]) mX12_leastOf_ok rfl rfl rfl rfl rfl rfl rfl ?_
  refine g_iload_n rfl rfl ?_
  refine g_iconst rfl ⟨by decide, by decide⟩ ?_
  refine g_icmp_eq (tgt := 11) rfl (by decide) (fun hx => absurd hx (by omega)) (fun _ => ?_)
  refine g_iload_n rfl rfl ?_
  refine g_bipush rfl ⟨by decide, by decide⟩ (by decide) ?_
  refine g_icmp_ne (tgt := 15) rfl (by decide) (fun hx => absurd hx (by omega)) (fun _ => ?_)
  refine g_iconst rfl ⟨by decide, by decide⟩ ?_
  refine g_goto (tgt := 35) rfl (by decide) ?_
  refine x_ireturn rfl rfl ?_
  intro _
  refine g_iload rfl rfl ?_
  refine g_iS (as := [tI 8]) mX12_mostOf_ok rfl rfl rfl rfl rfl rfl rfl ?_
  refine g_iload_n rfl rfl ?_
  refine g_iconst rfl ⟨by decide, by decide⟩ ?_
  refine g_icmp_ne (tgt := 9) rfl (by decide) (fun _ => ?_) (fun hx => absurd hx (by omega))
  refine g_iload_n rfl rfl ?_
  refine g_iconst rfl ⟨by decide, by decide⟩ ?_
  refine g_icmp_ne (tgt := 19) rfl (by decide) (fun _ => ?_) (fun hx => absurd hx (by omega))
  refine g_iload_n rfl rfl ?_
  refine g_iconst rfl ⟨by decide, by decide⟩ ?_
  refine g_icmp_eq (tgt := 29) rfl (by decide) (fun hx => absurd hx (by omega)) (fun _ => ?_)
  refine g_iload_n rfl rfl ?_
  refine g_iconst rfl ⟨by decide, by decide⟩ ?_
  refine g_icmp_ne (tgt := 34) rfl (by decide) (fun _ => ?_) (fun hx => absurd hx (by omega))
  refine g_iload_n rfl rfl ?_
  refine g_bipush rfl ⟨by decide, by decide⟩ (by decide) ?_
  refine g_icmp_ne (tgt := 44) rfl (by decide) (fun _ => ?_) (fun hx => absurd hx (by omega))
  refine g_bipush rfl ⟨by decide, by decide⟩ (by decide) ?_
  refine x_ireturn rfl rfl ?_
  intro _
  refine g_cV (as := [tI 1, tI 9]) (s_take15 (R := (it, m, ft, D)) hG hT (i := i1) (by omega) (by omega) ⟨rd_C_m mF_rf hmw1.1, hmw1.2.1, hmw1.2.2.1, hmw1.2.2.2.1, hmw1.2.2.2.2.1, hmw1.2.2.2.2.2⟩ ⟨htw1.1, htw1.2.1, htw1.2.2.1, htw1.2.2.2.1, htw1.2.2.2.2⟩ (fun z => by have := hppw1 z; omega)) rfl rfl mX12_take_ok rfl rfl rfl (by decide) rfl rfl rfl ?_
  rintro _ w2 ⟨⟨hkw2, rfl, h16w2⟩ | ⟨hkw2, rfl, fw2, pw2, heqw2, hmw2, htw2, hrdw2⟩, hFw2⟩ _
  · obtain ⟨w3, hw39⟩ : ∃ x, x = w2 := ⟨_, rfl⟩
    rw [← hw39] at hFw2 h16w2 ⊢
    have hFw3 := hFw2
    refine g_if_ne (tgt := 90) rfl (by decide) (fun hx => absurd hx (by omega)) (fun _ => ?_)
    refine g_iconst rfl ⟨by decide, by decide⟩ ?_
    refine x_zreturn rfl rfl (Or.inl rfl) ?_
    rw [l_P]
    exact ⟨(mF_tr (mF_tr (mF_tr (mF_tr mF_rf mF_rf) hFw1) mF_rf) hFw3), Or.inl ⟨by first | rfl | omega, _, by rw [t_ln_w hwx (by decide), t_l0_1a (by decide) he1 (by omega)], h16w2⟩⟩
  · rw [he2] at htw2
    have hppw2 : fw2 ≠ 0 → pw2 ≤ t_s T len i1 := fun z => by
      have q1 := heqw2
      by_cases u : (t_v T len i1 < t_lo 15 ∨ t_hi 15 < t_v T len i1) ∧ f = 0
      · rw [t_chk_a u] at q1
        have q2 : t_s T len i1 = pw2 := congrArg (fun x => x.2.1) q1
        omega
      · rw [t_chk_b u] at q1
        have q2 : p = pw2 := congrArg (fun x => x.2.1) q1
        have q3 : f = fw2 := congrArg (fun x => x.1) q1
        have := hppw1 (by omega)
        omega
    refine g_if_ne (tgt := 90) rfl (by decide) (fun _ => ?_) (fun hx => absurd hx (by omega))
    refine g_aload_n rfl rfl ?_
    refine x_getF (r := 211) hG rfl rfl (by decide) (Or.inr ⟨_, rfl⟩) rfl ?_
    refine g_iload rfl rfl ?_
    refine g_aload_n rfl rfl ?_
    refine x_geti (v := (t_cl 15 (t_v T len i1))) rfl rfl (by decide) (Or.inl rfl) hrdw2 ?_
    refine g_iast rfl rfl (by decide) (by decide) (by decide) ?_
    refine g_iconst rfl ⟨by decide, by decide⟩ ?_
    refine x_zreturn rfl rfl (Or.inr rfl) ?_
    rw [l_P]
    refine ⟨(mF_pt (mF_tr (mF_tr (mF_tr (mF_tr mF_rf mF_rf) hFw1) mF_rf) hFw2)), Or.inr ⟨rfl, i2, t_tk 15 (t_v T len i1) 0 (fw2, pw2, it, m, ft, D), ⟨by omega, by omega⟩, ⟨htw2.1, htw2.2.1, htw2.2.2.1, htw2.2.2.2.1, htw2.2.2.2.2⟩, ⟨lo, fun z => absurd z (by decide), rd_C_m (mF_pt mF_rf) hmw2.1, hmw2.2.1, hmw2.2.2.1, hmw2.2.2.2.1, hmw2.2.2.2.2.1, by show ∀ j, 0 ≤ j → j < 129 → _ = t_D 15 (t_rw 15 (t_v T len i1)) 0 m D j; rw [t_D_r (by decide)]; exact (told_u hmw2.2.2.2.2.2)⟩, fun z => ?_, fun z => ?_⟩⟩
    · rw [t_ln_w hwx (by decide), t_l0_1n rfl he1 he2 (by omega) z]
    · rw [t_ln_w hwx (by decide), t_l0_1y rfl he1 he2 (by omega) z, heqw1, heqw2]
set_option maxHeartbeats 4000000 in
set_option maxRecDepth 100000 in
theorem s_li16 {G : tp_G} {μ : tp_M} (hG : tp_Gf G = true) {T : Int → Int} {len i f p it m ft lo : Int} {D : Int → Int} (hT : ∀ j, 0 ≤ T j ∧ T j ≤ 255) (h0 : 0 ≤ i) (h1 : i ≤ len) (h : ms T len f p m ft lo D μ) (ht : rtk T len i μ) (hI : t_I 1 i (f, p, it, m, ft, D)) (hlo : (1 : Int) = 2 → lo = min 12 it) (hwx : t_wx 1 T len i = 16) : tp_k G mX12_driveLine [tR (some 201), tL (110), tI (t_s T len i)] μ (fun r μ' => l_P 1 T len i (f, p, it, m, ft, D) μ r μ') := by
  refine tp_ok_of mX12_driveLine_ok rfl (Nat.le_refl _) ?_
  obtain ⟨i1, he1⟩ : ∃ x, t_e T len i = x := ⟨_, rfl⟩
  obtain ⟨i2, he2⟩ : ∃ x, t_e T len i1 = x := ⟨_, rfl⟩
  obtain ⟨i3, he3⟩ : ∃ x, t_e T len i2 = x := ⟨_, rfl⟩
  have hkk : t_k T len i = 1 := by
    by_cases q : t_k T len i = 1
    · exact q
    · unfold t_wx at hwx; rw [if_neg q] at hwx; omega
  have hb0 := t_s_B (T := T) h1
  have hb1 := t_e_B (T := T) h1
  have hb2 := t_e_B (T := T) (len := len) (i := i1) (by omega)
  have hbs1 := t_s_B (T := T) (len := len) (i := i1) (by omega)
  have hb3 := t_e_B (T := T) (len := len) (i := i2) (by omega)
  have hbs2 := t_s_B (T := T) (len := len) (i := i2) (by omega)
  have hbs3 := t_s_B (T := T) (len := len) (i := i3) (by omega)
  have hpI : f ≠ 0 → 0 ≤ p ∧ p < i := hI.2.2.2.2.2.2.1
  have hitI : 0 ≤ it ∧ it ≤ i := hI.2.1
  have hlen := h.1.2.1
  have hftI : -1 ≤ ft ∧ ft ≤ 39 := hI.2.2.2.2.2.2.2.2.1
  have hD0 : D 0 = min 60 it := hI.2.2.1 (by decide)
  refine g_lload_n rfl rfl ?_
  refine g_ldc2 (z := 121) rfl rfl ⟨by decide, by decide⟩ ?_
  refine x_lcmp (v := -1) rfl (by decide) ?_
  refine g_if_eq (tgt := 29) rfl (by decide) (fun hx => absurd hx (by omega)) (fun _ => ?_)
  refine g_lload_n rfl rfl ?_
  refine g_ldc2 (z := 110) rfl rfl ⟨by decide, by decide⟩ ?_
  refine x_lcmp (v := 0) rfl (by decide) ?_
  refine g_if_eq (tgt := 29) rfl (by decide) (fun _ => ?_) (fun hx => absurd hx (by omega))
  refine g_aload_n rfl rfl ?_
  refine x_getF (r := 211) hG rfl rfl (by decide) (Or.inr ⟨_, rfl⟩) rfl ?_
  refine g_iconst rfl ⟨by decide, by decide⟩ ?_
  refine x_iald (v := (D 0)) rfl rfl (by decide) (by decide) (by decide) (h.2.2.2.2.2 0 (by decide) (by decide)) ?_
  refine g_bipush rfl ⟨by decide, by decide⟩ (by decide) ?_
  refine g_icmp_ne (tgt := 46) rfl (by decide) (fun h1 => ?_) (fun h1 => ?_)
  · refine g_aload_n rfl rfl ?_
    refine g_cV (as := []) (s_tok9 hG hT (i := i1) ⟨rd_C_m mF_rf h.1, h.2.1, h.2.2.1, h.2.2.2.1, h.2.2.2.2.1, h.2.2.2.2.2⟩ (by omega) (by omega) (ht.1.trans he1)) rfl rfl mX12_token_ok rfl rfl rfl (by decide) rfl rfl rfl ?_
    rintro _ w1 ⟨rfl, htw1, hmw1, hrdw1, hFw1⟩ _
    have heqw1 : t_cnt 1 16 (t_s T len i) (f, p, it, m, ft, D) = (f, p, it + 1, m, ft, D) := t_cnt_b (by decide) (by show ¬ (f = 0 ∧ (60 : Int) ≤ it); omega)
    have hppw1 : f ≠ 0 → p ≤ t_s T len i := fun z => by omega
    have hkbw1 := t_k_b T len i1
    refine g_aload_n rfl rfl ?_
    refine g_lload_n rfl rfl ?_
    refine g_ldc2 (z := 121) rfl rfl ⟨by decide, by decide⟩ ?_
    refine x_lcmp (v := -1) rfl (by decide) ?_
    refine g_if_ne (tgt := 64) rfl (by decide) (fun _ => ?_) (fun hx => absurd hx (by omega))
    refine g_bipush rfl ⟨by decide, by decide⟩ (by decide) ?_
    refine g_puti rfl rfl (by decide) rfl rfl ?_
    refine g_lload_n rfl rfl ?_
    refine g_ldc2 (z := 26479) rfl rfl ⟨by decide, by decide⟩ ?_
    refine x_lcmp (v := -1) rfl (by decide) ?_
    refine g_if_ne (tgt := 89) rfl (by decide) (fun _ => ?_) (fun hx => absurd hx (by omega))
    refine g_aload_n rfl rfl ?_
    refine x_getF (r := 211) hG rfl rfl (by decide) (Or.inr ⟨_, rfl⟩) rfl ?_
    refine g_iconst rfl ⟨by decide, by decide⟩ ?_
    refine x_iald (v := (D 0)) rfl rfl (by decide) (by decide) (by decide) (by rw [tp_pi_ne (by omega)]; exact (hmw1.2.2.2.2.2 0 (by decide) (by decide))) ?_
    refine g_bipush rfl ⟨by decide, by decide⟩ (by decide) ?_
    refine g_icmp_ge (tgt := 125) rfl (by decide) (fun hx => absurd hx (by omega)) (fun _ => ?_)
    refine g_aload_n rfl rfl ?_
    refine x_getF (r := 211) hG rfl rfl (by decide) (Or.inr ⟨_, rfl⟩) rfl ?_
    refine g_iconst rfl ⟨by decide, by decide⟩ ?_
    refine g_dup2 rfl ?_
    refine x_iald (v := (D 0)) rfl rfl (by decide) (by decide) (by decide) (by rw [tp_pi_ne (by omega)]; exact (hmw1.2.2.2.2.2 0 (by decide) (by decide))) ?_
    refine g_iconst rfl ⟨by decide, by decide⟩ ?_
    refine x_iadd (z := (D 0) + 1) rfl (by omega) ⟨by omega, by omega⟩ ?_
    refine g_iast rfl rfl (by decide) (by decide) (by decide) ?_
    refine g_aload_n rfl rfl ?_
    refine x_getF (r := 211) hG rfl rfl (by decide) (Or.inr ⟨_, rfl⟩) rfl ?_
    refine g_aload_n rfl rfl ?_
    refine x_getF (r := 211) hG rfl rfl (by decide) (Or.inr ⟨_, rfl⟩) rfl ?_
    refine g_iconst rfl ⟨by decide, by decide⟩ ?_
    refine x_iald (v := (D 0) + 1) rfl rfl (by decide) (by decide) (by decide) (by rw [tp_pi_at]) ?_
    refine g_aload_n rfl rfl ?_
    refine x_geti (v := 100) rfl rfl (by decide) (Or.inl rfl) rfl ?_
    refine g_iast rfl rfl (by decide) (by omega) (by omega) ?_
    refine g_iconst rfl ⟨by decide, by decide⟩ ?_
    refine x_zreturn rfl rfl (Or.inr rfl) ?_
    rw [l_P]
    refine ⟨(mF_pt (mF_pt (mF_pi (by decide) (mF_tr (mF_tr mF_rf mF_rf) hFw1)))), Or.inr ⟨rfl, i1, t_tk 16 0 0 (f, p, it + 1, m, ft, D), ⟨by omega, by omega⟩, ⟨htw1.1, htw1.2.1, htw1.2.2.1, htw1.2.2.2.1, htw1.2.2.2.2⟩, ⟨lo, fun z => absurd z (by decide), rd_C_m (mF_pt (mF_pt (mF_pi (by decide) mF_rf))) hmw1.1, hmw1.2.1, hmw1.2.2.1, hmw1.2.2.2.1, hmw1.2.2.2.2.1, by show ∀ j, 0 ≤ j → j < 129 → _ = t_D 16 (t_rw 16 0) 0 m D j; rw [t_D_d (by decide) (by omega)]; exact (told_u (told_u (told_n hmw1.2.2.2.2.2)))⟩, fun z => ?_, fun z => ?_⟩⟩
    · rw [t_ln_w hwx (by decide), t_l0_0n rfl he1 z]
    · rw [t_ln_w hwx (by decide), t_l0_0y rfl he1 z, heqw1]
  · refine g_aload_n rfl rfl ?_
    refine g_iconst rfl ⟨by decide, by decide⟩ ?_
    refine g_iload_n rfl rfl ?_
    refine g_cV (as := [tI 3, tI (t_s T len i)]) (s_aF9 hG h ht (by omega)) rfl rfl mX12_addsFault_ok rfl rfl rfl (by decide) rfl rfl rfl ?_
    rintro _ w2 ⟨rfl, fw2, pw2, hzaw2, hzbw2, hmw2, htw2, hrdw2, hFw2⟩ _
    have heqw2 : t_cnt 1 16 (t_s T len i) (f, p, it, m, ft, D) = (fw2, pw2, it + 1, m, ft, D) := by
      by_cases u : f = 0
      · rw [t_cnt_a (by decide) ⟨u, by show (60 : Int) ≤ it; omega⟩, (hzaw2 u).1, (hzaw2 u).2]
      · rw [t_cnt_b (by decide) (fun z => u z.1), (hzbw2 u).1, (hzbw2 u).2]
    have hppw2 : fw2 ≠ 0 → pw2 ≤ t_s T len i := fun z => by
      by_cases u : f = 0
      · rw [(hzaw2 u).2]; omega
      · rw [(hzbw2 u).2]; omega
    refine g_aload_n rfl rfl ?_
    refine g_cV (as := []) (s_tok9 hG hT (i := i1) ⟨rd_C_m mF_rf hmw2.1, hmw2.2.1, hmw2.2.2.1, hmw2.2.2.2.1, hmw2.2.2.2.2.1, hmw2.2.2.2.2.2⟩ (by omega) (by omega) (htw2.1.trans he1)) rfl rfl mX12_token_ok rfl rfl rfl (by decide) rfl rfl rfl ?_
    rintro _ w3 ⟨rfl, htw3, hmw3, hrdw3, hFw3⟩ _
    have hkbw3 := t_k_b T len i1
    refine g_aload_n rfl rfl ?_
    refine g_lload_n rfl rfl ?_
    refine g_ldc2 (z := 121) rfl rfl ⟨by decide, by decide⟩ ?_
    refine x_lcmp (v := -1) rfl (by decide) ?_
    refine g_if_ne (tgt := 64) rfl (by decide) (fun _ => ?_) (fun hx => absurd hx (by omega))
    refine g_bipush rfl ⟨by decide, by decide⟩ (by decide) ?_
    refine g_puti rfl rfl (by decide) rfl rfl ?_
    refine g_lload_n rfl rfl ?_
    refine g_ldc2 (z := 26479) rfl rfl ⟨by decide, by decide⟩ ?_
    refine x_lcmp (v := -1) rfl (by decide) ?_
    refine g_if_ne (tgt := 89) rfl (by decide) (fun _ => ?_) (fun hx => absurd hx (by omega))
    refine g_aload_n rfl rfl ?_
    refine x_getF (r := 211) hG rfl rfl (by decide) (Or.inr ⟨_, rfl⟩) rfl ?_
    refine g_iconst rfl ⟨by decide, by decide⟩ ?_
    refine x_iald (v := (D 0)) rfl rfl (by decide) (by decide) (by decide) (by rw [tp_pi_ne (by omega)]; exact (hmw3.2.2.2.2.2 0 (by decide) (by decide))) ?_
    refine g_bipush rfl ⟨by decide, by decide⟩ (by decide) ?_
    refine g_icmp_ge (tgt := 125) rfl (by decide) (fun _ => ?_) (fun hx => absurd hx (by omega))
    refine g_iconst rfl ⟨by decide, by decide⟩ ?_
    refine x_zreturn rfl rfl (Or.inr rfl) ?_
    rw [l_P]
    refine ⟨(mF_pi (by decide) (mF_tr (mF_tr (mF_tr mF_rf hFw2) mF_rf) hFw3)), Or.inr ⟨rfl, i1, t_tk 16 0 0 (fw2, pw2, it + 1, m, ft, D), ⟨by omega, by omega⟩, ⟨htw3.1, htw3.2.1, htw3.2.2.1, htw3.2.2.2.1, htw3.2.2.2.2⟩, ⟨lo, fun z => absurd z (by decide), rd_C_m (mF_pi (by decide) mF_rf) hmw3.1, hmw3.2.1, hmw3.2.2.1, hmw3.2.2.2.1, hmw3.2.2.2.2.1, by show ∀ j, 0 ≤ j → j < 129 → _ = t_D 16 (t_rw 16 0) 0 m D j; rw [show t_D 16 (t_rw 16 0) 0 m D = D by unfold t_D; rw [if_neg (by decide), if_neg (by decide), if_neg (by decide), if_pos (by decide), if_neg (by omega)]]; exact (told_n hmw3.2.2.2.2.2)⟩, fun z => ?_, fun z => ?_⟩⟩
    · rw [t_ln_w hwx (by decide), t_l0_0n rfl he1 z]
    · rw [t_ln_w hwx (by decide), t_l0_0y rfl he1 z, heqw2]
set_option maxHeartbeats 4000000 in
set_option maxRecDepth 100000 in
theorem s_li17 {G : tp_G} {μ : tp_M} (hG : tp_Gf G = true) {T : Int → Int} {len i f p it m ft lo : Int} {D : Int → Int} (hT : ∀ j, 0 ≤ T j ∧ T j ≤ 255) (h0 : 0 ≤ i) (h1 : i ≤ len) (h : ms T len f p m ft lo D μ) (ht : rtk T len i μ) (hI : t_I 1 i (f, p, it, m, ft, D)) (hlo : (1 : Int) = 2 → lo = min 12 it) (hwx : t_wx 1 T len i = 17) : tp_k G mX12_driveLine [tR (some 201), tL (121), tI (t_s T len i)] μ (fun r μ' => l_P 1 T len i (f, p, it, m, ft, D) μ r μ') := by
  refine tp_ok_of mX12_driveLine_ok rfl (Nat.le_refl _) ?_
  obtain ⟨i1, he1⟩ : ∃ x, t_e T len i = x := ⟨_, rfl⟩
  obtain ⟨i2, he2⟩ : ∃ x, t_e T len i1 = x := ⟨_, rfl⟩
  obtain ⟨i3, he3⟩ : ∃ x, t_e T len i2 = x := ⟨_, rfl⟩
  have hkk : t_k T len i = 1 := by
    by_cases q : t_k T len i = 1
    · exact q
    · unfold t_wx at hwx; rw [if_neg q] at hwx; omega
  have hb0 := t_s_B (T := T) h1
  have hb1 := t_e_B (T := T) h1
  have hb2 := t_e_B (T := T) (len := len) (i := i1) (by omega)
  have hbs1 := t_s_B (T := T) (len := len) (i := i1) (by omega)
  have hb3 := t_e_B (T := T) (len := len) (i := i2) (by omega)
  have hbs2 := t_s_B (T := T) (len := len) (i := i2) (by omega)
  have hbs3 := t_s_B (T := T) (len := len) (i := i3) (by omega)
  have hpI : f ≠ 0 → 0 ≤ p ∧ p < i := hI.2.2.2.2.2.2.1
  have hitI : 0 ≤ it ∧ it ≤ i := hI.2.1
  have hlen := h.1.2.1
  have hftI : -1 ≤ ft ∧ ft ≤ 39 := hI.2.2.2.2.2.2.2.2.1
  have hD0 : D 0 = min 60 it := hI.2.2.1 (by decide)
  refine g_lload_n rfl rfl ?_
  refine g_ldc2 (z := 121) rfl rfl ⟨by decide, by decide⟩ ?_
  refine x_lcmp (v := 0) rfl (by decide) ?_
  refine g_if_eq (tgt := 29) rfl (by decide) (fun _ => ?_) (fun hx => absurd hx (by omega))
  refine g_aload_n rfl rfl ?_
  refine x_getF (r := 211) hG rfl rfl (by decide) (Or.inr ⟨_, rfl⟩) rfl ?_
  refine g_iconst rfl ⟨by decide, by decide⟩ ?_
  refine x_iald (v := (D 0)) rfl rfl (by decide) (by decide) (by decide) (h.2.2.2.2.2 0 (by decide) (by decide)) ?_
  refine g_bipush rfl ⟨by decide, by decide⟩ (by decide) ?_
  refine g_icmp_ne (tgt := 46) rfl (by decide) (fun h1 => ?_) (fun h1 => ?_)
  · refine g_aload_n rfl rfl ?_
    refine g_cV (as := []) (s_tok9 hG hT (i := i1) ⟨rd_C_m mF_rf h.1, h.2.1, h.2.2.1, h.2.2.2.1, h.2.2.2.2.1, h.2.2.2.2.2⟩ (by omega) (by omega) (ht.1.trans he1)) rfl rfl mX12_token_ok rfl rfl rfl (by decide) rfl rfl rfl ?_
    rintro _ w1 ⟨rfl, htw1, hmw1, hrdw1, hFw1⟩ _
    have heqw1 : t_cnt 1 17 (t_s T len i) (f, p, it, m, ft, D) = (f, p, it + 1, m, ft, D) := t_cnt_b (by decide) (by show ¬ (f = 0 ∧ (60 : Int) ≤ it); omega)
    have hppw1 : f ≠ 0 → p ≤ t_s T len i := fun z => by omega
    have hkbw1 := t_k_b T len i1
    refine g_aload_n rfl rfl ?_
    refine g_lload_n rfl rfl ?_
    refine g_ldc2 (z := 121) rfl rfl ⟨by decide, by decide⟩ ?_
    refine x_lcmp (v := 0) rfl (by decide) ?_
    refine g_if_ne (tgt := 64) rfl (by decide) (fun hx => absurd hx (by omega)) (fun _ => ?_)
    refine g_bipush rfl ⟨by decide, by decide⟩ (by decide) ?_
    refine g_goto (tgt := 66) rfl (by decide) ?_
    refine g_puti rfl rfl (by decide) rfl rfl ?_
    refine g_lload_n rfl rfl ?_
    refine g_ldc2 (z := 26479) rfl rfl ⟨by decide, by decide⟩ ?_
    refine x_lcmp (v := -1) rfl (by decide) ?_
    refine g_if_ne (tgt := 89) rfl (by decide) (fun _ => ?_) (fun hx => absurd hx (by omega))
    refine g_aload_n rfl rfl ?_
    refine x_getF (r := 211) hG rfl rfl (by decide) (Or.inr ⟨_, rfl⟩) rfl ?_
    refine g_iconst rfl ⟨by decide, by decide⟩ ?_
    refine x_iald (v := (D 0)) rfl rfl (by decide) (by decide) (by decide) (by rw [tp_pi_ne (by omega)]; exact (hmw1.2.2.2.2.2 0 (by decide) (by decide))) ?_
    refine g_bipush rfl ⟨by decide, by decide⟩ (by decide) ?_
    refine g_icmp_ge (tgt := 125) rfl (by decide) (fun hx => absurd hx (by omega)) (fun _ => ?_)
    refine g_aload_n rfl rfl ?_
    refine x_getF (r := 211) hG rfl rfl (by decide) (Or.inr ⟨_, rfl⟩) rfl ?_
    refine g_iconst rfl ⟨by decide, by decide⟩ ?_
    refine g_dup2 rfl ?_
    refine x_iald (v := (D 0)) rfl rfl (by decide) (by decide) (by decide) (by rw [tp_pi_ne (by omega)]; exact (hmw1.2.2.2.2.2 0 (by decide) (by decide))) ?_
    refine g_iconst rfl ⟨by decide, by decide⟩ ?_
    refine x_iadd (z := (D 0) + 1) rfl (by omega) ⟨by omega, by omega⟩ ?_
    refine g_iast rfl rfl (by decide) (by decide) (by decide) ?_
    refine g_aload_n rfl rfl ?_
    refine x_getF (r := 211) hG rfl rfl (by decide) (Or.inr ⟨_, rfl⟩) rfl ?_
    refine g_aload_n rfl rfl ?_
    refine x_getF (r := 211) hG rfl rfl (by decide) (Or.inr ⟨_, rfl⟩) rfl ?_
    refine g_iconst rfl ⟨by decide, by decide⟩ ?_
    refine x_iald (v := (D 0) + 1) rfl rfl (by decide) (by decide) (by decide) (by rw [tp_pi_at]) ?_
    refine g_aload_n rfl rfl ?_
    refine x_geti (v := 101) rfl rfl (by decide) (Or.inl rfl) rfl ?_
    refine g_iast rfl rfl (by decide) (by omega) (by omega) ?_
    refine g_iconst rfl ⟨by decide, by decide⟩ ?_
    refine x_zreturn rfl rfl (Or.inr rfl) ?_
    rw [l_P]
    refine ⟨(mF_pt (mF_pt (mF_pi (by decide) (mF_tr (mF_tr mF_rf mF_rf) hFw1)))), Or.inr ⟨rfl, i1, t_tk 17 0 0 (f, p, it + 1, m, ft, D), ⟨by omega, by omega⟩, ⟨htw1.1, htw1.2.1, htw1.2.2.1, htw1.2.2.2.1, htw1.2.2.2.2⟩, ⟨lo, fun z => absurd z (by decide), rd_C_m (mF_pt (mF_pt (mF_pi (by decide) mF_rf))) hmw1.1, hmw1.2.1, hmw1.2.2.1, hmw1.2.2.2.1, hmw1.2.2.2.2.1, by show ∀ j, 0 ≤ j → j < 129 → _ = t_D 17 (t_rw 17 0) 0 m D j; rw [t_D_d (by decide) (by omega)]; exact (told_u (told_u (told_n hmw1.2.2.2.2.2)))⟩, fun z => ?_, fun z => ?_⟩⟩
    · rw [t_ln_w hwx (by decide), t_l0_0n rfl he1 z]
    · rw [t_ln_w hwx (by decide), t_l0_0y rfl he1 z, heqw1]
  · refine g_aload_n rfl rfl ?_
    refine g_iconst rfl ⟨by decide, by decide⟩ ?_
    refine g_iload_n rfl rfl ?_
    refine g_cV (as := [tI 3, tI (t_s T len i)]) (s_aF9 hG h ht (by omega)) rfl rfl mX12_addsFault_ok rfl rfl rfl (by decide) rfl rfl rfl ?_
    rintro _ w2 ⟨rfl, fw2, pw2, hzaw2, hzbw2, hmw2, htw2, hrdw2, hFw2⟩ _
    have heqw2 : t_cnt 1 17 (t_s T len i) (f, p, it, m, ft, D) = (fw2, pw2, it + 1, m, ft, D) := by
      by_cases u : f = 0
      · rw [t_cnt_a (by decide) ⟨u, by show (60 : Int) ≤ it; omega⟩, (hzaw2 u).1, (hzaw2 u).2]
      · rw [t_cnt_b (by decide) (fun z => u z.1), (hzbw2 u).1, (hzbw2 u).2]
    have hppw2 : fw2 ≠ 0 → pw2 ≤ t_s T len i := fun z => by
      by_cases u : f = 0
      · rw [(hzaw2 u).2]; omega
      · rw [(hzbw2 u).2]; omega
    refine g_aload_n rfl rfl ?_
    refine g_cV (as := []) (s_tok9 hG hT (i := i1) ⟨rd_C_m mF_rf hmw2.1, hmw2.2.1, hmw2.2.2.1, hmw2.2.2.2.1, hmw2.2.2.2.2.1, hmw2.2.2.2.2.2⟩ (by omega) (by omega) (htw2.1.trans he1)) rfl rfl mX12_token_ok rfl rfl rfl (by decide) rfl rfl rfl ?_
    rintro _ w3 ⟨rfl, htw3, hmw3, hrdw3, hFw3⟩ _
    have hkbw3 := t_k_b T len i1
    refine g_aload_n rfl rfl ?_
    refine g_lload_n rfl rfl ?_
    refine g_ldc2 (z := 121) rfl rfl ⟨by decide, by decide⟩ ?_
    refine x_lcmp (v := 0) rfl (by decide) ?_
    refine g_if_ne (tgt := 64) rfl (by decide) (fun hx => absurd hx (by omega)) (fun _ => ?_)
    refine g_bipush rfl ⟨by decide, by decide⟩ (by decide) ?_
    refine g_goto (tgt := 66) rfl (by decide) ?_
    refine g_puti rfl rfl (by decide) rfl rfl ?_
    refine g_lload_n rfl rfl ?_
    refine g_ldc2 (z := 26479) rfl rfl ⟨by decide, by decide⟩ ?_
    refine x_lcmp (v := -1) rfl (by decide) ?_
    refine g_if_ne (tgt := 89) rfl (by decide) (fun _ => ?_) (fun hx => absurd hx (by omega))
    refine g_aload_n rfl rfl ?_
    refine x_getF (r := 211) hG rfl rfl (by decide) (Or.inr ⟨_, rfl⟩) rfl ?_
    refine g_iconst rfl ⟨by decide, by decide⟩ ?_
    refine x_iald (v := (D 0)) rfl rfl (by decide) (by decide) (by decide) (by rw [tp_pi_ne (by omega)]; exact (hmw3.2.2.2.2.2 0 (by decide) (by decide))) ?_
    refine g_bipush rfl ⟨by decide, by decide⟩ (by decide) ?_
    refine g_icmp_ge (tgt := 125) rfl (by decide) (fun _ => ?_) (fun hx => absurd hx (by omega))
    refine g_iconst rfl ⟨by decide, by decide⟩ ?_
    refine x_zreturn rfl rfl (Or.inr rfl) ?_
    rw [l_P]
    refine ⟨(mF_pi (by decide) (mF_tr (mF_tr (mF_tr mF_rf hFw2) mF_rf) hFw3)), Or.inr ⟨rfl, i1, t_tk 17 0 0 (fw2, pw2, it + 1, m, ft, D), ⟨by omega, by omega⟩, ⟨htw3.1, htw3.2.1, htw3.2.2.1, htw3.2.2.2.1, htw3.2.2.2.2⟩, ⟨lo, fun z => absurd z (by decide), rd_C_m (mF_pi (by decide) mF_rf) hmw3.1, hmw3.2.1, hmw3.2.2.1, hmw3.2.2.2.1, hmw3.2.2.2.2.1, by show ∀ j, 0 ≤ j → j < 129 → _ = t_D 17 (t_rw 17 0) 0 m D j; rw [show t_D 17 (t_rw 17 0) 0 m D = D by unfold t_D; rw [if_neg (by decide), if_neg (by decide), if_neg (by decide), if_pos (by decide), if_neg (by omega)]]; exact (told_n hmw3.2.2.2.2.2)⟩, fun z => ?_, fun z => ?_⟩⟩
    · rw [t_ln_w hwx (by decide), t_l0_0n rfl he1 z]
    · rw [t_ln_w hwx (by decide), t_l0_0y rfl he1 z, heqw2]
set_option maxHeartbeats 4000000 in
set_option maxRecDepth 100000 in
theorem s_li18 {G : tp_G} {μ : tp_M} (hG : tp_Gf G = true) {T : Int → Int} {len i f p it m ft lo : Int} {D : Int → Int} (hT : ∀ j, 0 ≤ T j ∧ T j ≤ 255) (h0 : 0 ≤ i) (h1 : i ≤ len) (h : ms T len f p m ft lo D μ) (ht : rtk T len i μ) (hI : t_I 1 i (f, p, it, m, ft, D)) (hlo : (1 : Int) = 2 → lo = min 12 it) (hwx : t_wx 1 T len i = 18) : tp_k G mX12_driveLine [tR (some 201), tL (26479), tI (t_s T len i)] μ (fun r μ' => l_P 1 T len i (f, p, it, m, ft, D) μ r μ') := by
  refine tp_ok_of mX12_driveLine_ok rfl (Nat.le_refl _) ?_
  obtain ⟨i1, he1⟩ : ∃ x, t_e T len i = x := ⟨_, rfl⟩
  obtain ⟨i2, he2⟩ : ∃ x, t_e T len i1 = x := ⟨_, rfl⟩
  obtain ⟨i3, he3⟩ : ∃ x, t_e T len i2 = x := ⟨_, rfl⟩
  have hkk : t_k T len i = 1 := by
    by_cases q : t_k T len i = 1
    · exact q
    · unfold t_wx at hwx; rw [if_neg q] at hwx; omega
  have hb0 := t_s_B (T := T) h1
  have hb1 := t_e_B (T := T) h1
  have hb2 := t_e_B (T := T) (len := len) (i := i1) (by omega)
  have hbs1 := t_s_B (T := T) (len := len) (i := i1) (by omega)
  have hb3 := t_e_B (T := T) (len := len) (i := i2) (by omega)
  have hbs2 := t_s_B (T := T) (len := len) (i := i2) (by omega)
  have hbs3 := t_s_B (T := T) (len := len) (i := i3) (by omega)
  have hpI : f ≠ 0 → 0 ≤ p ∧ p < i := hI.2.2.2.2.2.2.1
  have hitI : 0 ≤ it ∧ it ≤ i := hI.2.1
  have hlen := h.1.2.1
  have hftI : -1 ≤ ft ∧ ft ≤ 39 := hI.2.2.2.2.2.2.2.2.1
  have hD0 : D 0 = min 60 it := hI.2.2.1 (by decide)
  have hcl : 0 ≤ t_cl 18 (t_v T len i1) ∧ t_cl 18 (t_v T len i1) ≤ 39 := t_cl_b (by decide)
  refine g_lload_n rfl rfl ?_
  refine g_ldc2 (z := 121) rfl rfl ⟨by decide, by decide⟩ ?_
  refine x_lcmp (v := 1) rfl (by decide) ?_
  refine g_if_eq (tgt := 29) rfl (by decide) (fun hx => absurd hx (by omega)) (fun _ => ?_)
  refine g_lload_n rfl rfl ?_
  refine g_ldc2 (z := 110) rfl rfl ⟨by decide, by decide⟩ ?_
  refine x_lcmp (v := 1) rfl (by decide) ?_
  refine g_if_eq (tgt := 29) rfl (by decide) (fun hx => absurd hx (by omega)) (fun _ => ?_)
  refine g_lload_n rfl rfl ?_
  refine g_ldc2 (z := 26479) rfl rfl ⟨by decide, by decide⟩ ?_
  refine x_lcmp (v := 0) rfl (by decide) ?_
  refine g_if_eq (tgt := 29) rfl (by decide) (fun _ => ?_) (fun hx => absurd hx (by omega))
  refine g_aload_n rfl rfl ?_
  refine x_getF (r := 211) hG rfl rfl (by decide) (Or.inr ⟨_, rfl⟩) rfl ?_
  refine g_iconst rfl ⟨by decide, by decide⟩ ?_
  refine x_iald (v := (D 0)) rfl rfl (by decide) (by decide) (by decide) (h.2.2.2.2.2 0 (by decide) (by decide)) ?_
  refine g_bipush rfl ⟨by decide, by decide⟩ (by decide) ?_
  refine g_icmp_ne (tgt := 46) rfl (by decide) (fun h1 => ?_) (fun h1 => ?_)
  · refine g_aload_n rfl rfl ?_
    refine g_cV (as := []) (s_tok9 hG hT (i := i1) ⟨rd_C_m mF_rf h.1, h.2.1, h.2.2.1, h.2.2.2.1, h.2.2.2.2.1, h.2.2.2.2.2⟩ (by omega) (by omega) (ht.1.trans he1)) rfl rfl mX12_token_ok rfl rfl rfl (by decide) rfl rfl rfl ?_
    rintro _ w1 ⟨rfl, htw1, hmw1, hrdw1, hFw1⟩ _
    have heqw1 : t_cnt 1 18 (t_s T len i) (f, p, it, m, ft, D) = (f, p, it + 1, m, ft, D) := t_cnt_b (by decide) (by show ¬ (f = 0 ∧ (60 : Int) ≤ it); omega)
    have hppw1 : f ≠ 0 → p ≤ t_s T len i := fun z => by omega
    have hkbw1 := t_k_b T len i1
    refine g_aload_n rfl rfl ?_
    refine g_lload_n rfl rfl ?_
    refine g_ldc2 (z := 121) rfl rfl ⟨by decide, by decide⟩ ?_
    refine x_lcmp (v := 1) rfl (by decide) ?_
    refine g_if_ne (tgt := 64) rfl (by decide) (fun _ => ?_) (fun hx => absurd hx (by omega))
    refine g_bipush rfl ⟨by decide, by decide⟩ (by decide) ?_
    refine g_puti rfl rfl (by decide) rfl rfl ?_
    refine g_lload_n rfl rfl ?_
    refine g_ldc2 (z := 26479) rfl rfl ⟨by decide, by decide⟩ ?_
    refine x_lcmp (v := 0) rfl (by decide) ?_
    refine g_if_ne (tgt := 89) rfl (by decide) (fun hx => absurd hx (by omega)) (fun _ => ?_)
    refine g_aload_n rfl rfl ?_
    refine g_iconst rfl ⟨by decide, by decide⟩ ?_
    refine g_bipush rfl ⟨by decide, by decide⟩ (by decide) ?_
    refine g_cV (as := [tI 0, tI 39]) (s_take18 (R := (it + 1, m, ft, D)) hG hT (i := i1) (by omega) (by omega) ⟨rd_C_m (mF_pi (by decide) mF_rf) hmw1.1, hmw1.2.1, hmw1.2.2.1, hmw1.2.2.2.1, hmw1.2.2.2.2.1, (told_n hmw1.2.2.2.2.2)⟩ ⟨htw1.1, htw1.2.1, htw1.2.2.1, htw1.2.2.2.1, htw1.2.2.2.2⟩ (fun z => by have := hppw1 z; omega)) rfl rfl mX12_take_ok rfl rfl rfl (by decide) rfl rfl rfl ?_
    rintro _ w2 ⟨⟨hkw2, rfl, h16w2⟩ | ⟨hkw2, rfl, fw2, pw2, heqw2, hmw2, htw2, hrdw2⟩, hFw2⟩ _
    · obtain ⟨w3, hw39⟩ : ∃ x, x = w2 := ⟨_, rfl⟩
      rw [← hw39] at hFw2 h16w2 ⊢
      have hFw3 := hFw2
      refine g_if_ne (tgt := 89) rfl (by decide) (fun hx => absurd hx (by omega)) (fun _ => ?_)
      refine g_iconst rfl ⟨by decide, by decide⟩ ?_
      refine x_zreturn rfl rfl (Or.inl rfl) ?_
      rw [l_P]
      exact ⟨(mF_tr (mF_tr (mF_tr (mF_tr mF_rf mF_rf) hFw1) (mF_pi (by decide) mF_rf)) hFw3), Or.inl ⟨by first | rfl | omega, _, by rw [t_ln_w hwx (by decide), t_l0_1a (by decide) he1 (by omega)], h16w2⟩⟩
    · rw [he2] at htw2
      have hppw2 : fw2 ≠ 0 → pw2 ≤ t_s T len i1 := fun z => by
        have q1 := heqw2
        by_cases u : (t_v T len i1 < t_lo 18 ∨ t_hi 18 < t_v T len i1) ∧ f = 0
        · rw [t_chk_a u] at q1
          have q2 : t_s T len i1 = pw2 := congrArg (fun x => x.2.1) q1
          omega
        · rw [t_chk_b u] at q1
          have q2 : p = pw2 := congrArg (fun x => x.2.1) q1
          have q3 : f = fw2 := congrArg (fun x => x.1) q1
          have := hppw1 (by omega)
          omega
      refine g_if_ne (tgt := 89) rfl (by decide) (fun _ => ?_) (fun hx => absurd hx (by omega))
      refine g_aload_n rfl rfl ?_
      refine x_getF (r := 211) hG rfl rfl (by decide) (Or.inr ⟨_, rfl⟩) rfl ?_
      refine g_iconst rfl ⟨by decide, by decide⟩ ?_
      refine x_iald (v := (D 0)) rfl rfl (by decide) (by decide) (by decide) (hmw2.2.2.2.2.2 0 (by decide) (by decide)) ?_
      refine g_bipush rfl ⟨by decide, by decide⟩ (by decide) ?_
      refine g_icmp_ge (tgt := 125) rfl (by decide) (fun hx => absurd hx (by omega)) (fun _ => ?_)
      refine g_aload_n rfl rfl ?_
      refine x_getF (r := 211) hG rfl rfl (by decide) (Or.inr ⟨_, rfl⟩) rfl ?_
      refine g_iconst rfl ⟨by decide, by decide⟩ ?_
      refine g_dup2 rfl ?_
      refine x_iald (v := (D 0)) rfl rfl (by decide) (by decide) (by decide) (hmw2.2.2.2.2.2 0 (by decide) (by decide)) ?_
      refine g_iconst rfl ⟨by decide, by decide⟩ ?_
      refine x_iadd (z := (D 0) + 1) rfl (by omega) ⟨by omega, by omega⟩ ?_
      refine g_iast rfl rfl (by decide) (by decide) (by decide) ?_
      refine g_aload_n rfl rfl ?_
      refine x_getF (r := 211) hG rfl rfl (by decide) (Or.inr ⟨_, rfl⟩) rfl ?_
      refine g_aload_n rfl rfl ?_
      refine x_getF (r := 211) hG rfl rfl (by decide) (Or.inr ⟨_, rfl⟩) rfl ?_
      refine g_iconst rfl ⟨by decide, by decide⟩ ?_
      refine x_iald (v := (D 0) + 1) rfl rfl (by decide) (by decide) (by decide) (by rw [tp_pi_at]) ?_
      refine g_aload_n rfl rfl ?_
      refine x_geti (v := (t_cl 18 (t_v T len i1))) rfl rfl (by decide) (Or.inl rfl) hrdw2 ?_
      refine g_iast rfl rfl (by decide) (by omega) (by omega) ?_
      refine g_iconst rfl ⟨by decide, by decide⟩ ?_
      refine x_zreturn rfl rfl (Or.inr rfl) ?_
      rw [l_P]
      refine ⟨(mF_pt (mF_pt (mF_tr (mF_tr (mF_tr (mF_tr mF_rf mF_rf) hFw1) (mF_pi (by decide) mF_rf)) hFw2))), Or.inr ⟨rfl, i2, t_tk 18 (t_v T len i1) 0 (fw2, pw2, it + 1, m, ft, D), ⟨by omega, by omega⟩, ⟨htw2.1, htw2.2.1, htw2.2.2.1, htw2.2.2.2.1, htw2.2.2.2.2⟩, ⟨lo, fun z => absurd z (by decide), rd_C_m (mF_pt (mF_pt mF_rf)) hmw2.1, hmw2.2.1, hmw2.2.2.1, hmw2.2.2.2.1, hmw2.2.2.2.2.1, by show ∀ j, 0 ≤ j → j < 129 → _ = t_D 18 (t_rw 18 (t_v T len i1)) 0 m D j; rw [t_D_d (by decide) (by omega)]; exact (told_u (told_u hmw2.2.2.2.2.2))⟩, fun z => ?_, fun z => ?_⟩⟩
      · rw [t_ln_w hwx (by decide), t_l0_1n rfl he1 he2 (by omega) z]
      · rw [t_ln_w hwx (by decide), t_l0_1y rfl he1 he2 (by omega) z, heqw1, heqw2]
  · refine g_aload_n rfl rfl ?_
    refine g_iconst rfl ⟨by decide, by decide⟩ ?_
    refine g_iload_n rfl rfl ?_
    refine g_cV (as := [tI 3, tI (t_s T len i)]) (s_aF9 hG h ht (by omega)) rfl rfl mX12_addsFault_ok rfl rfl rfl (by decide) rfl rfl rfl ?_
    rintro _ w4 ⟨rfl, fw4, pw4, hzaw4, hzbw4, hmw4, htw4, hrdw4, hFw4⟩ _
    have heqw4 : t_cnt 1 18 (t_s T len i) (f, p, it, m, ft, D) = (fw4, pw4, it + 1, m, ft, D) := by
      by_cases u : f = 0
      · rw [t_cnt_a (by decide) ⟨u, by show (60 : Int) ≤ it; omega⟩, (hzaw4 u).1, (hzaw4 u).2]
      · rw [t_cnt_b (by decide) (fun z => u z.1), (hzbw4 u).1, (hzbw4 u).2]
    have hppw4 : fw4 ≠ 0 → pw4 ≤ t_s T len i := fun z => by
      by_cases u : f = 0
      · rw [(hzaw4 u).2]; omega
      · rw [(hzbw4 u).2]; omega
    refine g_aload_n rfl rfl ?_
    refine g_cV (as := []) (s_tok9 hG hT (i := i1) ⟨rd_C_m mF_rf hmw4.1, hmw4.2.1, hmw4.2.2.1, hmw4.2.2.2.1, hmw4.2.2.2.2.1, hmw4.2.2.2.2.2⟩ (by omega) (by omega) (htw4.1.trans he1)) rfl rfl mX12_token_ok rfl rfl rfl (by decide) rfl rfl rfl ?_
    rintro _ w5 ⟨rfl, htw5, hmw5, hrdw5, hFw5⟩ _
    have hkbw5 := t_k_b T len i1
    refine g_aload_n rfl rfl ?_
    refine g_lload_n rfl rfl ?_
    refine g_ldc2 (z := 121) rfl rfl ⟨by decide, by decide⟩ ?_
    refine x_lcmp (v := 1) rfl (by decide) ?_
    refine g_if_ne (tgt := 64) rfl (by decide) (fun _ => ?_) (fun hx => absurd hx (by omega))
    refine g_bipush rfl ⟨by decide, by decide⟩ (by decide) ?_
    refine g_puti rfl rfl (by decide) rfl rfl ?_
    refine g_lload_n rfl rfl ?_
    refine g_ldc2 (z := 26479) rfl rfl ⟨by decide, by decide⟩ ?_
    refine x_lcmp (v := 0) rfl (by decide) ?_
    refine g_if_ne (tgt := 89) rfl (by decide) (fun hx => absurd hx (by omega)) (fun _ => ?_)
    refine g_aload_n rfl rfl ?_
    refine g_iconst rfl ⟨by decide, by decide⟩ ?_
    refine g_bipush rfl ⟨by decide, by decide⟩ (by decide) ?_
    refine g_cV (as := [tI 0, tI 39]) (s_take18 (R := (it + 1, m, ft, D)) hG hT (i := i1) (by omega) (by omega) ⟨rd_C_m (mF_pi (by decide) mF_rf) hmw5.1, hmw5.2.1, hmw5.2.2.1, hmw5.2.2.2.1, hmw5.2.2.2.2.1, (told_n hmw5.2.2.2.2.2)⟩ ⟨htw5.1, htw5.2.1, htw5.2.2.1, htw5.2.2.2.1, htw5.2.2.2.2⟩ (fun z => by have := hppw4 z; omega)) rfl rfl mX12_take_ok rfl rfl rfl (by decide) rfl rfl rfl ?_
    rintro _ w6 ⟨⟨hkw6, rfl, h16w6⟩ | ⟨hkw6, rfl, fw6, pw6, heqw6, hmw6, htw6, hrdw6⟩, hFw6⟩ _
    · obtain ⟨w7, hw79⟩ : ∃ x, x = w6 := ⟨_, rfl⟩
      rw [← hw79] at hFw6 h16w6 ⊢
      have hFw7 := hFw6
      refine g_if_ne (tgt := 89) rfl (by decide) (fun hx => absurd hx (by omega)) (fun _ => ?_)
      refine g_iconst rfl ⟨by decide, by decide⟩ ?_
      refine x_zreturn rfl rfl (Or.inl rfl) ?_
      rw [l_P]
      exact ⟨(mF_tr (mF_tr (mF_tr (mF_tr (mF_tr mF_rf hFw4) mF_rf) hFw5) (mF_pi (by decide) mF_rf)) hFw7), Or.inl ⟨by first | rfl | omega, _, by rw [t_ln_w hwx (by decide), t_l0_1a (by decide) he1 (by omega)], h16w6⟩⟩
    · rw [he2] at htw6
      have hppw6 : fw6 ≠ 0 → pw6 ≤ t_s T len i1 := fun z => by
        have q1 := heqw6
        by_cases u : (t_v T len i1 < t_lo 18 ∨ t_hi 18 < t_v T len i1) ∧ fw4 = 0
        · rw [t_chk_a u] at q1
          have q2 : t_s T len i1 = pw6 := congrArg (fun x => x.2.1) q1
          omega
        · rw [t_chk_b u] at q1
          have q2 : pw4 = pw6 := congrArg (fun x => x.2.1) q1
          have q3 : fw4 = fw6 := congrArg (fun x => x.1) q1
          have := hppw4 (by omega)
          omega
      refine g_if_ne (tgt := 89) rfl (by decide) (fun _ => ?_) (fun hx => absurd hx (by omega))
      refine g_aload_n rfl rfl ?_
      refine x_getF (r := 211) hG rfl rfl (by decide) (Or.inr ⟨_, rfl⟩) rfl ?_
      refine g_iconst rfl ⟨by decide, by decide⟩ ?_
      refine x_iald (v := (D 0)) rfl rfl (by decide) (by decide) (by decide) (hmw6.2.2.2.2.2 0 (by decide) (by decide)) ?_
      refine g_bipush rfl ⟨by decide, by decide⟩ (by decide) ?_
      refine g_icmp_ge (tgt := 125) rfl (by decide) (fun _ => ?_) (fun hx => absurd hx (by omega))
      refine g_iconst rfl ⟨by decide, by decide⟩ ?_
      refine x_zreturn rfl rfl (Or.inr rfl) ?_
      rw [l_P]
      refine ⟨(mF_tr (mF_tr (mF_tr (mF_tr (mF_tr mF_rf hFw4) mF_rf) hFw5) (mF_pi (by decide) mF_rf)) hFw6), Or.inr ⟨rfl, i2, t_tk 18 (t_v T len i1) 0 (fw6, pw6, it + 1, m, ft, D), ⟨by omega, by omega⟩, ⟨htw6.1, htw6.2.1, htw6.2.2.1, htw6.2.2.2.1, htw6.2.2.2.2⟩, ⟨lo, fun z => absurd z (by decide), rd_C_m mF_rf hmw6.1, hmw6.2.1, hmw6.2.2.1, hmw6.2.2.2.1, hmw6.2.2.2.2.1, by show ∀ j, 0 ≤ j → j < 129 → _ = t_D 18 (t_rw 18 (t_v T len i1)) 0 m D j; rw [show t_D 18 (t_rw 18 (t_v T len i1)) 0 m D = D by unfold t_D; rw [if_neg (by decide), if_neg (by decide), if_neg (by decide), if_pos (by decide), if_neg (by omega)]]; exact hmw6.2.2.2.2.2⟩, fun z => ?_, fun z => ?_⟩⟩
      · rw [t_ln_w hwx (by decide), t_l0_1n rfl he1 he2 (by omega) z]
      · rw [t_ln_w hwx (by decide), t_l0_1y rfl he1 he2 (by omega) z, heqw4, heqw6]
set_option maxHeartbeats 4000000 in
set_option maxRecDepth 100000 in
theorem s_li19 {G : tp_G} {μ : tp_M} (hG : tp_Gf G = true) {T : Int → Int} {len i f p it m ft lo : Int} {D : Int → Int} (hT : ∀ j, 0 ≤ T j ∧ T j ≤ 255) (h0 : 0 ≤ i) (h1 : i ≤ len) (h : ms T len f p m ft lo D μ) (ht : rtk T len i μ) (hI : t_I 2 i (f, p, it, m, ft, D)) (hlo : (2 : Int) = 2 → lo = min 12 it) (hwx : t_wx 2 T len i = 19) : tp_k G mX12_lossLine [tR (some 201), tL (1819243365), tI (t_s T len i)] μ (fun r μ' => l_P 2 T len i (f, p, it, m, ft, D) μ r μ') := by
  refine tp_ok_of mX12_lossLine_ok rfl (Nat.le_refl _) ?_
  obtain ⟨i1, he1⟩ : ∃ x, t_e T len i = x := ⟨_, rfl⟩
  obtain ⟨i2, he2⟩ : ∃ x, t_e T len i1 = x := ⟨_, rfl⟩
  obtain ⟨i3, he3⟩ : ∃ x, t_e T len i2 = x := ⟨_, rfl⟩
  have hkk : t_k T len i = 1 := by
    by_cases q : t_k T len i = 1
    · exact q
    · unfold t_wx at hwx; rw [if_neg q] at hwx; omega
  have hb0 := t_s_B (T := T) h1
  have hb1 := t_e_B (T := T) h1
  have hb2 := t_e_B (T := T) (len := len) (i := i1) (by omega)
  have hbs1 := t_s_B (T := T) (len := len) (i := i1) (by omega)
  have hb3 := t_e_B (T := T) (len := len) (i := i2) (by omega)
  have hbs2 := t_s_B (T := T) (len := len) (i := i2) (by omega)
  have hbs3 := t_s_B (T := T) (len := len) (i := i3) (by omega)
  have hpI : f ≠ 0 → 0 ≤ p ∧ p < i := hI.2.2.2.2.2.2.1
  have hitI : 0 ≤ it ∧ it ≤ i := hI.2.1
  have hlen := h.1.2.1
  have hftI : -1 ≤ ft ∧ ft ≤ 39 := hI.2.2.2.2.2.2.2.2.1
  have hD0 : 0 ≤ D 0 ∧ D 0 ≤ it := hI.2.2.2.1 rfl
  have hlo2 := hlo rfl
  have hcl : 0 ≤ t_cl 19 (t_v T len i1) ∧ t_cl 19 (t_v T len i1) ≤ 99 := t_cl_b (by decide)
  refine g_lload_n rfl rfl ?_
  refine g_ldc2 (z := 1819243365) rfl rfl ⟨by decide, by decide⟩ ?_
  refine x_lcmp (v := 0) rfl (by decide) ?_
  refine g_if_eq (tgt := 13) rfl (by decide) (fun _ => ?_) (fun hx => absurd hx (by omega))
  refine g_aload_n rfl rfl ?_
  refine x_geti (v := lo) rfl rfl (by decide) (Or.inl rfl) h.2.2.2.2.1 ?_
  refine g_bipush rfl ⟨by decide, by decide⟩ (by decide) ?_
  refine g_icmp_ne (tgt := 28) rfl (by decide) (fun h1 => ?_) (fun h1 => ?_)
  · refine g_aload_n rfl rfl ?_
    refine g_cV (as := []) (s_tok9 hG hT (i := i1) ⟨rd_C_m mF_rf h.1, h.2.1, h.2.2.1, h.2.2.2.1, h.2.2.2.2.1, h.2.2.2.2.2⟩ (by omega) (by omega) (ht.1.trans he1)) rfl rfl mX12_token_ok rfl rfl rfl (by decide) rfl rfl rfl ?_
    rintro _ w1 ⟨rfl, htw1, hmw1, hrdw1, hFw1⟩ _
    have heqw1 : t_cnt 2 19 (t_s T len i) (f, p, it, m, ft, D) = (f, p, it + 1, m, ft, D) := t_cnt_b (by decide) (by show ¬ (f = 0 ∧ (12 : Int) ≤ it); omega)
    have hppw1 : f ≠ 0 → p ≤ t_s T len i := fun z => by omega
    have hkbw1 := t_k_b T len i1
    refine g_aload_n rfl rfl ?_
    refine g_iconst rfl ⟨by decide, by decide⟩ ?_
    refine g_bipush rfl ⟨by decide, by decide⟩ (by decide) ?_
    refine g_cV (as := [tI 0, tI 99]) (s_take19 (R := (it + 1, m, ft, D)) hG hT (i := i1) (by omega) (by omega) ⟨rd_C_m mF_rf hmw1.1, hmw1.2.1, hmw1.2.2.1, hmw1.2.2.2.1, hmw1.2.2.2.2.1, hmw1.2.2.2.2.2⟩ ⟨htw1.1, htw1.2.1, htw1.2.2.1, htw1.2.2.2.1, htw1.2.2.2.2⟩ (fun z => by have := hppw1 z; omega)) rfl rfl mX12_take_ok rfl rfl rfl (by decide) rfl rfl rfl ?_
    rintro _ w2 ⟨⟨hkw2, rfl, h16w2⟩ | ⟨hkw2, rfl, fw2, pw2, heqw2, hmw2, htw2, hrdw2⟩, hFw2⟩ _
    · obtain ⟨w3, hw39⟩ : ∃ x, x = w2 := ⟨_, rfl⟩
      rw [← hw39] at hFw2 h16w2 ⊢
      have hFw3 := hFw2
      refine g_if_ne (tgt := 44) rfl (by decide) (fun hx => absurd hx (by omega)) (fun _ => ?_)
      refine g_iconst rfl ⟨by decide, by decide⟩ ?_
      refine x_zreturn rfl rfl (Or.inl rfl) ?_
      rw [l_P]
      exact ⟨(mF_tr (mF_tr (mF_tr (mF_tr mF_rf mF_rf) hFw1) mF_rf) hFw3), Or.inl ⟨by first | rfl | omega, _, by rw [t_ln_w hwx (by decide), t_l0_1a (by decide) he1 (by omega)], h16w2⟩⟩
    · rw [he2] at htw2
      have hppw2 : fw2 ≠ 0 → pw2 ≤ t_s T len i1 := fun z => by
        have q1 := heqw2
        by_cases u : (t_v T len i1 < t_lo 19 ∨ t_hi 19 < t_v T len i1) ∧ f = 0
        · rw [t_chk_a u] at q1
          have q2 : t_s T len i1 = pw2 := congrArg (fun x => x.2.1) q1
          omega
        · rw [t_chk_b u] at q1
          have q2 : p = pw2 := congrArg (fun x => x.2.1) q1
          have q3 : f = fw2 := congrArg (fun x => x.1) q1
          have := hppw1 (by omega)
          omega
      refine g_if_ne (tgt := 44) rfl (by decide) (fun _ => ?_) (fun hx => absurd hx (by omega))
      refine g_aload_n rfl rfl ?_
      refine g_bipush rfl ⟨by decide, by decide⟩ (by decide) ?_
      refine g_aload_n rfl rfl ?_
      refine x_geti (v := lo) rfl rfl (by decide) (Or.inl rfl) hmw2.2.2.2.2.1 ?_
      refine g_iconst rfl ⟨by decide, by decide⟩ ?_
      refine x_iadd (z := lo + 1) rfl (by omega) ⟨by omega, by omega⟩ ?_
      refine g_iS (as := [tI 12, tI (lo + 1)]) mX12_lesser_ok rfl rfl rfl rfl rfl rfl rfl ?_
      refine g_iload_n rfl rfl ?_
      refine g_iload_n rfl rfl ?_
      refine g_icmp_ge (tgt := 9) rfl (by decide) (fun _ => ?_) (fun hx => absurd hx (by omega))
      refine g_iload_n rfl rfl ?_
      refine x_ireturn rfl rfl ?_
      intro _
      refine g_puti rfl rfl (by decide) rfl rfl ?_
      refine g_aload_n rfl rfl ?_
      refine x_getF (r := 211) hG rfl rfl (by decide) (Or.inr ⟨_, rfl⟩) rfl ?_
      refine g_iconst rfl ⟨by decide, by decide⟩ ?_
      refine g_dup2 rfl ?_
      refine x_iald (v := (D 0)) rfl rfl (by decide) (by decide) (by decide) (by rw [tp_pi_ne (by omega)]; exact (hmw2.2.2.2.2.2 0 (by decide) (by decide))) ?_
      refine g_aload_n rfl rfl ?_
      refine x_getF (r := 211) hG rfl rfl (by decide) (Or.inr ⟨_, rfl⟩) rfl ?_
      refine g_iconst rfl ⟨by decide, by decide⟩ ?_
      refine g_aload_n rfl rfl ?_
      refine x_geti (v := (t_cl 19 (t_v T len i1))) rfl rfl (by decide) (Or.inl rfl) hrdw2 ?_
      refine x_iadd (z := (t_cl 19 (t_v T len i1)) + 1) rfl (by omega) ⟨by omega, by omega⟩ ?_
      refine x_iald (v := (w2.1 211 (t_cl 19 (t_v T len i1) + 1))) rfl rfl (by decide) (by omega) (by omega) (by rw [tp_pi_ne (by omega)]) ?_
      refine g_if_ne (tgt := 84) rfl (by decide) (fun h2 => ?_) (fun h2 => ?_)
      · refine g_iconst rfl ⟨by decide, by decide⟩ ?_
        refine x_iadd (z := (D 0)) rfl (by omega) ⟨by omega, by omega⟩ ?_
        refine g_iast rfl rfl (by decide) (by decide) (by decide) ?_
        refine g_aload_n rfl rfl ?_
        refine x_getF (r := 211) hG rfl rfl (by decide) (Or.inr ⟨_, rfl⟩) rfl ?_
        refine g_iconst rfl ⟨by decide, by decide⟩ ?_
        refine g_aload_n rfl rfl ?_
        refine x_geti (v := (t_cl 19 (t_v T len i1))) rfl rfl (by decide) (Or.inl rfl) hrdw2 ?_
        refine x_iadd (z := (t_cl 19 (t_v T len i1)) + 1) rfl (by omega) ⟨by omega, by omega⟩ ?_
        refine g_iconst rfl ⟨by decide, by decide⟩ ?_
        refine g_iast rfl rfl (by decide) (by omega) (by omega) ?_
        refine g_iconst rfl ⟨by decide, by decide⟩ ?_
        refine x_zreturn rfl rfl (Or.inr rfl) ?_
        rw [l_P]
        refine ⟨(mF_pt (mF_pt (mF_pi (by decide) (mF_tr (mF_tr (mF_tr (mF_tr mF_rf mF_rf) hFw1) mF_rf) hFw2)))), Or.inr ⟨rfl, i2, t_tk 19 (t_v T len i1) 0 (fw2, pw2, it + 1, m, ft, D), ⟨by omega, by omega⟩, ⟨htw2.1, htw2.2.1, htw2.2.2.1, htw2.2.2.2.1, htw2.2.2.2.2⟩, ⟨lo + 1, fun _ => (by show lo + 1 = min 12 (it + 1); have := hlo rfl; omega), rd_C_m (mF_pt (mF_pt (mF_pi (by decide) mF_rf))) hmw2.1, hmw2.2.1, hmw2.2.2.1, hmw2.2.2.2.1, rfl, by show ∀ j, 0 ≤ j → j < 129 → _ = t_D 19 (t_cl 19 (t_v T len i1)) 0 m D j; rw [t_D_l, if_neg (by rw [Int.add_comm]; have hq9 := hmw2.2.2.2.2.2 (t_cl 19 (t_v T len i1) + 1) (by omega) (by omega); omega), Int.add_comm 1 (t_cl 19 (t_v T len i1)), Int.add_zero]; exact (told_u (told_u (told_n hmw2.2.2.2.2.2)))⟩, fun z => ?_, fun z => ?_⟩⟩
        · rw [t_ln_w hwx (by decide), t_l0_1n rfl he1 he2 (by omega) z]
        · rw [t_ln_w hwx (by decide), t_l0_1y rfl he1 he2 (by omega) z, heqw1, heqw2]
      · refine g_iconst rfl ⟨by decide, by decide⟩ ?_
        refine g_goto (tgt := 85) rfl (by decide) ?_
        refine x_iadd (z := (D 0) + 1) rfl (by omega) ⟨by omega, by omega⟩ ?_
        refine g_iast rfl rfl (by decide) (by decide) (by decide) ?_
        refine g_aload_n rfl rfl ?_
        refine x_getF (r := 211) hG rfl rfl (by decide) (Or.inr ⟨_, rfl⟩) rfl ?_
        refine g_iconst rfl ⟨by decide, by decide⟩ ?_
        refine g_aload_n rfl rfl ?_
        refine x_geti (v := (t_cl 19 (t_v T len i1))) rfl rfl (by decide) (Or.inl rfl) hrdw2 ?_
        refine x_iadd (z := (t_cl 19 (t_v T len i1)) + 1) rfl (by omega) ⟨by omega, by omega⟩ ?_
        refine g_iconst rfl ⟨by decide, by decide⟩ ?_
        refine g_iast rfl rfl (by decide) (by omega) (by omega) ?_
        refine g_iconst rfl ⟨by decide, by decide⟩ ?_
        refine x_zreturn rfl rfl (Or.inr rfl) ?_
        rw [l_P]
        refine ⟨(mF_pt (mF_pt (mF_pi (by decide) (mF_tr (mF_tr (mF_tr (mF_tr mF_rf mF_rf) hFw1) mF_rf) hFw2)))), Or.inr ⟨rfl, i2, t_tk 19 (t_v T len i1) 0 (fw2, pw2, it + 1, m, ft, D), ⟨by omega, by omega⟩, ⟨htw2.1, htw2.2.1, htw2.2.2.1, htw2.2.2.2.1, htw2.2.2.2.2⟩, ⟨lo + 1, fun _ => (by show lo + 1 = min 12 (it + 1); have := hlo rfl; omega), rd_C_m (mF_pt (mF_pt (mF_pi (by decide) mF_rf))) hmw2.1, hmw2.2.1, hmw2.2.2.1, hmw2.2.2.2.1, rfl, by show ∀ j, 0 ≤ j → j < 129 → _ = t_D 19 (t_cl 19 (t_v T len i1)) 0 m D j; rw [t_D_l, if_pos (by rw [Int.add_comm]; have hq9 := hmw2.2.2.2.2.2 (t_cl 19 (t_v T len i1) + 1) (by omega) (by omega); omega), Int.add_comm 1 (t_cl 19 (t_v T len i1))]; exact (told_u (told_u (told_n hmw2.2.2.2.2.2)))⟩, fun z => ?_, fun z => ?_⟩⟩
        · rw [t_ln_w hwx (by decide), t_l0_1n rfl he1 he2 (by omega) z]
        · rw [t_ln_w hwx (by decide), t_l0_1y rfl he1 he2 (by omega) z, heqw1, heqw2]
  · refine g_aload_n rfl rfl ?_
    refine g_iconst rfl ⟨by decide, by decide⟩ ?_
    refine g_iload_n rfl rfl ?_
    refine g_cV (as := [tI 3, tI (t_s T len i)]) (s_aF9 hG h ht (by omega)) rfl rfl mX12_addsFault_ok rfl rfl rfl (by decide) rfl rfl rfl ?_
    rintro _ w4 ⟨rfl, fw4, pw4, hzaw4, hzbw4, hmw4, htw4, hrdw4, hFw4⟩ _
    have heqw4 : t_cnt 2 19 (t_s T len i) (f, p, it, m, ft, D) = (fw4, pw4, it + 1, m, ft, D) := by
      by_cases u : f = 0
      · rw [t_cnt_a (by decide) ⟨u, by show (12 : Int) ≤ it; omega⟩, (hzaw4 u).1, (hzaw4 u).2]
      · rw [t_cnt_b (by decide) (fun z => u z.1), (hzbw4 u).1, (hzbw4 u).2]
    have hppw4 : fw4 ≠ 0 → pw4 ≤ t_s T len i := fun z => by
      by_cases u : f = 0
      · rw [(hzaw4 u).2]; omega
      · rw [(hzbw4 u).2]; omega
    refine g_aload_n rfl rfl ?_
    refine g_cV (as := []) (s_tok9 hG hT (i := i1) ⟨rd_C_m mF_rf hmw4.1, hmw4.2.1, hmw4.2.2.1, hmw4.2.2.2.1, hmw4.2.2.2.2.1, hmw4.2.2.2.2.2⟩ (by omega) (by omega) (htw4.1.trans he1)) rfl rfl mX12_token_ok rfl rfl rfl (by decide) rfl rfl rfl ?_
    rintro _ w5 ⟨rfl, htw5, hmw5, hrdw5, hFw5⟩ _
    have hkbw5 := t_k_b T len i1
    refine g_aload_n rfl rfl ?_
    refine g_iconst rfl ⟨by decide, by decide⟩ ?_
    refine g_bipush rfl ⟨by decide, by decide⟩ (by decide) ?_
    refine g_cV (as := [tI 0, tI 99]) (s_take19 (R := (it + 1, m, ft, D)) hG hT (i := i1) (by omega) (by omega) ⟨rd_C_m mF_rf hmw5.1, hmw5.2.1, hmw5.2.2.1, hmw5.2.2.2.1, hmw5.2.2.2.2.1, hmw5.2.2.2.2.2⟩ ⟨htw5.1, htw5.2.1, htw5.2.2.1, htw5.2.2.2.1, htw5.2.2.2.2⟩ (fun z => by have := hppw4 z; omega)) rfl rfl mX12_take_ok rfl rfl rfl (by decide) rfl rfl rfl ?_
    rintro _ w6 ⟨⟨hkw6, rfl, h16w6⟩ | ⟨hkw6, rfl, fw6, pw6, heqw6, hmw6, htw6, hrdw6⟩, hFw6⟩ _
    · obtain ⟨w7, hw79⟩ : ∃ x, x = w6 := ⟨_, rfl⟩
      rw [← hw79] at hFw6 h16w6 ⊢
      have hFw7 := hFw6
      refine g_if_ne (tgt := 44) rfl (by decide) (fun hx => absurd hx (by omega)) (fun _ => ?_)
      refine g_iconst rfl ⟨by decide, by decide⟩ ?_
      refine x_zreturn rfl rfl (Or.inl rfl) ?_
      rw [l_P]
      exact ⟨(mF_tr (mF_tr (mF_tr (mF_tr (mF_tr mF_rf hFw4) mF_rf) hFw5) mF_rf) hFw7), Or.inl ⟨by first | rfl | omega, _, by rw [t_ln_w hwx (by decide), t_l0_1a (by decide) he1 (by omega)], h16w6⟩⟩
    · rw [he2] at htw6
      have hppw6 : fw6 ≠ 0 → pw6 ≤ t_s T len i1 := fun z => by
        have q1 := heqw6
        by_cases u : (t_v T len i1 < t_lo 19 ∨ t_hi 19 < t_v T len i1) ∧ fw4 = 0
        · rw [t_chk_a u] at q1
          have q2 : t_s T len i1 = pw6 := congrArg (fun x => x.2.1) q1
          omega
        · rw [t_chk_b u] at q1
          have q2 : pw4 = pw6 := congrArg (fun x => x.2.1) q1
          have q3 : fw4 = fw6 := congrArg (fun x => x.1) q1
          have := hppw4 (by omega)
          omega
      refine g_if_ne (tgt := 44) rfl (by decide) (fun _ => ?_) (fun hx => absurd hx (by omega))
      refine g_aload_n rfl rfl ?_
      refine g_bipush rfl ⟨by decide, by decide⟩ (by decide) ?_
      refine g_aload_n rfl rfl ?_
      refine x_geti (v := lo) rfl rfl (by decide) (Or.inl rfl) hmw6.2.2.2.2.1 ?_
      refine g_iconst rfl ⟨by decide, by decide⟩ ?_
      refine x_iadd (z := lo + 1) rfl (by omega) ⟨by omega, by omega⟩ ?_
      refine g_iS (as := [tI 12, tI (lo + 1)]) mX12_lesser_ok rfl rfl rfl rfl rfl rfl rfl ?_
      refine g_iload_n rfl rfl ?_
      refine g_iload_n rfl rfl ?_
      refine g_icmp_ge (tgt := 9) rfl (by decide) (fun hx => absurd hx (by omega)) (fun _ => ?_)
      refine g_iload_n rfl rfl ?_
      refine g_goto (tgt := 10) rfl (by decide) ?_
      refine x_ireturn rfl rfl ?_
      intro _
      refine g_puti rfl rfl (by decide) rfl rfl ?_
      refine g_aload_n rfl rfl ?_
      refine x_getF (r := 211) hG rfl rfl (by decide) (Or.inr ⟨_, rfl⟩) rfl ?_
      refine g_iconst rfl ⟨by decide, by decide⟩ ?_
      refine g_dup2 rfl ?_
      refine x_iald (v := (D 0)) rfl rfl (by decide) (by decide) (by decide) (by rw [tp_pi_ne (by omega)]; exact (hmw6.2.2.2.2.2 0 (by decide) (by decide))) ?_
      refine g_aload_n rfl rfl ?_
      refine x_getF (r := 211) hG rfl rfl (by decide) (Or.inr ⟨_, rfl⟩) rfl ?_
      refine g_iconst rfl ⟨by decide, by decide⟩ ?_
      refine g_aload_n rfl rfl ?_
      refine x_geti (v := (t_cl 19 (t_v T len i1))) rfl rfl (by decide) (Or.inl rfl) hrdw6 ?_
      refine x_iadd (z := (t_cl 19 (t_v T len i1)) + 1) rfl (by omega) ⟨by omega, by omega⟩ ?_
      refine x_iald (v := (w6.1 211 (t_cl 19 (t_v T len i1) + 1))) rfl rfl (by decide) (by omega) (by omega) (by rw [tp_pi_ne (by omega)]) ?_
      refine g_if_ne (tgt := 84) rfl (by decide) (fun h3 => ?_) (fun h3 => ?_)
      · refine g_iconst rfl ⟨by decide, by decide⟩ ?_
        refine x_iadd (z := (D 0)) rfl (by omega) ⟨by omega, by omega⟩ ?_
        refine g_iast rfl rfl (by decide) (by decide) (by decide) ?_
        refine g_aload_n rfl rfl ?_
        refine x_getF (r := 211) hG rfl rfl (by decide) (Or.inr ⟨_, rfl⟩) rfl ?_
        refine g_iconst rfl ⟨by decide, by decide⟩ ?_
        refine g_aload_n rfl rfl ?_
        refine x_geti (v := (t_cl 19 (t_v T len i1))) rfl rfl (by decide) (Or.inl rfl) hrdw6 ?_
        refine x_iadd (z := (t_cl 19 (t_v T len i1)) + 1) rfl (by omega) ⟨by omega, by omega⟩ ?_
        refine g_iconst rfl ⟨by decide, by decide⟩ ?_
        refine g_iast rfl rfl (by decide) (by omega) (by omega) ?_
        refine g_iconst rfl ⟨by decide, by decide⟩ ?_
        refine x_zreturn rfl rfl (Or.inr rfl) ?_
        rw [l_P]
        refine ⟨(mF_pt (mF_pt (mF_pi (by decide) (mF_tr (mF_tr (mF_tr (mF_tr (mF_tr mF_rf hFw4) mF_rf) hFw5) mF_rf) hFw6)))), Or.inr ⟨rfl, i2, t_tk 19 (t_v T len i1) 0 (fw6, pw6, it + 1, m, ft, D), ⟨by omega, by omega⟩, ⟨htw6.1, htw6.2.1, htw6.2.2.1, htw6.2.2.2.1, htw6.2.2.2.2⟩, ⟨12, fun _ => (by show 12 = min 12 (it + 1); have := hlo rfl; omega), rd_C_m (mF_pt (mF_pt (mF_pi (by decide) mF_rf))) hmw6.1, hmw6.2.1, hmw6.2.2.1, hmw6.2.2.2.1, rfl, by show ∀ j, 0 ≤ j → j < 129 → _ = t_D 19 (t_cl 19 (t_v T len i1)) 0 m D j; rw [t_D_l, if_neg (by rw [Int.add_comm]; have hq9 := hmw6.2.2.2.2.2 (t_cl 19 (t_v T len i1) + 1) (by omega) (by omega); omega), Int.add_comm 1 (t_cl 19 (t_v T len i1)), Int.add_zero]; exact (told_u (told_u (told_n hmw6.2.2.2.2.2)))⟩, fun z => ?_, fun z => ?_⟩⟩
        · rw [t_ln_w hwx (by decide), t_l0_1n rfl he1 he2 (by omega) z]
        · rw [t_ln_w hwx (by decide), t_l0_1y rfl he1 he2 (by omega) z, heqw4, heqw6]
      · refine g_iconst rfl ⟨by decide, by decide⟩ ?_
        refine g_goto (tgt := 85) rfl (by decide) ?_
        refine x_iadd (z := (D 0) + 1) rfl (by omega) ⟨by omega, by omega⟩ ?_
        refine g_iast rfl rfl (by decide) (by decide) (by decide) ?_
        refine g_aload_n rfl rfl ?_
        refine x_getF (r := 211) hG rfl rfl (by decide) (Or.inr ⟨_, rfl⟩) rfl ?_
        refine g_iconst rfl ⟨by decide, by decide⟩ ?_
        refine g_aload_n rfl rfl ?_
        refine x_geti (v := (t_cl 19 (t_v T len i1))) rfl rfl (by decide) (Or.inl rfl) hrdw6 ?_
        refine x_iadd (z := (t_cl 19 (t_v T len i1)) + 1) rfl (by omega) ⟨by omega, by omega⟩ ?_
        refine g_iconst rfl ⟨by decide, by decide⟩ ?_
        refine g_iast rfl rfl (by decide) (by omega) (by omega) ?_
        refine g_iconst rfl ⟨by decide, by decide⟩ ?_
        refine x_zreturn rfl rfl (Or.inr rfl) ?_
        rw [l_P]
        refine ⟨(mF_pt (mF_pt (mF_pi (by decide) (mF_tr (mF_tr (mF_tr (mF_tr (mF_tr mF_rf hFw4) mF_rf) hFw5) mF_rf) hFw6)))), Or.inr ⟨rfl, i2, t_tk 19 (t_v T len i1) 0 (fw6, pw6, it + 1, m, ft, D), ⟨by omega, by omega⟩, ⟨htw6.1, htw6.2.1, htw6.2.2.1, htw6.2.2.2.1, htw6.2.2.2.2⟩, ⟨12, fun _ => (by show 12 = min 12 (it + 1); have := hlo rfl; omega), rd_C_m (mF_pt (mF_pt (mF_pi (by decide) mF_rf))) hmw6.1, hmw6.2.1, hmw6.2.2.1, hmw6.2.2.2.1, rfl, by show ∀ j, 0 ≤ j → j < 129 → _ = t_D 19 (t_cl 19 (t_v T len i1)) 0 m D j; rw [t_D_l, if_pos (by rw [Int.add_comm]; have hq9 := hmw6.2.2.2.2.2 (t_cl 19 (t_v T len i1) + 1) (by omega) (by omega); omega), Int.add_comm 1 (t_cl 19 (t_v T len i1))]; exact (told_u (told_u (told_n hmw6.2.2.2.2.2)))⟩, fun z => ?_, fun z => ?_⟩⟩
        · rw [t_ln_w hwx (by decide), t_l0_1n rfl he1 he2 (by omega) z]
        · rw [t_ln_w hwx (by decide), t_l0_1y rfl he1 he2 (by omega) z, heqw4, heqw6]
set_option maxHeartbeats 4000000 in
set_option maxRecDepth 100000 in
theorem s_li20 {G : tp_G} {μ : tp_M} (hG : tp_Gf G = true) {T : Int → Int} {len i f p it m ft lo : Int} {D : Int → Int} (hT : ∀ j, 0 ≤ T j ∧ T j ≤ 255) (h0 : 0 ≤ i) (h1 : i ≤ len) (h : ms T len f p m ft lo D μ) (ht : rtk T len i μ) (hI : t_I 3 i (f, p, it, m, ft, D)) (hlo : (3 : Int) = 2 → lo = min 12 it) (hwx : t_wx 3 T len i = 20) : tp_k G mX12_logLine [tR (some 201), tL (7561591), tI (t_s T len i)] μ (fun r μ' => l_P 3 T len i (f, p, it, m, ft, D) μ r μ') := by
  refine tp_ok_of mX12_logLine_ok rfl (Nat.le_refl _) ?_
  obtain ⟨i1, he1⟩ : ∃ x, t_e T len i = x := ⟨_, rfl⟩
  obtain ⟨i2, he2⟩ : ∃ x, t_e T len i1 = x := ⟨_, rfl⟩
  obtain ⟨i3, he3⟩ : ∃ x, t_e T len i2 = x := ⟨_, rfl⟩
  have hkk : t_k T len i = 1 := by
    by_cases q : t_k T len i = 1
    · exact q
    · unfold t_wx at hwx; rw [if_neg q] at hwx; omega
  have hb0 := t_s_B (T := T) h1
  have hb1 := t_e_B (T := T) h1
  have hb2 := t_e_B (T := T) (len := len) (i := i1) (by omega)
  have hbs1 := t_s_B (T := T) (len := len) (i := i1) (by omega)
  have hb3 := t_e_B (T := T) (len := len) (i := i2) (by omega)
  have hbs2 := t_s_B (T := T) (len := len) (i := i2) (by omega)
  have hbs3 := t_s_B (T := T) (len := len) (i := i3) (by omega)
  have hpI : f ≠ 0 → 0 ≤ p ∧ p < i := hI.2.2.2.2.2.2.1
  have hitI : 0 ≤ it ∧ it ≤ i := hI.2.1
  have hlen := h.1.2.1
  have hftI : -1 ≤ ft ∧ ft ≤ 39 := hI.2.2.2.2.2.2.2.2.1
  have hD0 : D 0 = min 8 it := hI.2.2.1 (by decide)
  have hcl : 0 ≤ t_cl 20 (t_v T len i1) ∧ t_cl 20 (t_v T len i1) ≤ 39 := t_cl_b (by decide)
  have hv2b : t_k T len i2 = 2 → 0 ≤ t_v T len i2 ∧ t_v T len i2 ≤ 99 := fun z => t_v_b z
  refine g_lload_n rfl rfl ?_
  refine g_ldc2 (z := 7561591) rfl rfl ⟨by decide, by decide⟩ ?_
  refine x_lcmp (v := 0) rfl (by decide) ?_
  refine g_if_eq (tgt := 13) rfl (by decide) (fun _ => ?_) (fun hx => absurd hx (by omega))
  refine g_aload_n rfl rfl ?_
  refine x_getF (r := 211) hG rfl rfl (by decide) (Or.inr ⟨_, rfl⟩) rfl ?_
  refine g_iconst rfl ⟨by decide, by decide⟩ ?_
  refine x_iald (v := (D 0)) rfl rfl (by decide) (by decide) (by decide) (h.2.2.2.2.2 0 (by decide) (by decide)) ?_
  refine g_istore rfl rfl rfl ?_
  refine g_iload rfl rfl ?_
  refine g_bipush rfl ⟨by decide, by decide⟩ (by decide) ?_
  refine g_icmp_ne (tgt := 34) rfl (by decide) (fun h1 => ?_) (fun h1 => ?_)
  · refine g_aload_n rfl rfl ?_
    refine g_cV (as := []) (s_tok9 hG hT (i := i1) ⟨rd_C_m mF_rf h.1, h.2.1, h.2.2.1, h.2.2.2.1, h.2.2.2.2.1, h.2.2.2.2.2⟩ (by omega) (by omega) (ht.1.trans he1)) rfl rfl mX12_token_ok rfl rfl rfl (by decide) rfl rfl rfl ?_
    rintro _ w1 ⟨rfl, htw1, hmw1, hrdw1, hFw1⟩ _
    have heqw1 : t_cnt 3 20 (t_s T len i) (f, p, it, m, ft, D) = (f, p, it + 1, m, ft, D) := t_cnt_b (by decide) (by show ¬ (f = 0 ∧ (8 : Int) ≤ it); omega)
    have hppw1 : f ≠ 0 → p ≤ t_s T len i := fun z => by omega
    have hkbw1 := t_k_b T len i1
    refine g_aload_n rfl rfl ?_
    refine g_iconst rfl ⟨by decide, by decide⟩ ?_
    refine g_bipush rfl ⟨by decide, by decide⟩ (by decide) ?_
    refine g_cV (as := [tI 0, tI 39]) (s_take20 (R := (it + 1, m, ft, D)) hG hT (i := i1) (by omega) (by omega) ⟨rd_C_m mF_rf hmw1.1, hmw1.2.1, hmw1.2.2.1, hmw1.2.2.2.1, hmw1.2.2.2.2.1, hmw1.2.2.2.2.2⟩ ⟨htw1.1, htw1.2.1, htw1.2.2.1, htw1.2.2.2.1, htw1.2.2.2.2⟩ (fun z => by have := hppw1 z; omega)) rfl rfl mX12_take_ok rfl rfl rfl (by decide) rfl rfl rfl ?_
    rintro _ w2 ⟨⟨hkw2, rfl, h16w2⟩ | ⟨hkw2, rfl, fw2, pw2, heqw2, hmw2, htw2, hrdw2⟩, hFw2⟩ _
    · obtain ⟨w3, hw39⟩ : ∃ x, x = w2 := ⟨_, rfl⟩
      rw [← hw39] at hFw2 h16w2 ⊢
      have hFw3 := hFw2
      refine g_if_ne (tgt := 50) rfl (by decide) (fun hx => absurd hx (by omega)) (fun _ => ?_)
      refine g_iconst rfl ⟨by decide, by decide⟩ ?_
      refine x_zreturn rfl rfl (Or.inl rfl) ?_
      rw [l_P]
      exact ⟨(mF_tr (mF_tr (mF_tr (mF_tr mF_rf mF_rf) hFw1) mF_rf) hFw3), Or.inl ⟨by first | rfl | omega, _, by rw [t_ln_w hwx (by decide), t_l0_1a (by decide) he1 (by omega)], h16w2⟩⟩
    · rw [he2] at htw2
      have hppw2 : fw2 ≠ 0 → pw2 ≤ t_s T len i1 := fun z => by
        have q1 := heqw2
        by_cases u : (t_v T len i1 < t_lo 20 ∨ t_hi 20 < t_v T len i1) ∧ f = 0
        · rw [t_chk_a u] at q1
          have q2 : t_s T len i1 = pw2 := congrArg (fun x => x.2.1) q1
          omega
        · rw [t_chk_b u] at q1
          have q2 : p = pw2 := congrArg (fun x => x.2.1) q1
          have q3 : f = fw2 := congrArg (fun x => x.1) q1
          have := hppw1 (by omega)
          omega
      refine g_if_ne (tgt := 50) rfl (by decide) (fun _ => ?_) (fun hx => absurd hx (by omega))
      refine g_aload_n rfl rfl ?_
      refine x_geti (v := (t_cl 20 (t_v T len i1))) rfl rfl (by decide) (Or.inl rfl) hrdw2 ?_
      refine g_istore rfl rfl rfl ?_
      refine g_aload_n rfl rfl ?_
      refine g_iconst rfl ⟨by decide, by decide⟩ ?_
      refine g_bipush rfl ⟨by decide, by decide⟩ (by decide) ?_
      refine g_cV (as := [tI 0, tI 99]) (s_take19 (R := (it + 1, m, ft, D)) hG hT (i := i2) (by omega) (by omega) ⟨rd_C_m mF_rf hmw2.1, hmw2.2.1, hmw2.2.2.1, hmw2.2.2.2.1, hmw2.2.2.2.2.1, hmw2.2.2.2.2.2⟩ ⟨htw2.1, htw2.2.1, htw2.2.2.1, htw2.2.2.2.1, htw2.2.2.2.2⟩ (fun z => by have := hppw2 z; omega)) rfl rfl mX12_take_ok rfl rfl rfl (by decide) rfl rfl rfl ?_
      rintro _ w4 ⟨⟨hkw4, rfl, h16w4⟩ | ⟨hkw4, rfl, fw4, pw4, heqw4, hmw4, htw4, hrdw4⟩, hFw4⟩ _
      · obtain ⟨w5, hw59⟩ : ∃ x, x = w4 := ⟨_, rfl⟩
        rw [← hw59] at hFw4 h16w4 ⊢
        have hFw5 := hFw4
        refine g_if_ne (tgt := 68) rfl (by decide) (fun hx => absurd hx (by omega)) (fun _ => ?_)
        refine g_iconst rfl ⟨by decide, by decide⟩ ?_
        refine x_zreturn rfl rfl (Or.inl rfl) ?_
        rw [l_P]
        exact ⟨(mF_tr (mF_tr (mF_tr (mF_tr (mF_tr (mF_tr mF_rf mF_rf) hFw1) mF_rf) hFw2) mF_rf) hFw5), Or.inl ⟨by first | rfl | omega, _, by rw [t_ln_w hwx (by decide), t_l0_2a rfl he1 he2 (by omega) (by omega)], h16w4⟩⟩
      · rw [he3] at htw4
        have hqvw4 := hv2b hkw4
        rw [t_chk_b (by show ¬ ((_ < (0 : Int) ∨ (99 : Int) < _) ∧ _); omega)] at heqw4
        rw [← show fw2 = fw4 from congrArg (fun x => x.1) heqw4, ← show pw2 = pw4 from congrArg (fun x => x.2.1) heqw4] at hmw4
        refine g_if_ne (tgt := 68) rfl (by decide) (fun _ => ?_) (fun hx => absurd hx (by omega))
        refine g_iload rfl rfl ?_
        refine g_bipush rfl ⟨by decide, by decide⟩ (by decide) ?_
        refine g_icmp_ge (tgt := 113) rfl (by decide) (fun hx => absurd hx (by omega)) (fun _ => ?_)
        refine g_aload_n rfl rfl ?_
        refine x_getF (r := 211) hG rfl rfl (by decide) (Or.inr ⟨_, rfl⟩) rfl ?_
        refine g_iconst rfl ⟨by decide, by decide⟩ ?_
        refine g_iconst rfl ⟨by decide, by decide⟩ ?_
        refine g_iload rfl rfl ?_
        refine x_imul (z := 2 * (D 0)) rfl (by omega) ⟨by omega, by omega⟩ ?_
        refine x_iadd (z := 2 * (D 0) + 1) rfl (by omega) ⟨by omega, by omega⟩ ?_
        refine g_iload rfl rfl ?_
        refine g_iast rfl rfl (by decide) (by omega) (by omega) ?_
        refine g_aload_n rfl rfl ?_
        refine x_getF (r := 211) hG rfl rfl (by decide) (Or.inr ⟨_, rfl⟩) rfl ?_
        refine g_iconst rfl ⟨by decide, by decide⟩ ?_
        refine g_iconst rfl ⟨by decide, by decide⟩ ?_
        refine g_iload rfl rfl ?_
        refine x_imul (z := 2 * (D 0)) rfl (by omega) ⟨by omega, by omega⟩ ?_
        refine x_iadd (z := 2 * (D 0) + 2) rfl (by omega) ⟨by omega, by omega⟩ ?_
        refine g_aload_n rfl rfl ?_
        refine x_geti (v := (t_cl 19 (t_v T len i2))) rfl rfl (by decide) (Or.inl rfl) hrdw4 ?_
        refine g_iast rfl rfl (by decide) (by omega) (by omega) ?_
        refine g_aload_n rfl rfl ?_
        refine x_getF (r := 211) hG rfl rfl (by decide) (Or.inr ⟨_, rfl⟩) rfl ?_
        refine g_iconst rfl ⟨by decide, by decide⟩ ?_
        refine g_dup2 rfl ?_
        refine x_iald (v := (D 0)) rfl rfl (by decide) (by decide) (by decide) (by rw [tp_pi_ix (by omega), tp_pi_ix (by omega)]; exact (hmw4.2.2.2.2.2 0 (by decide) (by decide))) ?_
        refine g_iconst rfl ⟨by decide, by decide⟩ ?_
        refine x_iadd (z := (D 0) + 1) rfl (by omega) ⟨by omega, by omega⟩ ?_
        refine g_iast rfl rfl (by decide) (by decide) (by decide) ?_
        refine g_iconst rfl ⟨by decide, by decide⟩ ?_
        refine x_zreturn rfl rfl (Or.inr rfl) ?_
        rw [l_P]
        refine ⟨(mF_pt (mF_pt (mF_pt (mF_tr (mF_tr (mF_tr (mF_tr (mF_tr (mF_tr mF_rf mF_rf) hFw1) mF_rf) hFw2) mF_rf) hFw4)))), Or.inr ⟨rfl, i3, t_tk 20 (t_v T len i1) (t_v T len i2) (fw2, pw2, it + 1, m, ft, D), ⟨by omega, by omega⟩, ⟨htw4.1, htw4.2.1, htw4.2.2.1, htw4.2.2.2.1, htw4.2.2.2.2⟩, ⟨lo, fun z => absurd z (by decide), rd_C_m (mF_pt (mF_pt (mF_pt mF_rf))) hmw4.1, hmw4.2.1, hmw4.2.2.1, hmw4.2.2.2.1, hmw4.2.2.2.2.1, by show ∀ j, 0 ≤ j → j < 129 → _ = t_D 20 (t_rw 20 (t_v T len i1)) (t_v T len i2) m D j; rw [t_D_s (by omega), Int.add_comm 1 (2 * D 0), Int.add_comm 2 (2 * D 0), show t_cl 19 (t_v T len i2) = (t_v T len i2) from t_cl_i (by show (0 : Int) ≤ _ ∧ _ ≤ (99 : Int); omega)]; exact (told_u (told_u (told_u hmw4.2.2.2.2.2)))⟩, fun z => ?_, fun z => ?_⟩⟩
        · rw [t_ln_w hwx (by decide), t_l0_2n rfl he1 he2 he3 (by omega) (by omega) z]
        · rw [t_ln_w hwx (by decide), t_l0_2y rfl he1 he2 he3 (by omega) (by omega) z, heqw1, heqw2]
  · refine g_aload_n rfl rfl ?_
    refine g_iconst rfl ⟨by decide, by decide⟩ ?_
    refine g_iload_n rfl rfl ?_
    refine g_cV (as := [tI 3, tI (t_s T len i)]) (s_aF9 hG h ht (by omega)) rfl rfl mX12_addsFault_ok rfl rfl rfl (by decide) rfl rfl rfl ?_
    rintro _ w6 ⟨rfl, fw6, pw6, hzaw6, hzbw6, hmw6, htw6, hrdw6, hFw6⟩ _
    have heqw6 : t_cnt 3 20 (t_s T len i) (f, p, it, m, ft, D) = (fw6, pw6, it + 1, m, ft, D) := by
      by_cases u : f = 0
      · rw [t_cnt_a (by decide) ⟨u, by show (8 : Int) ≤ it; omega⟩, (hzaw6 u).1, (hzaw6 u).2]
      · rw [t_cnt_b (by decide) (fun z => u z.1), (hzbw6 u).1, (hzbw6 u).2]
    have hppw6 : fw6 ≠ 0 → pw6 ≤ t_s T len i := fun z => by
      by_cases u : f = 0
      · rw [(hzaw6 u).2]; omega
      · rw [(hzbw6 u).2]; omega
    refine g_aload_n rfl rfl ?_
    refine g_cV (as := []) (s_tok9 hG hT (i := i1) ⟨rd_C_m mF_rf hmw6.1, hmw6.2.1, hmw6.2.2.1, hmw6.2.2.2.1, hmw6.2.2.2.2.1, hmw6.2.2.2.2.2⟩ (by omega) (by omega) (htw6.1.trans he1)) rfl rfl mX12_token_ok rfl rfl rfl (by decide) rfl rfl rfl ?_
    rintro _ w7 ⟨rfl, htw7, hmw7, hrdw7, hFw7⟩ _
    have hkbw7 := t_k_b T len i1
    refine g_aload_n rfl rfl ?_
    refine g_iconst rfl ⟨by decide, by decide⟩ ?_
    refine g_bipush rfl ⟨by decide, by decide⟩ (by decide) ?_
    refine g_cV (as := [tI 0, tI 39]) (s_take20 (R := (it + 1, m, ft, D)) hG hT (i := i1) (by omega) (by omega) ⟨rd_C_m mF_rf hmw7.1, hmw7.2.1, hmw7.2.2.1, hmw7.2.2.2.1, hmw7.2.2.2.2.1, hmw7.2.2.2.2.2⟩ ⟨htw7.1, htw7.2.1, htw7.2.2.1, htw7.2.2.2.1, htw7.2.2.2.2⟩ (fun z => by have := hppw6 z; omega)) rfl rfl mX12_take_ok rfl rfl rfl (by decide) rfl rfl rfl ?_
    rintro _ w8 ⟨⟨hkw8, rfl, h16w8⟩ | ⟨hkw8, rfl, fw8, pw8, heqw8, hmw8, htw8, hrdw8⟩, hFw8⟩ _
    · obtain ⟨w9, hw99⟩ : ∃ x, x = w8 := ⟨_, rfl⟩
      rw [← hw99] at hFw8 h16w8 ⊢
      have hFw9 := hFw8
      refine g_if_ne (tgt := 50) rfl (by decide) (fun hx => absurd hx (by omega)) (fun _ => ?_)
      refine g_iconst rfl ⟨by decide, by decide⟩ ?_
      refine x_zreturn rfl rfl (Or.inl rfl) ?_
      rw [l_P]
      exact ⟨(mF_tr (mF_tr (mF_tr (mF_tr (mF_tr mF_rf hFw6) mF_rf) hFw7) mF_rf) hFw9), Or.inl ⟨by first | rfl | omega, _, by rw [t_ln_w hwx (by decide), t_l0_1a (by decide) he1 (by omega)], h16w8⟩⟩
    · rw [he2] at htw8
      have hppw8 : fw8 ≠ 0 → pw8 ≤ t_s T len i1 := fun z => by
        have q1 := heqw8
        by_cases u : (t_v T len i1 < t_lo 20 ∨ t_hi 20 < t_v T len i1) ∧ fw6 = 0
        · rw [t_chk_a u] at q1
          have q2 : t_s T len i1 = pw8 := congrArg (fun x => x.2.1) q1
          omega
        · rw [t_chk_b u] at q1
          have q2 : pw6 = pw8 := congrArg (fun x => x.2.1) q1
          have q3 : fw6 = fw8 := congrArg (fun x => x.1) q1
          have := hppw6 (by omega)
          omega
      refine g_if_ne (tgt := 50) rfl (by decide) (fun _ => ?_) (fun hx => absurd hx (by omega))
      refine g_aload_n rfl rfl ?_
      refine x_geti (v := (t_cl 20 (t_v T len i1))) rfl rfl (by decide) (Or.inl rfl) hrdw8 ?_
      refine g_istore rfl rfl rfl ?_
      refine g_aload_n rfl rfl ?_
      refine g_iconst rfl ⟨by decide, by decide⟩ ?_
      refine g_bipush rfl ⟨by decide, by decide⟩ (by decide) ?_
      refine g_cV (as := [tI 0, tI 99]) (s_take19 (R := (it + 1, m, ft, D)) hG hT (i := i2) (by omega) (by omega) ⟨rd_C_m mF_rf hmw8.1, hmw8.2.1, hmw8.2.2.1, hmw8.2.2.2.1, hmw8.2.2.2.2.1, hmw8.2.2.2.2.2⟩ ⟨htw8.1, htw8.2.1, htw8.2.2.1, htw8.2.2.2.1, htw8.2.2.2.2⟩ (fun z => by have := hppw8 z; omega)) rfl rfl mX12_take_ok rfl rfl rfl (by decide) rfl rfl rfl ?_
      rintro _ w10 ⟨⟨hkw10, rfl, h16w10⟩ | ⟨hkw10, rfl, fw10, pw10, heqw10, hmw10, htw10, hrdw10⟩, hFw10⟩ _
      · obtain ⟨w11, hw119⟩ : ∃ x, x = w10 := ⟨_, rfl⟩
        rw [← hw119] at hFw10 h16w10 ⊢
        have hFw11 := hFw10
        refine g_if_ne (tgt := 68) rfl (by decide) (fun hx => absurd hx (by omega)) (fun _ => ?_)
        refine g_iconst rfl ⟨by decide, by decide⟩ ?_
        refine x_zreturn rfl rfl (Or.inl rfl) ?_
        rw [l_P]
        exact ⟨(mF_tr (mF_tr (mF_tr (mF_tr (mF_tr (mF_tr (mF_tr mF_rf hFw6) mF_rf) hFw7) mF_rf) hFw8) mF_rf) hFw11), Or.inl ⟨by first | rfl | omega, _, by rw [t_ln_w hwx (by decide), t_l0_2a rfl he1 he2 (by omega) (by omega)], h16w10⟩⟩
      · rw [he3] at htw10
        have hqvw10 := hv2b hkw10
        rw [t_chk_b (by show ¬ ((_ < (0 : Int) ∨ (99 : Int) < _) ∧ _); omega)] at heqw10
        rw [← show fw8 = fw10 from congrArg (fun x => x.1) heqw10, ← show pw8 = pw10 from congrArg (fun x => x.2.1) heqw10] at hmw10
        refine g_if_ne (tgt := 68) rfl (by decide) (fun _ => ?_) (fun hx => absurd hx (by omega))
        refine g_iload rfl rfl ?_
        refine g_bipush rfl ⟨by decide, by decide⟩ (by decide) ?_
        refine g_icmp_ge (tgt := 113) rfl (by decide) (fun _ => ?_) (fun hx => absurd hx (by omega))
        refine g_iconst rfl ⟨by decide, by decide⟩ ?_
        refine x_zreturn rfl rfl (Or.inr rfl) ?_
        rw [l_P]
        refine ⟨(mF_tr (mF_tr (mF_tr (mF_tr (mF_tr (mF_tr (mF_tr mF_rf hFw6) mF_rf) hFw7) mF_rf) hFw8) mF_rf) hFw10), Or.inr ⟨rfl, i3, t_tk 20 (t_v T len i1) (t_v T len i2) (fw8, pw8, it + 1, m, ft, D), ⟨by omega, by omega⟩, ⟨htw10.1, htw10.2.1, htw10.2.2.1, htw10.2.2.2.1, htw10.2.2.2.2⟩, ⟨lo, fun z => absurd z (by decide), rd_C_m mF_rf hmw10.1, hmw10.2.1, hmw10.2.2.1, hmw10.2.2.2.1, hmw10.2.2.2.2.1, by show ∀ j, 0 ≤ j → j < 129 → _ = t_D 20 (t_rw 20 (t_v T len i1)) (t_v T len i2) m D j; rw [show t_D 20 (t_rw 20 (t_v T len i1)) (t_v T len i2) m D = D by show (if D 0 < 8 then _ else D) = D; rw [if_neg (by omega)]]; exact hmw10.2.2.2.2.2⟩, fun z => ?_, fun z => ?_⟩⟩
        · rw [t_ln_w hwx (by decide), t_l0_2n rfl he1 he2 he3 (by omega) (by omega) z]
        · rw [t_ln_w hwx (by decide), t_l0_2y rfl he1 he2 he3 (by omega) (by omega) z, heqw6, heqw8]
