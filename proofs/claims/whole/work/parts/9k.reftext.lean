theorem t_k_0 {T : Int → Int} {len i : Int} (h1 : i ≤ len) (h : t_k T len i = 0) : t_s T len i = len := by
  have b := t_s_B (T := T) h1
  unfold t_k at h
  generalize t_s T len i = s at *
  rcases (show len ≤ s ∨ s < len by omega) with q | q
  · omega
  · exfalso
    by_cases ql : 97 ≤ T s ∧ T s ≤ 122
    · rw [(t_ks_1 q ql).1] at h; omega
    · by_cases qd : 48 ≤ T s ∧ T s ≤ 57
      · rw [(t_ks_2 q qd).1] at h; split at h <;> omega
      · rw [(t_ks_3 q ql qd).1] at h; split at h <;> omega
theorem t_wd_0 {T : Int → Int} {len i : Int} (q : t_k T len i ≠ 1) : (0 : Int) = t_wd T len i := by
  unfold t_wd t_wds; rw [if_neg (fun z => q z.1)]
section
variable {so : Int} {T : Int → Int} {len k i x e : Int} {st st1 : t_S}
theorem t_go_e (h : k ≤ len) (hk : t_k T len i = 0) : t_go so T len (len + 1 - k).toNat i st = ((1, t_s T len i), st) := by rw [t_go_s h, if_pos hk]
theorem t_go_0 (h : k ≤ len) (hk : t_k T len i ≠ 0) (hl : t_ln so T len i st = ((0, x), st)) : t_go so T len (len + 1 - k).toNat i st = ((0, x), st) := by
  rw [t_go_s h, if_neg hk, hl]; exact if_pos rfl
theorem t_go_1 (h : k ≤ len) (hk : t_k T len i ≠ 0) (hl : t_ln so T len i st = ((1, e), st1)) : t_go so T len (len + 1 - k).toNat i st = t_go so T len (len + 1 - (k + 1)).toNat e st1 := by
  rw [t_go_s h, if_neg hk, hl]; exact if_neg (show ¬ ((1 : Int) = 0) by decide)
theorem t_flt_0 (h : (t_all so T len).1.1 = 0) : t_flt so T len = (1, (t_all so T len).1.2) := by unfold t_flt; rw [if_pos h]
theorem t_flt_f (h : (t_all so T len).1.1 = 1) (hf : (t_all so T len).2.1 ≠ 0) : t_flt so T len = ((t_all so T len).2.1, (t_all so T len).2.2.1) := by unfold t_flt; rw [if_neg (by omega), if_pos hf]
theorem t_flt_4 (h : (t_all 0 T len).1.1 = 1) (hf : (t_all 0 T len).2.1 = 0) (h4 : (t_all 0 T len).2.2.2.2.2.2 0 ≤ (t_all 0 T len).2.2.2.2.2.1) : t_flt 0 T len = (4, len) := by unfold t_flt; rw [if_neg (by omega), if_neg (by omega), if_pos ⟨rfl, h4⟩]
theorem t_flt_y (h : (t_all so T len).1.1 = 1) (hf : (t_all so T len).2.1 = 0) (h4 : so = 0 → ¬ (t_all so T len).2.2.2.2.2.2 0 ≤ (t_all so T len).2.2.2.2.2.1) : t_flt so T len = (0, -1) := by unfold t_flt; rw [if_neg (by omega), if_neg (by omega), if_neg (fun z => h4 z.1 z.2)]
end
theorem t_d0_u : v_u (v_u (v_u (v_u (v_u (v_u (v_u (fun _ => 0) 1 6) 2 2) 3 20) 5 39) 6 2) 7 9) 8 1 = t_d0 0 := by
  funext j
  by_cases q : j = 1 ∨ j = 2 ∨ j = 3 ∨ j = 5 ∨ j = 6 ∨ j = 7 ∨ j = 8
  · rcases q with u | u | u | u | u | u | u <;> subst u <;> decide
  · rw [v_u_ne (by omega), v_u_ne (by omega), v_u_ne (by omega), v_u_ne (by omega), v_u_ne (by omega), v_u_ne (by omega), v_u_ne (by omega)]
    unfold t_d0
    rw [if_pos rfl, if_neg (by omega), if_neg (by omega), if_neg (by omega), if_neg (by omega), if_neg (by omega), if_neg (by omega), if_neg (by omega)]
theorem t_d0_n {so : Int} (h : so ≠ 0) : (fun _ => 0) = t_d0 so := by
  funext j; unfold t_d0; rw [if_neg h]
/-- how the reading of all lines ends -/
def a_P (so : Int) (T : Int → Int) (len : Int) (R : (Int × Int) × t_S) (μ0 : tp_M) (r : Option tp_V) (μ : tp_M) : Prop := mF μ0 μ ∧ ((R.1.1 = 0 ∧ r = some (tI 0) ∧ μ.1 201 16 = R.1.2) ∨ (R.1.1 = 1 ∧ r = some (tI 1) ∧ m_Rel so R.2 T len μ ∧ μ.1 201 12 = len))
def m_H (μ0 μ : tp_M) : Prop := (∀ c, c ≠ 201 → c ≠ 211 → c ≠ 204 → c ≠ 205 → μ.1 c = μ0.1 c) ∧ (∀ j, (j < 10 ∨ j = 11 ∨ 23 < j) → μ.1 201 j = μ0.1 201 j) ∧ (∀ j, j ≠ 0 → μ.1 204 j = μ0.1 204 j ∧ μ.1 205 j = μ0.1 205 j) ∧ μ.2 = μ0.2
theorem m_H_m {μ μ1 : tp_M} {v x : Int} (h : mF μ μ1) : m_H μ (tp_pi (tp_pi μ1 204 0 v) 205 0 x) := by
  refine ⟨fun c c1 c2 c3 c4 => ?_, fun j z => ?_, fun j z => ⟨?_, ?_⟩, h.2.2⟩
  · rw [tp_pi_ne c4, tp_pi_ne c3]; exact h.1 c c1 c2
  · rw [tp_pi_ne (by omega), tp_pi_ne (by omega)]; exact h.2.1 j z
  · rw [tp_pi_ne (by omega), tp_pi_ix z, h.1 204 (by omega) (by omega)]
  · rw [tp_pi_ix z, tp_pi_ne (by omega), h.1 205 (by omega) (by omega)]
set_option maxHeartbeats 4000000 in
set_option maxRecDepth 100000 in
theorem s_lin0 {G : tp_G} {μ : tp_M} (hG : tp_Gf G = true) {T : Int → Int} {len i f p it m ft lo : Int} {D : Int → Int} (hT : ∀ j, 0 ≤ T j ∧ T j ≤ 255) (h0 : 0 ≤ i) (h1 : i ≤ len) (h : ms T len f p m ft lo D μ) (ht : rtk T len i μ) (hI : t_I 0 i (f, p, it, m, ft, D)) (hlo : (0 : Int) = 2 → lo = min 12 it) {V : Int} (hV : ∀ j, 0 ≤ j → j < 16 → V ≠ t_wc j) (hwx : t_wx 0 T len i = -1) : tp_k G mX12_codeLine [tR (some 201), tL (V), tI (t_s T len i)] μ (fun r μ' => l_P 0 T len i (f, p, it, m, ft, D) μ r μ') := by
  refine tp_ok_of mX12_codeLine_ok rfl (Nat.le_refl _) ?_
  have hn0 : tp_lcmp (V) (482854660462) ≠ 0 := fun z => hV 0 (by decide) (by decide) ((q_lc_eq.1 z).trans (by decide))
  have hn1 : tp_lcmp (V) (26982) ≠ 0 := fun z => hV 1 (by decide) (by decide) ((q_lc_eq.1 z).trans (by decide))
  have hn2 : tp_lcmp (V) (1786080624) ≠ 0 := fun z => hV 2 (by decide) (by decide) ((q_lc_eq.1 z).trans (by decide))
  have hn3 : tp_lcmp (V) (1667329132) ≠ 0 := fun z => hV 3 (by decide) (by decide) ((q_lc_eq.1 z).trans (by decide))
  have hn4 : tp_lcmp (V) (7497076) ≠ 0 := fun z => hV 4 (by decide) (by decide) ((q_lc_eq.1 z).trans (by decide))
  have hn5 : tp_lcmp (V) (7760225) ≠ 0 := fun z => hV 5 (by decide) (by decide) ((q_lc_eq.1 z).trans (by decide))
  have hn6 : tp_lcmp (V) (1937010544) ≠ 0 := fun z => hV 6 (by decide) (by decide) ((q_lc_eq.1 z).trans (by decide))
  have hn7 : tp_lcmp (V) (1836016741) ≠ 0 := fun z => hV 7 (by decide) (by decide) ((q_lc_eq.1 z).trans (by decide))
  have hn8 : tp_lcmp (V) (1651078259) ≠ 0 := fun z => hV 8 (by decide) (by decide) ((q_lc_eq.1 z).trans (by decide))
  have hn9 : tp_lcmp (V) (1684366704) ≠ 0 := fun z => hV 9 (by decide) (by decide) ((q_lc_eq.1 z).trans (by decide))
  have hn10 : tp_lcmp (V) (1937337955) ≠ 0 := fun z => hV 10 (by decide) (by decide) ((q_lc_eq.1 z).trans (by decide))
  have hn11 : tp_lcmp (V) (1718775661) ≠ 0 := fun z => hV 11 (by decide) (by decide) ((q_lc_eq.1 z).trans (by decide))
  have hn12 : tp_lcmp (V) (29807) ≠ 0 := fun z => hV 12 (by decide) (by decide) ((q_lc_eq.1 z).trans (by decide))
  have hn13 : tp_lcmp (V) (1869507705) ≠ 0 := fun z => hV 13 (by decide) (by decide) ((q_lc_eq.1 z).trans (by decide))
  have hn14 : tp_lcmp (V) (1919905645) ≠ 0 := fun z => hV 14 (by decide) (by decide) ((q_lc_eq.1 z).trans (by decide))
  have hn15 : tp_lcmp (V) (1918989413) ≠ 0 := fun z => hV 15 (by decide) (by decide) ((q_lc_eq.1 z).trans (by decide))
  refine g_aload_n rfl rfl ?_
  refine g_lload_n rfl rfl ?_
  refine g_iV (as := [tL (V)]) mX12_kindBy_ok rfl rfl rfl rfl rfl rfl (by decide) rfl rfl rfl ?_
  refine g_lload_n rfl rfl ?_
  refine g_ldc2 (z := 482854660462) rfl rfl ⟨by decide, by decide⟩ ?_
  refine g_lcmp rfl ?_
  refine g_if_ne (tgt := 12) rfl (by decide) (fun _ => ?_) (fun hx => absurd hx (by omega))
  refine g_lload_n rfl rfl ?_
  refine g_ldc2 (z := 26982) rfl rfl ⟨by decide, by decide⟩ ?_
  refine g_lcmp rfl ?_
  refine g_if_ne (tgt := 24) rfl (by decide) (fun _ => ?_) (fun hx => absurd hx (by omega))
  refine g_lload_n rfl rfl ?_
  refine g_ldc2 (z := 1786080624) rfl rfl ⟨by decide, by decide⟩ ?_
  refine g_lcmp rfl ?_
  refine g_if_ne (tgt := 36) rfl (by decide) (fun _ => ?_) (fun hx => absurd hx (by omega))
  refine g_lload_n rfl rfl ?_
  refine g_ldc2 (z := 1667329132) rfl rfl ⟨by decide, by decide⟩ ?_
  refine g_lcmp rfl ?_
  refine g_if_ne (tgt := 48) rfl (by decide) (fun _ => ?_) (fun hx => absurd hx (by omega))
  refine g_lload_n rfl rfl ?_
  refine g_ldc2 (z := 7497076) rfl rfl ⟨by decide, by decide⟩ ?_
  refine g_lcmp rfl ?_
  refine g_if_ne (tgt := 60) rfl (by decide) (fun _ => ?_) (fun hx => absurd hx (by omega))
  refine g_lload_n rfl rfl ?_
  refine g_ldc2 (z := 7760225) rfl rfl ⟨by decide, by decide⟩ ?_
  refine g_lcmp rfl ?_
  refine g_if_ne (tgt := 72) rfl (by decide) (fun _ => ?_) (fun hx => absurd hx (by omega))
  refine g_lload_n rfl rfl ?_
  refine g_ldc2 (z := 1937010544) rfl rfl ⟨by decide, by decide⟩ ?_
  refine g_lcmp rfl ?_
  refine g_if_ne (tgt := 85) rfl (by decide) (fun _ => ?_) (fun hx => absurd hx (by omega))
  refine g_iconst rfl ⟨by decide, by decide⟩ ?_
  refine x_ireturn rfl rfl ?_
  intro _
  refine g_istore rfl rfl rfl ?_
  refine g_lload_n rfl rfl ?_
  refine g_iS (as := [tL (V)]) mX12_partBy_ok rfl rfl rfl rfl rfl rfl rfl ?_
  refine g_lload_n rfl rfl ?_
  refine g_ldc2 (z := 1651078259) rfl rfl ⟨by decide, by decide⟩ ?_
  refine g_lcmp rfl ?_
  refine g_if_ne (tgt := 12) rfl (by decide) (fun _ => ?_) (fun hx => absurd hx (by omega))
  refine g_lload_n rfl rfl ?_
  refine g_ldc2 (z := 1684366704) rfl rfl ⟨by decide, by decide⟩ ?_
  refine g_lcmp rfl ?_
  refine g_if_ne (tgt := 24) rfl (by decide) (fun _ => ?_) (fun hx => absurd hx (by omega))
  refine g_lload_n rfl rfl ?_
  refine g_ldc2 (z := 1937337955) rfl rfl ⟨by decide, by decide⟩ ?_
  refine g_lcmp rfl ?_
  refine g_if_ne (tgt := 36) rfl (by decide) (fun _ => ?_) (fun hx => absurd hx (by omega))
  refine g_lload_n rfl rfl ?_
  refine g_ldc2 (z := 1718775661) rfl rfl ⟨by decide, by decide⟩ ?_
  refine g_lcmp rfl ?_
  refine g_if_ne (tgt := 48) rfl (by decide) (fun _ => ?_) (fun hx => absurd hx (by omega))
  refine g_lload_n rfl rfl ?_
  refine g_ldc2 (z := 29807) rfl rfl ⟨by decide, by decide⟩ ?_
  refine g_lcmp rfl ?_
  refine g_if_ne (tgt := 60) rfl (by decide) (fun _ => ?_) (fun hx => absurd hx (by omega))
  refine g_lload_n rfl rfl ?_
  refine g_ldc2 (z := 1869507705) rfl rfl ⟨by decide, by decide⟩ ?_
  refine g_lcmp rfl ?_
  refine g_if_ne (tgt := 73) rfl (by decide) (fun _ => ?_) (fun hx => absurd hx (by omega))
  refine g_lload_n rfl rfl ?_
  refine g_ldc2 (z := 1919905645) rfl rfl ⟨by decide, by decide⟩ ?_
  refine g_lcmp rfl ?_
  refine g_if_ne (tgt := 86) rfl (by decide) (fun _ => ?_) (fun hx => absurd hx (by omega))
  refine g_lload_n rfl rfl ?_
  refine g_ldc2 (z := 1918989413) rfl rfl ⟨by decide, by decide⟩ ?_
  refine g_lcmp rfl ?_
  refine g_if_ne (tgt := 99) rfl (by decide) (fun _ => ?_) (fun hx => absurd hx (by omega))
  refine g_iconst rfl ⟨by decide, by decide⟩ ?_
  refine x_ireturn rfl rfl ?_
  intro _
  refine g_istore rfl rfl rfl ?_
  refine g_iload rfl rfl ?_
  refine g_iconst rfl ⟨by decide, by decide⟩ ?_
  refine g_icmp_ne (tgt := 38) rfl (by decide) (fun hx => absurd hx (by omega)) (fun _ => ?_)
  refine g_iload rfl rfl ?_
  refine g_iconst rfl ⟨by decide, by decide⟩ ?_
  refine g_icmp_ne (tgt := 38) rfl (by decide) (fun hx => absurd hx (by omega)) (fun _ => ?_)
  refine g_lload_n rfl rfl ?_
  refine g_ldc2 (z := 1836016741) rfl rfl ⟨by decide, by decide⟩ ?_
  refine g_lcmp rfl ?_
  refine g_if_eq (tgt := 38) rfl (by decide) (fun hx => absurd hx (by omega)) (fun _ => ?_)
  refine g_aload_n rfl rfl ?_
  refine g_iV (as := []) mX12_fails_ok rfl rfl rfl rfl rfl rfl (by decide) rfl rfl rfl ?_
  refine g_aload_n rfl rfl ?_
  refine g_aload_n rfl rfl ?_
  refine x_geti (v := (t_s T len i)) rfl rfl (by decide) (Or.inl rfl) ht.2.2.1 ?_
  refine g_puti rfl rfl (by decide) rfl rfl ?_
  refine g_iconst rfl ⟨by decide, by decide⟩ ?_
  refine x_zreturn rfl rfl (Or.inl rfl) ?_
  intro _
  refine x_zreturn rfl rfl (Or.inl rfl) ?_
  rw [l_P]
  exact ⟨mF_pi (by decide) mF_rf, Or.inl ⟨rfl, _, t_ln_n hwx, rfl⟩⟩
set_option maxHeartbeats 4000000 in
set_option maxRecDepth 100000 in
theorem s_cl0 {G : tp_G} {μ : tp_M} (hG : tp_Gf G = true) {T : Int → Int} {len i f p it m ft lo : Int} {D : Int → Int} (hT : ∀ j, 0 ≤ T j ∧ T j ≤ 255) (h0 : 0 ≤ i) (h1 : i ≤ len) (h : ms T len f p m ft lo D μ) (ht : rtk T len i μ) (hI : t_I 0 i (f, p, it, m, ft, D)) (hlo : (0 : Int) = 2 → lo = min 12 it) : tp_k G mX12_codeLine [tR (some 201), tL (t_wd T len i), tI (t_s T len i)] μ (fun r μ' => l_P 0 T len i (f, p, it, m, ft, D) μ r μ') := by
  have hV := t_wx_V (so := 0) (T := T) ⟨by decide, by decide⟩ h0 h1
  have hr := t_wx_r (so := 0) (T := T) (len := len) (i := i) ⟨by decide, by decide⟩
  rcases (show t_wx 0 T len i = -1 ∨ t_wx 0 T len i = 0 ∨ t_wx 0 T len i = 1 ∨ t_wx 0 T len i = 2 ∨ t_wx 0 T len i = 3 ∨ t_wx 0 T len i = 4 ∨ t_wx 0 T len i = 5 ∨ t_wx 0 T len i = 6 ∨ t_wx 0 T len i = 7 ∨ t_wx 0 T len i = 8 ∨ t_wx 0 T len i = 9 ∨ t_wx 0 T len i = 10 ∨ t_wx 0 T len i = 11 ∨ t_wx 0 T len i = 12 ∨ t_wx 0 T len i = 13 ∨ t_wx 0 T len i = 14 ∨ t_wx 0 T len i = 15 by clear hI; omega) with u | u | u | u | u | u | u | u | u | u | u | u | u | u | u | u | u
  · exact s_lin0 hG hT h0 h1 h ht hI hlo ((hV.2 u).1 rfl) u
  · rw [hV.1 (by omega), u, show t_wc 0 = 482854660462 by decide]; exact s_li0 hG hT h0 h1 h ht hI hlo u
  · rw [hV.1 (by omega), u, show t_wc 1 = 26982 by decide]; exact s_li1 hG hT h0 h1 h ht hI hlo u
  · rw [hV.1 (by omega), u, show t_wc 2 = 1786080624 by decide]; exact s_li2 hG hT h0 h1 h ht hI hlo u
  · rw [hV.1 (by omega), u, show t_wc 3 = 1667329132 by decide]; exact s_li3 hG hT h0 h1 h ht hI hlo u
  · rw [hV.1 (by omega), u, show t_wc 4 = 7497076 by decide]; exact s_li4 hG hT h0 h1 h ht hI hlo u
  · rw [hV.1 (by omega), u, show t_wc 5 = 7760225 by decide]; exact s_li5 hG hT h0 h1 h ht hI hlo u
  · rw [hV.1 (by omega), u, show t_wc 6 = 1937010544 by decide]; exact s_li6 hG hT h0 h1 h ht hI hlo u
  · rw [hV.1 (by omega), u, show t_wc 7 = 1836016741 by decide]; exact s_li7 hG hT h0 h1 h ht hI hlo u
  · rw [hV.1 (by omega), u, show t_wc 8 = 1651078259 by decide]; exact s_li8 hG hT h0 h1 h ht hI hlo u
  · rw [hV.1 (by omega), u, show t_wc 9 = 1684366704 by decide]; exact s_li9 hG hT h0 h1 h ht hI hlo u
  · rw [hV.1 (by omega), u, show t_wc 10 = 1937337955 by decide]; exact s_li10 hG hT h0 h1 h ht hI hlo u
  · rw [hV.1 (by omega), u, show t_wc 11 = 1718775661 by decide]; exact s_li11 hG hT h0 h1 h ht hI hlo u
  · rw [hV.1 (by omega), u, show t_wc 12 = 29807 by decide]; exact s_li12 hG hT h0 h1 h ht hI hlo u
  · rw [hV.1 (by omega), u, show t_wc 13 = 1869507705 by decide]; exact s_li13 hG hT h0 h1 h ht hI hlo u
  · rw [hV.1 (by omega), u, show t_wc 14 = 1919905645 by decide]; exact s_li14 hG hT h0 h1 h ht hI hlo u
  · rw [hV.1 (by omega), u, show t_wc 15 = 1918989413 by decide]; exact s_li15 hG hT h0 h1 h ht hI hlo u
set_option maxHeartbeats 4000000 in
set_option maxRecDepth 100000 in
theorem s_line0 {G : tp_G} {μ : tp_M} (hG : tp_Gf G = true) {T : Int → Int} {len i f p it m ft lo : Int} {D : Int → Int} (hT : ∀ j, 0 ≤ T j ∧ T j ≤ 255) (h0 : 0 ≤ i) (h1 : i ≤ len) (h : ms T len f p m ft lo D μ) (ht : rtk T len i μ) (hI : t_I 0 i (f, p, it, m, ft, D)) (hlo : (0 : Int) = 2 → lo = min 12 it) {V : Int} (hV : V = t_wd T len i) : tp_k G mX12_line [tR (some 201), tI 0, tL (V), tI (t_s T len i)] μ (fun r μ' => l_P 0 T len i (f, p, it, m, ft, D) μ r μ') := by
  refine tp_ok_of mX12_line_ok rfl (Nat.le_refl _) ?_
  refine g_iload_n rfl rfl ?_
  refine g_if_ne (tgt := 14) rfl (by decide) (fun hx => absurd hx (by omega)) (fun _ => ?_)
  refine g_aload_n rfl rfl ?_
  refine g_lload_n rfl rfl ?_
  refine g_iload rfl rfl ?_
  refine g_cV (as := [tL (V), tI (t_s T len i)]) ((show tp_k G mX12_codeLine [tR (some 201), tL V, tI (t_s T len i)] μ _ by rw [hV]; exact s_cl0 hG hT h0 h1 h ht hI hlo)) rfl rfl mX12_codeLine_ok rfl rfl rfl (by decide) rfl rfl rfl ?_
  rintro _ w1 ⟨hF1, ⟨rfl, hx1⟩ | ⟨rfl, hx1⟩⟩ _
  · have hF1 := hF1
    refine g_goto (tgt := 51) rfl (by decide) ?_
    refine x_zreturn rfl rfl (Or.inl rfl) ?_
    rw [l_P]
    exact ⟨hF1, Or.inl ⟨rfl, hx1⟩⟩
  · have hF1 := hF1
    refine g_goto (tgt := 51) rfl (by decide) ?_
    refine x_zreturn rfl rfl (Or.inr rfl) ?_
    rw [l_P]
    exact ⟨hF1, Or.inr ⟨rfl, hx1⟩⟩
set_option maxHeartbeats 4000000 in
set_option maxRecDepth 100000 in
theorem l_alz0 {G : tp_G} (hG : tp_Gf G = true) {T : Int → Int} {len : Int} (hT : ∀ j, 0 ≤ T j ∧ T j ≤ 255) (hlen : 0 ≤ len ∧ len ≤ 600) {μ0 : tp_M} {R : (Int × Int) × t_S} : ∀ k, k ≤ len + 1 → ∀ (μ : tp_M) (i : Int) (st : t_S), 0 ≤ k → k ≤ i → i ≤ len → rtk T len i μ → m_Rel 0 st T len μ → t_I 0 i st → t_go 0 T len (len + 1 - k).toNat i st = R → mF μ0 μ → tp_g G mX12_allLines 2 [some (tR (some 201)), some (tI 0), some (tI 1)] [] μ (fun r μ' => a_P 0 T len R μ0 r μ') := by
  refine tp_ind _ ?_
  intro k hkN ih μ i st h0 hki hil ht hR hI hgo hF
  obtain ⟨f, p, it, m, ft, D⟩ := st
  obtain ⟨lo, hlo, hm⟩ := hR
  have hrk := t_rk_i (t_k_b T len i)
  refine g_iload_n rfl rfl ?_
  refine g_if_eq (tgt := 67) rfl (by decide) (fun hx => absurd hx (by omega)) (fun _ => ?_)
  refine g_aload_n rfl rfl ?_
  refine x_geti (v := (t_rk (t_k T len i))) rfl rfl (by decide) (Or.inl rfl) ht.2.1 ?_
  refine g_if_eq (tgt := 67) rfl (by decide) (fun h1 => ?_) (fun h1 => ?_)
  · refine g_iload_n rfl rfl ?_
    refine x_zreturn rfl rfl (Or.inr rfl) ?_
    rw [t_go_e (by omega) (by omega)] at hgo
    rw [← hgo]
    exact ⟨hF, Or.inr ⟨rfl, rfl, ⟨lo, hlo, hm⟩, ht.2.2.1.trans (t_k_0 hil (by omega))⟩⟩
  · refine g_aload_n rfl rfl ?_
    refine g_iload_n rfl rfl ?_
    refine g_aload_n rfl rfl ?_
    refine x_geti (v := (t_rk (t_k T len i))) rfl rfl (by decide) (Or.inl rfl) ht.2.1 ?_
    refine g_iconst rfl ⟨by decide, by decide⟩ ?_
    refine g_icmp_ne (tgt := 30) rfl (by decide) (fun h2 => ?_) (fun h2 => ?_)
    · refine g_lconst (b := 0) rfl rfl ⟨by decide, by decide⟩ ?_
      refine g_aload_n rfl rfl ?_
      refine x_geti (v := (t_s T len i)) rfl rfl (by decide) (Or.inl rfl) ht.2.2.1 ?_
      refine g_cV (as := [tI 0, tL (0), tI (t_s T len i)]) (s_line0 hG hT (by omega) hil hm ht hI hlo (t_wd_0 (by omega))) rfl rfl mX12_line_ok rfl rfl rfl (by decide) rfl rfl rfl ?_
      rintro _ w1 ⟨hF1, ⟨rfl, x1, hx1, hx2⟩ | ⟨rfl, j, st1, hj, htj, ⟨lo1, hlo1, hm1⟩, hn3, hy3⟩⟩ _
      · have hF1 := hF1
        refine g_istore_n rfl rfl rfl ?_
        refine g_iload_n rfl rfl ?_
        refine g_if_eq (tgt := 56) rfl (by decide) (fun _ => ?_) (fun hx => absurd hx (by omega))
        refine g_iload_n rfl rfl ?_
        refine g_if_eq (tgt := 2) rfl (by decide) (fun _ => ?_) (fun hx => absurd hx (by omega))
        refine g_iload_n rfl rfl ?_
        refine g_if_eq (tgt := 67) rfl (by decide) (fun _ => ?_) (fun hx => absurd hx (by omega))
        refine g_iload_n rfl rfl ?_
        refine x_zreturn rfl rfl (Or.inl rfl) ?_
        rw [t_go_0 (by omega) (by omega) hx1] at hgo
        rw [← hgo]
        exact ⟨mF_tr hF hF1, Or.inl ⟨rfl, rfl, hx2⟩⟩
      · have hrj := t_rk_i (t_k_b T len j)
        have hbj := t_e_B (T := T) hj.2
        have hbk := t_s_B (T := T) hj.2
        refine g_istore_n rfl rfl rfl ?_
        refine g_iload_n rfl rfl ?_
        refine g_if_eq (tgt := 56) rfl (by decide) (fun hx => absurd hx (by omega)) (fun _ => ?_)
        refine g_aload_n rfl rfl ?_
        refine x_geti (v := (t_rk (t_k T len j))) rfl rfl (by decide) (Or.inl rfl) htj.2.1 ?_
        refine g_iconst rfl ⟨by decide, by decide⟩ ?_
        refine g_icmp_eq (tgt := 56) rfl (by decide) (fun h3 => ?_) (fun h3 => ?_)
        · refine g_iload_n rfl rfl ?_
          refine g_if_eq (tgt := 2) rfl (by decide) (fun hx => absurd hx (by omega)) (fun _ => ?_)
          refine g_aload_n rfl rfl ?_
          refine g_cV (as := []) (s_tok9 hG hT hm1 (i := t_e T len j) (by omega) (by omega) htj.1) rfl rfl mX12_token_ok rfl rfl rfl (by decide) rfl rfl rfl ?_
          rintro _ w2 ⟨rfl, ht2, hm2, _, hF2⟩ _
          refine g_goto (tgt := 2) rfl (by decide) ?_
          have hok := t_lnI (T := T) (len := len) (so := 0) ⟨by decide, by decide⟩ (by omega) hil hI
          rw [hy3 (by omega)] at hok
          have hok2 := hok.2 rfl
          rw [t_go_1 (by omega) (by omega) (hy3 (by omega))] at hgo
          exact ih (by omega) _ (t_e T len j) st1 (by omega) (by have := hok2.1; have z : i < t_e T len j := this; omega) hok2.2.1 ht2 ⟨lo1, hlo1, hm2⟩ hok2.2.2 hgo (mF_tr (mF_tr hF hF1) hF2)
        · refine g_aload_n rfl rfl ?_
          refine g_iV (as := []) mX12_fails_ok rfl rfl rfl rfl rfl rfl (by decide) rfl rfl rfl ?_
          refine g_aload_n rfl rfl ?_
          refine g_aload_n rfl rfl ?_
          refine x_geti (v := (t_s T len j)) rfl rfl (by decide) (Or.inl rfl) htj.2.2.1 ?_
          refine g_puti rfl rfl (by decide) rfl rfl ?_
          refine g_iconst rfl ⟨by decide, by decide⟩ ?_
          refine x_zreturn rfl rfl (Or.inl rfl) ?_
          intro _
          refine g_istore_n rfl rfl rfl ?_
          refine g_iload_n rfl rfl ?_
          refine g_if_eq (tgt := 2) rfl (by decide) (fun _ => ?_) (fun hx => absurd hx (by omega))
          refine g_iload_n rfl rfl ?_
          refine g_if_eq (tgt := 67) rfl (by decide) (fun _ => ?_) (fun hx => absurd hx (by omega))
          refine g_iload_n rfl rfl ?_
          refine x_zreturn rfl rfl (Or.inl rfl) ?_
          rw [t_go_0 (by omega) (by omega) (hn3 (by omega))] at hgo
          rw [← hgo]
          exact ⟨mF_pi (by decide) (mF_tr hF hF1), Or.inl ⟨rfl, rfl, rfl⟩⟩
    · refine g_aload_n rfl rfl ?_
      refine g_getl rfl rfl (by decide) rfl ?_
      refine g_goto (tgt := 31) rfl (by decide) ?_
      refine g_aload_n rfl rfl ?_
      refine x_geti (v := (t_s T len i)) rfl rfl (by decide) (Or.inl rfl) ht.2.2.1 ?_
      refine g_cV (as := [tI 0, tL (μ.1 201 15), tI (t_s T len i)]) (s_line0 hG hT (by omega) hil hm ht hI hlo ht.2.2.2.2) rfl rfl mX12_line_ok rfl rfl rfl (by decide) rfl rfl rfl ?_
      rintro _ w1 ⟨hF1, ⟨rfl, x1, hx1, hx2⟩ | ⟨rfl, j, st1, hj, htj, ⟨lo1, hlo1, hm1⟩, hn3, hy3⟩⟩ _
      · have hF1 := hF1
        refine g_istore_n rfl rfl rfl ?_
        refine g_iload_n rfl rfl ?_
        refine g_if_eq (tgt := 56) rfl (by decide) (fun _ => ?_) (fun hx => absurd hx (by omega))
        refine g_iload_n rfl rfl ?_
        refine g_if_eq (tgt := 2) rfl (by decide) (fun _ => ?_) (fun hx => absurd hx (by omega))
        refine g_iload_n rfl rfl ?_
        refine g_if_eq (tgt := 67) rfl (by decide) (fun _ => ?_) (fun hx => absurd hx (by omega))
        refine g_iload_n rfl rfl ?_
        refine x_zreturn rfl rfl (Or.inl rfl) ?_
        rw [t_go_0 (by omega) (by omega) hx1] at hgo
        rw [← hgo]
        exact ⟨mF_tr hF hF1, Or.inl ⟨rfl, rfl, hx2⟩⟩
      · have hrj := t_rk_i (t_k_b T len j)
        have hbj := t_e_B (T := T) hj.2
        have hbk := t_s_B (T := T) hj.2
        refine g_istore_n rfl rfl rfl ?_
        refine g_iload_n rfl rfl ?_
        refine g_if_eq (tgt := 56) rfl (by decide) (fun hx => absurd hx (by omega)) (fun _ => ?_)
        refine g_aload_n rfl rfl ?_
        refine x_geti (v := (t_rk (t_k T len j))) rfl rfl (by decide) (Or.inl rfl) htj.2.1 ?_
        refine g_iconst rfl ⟨by decide, by decide⟩ ?_
        refine g_icmp_eq (tgt := 56) rfl (by decide) (fun h4 => ?_) (fun h4 => ?_)
        · refine g_iload_n rfl rfl ?_
          refine g_if_eq (tgt := 2) rfl (by decide) (fun hx => absurd hx (by omega)) (fun _ => ?_)
          refine g_aload_n rfl rfl ?_
          refine g_cV (as := []) (s_tok9 hG hT hm1 (i := t_e T len j) (by omega) (by omega) htj.1) rfl rfl mX12_token_ok rfl rfl rfl (by decide) rfl rfl rfl ?_
          rintro _ w2 ⟨rfl, ht2, hm2, _, hF2⟩ _
          refine g_goto (tgt := 2) rfl (by decide) ?_
          have hok := t_lnI (T := T) (len := len) (so := 0) ⟨by decide, by decide⟩ (by omega) hil hI
          rw [hy3 (by omega)] at hok
          have hok2 := hok.2 rfl
          rw [t_go_1 (by omega) (by omega) (hy3 (by omega))] at hgo
          exact ih (by omega) _ (t_e T len j) st1 (by omega) (by have := hok2.1; have z : i < t_e T len j := this; omega) hok2.2.1 ht2 ⟨lo1, hlo1, hm2⟩ hok2.2.2 hgo (mF_tr (mF_tr hF hF1) hF2)
        · refine g_aload_n rfl rfl ?_
          refine g_iV (as := []) mX12_fails_ok rfl rfl rfl rfl rfl rfl (by decide) rfl rfl rfl ?_
          refine g_aload_n rfl rfl ?_
          refine g_aload_n rfl rfl ?_
          refine x_geti (v := (t_s T len j)) rfl rfl (by decide) (Or.inl rfl) htj.2.2.1 ?_
          refine g_puti rfl rfl (by decide) rfl rfl ?_
          refine g_iconst rfl ⟨by decide, by decide⟩ ?_
          refine x_zreturn rfl rfl (Or.inl rfl) ?_
          intro _
          refine g_istore_n rfl rfl rfl ?_
          refine g_iload_n rfl rfl ?_
          refine g_if_eq (tgt := 2) rfl (by decide) (fun _ => ?_) (fun hx => absurd hx (by omega))
          refine g_iload_n rfl rfl ?_
          refine g_if_eq (tgt := 67) rfl (by decide) (fun _ => ?_) (fun hx => absurd hx (by omega))
          refine g_iload_n rfl rfl ?_
          refine x_zreturn rfl rfl (Or.inl rfl) ?_
          rw [t_go_0 (by omega) (by omega) (hn3 (by omega))] at hgo
          rw [← hgo]
          exact ⟨mF_pi (by decide) (mF_tr hF hF1), Or.inl ⟨rfl, rfl, rfl⟩⟩
set_option maxHeartbeats 4000000 in
set_option maxRecDepth 100000 in
theorem s_alz0 {G : tp_G} {μ : tp_M} (hG : tp_Gf G = true) {T : Int → Int} {len : Int} {st : t_S} (hT : ∀ j, 0 ≤ T j ∧ T j ≤ 255) (hlen : 0 ≤ len ∧ len ≤ 600) (ht : rtk T len 0 μ) (hR : m_Rel 0 st T len μ) (hI : t_I 0 0 st) : tp_k G mX12_allLines [tR (some 201), tI 0] μ (fun r μ' => a_P 0 T len (t_go 0 T len (len + 1 - 0).toNat 0 st) μ r μ') := by
  refine tp_ok_of mX12_allLines_ok rfl (Nat.le_refl _) ?_
  refine g_iconst rfl ⟨by decide, by decide⟩ ?_
  refine g_istore_n rfl rfl rfl ?_
  exact l_alz0 (μ0 := μ) hG hT hlen 0 (by omega) _ 0 st (by omega) (by omega) hlen.1 ht hR hI rfl mF_rf
set_option maxHeartbeats 4000000 in
set_option maxRecDepth 100000 in
theorem l_af0 {G : tp_G} (hG : tp_Gf G = true) {T : Int → Int} {len : Int} {μ0 : tp_M} (hC : rd_C T len μ0) : ∀ k, k ≤ 129 → ∀ (μ : tp_M), 0 ≤ k → (∀ j, 0 ≤ j → j < k → μ.1 211 j = 0) → mF μ0 μ → tp_g G mX12_atFirst 2 [some (tR (some 201)), some (tI 0), some (tI k)] [] μ (fun r μ' => r = none ∧ μ'.1 201 10 = 0 ∧ ms T len 0 0 0 (-1) 0 (t_d0 0) μ' ∧ mF μ0 μ') := by
  refine tp_ind _ ?_
  intro k hkN ih μ h0 hz hF
  refine g_iload_n rfl rfl ?_
  refine g_sipush rfl ⟨by decide, by decide⟩ (by decide) ?_
  refine g_icmp_ge (tgt := 22) rfl (by decide) (fun h1 => ?_) (fun h1 => ?_)
  · refine g_iload_n rfl rfl ?_
    refine g_if_ne (tgt := 82) rfl (by decide) (fun hx => absurd hx (by omega)) (fun _ => ?_)
    refine g_aload_n rfl rfl ?_
    refine x_getF (r := 211) hG rfl rfl (by decide) (Or.inr ⟨_, rfl⟩) rfl ?_
    refine g_iconst rfl ⟨by decide, by decide⟩ ?_
    refine g_bipush rfl ⟨by decide, by decide⟩ (by decide) ?_
    refine g_iast rfl rfl (by decide) (by decide) (by decide) ?_
    refine g_aload_n rfl rfl ?_
    refine x_getF (r := 211) hG rfl rfl (by decide) (Or.inr ⟨_, rfl⟩) rfl ?_
    refine g_iconst rfl ⟨by decide, by decide⟩ ?_
    refine g_iconst rfl ⟨by decide, by decide⟩ ?_
    refine g_iast rfl rfl (by decide) (by decide) (by decide) ?_
    refine g_aload_n rfl rfl ?_
    refine x_getF (r := 211) hG rfl rfl (by decide) (Or.inr ⟨_, rfl⟩) rfl ?_
    refine g_iconst rfl ⟨by decide, by decide⟩ ?_
    refine g_bipush rfl ⟨by decide, by decide⟩ (by decide) ?_
    refine g_iast rfl rfl (by decide) (by decide) (by decide) ?_
    refine g_aload_n rfl rfl ?_
    refine x_getF (r := 211) hG rfl rfl (by decide) (Or.inr ⟨_, rfl⟩) rfl ?_
    refine g_iconst rfl ⟨by decide, by decide⟩ ?_
    refine g_bipush rfl ⟨by decide, by decide⟩ (by decide) ?_
    refine g_iast rfl rfl (by decide) (by decide) (by decide) ?_
    refine g_aload_n rfl rfl ?_
    refine x_getF (r := 211) hG rfl rfl (by decide) (Or.inr ⟨_, rfl⟩) rfl ?_
    refine g_bipush rfl ⟨by decide, by decide⟩ (by decide) ?_
    refine g_iconst rfl ⟨by decide, by decide⟩ ?_
    refine g_iast rfl rfl (by decide) (by decide) (by decide) ?_
    refine g_aload_n rfl rfl ?_
    refine x_getF (r := 211) hG rfl rfl (by decide) (Or.inr ⟨_, rfl⟩) rfl ?_
    refine g_bipush rfl ⟨by decide, by decide⟩ (by decide) ?_
    refine g_bipush rfl ⟨by decide, by decide⟩ (by decide) ?_
    refine g_iast rfl rfl (by decide) (by decide) (by decide) ?_
    refine g_aload_n rfl rfl ?_
    refine x_getF (r := 211) hG rfl rfl (by decide) (Or.inr ⟨_, rfl⟩) rfl ?_
    refine g_bipush rfl ⟨by decide, by decide⟩ (by decide) ?_
    refine g_iconst rfl ⟨by decide, by decide⟩ ?_
    refine g_iast rfl rfl (by decide) (by decide) (by decide) ?_
    refine g_aload_n rfl rfl ?_
    refine g_iconst rfl ⟨by decide, by decide⟩ ?_
    refine g_puti rfl rfl (by decide) rfl rfl ?_
    refine g_aload_n rfl rfl ?_
    refine g_iconst rfl ⟨by decide, by decide⟩ ?_
    refine g_puti rfl rfl (by decide) rfl rfl ?_
    refine g_aload_n rfl rfl ?_
    refine g_iconst rfl ⟨by decide, by decide⟩ ?_
    refine g_puti rfl rfl (by decide) rfl rfl ?_
    refine g_aload_n rfl rfl ?_
    refine g_iconst rfl ⟨by decide, by decide⟩ ?_
    refine g_puti rfl rfl (by decide) rfl rfl ?_
    refine g_aload_n rfl rfl ?_
    refine g_iconst rfl ⟨by decide, by decide⟩ ?_
    refine g_puti rfl rfl (by decide) rfl rfl ?_
    refine x_return rfl rfl ?_
    have hz9 : ∀ j, 0 ≤ j → j < 129 → μ.1 211 j = (fun _ => 0 : Int → Int) j := fun j j0 j1 => hz j j0 (by omega)
    have hF9 := hF
    rw [← t_d0_u]
    exact ⟨rfl, rfl, ⟨rd_C_m (mF_pi (by decide) (mF_pi (by decide) (mF_pi (by decide) (mF_pi (by decide) (mF_pi (by decide) (mF_pt (mF_pt (mF_pt (mF_pt (mF_pt (mF_pt (mF_pt hF)))))))))))) hC, ⟨rfl, fun z => absurd rfl z⟩, rfl, rfl, rfl, (told_n (told_n (told_n (told_n (told_n (told_u (told_u (told_u (told_u (told_u (told_u (told_u hz9))))))))))))⟩, (mF_pi (by decide) (mF_pi (by decide) (mF_pi (by decide) (mF_pi (by decide) (mF_pi (by decide) (mF_pt (mF_pt (mF_pt (mF_pt (mF_pt (mF_pt (mF_pt hF))))))))))))⟩
  · refine g_aload_n rfl rfl ?_
    refine x_getF (r := 211) hG rfl rfl (by decide) (Or.inr ⟨_, rfl⟩) rfl ?_
    refine g_iload_n rfl rfl ?_
    refine g_iconst rfl ⟨by decide, by decide⟩ ?_
    refine g_iast rfl rfl (by decide) (by omega) (by omega) ?_
    refine x_iinc (z := k + 1) rfl rfl (by omega) ⟨by omega, by omega⟩ rfl rfl ?_
    refine g_goto (tgt := 2) rfl (by decide) ?_
    exact ih (by omega) _ (by omega) (fun j j0 j1 => by
      by_cases q : j = k
      · rw [q, tp_pi_at]
      · rw [tp_pi_ix q]; exact hz j j0 (by omega)) (mF_pt hF)
set_option maxHeartbeats 4000000 in
set_option maxRecDepth 100000 in
theorem s_af0 {G : tp_G} {μ : tp_M} (hG : tp_Gf G = true) {T : Int → Int} {len : Int} (hC : rd_C T len μ) : tp_k G mX12_atFirst [tR (some 201), tI 0] μ (fun r μ' => r = none ∧ μ'.1 201 10 = 0 ∧ ms T len 0 0 0 (-1) 0 (t_d0 0) μ' ∧ mF μ μ') := by
  refine tp_ok_of mX12_atFirst_ok rfl (Nat.le_refl _) ?_
  refine g_iconst rfl ⟨by decide, by decide⟩ ?_
  refine g_istore_n rfl rfl rfl ?_
  exact l_af0 (μ0 := μ) hG hC 0 (by omega) _ (by omega) (fun j j0 j1 => by omega) mF_rf
set_option maxHeartbeats 4000000 in
set_option maxRecDepth 100000 in
theorem s_rtx0 {G : tp_G} {μ : tp_M} (hG : tp_Gf G = true) {T : Int → Int} {len : Int} (hT : ∀ j, 0 ≤ T j ∧ T j ≤ 255) (hC : rd_C T len μ) : tp_k G mX12_readText [tR (some 201), tI 0] μ (fun r μ' => r = some (tI (if (t_flt 0 T len).1 = 0 then 1 else 0)) ∧ μ'.1 204 0 = (t_flt 0 T len).1 ∧ μ'.1 205 0 = (t_flt 0 T len).2 ∧ ((t_flt 0 T len).1 = 0 → ∀ j, 0 ≤ j → j < 129 → μ'.1 211 j = t_tld 0 T len j) ∧ m_H μ μ') := by
  refine tp_ok_of mX12_readText_ok rfl (Nat.le_refl _) ?_
  have hlen := hC.2.1
  refine g_aload_n rfl rfl ?_
  refine g_iload_n rfl rfl ?_
  refine g_cV (as := [tI 0]) (s_af0 hG hC) rfl rfl mX12_atFirst_ok rfl rfl rfl (by decide) rfl rfl rfl ?_
  rintro _ w1 ⟨rfl, hnx1, hm1, hF1⟩ _
  refine g_aload_n rfl rfl ?_
  refine g_cV (as := []) (s_tok9 hG hT hm1 (i := 0) (by omega) hlen.1 hnx1) rfl rfl mX12_token_ok rfl rfl rfl (by decide) rfl rfl rfl ?_
  rintro _ w2 ⟨rfl, ht2, hm2, _, hF2⟩ _
  refine g_aload_n rfl rfl ?_
  refine g_iload_n rfl rfl ?_
  refine g_cV (as := [tI 0]) (s_alz0 (st := t_s0 0) hG hT hlen ht2 ⟨0, fun _ => by decide, hm2⟩ (t_I0 ⟨by decide, by decide⟩)) rfl rfl mX12_allLines_ok rfl rfl rfl (by decide) rfl rfl rfl ?_
  rintro _ w3 ⟨hF3, ⟨hR3, rfl, h16⟩ | ⟨hR3, rfl, ⟨lo9, hlo9, hm9⟩, hb9⟩⟩ _
  · have hF9 := mF_tr (mF_tr hF1 hF2) hF3
    change (t_all 0 T len).1.1 = 0 at hR3
    change _ = (t_all 0 T len).1.2 at h16
    refine g_istore_n rfl rfl rfl ?_
    refine g_iload_n rfl rfl ?_
    refine g_if_eq (tgt := 52) rfl (by decide) (fun _ => ?_) (fun hx => absurd hx (by omega))
    refine g_aload_n rfl rfl ?_
    refine x_getF (r := 204) hG rfl rfl (by decide) (Or.inr ⟨_, rfl⟩) rfl ?_
    refine g_iconst rfl ⟨by decide, by decide⟩ ?_
    refine g_iload_n rfl rfl ?_
    refine g_if_eq (tgt := 68) rfl (by decide) (fun _ => ?_) (fun hx => absurd hx (by omega))
    refine g_iconst rfl ⟨by decide, by decide⟩ ?_
    refine g_iast rfl rfl (by decide) (by decide) (by decide) ?_
    refine g_aload_n rfl rfl ?_
    refine x_getF (r := 205) hG rfl rfl (by decide) (Or.inr ⟨_, rfl⟩) rfl ?_
    refine g_iconst rfl ⟨by decide, by decide⟩ ?_
    refine g_iload_n rfl rfl ?_
    refine g_if_ne (tgt := 86) rfl (by decide) (fun hx => absurd hx (by omega)) (fun _ => ?_)
    refine g_aload_n rfl rfl ?_
    refine x_geti (v := ((t_all 0 T len).1.2)) rfl rfl (by decide) (Or.inl rfl) h16 ?_
    refine g_goto (tgt := 101) rfl (by decide) ?_
    refine g_iast rfl rfl (by decide) (by decide) (by decide) ?_
    refine g_aload_n rfl rfl ?_
    refine x_getF (r := 204) hG rfl rfl (by decide) (Or.inr ⟨_, rfl⟩) rfl ?_
    refine g_iconst rfl ⟨by decide, by decide⟩ ?_
    refine x_iald (v := 1) rfl rfl (by decide) (by decide) (by decide) rfl ?_
    refine g_if_ne (tgt := 115) rfl (by decide) (fun _ => ?_) (fun hx => absurd hx (by omega))
    refine g_iconst rfl ⟨by decide, by decide⟩ ?_
    refine x_zreturn rfl rfl (Or.inl rfl) ?_
    rw [t_flt_0 hR3]
    exact ⟨rfl, rfl, rfl, fun y => absurd (show (1 : Int) = 0 from y) (by decide), m_H_m hF9⟩
  · have hF9 := mF_tr (mF_tr hF1 hF2) hF3
    change (t_all 0 T len).1.1 = 1 at hR3
    change ms T len (t_all 0 T len).2.1 (t_all 0 T len).2.2.1 (t_all 0 T len).2.2.2.2.1 (t_all 0 T len).2.2.2.2.2.1 lo9 (t_all 0 T len).2.2.2.2.2.2 w3 at hm9
    have hf0 : (t_all 0 T len).2.1 = 0 ∨ (t_all 0 T len).2.1 = 2 ∨ (t_all 0 T len).2.1 = 3 := by
      obtain ⟨i9, hi9⟩ := t_go_I (T := T) (len := len) (so := 0) ⟨by decide, by decide⟩ (len + 1 - 0).toNat 0 (t_s0 0) (by decide) hlen.1 (t_I0 ⟨by decide, by decide⟩) hR3
      exact hi9.1
    refine g_istore_n rfl rfl rfl ?_
    refine g_iload_n rfl rfl ?_
    refine g_if_eq (tgt := 52) rfl (by decide) (fun hx => absurd hx (by omega)) (fun _ => ?_)
    refine g_iload_n rfl rfl ?_
    refine g_if_ne (tgt := 52) rfl (by decide) (fun hx => absurd hx (by omega)) (fun _ => ?_)
    refine g_aload_n rfl rfl ?_
    refine x_geti (v := ((t_all 0 T len).2.1)) rfl rfl (by decide) (Or.inl rfl) hm9.2.1.1 ?_
    refine g_if_ne (tgt := 52) rfl (by decide) (fun h1 => ?_) (fun h1 => ?_)
    · refine g_aload_n rfl rfl ?_
      refine x_getF (r := 204) hG rfl rfl (by decide) (Or.inr ⟨_, rfl⟩) rfl ?_
      refine g_iconst rfl ⟨by decide, by decide⟩ ?_
      refine g_iload_n rfl rfl ?_
      refine g_if_eq (tgt := 68) rfl (by decide) (fun hx => absurd hx (by omega)) (fun _ => ?_)
      refine g_aload_n rfl rfl ?_
      refine x_geti (v := ((t_all 0 T len).2.1)) rfl rfl (by decide) (Or.inl rfl) hm9.2.1.1 ?_
      refine g_goto (tgt := 69) rfl (by decide) ?_
      refine g_iast rfl rfl (by decide) (by decide) (by decide) ?_
      refine g_aload_n rfl rfl ?_
      refine x_getF (r := 205) hG rfl rfl (by decide) (Or.inr ⟨_, rfl⟩) rfl ?_
      refine g_iconst rfl ⟨by decide, by decide⟩ ?_
      refine g_iload_n rfl rfl ?_
      refine g_if_ne (tgt := 86) rfl (by decide) (fun _ => ?_) (fun hx => absurd hx (by omega))
      refine g_aload_n rfl rfl ?_
      refine x_geti (v := ((t_all 0 T len).2.1)) rfl rfl (by decide) (Or.inl rfl) hm9.2.1.1 ?_
      refine g_if_le (tgt := 100) rfl (by decide) (fun hx => absurd hx (by omega)) (fun _ => ?_)
      refine g_aload_n rfl rfl ?_
      refine x_geti (v := ((t_all 0 T len).2.2.1)) rfl rfl (by decide) (Or.inl rfl) (hm9.2.1.2 (by omega)) ?_
      refine g_goto (tgt := 101) rfl (by decide) ?_
      refine g_iast rfl rfl (by decide) (by decide) (by decide) ?_
      refine g_aload_n rfl rfl ?_
      refine x_getF (r := 204) hG rfl rfl (by decide) (Or.inr ⟨_, rfl⟩) rfl ?_
      refine g_iconst rfl ⟨by decide, by decide⟩ ?_
      refine x_iald (v := ((t_all 0 T len).2.1)) rfl rfl (by decide) (by decide) (by decide) rfl ?_
      refine g_if_ne (tgt := 115) rfl (by decide) (fun _ => ?_) (fun hx => absurd hx (by omega))
      refine g_iconst rfl ⟨by decide, by decide⟩ ?_
      refine x_zreturn rfl rfl (Or.inl rfl) ?_
      rw [t_flt_f hR3 (by omega)]
      exact ⟨congrArg (fun x => some (tI x)) (if_neg (show ¬ ((t_all 0 T len).2.1) = 0 by omega)).symm, rfl, rfl, fun y => absurd (show ((t_all 0 T len).2.1) = 0 from y) (by omega), m_H_m hF9⟩
    · refine g_aload_n rfl rfl ?_
      refine x_geti (v := ((t_all 0 T len).2.2.2.2.2.1)) rfl rfl (by decide) (Or.inl rfl) hm9.2.2.2.1 ?_
      refine g_aload_n rfl rfl ?_
      refine x_getF (r := 211) hG rfl rfl (by decide) (Or.inr ⟨_, rfl⟩) rfl ?_
      refine g_iconst rfl ⟨by decide, by decide⟩ ?_
      refine x_iald (v := ((t_all 0 T len).2.2.2.2.2.2 0)) rfl rfl (by decide) (by decide) (by decide) (hm9.2.2.2.2.2 0 (by decide) (by decide)) ?_
      refine g_icmp_lt (tgt := 52) rfl (by decide) (fun h2 => ?_) (fun h2 => ?_)
      · refine g_aload_n rfl rfl ?_
        refine x_getF (r := 204) hG rfl rfl (by decide) (Or.inr ⟨_, rfl⟩) rfl ?_
        refine g_iconst rfl ⟨by decide, by decide⟩ ?_
        refine g_iload_n rfl rfl ?_
        refine g_if_eq (tgt := 68) rfl (by decide) (fun hx => absurd hx (by omega)) (fun _ => ?_)
        refine g_aload_n rfl rfl ?_
        refine x_geti (v := ((t_all 0 T len).2.1)) rfl rfl (by decide) (Or.inl rfl) hm9.2.1.1 ?_
        refine g_goto (tgt := 69) rfl (by decide) ?_
        refine g_iast rfl rfl (by decide) (by decide) (by decide) ?_
        refine g_aload_n rfl rfl ?_
        refine x_getF (r := 205) hG rfl rfl (by decide) (Or.inr ⟨_, rfl⟩) rfl ?_
        refine g_iconst rfl ⟨by decide, by decide⟩ ?_
        refine g_iload_n rfl rfl ?_
        refine g_if_ne (tgt := 86) rfl (by decide) (fun _ => ?_) (fun hx => absurd hx (by omega))
        refine g_aload_n rfl rfl ?_
        refine x_geti (v := ((t_all 0 T len).2.1)) rfl rfl (by decide) (Or.inl rfl) hm9.2.1.1 ?_
        refine g_if_le (tgt := 100) rfl (by decide) (fun _ => ?_) (fun hx => absurd hx (by omega))
        refine g_iconst rfl ⟨by decide, by decide⟩ ?_
        refine g_iast rfl rfl (by decide) (by decide) (by decide) ?_
        refine g_aload_n rfl rfl ?_
        refine x_getF (r := 204) hG rfl rfl (by decide) (Or.inr ⟨_, rfl⟩) rfl ?_
        refine g_iconst rfl ⟨by decide, by decide⟩ ?_
        refine x_iald (v := ((t_all 0 T len).2.1)) rfl rfl (by decide) (by decide) (by decide) rfl ?_
        refine g_if_ne (tgt := 115) rfl (by decide) (fun hx => absurd hx (by omega)) (fun _ => ?_)
        refine g_iconst rfl ⟨by decide, by decide⟩ ?_
        refine g_goto (tgt := 116) rfl (by decide) ?_
        refine x_zreturn rfl rfl (Or.inr rfl) ?_
        rw [t_flt_y hR3 (by omega) (fun _ => by omega)]
        exact ⟨rfl, (by show ((t_all 0 T len).2.1) = 0; omega), rfl, fun _ => fun j j0 j1 => by rw [tp_pi_ne (by omega), tp_pi_ne (by omega)]; exact hm9.2.2.2.2.2 j j0 j1, m_H_m hF9⟩
      · refine g_aload_n rfl rfl ?_
        refine g_iconst rfl ⟨by decide, by decide⟩ ?_
        refine g_aload_n rfl rfl ?_
        refine x_geti (v := len) rfl rfl (by decide) (Or.inl rfl) hb9 ?_
        refine g_iV (as := [tI 4, tI len]) mX12_addsFault_ok rfl rfl rfl rfl rfl rfl (by decide) rfl rfl rfl ?_
        refine g_aload_n rfl rfl ?_
        refine x_geti (v := ((t_all 0 T len).2.1)) rfl rfl (by decide) (Or.inl rfl) hm9.2.1.1 ?_
        refine g_if_eq (tgt := 31) rfl (by decide) (fun _ => ?_) (fun hx => absurd hx (by omega))
        refine g_aload_n rfl rfl ?_
        refine g_iload_n rfl rfl ?_
        refine g_puti rfl rfl (by decide) rfl rfl ?_
        refine g_aload_n rfl rfl ?_
        refine g_iload_n rfl rfl ?_
        refine g_puti rfl rfl (by decide) rfl rfl ?_
        refine x_return rfl rfl ?_
        intro _
        refine g_aload_n rfl rfl ?_
        refine x_getF (r := 204) hG rfl rfl (by decide) (Or.inr ⟨_, rfl⟩) rfl ?_
        refine g_iconst rfl ⟨by decide, by decide⟩ ?_
        refine g_iload_n rfl rfl ?_
        refine g_if_eq (tgt := 68) rfl (by decide) (fun hx => absurd hx (by omega)) (fun _ => ?_)
        refine g_aload_n rfl rfl ?_
        refine x_geti (v := 4) rfl rfl (by decide) (Or.inl rfl) rfl ?_
        refine g_goto (tgt := 69) rfl (by decide) ?_
        refine g_iast rfl rfl (by decide) (by decide) (by decide) ?_
        refine g_aload_n rfl rfl ?_
        refine x_getF (r := 205) hG rfl rfl (by decide) (Or.inr ⟨_, rfl⟩) rfl ?_
        refine g_iconst rfl ⟨by decide, by decide⟩ ?_
        refine g_iload_n rfl rfl ?_
        refine g_if_ne (tgt := 86) rfl (by decide) (fun _ => ?_) (fun hx => absurd hx (by omega))
        refine g_aload_n rfl rfl ?_
        refine x_geti (v := 4) rfl rfl (by decide) (Or.inl rfl) rfl ?_
        refine g_if_le (tgt := 100) rfl (by decide) (fun hx => absurd hx (by omega)) (fun _ => ?_)
        refine g_aload_n rfl rfl ?_
        refine x_geti (v := len) rfl rfl (by decide) (Or.inl rfl) rfl ?_
        refine g_goto (tgt := 101) rfl (by decide) ?_
        refine g_iast rfl rfl (by decide) (by decide) (by decide) ?_
        refine g_aload_n rfl rfl ?_
        refine x_getF (r := 204) hG rfl rfl (by decide) (Or.inr ⟨_, rfl⟩) rfl ?_
        refine g_iconst rfl ⟨by decide, by decide⟩ ?_
        refine x_iald (v := 4) rfl rfl (by decide) (by decide) (by decide) rfl ?_
        refine g_if_ne (tgt := 115) rfl (by decide) (fun _ => ?_) (fun hx => absurd hx (by omega))
        refine g_iconst rfl ⟨by decide, by decide⟩ ?_
        refine x_zreturn rfl rfl (Or.inl rfl) ?_
        rw [t_flt_4 hR3 (by omega) (by omega)]
        exact ⟨rfl, rfl, rfl, fun y => absurd (show (4 : Int) = 0 from y) (by decide), m_H_m (mF_pi (by decide) (mF_pi (by decide) hF9))⟩
set_option maxHeartbeats 4000000 in
set_option maxRecDepth 100000 in
theorem s_lin1 {G : tp_G} {μ : tp_M} (hG : tp_Gf G = true) {T : Int → Int} {len i f p it m ft lo : Int} {D : Int → Int} (hT : ∀ j, 0 ≤ T j ∧ T j ≤ 255) (h0 : 0 ≤ i) (h1 : i ≤ len) (h : ms T len f p m ft lo D μ) (ht : rtk T len i μ) (hI : t_I 1 i (f, p, it, m, ft, D)) (hlo : (1 : Int) = 2 → lo = min 12 it) {V : Int} (hV : ∀ j, 16 ≤ j → j < 19 → V ≠ t_wc j) (hwx : t_wx 1 T len i = -1) : tp_k G mX12_driveLine [tR (some 201), tL (V), tI (t_s T len i)] μ (fun r μ' => l_P 1 T len i (f, p, it, m, ft, D) μ r μ') := by
  refine tp_ok_of mX12_driveLine_ok rfl (Nat.le_refl _) ?_
  have hn16 : tp_lcmp (V) (110) ≠ 0 := fun z => hV 16 (by decide) (by decide) ((q_lc_eq.1 z).trans (by decide))
  have hn17 : tp_lcmp (V) (121) ≠ 0 := fun z => hV 17 (by decide) (by decide) ((q_lc_eq.1 z).trans (by decide))
  have hn18 : tp_lcmp (V) (26479) ≠ 0 := fun z => hV 18 (by decide) (by decide) ((q_lc_eq.1 z).trans (by decide))
  refine g_lload_n rfl rfl ?_
  refine g_ldc2 (z := 121) rfl rfl ⟨by decide, by decide⟩ ?_
  refine g_lcmp rfl ?_
  refine g_if_eq (tgt := 29) rfl (by decide) (fun hx => absurd hx (by omega)) (fun _ => ?_)
  refine g_lload_n rfl rfl ?_
  refine g_ldc2 (z := 110) rfl rfl ⟨by decide, by decide⟩ ?_
  refine g_lcmp rfl ?_
  refine g_if_eq (tgt := 29) rfl (by decide) (fun hx => absurd hx (by omega)) (fun _ => ?_)
  refine g_lload_n rfl rfl ?_
  refine g_ldc2 (z := 26479) rfl rfl ⟨by decide, by decide⟩ ?_
  refine g_lcmp rfl ?_
  refine g_if_eq (tgt := 29) rfl (by decide) (fun hx => absurd hx (by omega)) (fun _ => ?_)
  refine g_aload_n rfl rfl ?_
  refine g_iV (as := []) mX12_fails_ok rfl rfl rfl rfl rfl rfl (by decide) rfl rfl rfl ?_
  refine g_aload_n rfl rfl ?_
  refine g_aload_n rfl rfl ?_
  refine x_geti (v := (t_s T len i)) rfl rfl (by decide) (Or.inl rfl) ht.2.2.1 ?_
  refine g_puti rfl rfl (by decide) rfl rfl ?_
  refine g_iconst rfl ⟨by decide, by decide⟩ ?_
  refine x_zreturn rfl rfl (Or.inl rfl) ?_
  intro _
  refine x_zreturn rfl rfl (Or.inl rfl) ?_
  rw [l_P]
  exact ⟨mF_pi (by decide) mF_rf, Or.inl ⟨rfl, _, t_ln_n hwx, rfl⟩⟩
set_option maxHeartbeats 4000000 in
set_option maxRecDepth 100000 in
theorem s_cl1 {G : tp_G} {μ : tp_M} (hG : tp_Gf G = true) {T : Int → Int} {len i f p it m ft lo : Int} {D : Int → Int} (hT : ∀ j, 0 ≤ T j ∧ T j ≤ 255) (h0 : 0 ≤ i) (h1 : i ≤ len) (h : ms T len f p m ft lo D μ) (ht : rtk T len i μ) (hI : t_I 1 i (f, p, it, m, ft, D)) (hlo : (1 : Int) = 2 → lo = min 12 it) : tp_k G mX12_driveLine [tR (some 201), tL (t_wd T len i), tI (t_s T len i)] μ (fun r μ' => l_P 1 T len i (f, p, it, m, ft, D) μ r μ') := by
  have hV := t_wx_V (so := 1) (T := T) ⟨by decide, by decide⟩ h0 h1
  have hr := t_wx_r (so := 1) (T := T) (len := len) (i := i) ⟨by decide, by decide⟩
  rcases (show t_wx 1 T len i = -1 ∨ t_wx 1 T len i = 16 ∨ t_wx 1 T len i = 17 ∨ t_wx 1 T len i = 18 by clear hI; omega) with u | u | u | u
  · exact s_lin1 hG hT h0 h1 h ht hI hlo ((hV.2 u).2.1 rfl) u
  · rw [hV.1 (by omega), u, show t_wc 16 = 110 by decide]; exact s_li16 hG hT h0 h1 h ht hI hlo u
  · rw [hV.1 (by omega), u, show t_wc 17 = 121 by decide]; exact s_li17 hG hT h0 h1 h ht hI hlo u
  · rw [hV.1 (by omega), u, show t_wc 18 = 26479 by decide]; exact s_li18 hG hT h0 h1 h ht hI hlo u
set_option maxHeartbeats 4000000 in
set_option maxRecDepth 100000 in
theorem s_line1 {G : tp_G} {μ : tp_M} (hG : tp_Gf G = true) {T : Int → Int} {len i f p it m ft lo : Int} {D : Int → Int} (hT : ∀ j, 0 ≤ T j ∧ T j ≤ 255) (h0 : 0 ≤ i) (h1 : i ≤ len) (h : ms T len f p m ft lo D μ) (ht : rtk T len i μ) (hI : t_I 1 i (f, p, it, m, ft, D)) (hlo : (1 : Int) = 2 → lo = min 12 it) {V : Int} (hV : V = t_wd T len i) : tp_k G mX12_line [tR (some 201), tI 1, tL (V), tI (t_s T len i)] μ (fun r μ' => l_P 1 T len i (f, p, it, m, ft, D) μ r μ') := by
  refine tp_ok_of mX12_line_ok rfl (Nat.le_refl _) ?_
  refine g_iload_n rfl rfl ?_
  refine g_if_ne (tgt := 14) rfl (by decide) (fun _ => ?_) (fun hx => absurd hx (by omega))
  refine g_iload_n rfl rfl ?_
  refine g_iconst rfl ⟨by decide, by decide⟩ ?_
  refine g_icmp_ne (tgt := 29) rfl (by decide) (fun hx => absurd hx (by omega)) (fun _ => ?_)
  refine g_aload_n rfl rfl ?_
  refine g_lload_n rfl rfl ?_
  refine g_iload rfl rfl ?_
  refine g_cV (as := [tL (V), tI (t_s T len i)]) ((show tp_k G mX12_driveLine [tR (some 201), tL V, tI (t_s T len i)] μ _ by rw [hV]; exact s_cl1 hG hT h0 h1 h ht hI hlo)) rfl rfl mX12_driveLine_ok rfl rfl rfl (by decide) rfl rfl rfl ?_
  rintro _ w1 ⟨hF1, ⟨rfl, hx1⟩ | ⟨rfl, hx1⟩⟩ _
  · have hF1 := hF1
    refine g_goto (tgt := 51) rfl (by decide) ?_
    refine x_zreturn rfl rfl (Or.inl rfl) ?_
    rw [l_P]
    exact ⟨hF1, Or.inl ⟨rfl, hx1⟩⟩
  · have hF1 := hF1
    refine g_goto (tgt := 51) rfl (by decide) ?_
    refine x_zreturn rfl rfl (Or.inr rfl) ?_
    rw [l_P]
    exact ⟨hF1, Or.inr ⟨rfl, hx1⟩⟩
set_option maxHeartbeats 4000000 in
set_option maxRecDepth 100000 in
theorem l_alz1 {G : tp_G} (hG : tp_Gf G = true) {T : Int → Int} {len : Int} (hT : ∀ j, 0 ≤ T j ∧ T j ≤ 255) (hlen : 0 ≤ len ∧ len ≤ 600) {μ0 : tp_M} {R : (Int × Int) × t_S} : ∀ k, k ≤ len + 1 → ∀ (μ : tp_M) (i : Int) (st : t_S), 0 ≤ k → k ≤ i → i ≤ len → rtk T len i μ → m_Rel 1 st T len μ → t_I 1 i st → t_go 1 T len (len + 1 - k).toNat i st = R → mF μ0 μ → tp_g G mX12_allLines 2 [some (tR (some 201)), some (tI 1), some (tI 1)] [] μ (fun r μ' => a_P 1 T len R μ0 r μ') := by
  refine tp_ind _ ?_
  intro k hkN ih μ i st h0 hki hil ht hR hI hgo hF
  obtain ⟨f, p, it, m, ft, D⟩ := st
  obtain ⟨lo, hlo, hm⟩ := hR
  have hrk := t_rk_i (t_k_b T len i)
  refine g_iload_n rfl rfl ?_
  refine g_if_eq (tgt := 67) rfl (by decide) (fun hx => absurd hx (by omega)) (fun _ => ?_)
  refine g_aload_n rfl rfl ?_
  refine x_geti (v := (t_rk (t_k T len i))) rfl rfl (by decide) (Or.inl rfl) ht.2.1 ?_
  refine g_if_eq (tgt := 67) rfl (by decide) (fun h1 => ?_) (fun h1 => ?_)
  · refine g_iload_n rfl rfl ?_
    refine x_zreturn rfl rfl (Or.inr rfl) ?_
    rw [t_go_e (by omega) (by omega)] at hgo
    rw [← hgo]
    exact ⟨hF, Or.inr ⟨rfl, rfl, ⟨lo, hlo, hm⟩, ht.2.2.1.trans (t_k_0 hil (by omega))⟩⟩
  · refine g_aload_n rfl rfl ?_
    refine g_iload_n rfl rfl ?_
    refine g_aload_n rfl rfl ?_
    refine x_geti (v := (t_rk (t_k T len i))) rfl rfl (by decide) (Or.inl rfl) ht.2.1 ?_
    refine g_iconst rfl ⟨by decide, by decide⟩ ?_
    refine g_icmp_ne (tgt := 30) rfl (by decide) (fun h2 => ?_) (fun h2 => ?_)
    · refine g_lconst (b := 0) rfl rfl ⟨by decide, by decide⟩ ?_
      refine g_aload_n rfl rfl ?_
      refine x_geti (v := (t_s T len i)) rfl rfl (by decide) (Or.inl rfl) ht.2.2.1 ?_
      refine g_cV (as := [tI 1, tL (0), tI (t_s T len i)]) (s_line1 hG hT (by omega) hil hm ht hI hlo (t_wd_0 (by omega))) rfl rfl mX12_line_ok rfl rfl rfl (by decide) rfl rfl rfl ?_
      rintro _ w1 ⟨hF1, ⟨rfl, x1, hx1, hx2⟩ | ⟨rfl, j, st1, hj, htj, ⟨lo1, hlo1, hm1⟩, hn3, hy3⟩⟩ _
      · have hF1 := hF1
        refine g_istore_n rfl rfl rfl ?_
        refine g_iload_n rfl rfl ?_
        refine g_if_eq (tgt := 56) rfl (by decide) (fun _ => ?_) (fun hx => absurd hx (by omega))
        refine g_iload_n rfl rfl ?_
        refine g_if_eq (tgt := 2) rfl (by decide) (fun _ => ?_) (fun hx => absurd hx (by omega))
        refine g_iload_n rfl rfl ?_
        refine g_if_eq (tgt := 67) rfl (by decide) (fun _ => ?_) (fun hx => absurd hx (by omega))
        refine g_iload_n rfl rfl ?_
        refine x_zreturn rfl rfl (Or.inl rfl) ?_
        rw [t_go_0 (by omega) (by omega) hx1] at hgo
        rw [← hgo]
        exact ⟨mF_tr hF hF1, Or.inl ⟨rfl, rfl, hx2⟩⟩
      · have hrj := t_rk_i (t_k_b T len j)
        have hbj := t_e_B (T := T) hj.2
        have hbk := t_s_B (T := T) hj.2
        refine g_istore_n rfl rfl rfl ?_
        refine g_iload_n rfl rfl ?_
        refine g_if_eq (tgt := 56) rfl (by decide) (fun hx => absurd hx (by omega)) (fun _ => ?_)
        refine g_aload_n rfl rfl ?_
        refine x_geti (v := (t_rk (t_k T len j))) rfl rfl (by decide) (Or.inl rfl) htj.2.1 ?_
        refine g_iconst rfl ⟨by decide, by decide⟩ ?_
        refine g_icmp_eq (tgt := 56) rfl (by decide) (fun h3 => ?_) (fun h3 => ?_)
        · refine g_iload_n rfl rfl ?_
          refine g_if_eq (tgt := 2) rfl (by decide) (fun hx => absurd hx (by omega)) (fun _ => ?_)
          refine g_aload_n rfl rfl ?_
          refine g_cV (as := []) (s_tok9 hG hT hm1 (i := t_e T len j) (by omega) (by omega) htj.1) rfl rfl mX12_token_ok rfl rfl rfl (by decide) rfl rfl rfl ?_
          rintro _ w2 ⟨rfl, ht2, hm2, _, hF2⟩ _
          refine g_goto (tgt := 2) rfl (by decide) ?_
          have hok := t_lnI (T := T) (len := len) (so := 1) ⟨by decide, by decide⟩ (by omega) hil hI
          rw [hy3 (by omega)] at hok
          have hok2 := hok.2 rfl
          rw [t_go_1 (by omega) (by omega) (hy3 (by omega))] at hgo
          exact ih (by omega) _ (t_e T len j) st1 (by omega) (by have := hok2.1; have z : i < t_e T len j := this; omega) hok2.2.1 ht2 ⟨lo1, hlo1, hm2⟩ hok2.2.2 hgo (mF_tr (mF_tr hF hF1) hF2)
        · refine g_aload_n rfl rfl ?_
          refine g_iV (as := []) mX12_fails_ok rfl rfl rfl rfl rfl rfl (by decide) rfl rfl rfl ?_
          refine g_aload_n rfl rfl ?_
          refine g_aload_n rfl rfl ?_
          refine x_geti (v := (t_s T len j)) rfl rfl (by decide) (Or.inl rfl) htj.2.2.1 ?_
          refine g_puti rfl rfl (by decide) rfl rfl ?_
          refine g_iconst rfl ⟨by decide, by decide⟩ ?_
          refine x_zreturn rfl rfl (Or.inl rfl) ?_
          intro _
          refine g_istore_n rfl rfl rfl ?_
          refine g_iload_n rfl rfl ?_
          refine g_if_eq (tgt := 2) rfl (by decide) (fun _ => ?_) (fun hx => absurd hx (by omega))
          refine g_iload_n rfl rfl ?_
          refine g_if_eq (tgt := 67) rfl (by decide) (fun _ => ?_) (fun hx => absurd hx (by omega))
          refine g_iload_n rfl rfl ?_
          refine x_zreturn rfl rfl (Or.inl rfl) ?_
          rw [t_go_0 (by omega) (by omega) (hn3 (by omega))] at hgo
          rw [← hgo]
          exact ⟨mF_pi (by decide) (mF_tr hF hF1), Or.inl ⟨rfl, rfl, rfl⟩⟩
    · refine g_aload_n rfl rfl ?_
      refine g_getl rfl rfl (by decide) rfl ?_
      refine g_goto (tgt := 31) rfl (by decide) ?_
      refine g_aload_n rfl rfl ?_
      refine x_geti (v := (t_s T len i)) rfl rfl (by decide) (Or.inl rfl) ht.2.2.1 ?_
      refine g_cV (as := [tI 1, tL (μ.1 201 15), tI (t_s T len i)]) (s_line1 hG hT (by omega) hil hm ht hI hlo ht.2.2.2.2) rfl rfl mX12_line_ok rfl rfl rfl (by decide) rfl rfl rfl ?_
      rintro _ w1 ⟨hF1, ⟨rfl, x1, hx1, hx2⟩ | ⟨rfl, j, st1, hj, htj, ⟨lo1, hlo1, hm1⟩, hn3, hy3⟩⟩ _
      · have hF1 := hF1
        refine g_istore_n rfl rfl rfl ?_
        refine g_iload_n rfl rfl ?_
        refine g_if_eq (tgt := 56) rfl (by decide) (fun _ => ?_) (fun hx => absurd hx (by omega))
        refine g_iload_n rfl rfl ?_
        refine g_if_eq (tgt := 2) rfl (by decide) (fun _ => ?_) (fun hx => absurd hx (by omega))
        refine g_iload_n rfl rfl ?_
        refine g_if_eq (tgt := 67) rfl (by decide) (fun _ => ?_) (fun hx => absurd hx (by omega))
        refine g_iload_n rfl rfl ?_
        refine x_zreturn rfl rfl (Or.inl rfl) ?_
        rw [t_go_0 (by omega) (by omega) hx1] at hgo
        rw [← hgo]
        exact ⟨mF_tr hF hF1, Or.inl ⟨rfl, rfl, hx2⟩⟩
      · have hrj := t_rk_i (t_k_b T len j)
        have hbj := t_e_B (T := T) hj.2
        have hbk := t_s_B (T := T) hj.2
        refine g_istore_n rfl rfl rfl ?_
        refine g_iload_n rfl rfl ?_
        refine g_if_eq (tgt := 56) rfl (by decide) (fun hx => absurd hx (by omega)) (fun _ => ?_)
        refine g_aload_n rfl rfl ?_
        refine x_geti (v := (t_rk (t_k T len j))) rfl rfl (by decide) (Or.inl rfl) htj.2.1 ?_
        refine g_iconst rfl ⟨by decide, by decide⟩ ?_
        refine g_icmp_eq (tgt := 56) rfl (by decide) (fun h4 => ?_) (fun h4 => ?_)
        · refine g_iload_n rfl rfl ?_
          refine g_if_eq (tgt := 2) rfl (by decide) (fun hx => absurd hx (by omega)) (fun _ => ?_)
          refine g_aload_n rfl rfl ?_
          refine g_cV (as := []) (s_tok9 hG hT hm1 (i := t_e T len j) (by omega) (by omega) htj.1) rfl rfl mX12_token_ok rfl rfl rfl (by decide) rfl rfl rfl ?_
          rintro _ w2 ⟨rfl, ht2, hm2, _, hF2⟩ _
          refine g_goto (tgt := 2) rfl (by decide) ?_
          have hok := t_lnI (T := T) (len := len) (so := 1) ⟨by decide, by decide⟩ (by omega) hil hI
          rw [hy3 (by omega)] at hok
          have hok2 := hok.2 rfl
          rw [t_go_1 (by omega) (by omega) (hy3 (by omega))] at hgo
          exact ih (by omega) _ (t_e T len j) st1 (by omega) (by have := hok2.1; have z : i < t_e T len j := this; omega) hok2.2.1 ht2 ⟨lo1, hlo1, hm2⟩ hok2.2.2 hgo (mF_tr (mF_tr hF hF1) hF2)
        · refine g_aload_n rfl rfl ?_
          refine g_iV (as := []) mX12_fails_ok rfl rfl rfl rfl rfl rfl (by decide) rfl rfl rfl ?_
          refine g_aload_n rfl rfl ?_
          refine g_aload_n rfl rfl ?_
          refine x_geti (v := (t_s T len j)) rfl rfl (by decide) (Or.inl rfl) htj.2.2.1 ?_
          refine g_puti rfl rfl (by decide) rfl rfl ?_
          refine g_iconst rfl ⟨by decide, by decide⟩ ?_
          refine x_zreturn rfl rfl (Or.inl rfl) ?_
          intro _
          refine g_istore_n rfl rfl rfl ?_
          refine g_iload_n rfl rfl ?_
          refine g_if_eq (tgt := 2) rfl (by decide) (fun _ => ?_) (fun hx => absurd hx (by omega))
          refine g_iload_n rfl rfl ?_
          refine g_if_eq (tgt := 67) rfl (by decide) (fun _ => ?_) (fun hx => absurd hx (by omega))
          refine g_iload_n rfl rfl ?_
          refine x_zreturn rfl rfl (Or.inl rfl) ?_
          rw [t_go_0 (by omega) (by omega) (hn3 (by omega))] at hgo
          rw [← hgo]
          exact ⟨mF_pi (by decide) (mF_tr hF hF1), Or.inl ⟨rfl, rfl, rfl⟩⟩
set_option maxHeartbeats 4000000 in
set_option maxRecDepth 100000 in
theorem s_alz1 {G : tp_G} {μ : tp_M} (hG : tp_Gf G = true) {T : Int → Int} {len : Int} {st : t_S} (hT : ∀ j, 0 ≤ T j ∧ T j ≤ 255) (hlen : 0 ≤ len ∧ len ≤ 600) (ht : rtk T len 0 μ) (hR : m_Rel 1 st T len μ) (hI : t_I 1 0 st) : tp_k G mX12_allLines [tR (some 201), tI 1] μ (fun r μ' => a_P 1 T len (t_go 1 T len (len + 1 - 0).toNat 0 st) μ r μ') := by
  refine tp_ok_of mX12_allLines_ok rfl (Nat.le_refl _) ?_
  refine g_iconst rfl ⟨by decide, by decide⟩ ?_
  refine g_istore_n rfl rfl rfl ?_
  exact l_alz1 (μ0 := μ) hG hT hlen 0 (by omega) _ 0 st (by omega) (by omega) hlen.1 ht hR hI rfl mF_rf
set_option maxHeartbeats 4000000 in
set_option maxRecDepth 100000 in
theorem l_af1 {G : tp_G} (hG : tp_Gf G = true) {T : Int → Int} {len : Int} {μ0 : tp_M} (hC : rd_C T len μ0) : ∀ k, k ≤ 129 → ∀ (μ : tp_M), 0 ≤ k → (∀ j, 0 ≤ j → j < k → μ.1 211 j = 0) → mF μ0 μ → tp_g G mX12_atFirst 2 [some (tR (some 201)), some (tI 1), some (tI k)] [] μ (fun r μ' => r = none ∧ μ'.1 201 10 = 0 ∧ ms T len 0 0 0 (-1) 0 (t_d0 1) μ' ∧ mF μ0 μ') := by
  refine tp_ind _ ?_
  intro k hkN ih μ h0 hz hF
  refine g_iload_n rfl rfl ?_
  refine g_sipush rfl ⟨by decide, by decide⟩ (by decide) ?_
  refine g_icmp_ge (tgt := 22) rfl (by decide) (fun h1 => ?_) (fun h1 => ?_)
  · refine g_iload_n rfl rfl ?_
    refine g_if_ne (tgt := 82) rfl (by decide) (fun _ => ?_) (fun hx => absurd hx (by omega))
    refine g_aload_n rfl rfl ?_
    refine g_iconst rfl ⟨by decide, by decide⟩ ?_
    refine g_puti rfl rfl (by decide) rfl rfl ?_
    refine g_aload_n rfl rfl ?_
    refine g_iconst rfl ⟨by decide, by decide⟩ ?_
    refine g_puti rfl rfl (by decide) rfl rfl ?_
    refine g_aload_n rfl rfl ?_
    refine g_iconst rfl ⟨by decide, by decide⟩ ?_
    refine g_puti rfl rfl (by decide) rfl rfl ?_
    refine g_aload_n rfl rfl ?_
    refine g_iconst rfl ⟨by decide, by decide⟩ ?_
    refine g_puti rfl rfl (by decide) rfl rfl ?_
    refine g_aload_n rfl rfl ?_
    refine g_iconst rfl ⟨by decide, by decide⟩ ?_
    refine g_puti rfl rfl (by decide) rfl rfl ?_
    refine x_return rfl rfl ?_
    have hz9 : ∀ j, 0 ≤ j → j < 129 → μ.1 211 j = (fun _ => 0 : Int → Int) j := fun j j0 j1 => hz j j0 (by omega)
    have hF9 := hF
    rw [← t_d0_n (show (1 : Int) ≠ 0 by decide)]
    exact ⟨rfl, rfl, ⟨rd_C_m (mF_pi (by decide) (mF_pi (by decide) (mF_pi (by decide) (mF_pi (by decide) (mF_pi (by decide) hF))))) hC, ⟨rfl, fun z => absurd rfl z⟩, rfl, rfl, rfl, (told_n (told_n (told_n (told_n (told_n hz9)))))⟩, (mF_pi (by decide) (mF_pi (by decide) (mF_pi (by decide) (mF_pi (by decide) (mF_pi (by decide) hF)))))⟩
  · refine g_aload_n rfl rfl ?_
    refine x_getF (r := 211) hG rfl rfl (by decide) (Or.inr ⟨_, rfl⟩) rfl ?_
    refine g_iload_n rfl rfl ?_
    refine g_iconst rfl ⟨by decide, by decide⟩ ?_
    refine g_iast rfl rfl (by decide) (by omega) (by omega) ?_
    refine x_iinc (z := k + 1) rfl rfl (by omega) ⟨by omega, by omega⟩ rfl rfl ?_
    refine g_goto (tgt := 2) rfl (by decide) ?_
    exact ih (by omega) _ (by omega) (fun j j0 j1 => by
      by_cases q : j = k
      · rw [q, tp_pi_at]
      · rw [tp_pi_ix q]; exact hz j j0 (by omega)) (mF_pt hF)
set_option maxHeartbeats 4000000 in
set_option maxRecDepth 100000 in
theorem s_af1 {G : tp_G} {μ : tp_M} (hG : tp_Gf G = true) {T : Int → Int} {len : Int} (hC : rd_C T len μ) : tp_k G mX12_atFirst [tR (some 201), tI 1] μ (fun r μ' => r = none ∧ μ'.1 201 10 = 0 ∧ ms T len 0 0 0 (-1) 0 (t_d0 1) μ' ∧ mF μ μ') := by
  refine tp_ok_of mX12_atFirst_ok rfl (Nat.le_refl _) ?_
  refine g_iconst rfl ⟨by decide, by decide⟩ ?_
  refine g_istore_n rfl rfl rfl ?_
  exact l_af1 (μ0 := μ) hG hC 0 (by omega) _ (by omega) (fun j j0 j1 => by omega) mF_rf
set_option maxHeartbeats 4000000 in
set_option maxRecDepth 100000 in
theorem s_rtx1 {G : tp_G} {μ : tp_M} (hG : tp_Gf G = true) {T : Int → Int} {len : Int} (hT : ∀ j, 0 ≤ T j ∧ T j ≤ 255) (hC : rd_C T len μ) : tp_k G mX12_readText [tR (some 201), tI 1] μ (fun r μ' => r = some (tI (if (t_flt 1 T len).1 = 0 then 1 else 0)) ∧ μ'.1 204 0 = (t_flt 1 T len).1 ∧ μ'.1 205 0 = (t_flt 1 T len).2 ∧ ((t_flt 1 T len).1 = 0 → ∀ j, 0 ≤ j → j < 129 → μ'.1 211 j = t_tld 1 T len j) ∧ m_H μ μ') := by
  refine tp_ok_of mX12_readText_ok rfl (Nat.le_refl _) ?_
  have hlen := hC.2.1
  refine g_aload_n rfl rfl ?_
  refine g_iload_n rfl rfl ?_
  refine g_cV (as := [tI 1]) (s_af1 hG hC) rfl rfl mX12_atFirst_ok rfl rfl rfl (by decide) rfl rfl rfl ?_
  rintro _ w1 ⟨rfl, hnx1, hm1, hF1⟩ _
  refine g_aload_n rfl rfl ?_
  refine g_cV (as := []) (s_tok9 hG hT hm1 (i := 0) (by omega) hlen.1 hnx1) rfl rfl mX12_token_ok rfl rfl rfl (by decide) rfl rfl rfl ?_
  rintro _ w2 ⟨rfl, ht2, hm2, _, hF2⟩ _
  refine g_aload_n rfl rfl ?_
  refine g_iload_n rfl rfl ?_
  refine g_cV (as := [tI 1]) (s_alz1 (st := t_s0 1) hG hT hlen ht2 ⟨0, fun _ => by decide, hm2⟩ (t_I0 ⟨by decide, by decide⟩)) rfl rfl mX12_allLines_ok rfl rfl rfl (by decide) rfl rfl rfl ?_
  rintro _ w3 ⟨hF3, ⟨hR3, rfl, h16⟩ | ⟨hR3, rfl, ⟨lo9, hlo9, hm9⟩, hb9⟩⟩ _
  · have hF9 := mF_tr (mF_tr hF1 hF2) hF3
    change (t_all 1 T len).1.1 = 0 at hR3
    change _ = (t_all 1 T len).1.2 at h16
    refine g_istore_n rfl rfl rfl ?_
    refine g_iload_n rfl rfl ?_
    refine g_if_eq (tgt := 52) rfl (by decide) (fun _ => ?_) (fun hx => absurd hx (by omega))
    refine g_aload_n rfl rfl ?_
    refine x_getF (r := 204) hG rfl rfl (by decide) (Or.inr ⟨_, rfl⟩) rfl ?_
    refine g_iconst rfl ⟨by decide, by decide⟩ ?_
    refine g_iload_n rfl rfl ?_
    refine g_if_eq (tgt := 68) rfl (by decide) (fun _ => ?_) (fun hx => absurd hx (by omega))
    refine g_iconst rfl ⟨by decide, by decide⟩ ?_
    refine g_iast rfl rfl (by decide) (by decide) (by decide) ?_
    refine g_aload_n rfl rfl ?_
    refine x_getF (r := 205) hG rfl rfl (by decide) (Or.inr ⟨_, rfl⟩) rfl ?_
    refine g_iconst rfl ⟨by decide, by decide⟩ ?_
    refine g_iload_n rfl rfl ?_
    refine g_if_ne (tgt := 86) rfl (by decide) (fun hx => absurd hx (by omega)) (fun _ => ?_)
    refine g_aload_n rfl rfl ?_
    refine x_geti (v := ((t_all 1 T len).1.2)) rfl rfl (by decide) (Or.inl rfl) h16 ?_
    refine g_goto (tgt := 101) rfl (by decide) ?_
    refine g_iast rfl rfl (by decide) (by decide) (by decide) ?_
    refine g_aload_n rfl rfl ?_
    refine x_getF (r := 204) hG rfl rfl (by decide) (Or.inr ⟨_, rfl⟩) rfl ?_
    refine g_iconst rfl ⟨by decide, by decide⟩ ?_
    refine x_iald (v := 1) rfl rfl (by decide) (by decide) (by decide) rfl ?_
    refine g_if_ne (tgt := 115) rfl (by decide) (fun _ => ?_) (fun hx => absurd hx (by omega))
    refine g_iconst rfl ⟨by decide, by decide⟩ ?_
    refine x_zreturn rfl rfl (Or.inl rfl) ?_
    rw [t_flt_0 hR3]
    exact ⟨rfl, rfl, rfl, fun y => absurd (show (1 : Int) = 0 from y) (by decide), m_H_m hF9⟩
  · have hF9 := mF_tr (mF_tr hF1 hF2) hF3
    change (t_all 1 T len).1.1 = 1 at hR3
    change ms T len (t_all 1 T len).2.1 (t_all 1 T len).2.2.1 (t_all 1 T len).2.2.2.2.1 (t_all 1 T len).2.2.2.2.2.1 lo9 (t_all 1 T len).2.2.2.2.2.2 w3 at hm9
    have hf0 : (t_all 1 T len).2.1 = 0 ∨ (t_all 1 T len).2.1 = 2 ∨ (t_all 1 T len).2.1 = 3 := by
      obtain ⟨i9, hi9⟩ := t_go_I (T := T) (len := len) (so := 1) ⟨by decide, by decide⟩ (len + 1 - 0).toNat 0 (t_s0 1) (by decide) hlen.1 (t_I0 ⟨by decide, by decide⟩) hR3
      exact hi9.1
    refine g_istore_n rfl rfl rfl ?_
    refine g_iload_n rfl rfl ?_
    refine g_if_eq (tgt := 52) rfl (by decide) (fun hx => absurd hx (by omega)) (fun _ => ?_)
    refine g_iload_n rfl rfl ?_
    refine g_if_ne (tgt := 52) rfl (by decide) (fun _ => ?_) (fun hx => absurd hx (by omega))
    refine g_aload_n rfl rfl ?_
    refine x_getF (r := 204) hG rfl rfl (by decide) (Or.inr ⟨_, rfl⟩) rfl ?_
    refine g_iconst rfl ⟨by decide, by decide⟩ ?_
    refine g_iload_n rfl rfl ?_
    refine g_if_eq (tgt := 68) rfl (by decide) (fun hx => absurd hx (by omega)) (fun _ => ?_)
    refine g_aload_n rfl rfl ?_
    refine x_geti (v := ((t_all 1 T len).2.1)) rfl rfl (by decide) (Or.inl rfl) hm9.2.1.1 ?_
    refine g_goto (tgt := 69) rfl (by decide) ?_
    refine g_iast rfl rfl (by decide) (by decide) (by decide) ?_
    refine g_aload_n rfl rfl ?_
    refine x_getF (r := 205) hG rfl rfl (by decide) (Or.inr ⟨_, rfl⟩) rfl ?_
    refine g_iconst rfl ⟨by decide, by decide⟩ ?_
    refine g_iload_n rfl rfl ?_
    refine g_if_ne (tgt := 86) rfl (by decide) (fun _ => ?_) (fun hx => absurd hx (by omega))
    refine g_aload_n rfl rfl ?_
    refine x_geti (v := ((t_all 1 T len).2.1)) rfl rfl (by decide) (Or.inl rfl) hm9.2.1.1 ?_
    refine g_if_le (tgt := 100) rfl (by decide) (fun h1 => ?_) (fun h1 => ?_)
    · refine g_iconst rfl ⟨by decide, by decide⟩ ?_
      refine g_iast rfl rfl (by decide) (by decide) (by decide) ?_
      refine g_aload_n rfl rfl ?_
      refine x_getF (r := 204) hG rfl rfl (by decide) (Or.inr ⟨_, rfl⟩) rfl ?_
      refine g_iconst rfl ⟨by decide, by decide⟩ ?_
      refine x_iald (v := ((t_all 1 T len).2.1)) rfl rfl (by decide) (by decide) (by decide) rfl ?_
      refine g_if_ne (tgt := 115) rfl (by decide) (fun hx => absurd hx (by omega)) (fun _ => ?_)
      refine g_iconst rfl ⟨by decide, by decide⟩ ?_
      refine g_goto (tgt := 116) rfl (by decide) ?_
      refine x_zreturn rfl rfl (Or.inr rfl) ?_
      rw [t_flt_y hR3 (by omega) (fun z => absurd z (by decide))]
      exact ⟨rfl, (by show ((t_all 1 T len).2.1) = 0; omega), rfl, fun _ => fun j j0 j1 => by rw [tp_pi_ne (by omega), tp_pi_ne (by omega)]; exact hm9.2.2.2.2.2 j j0 j1, m_H_m hF9⟩
    · refine g_aload_n rfl rfl ?_
      refine x_geti (v := ((t_all 1 T len).2.2.1)) rfl rfl (by decide) (Or.inl rfl) (hm9.2.1.2 (by omega)) ?_
      refine g_goto (tgt := 101) rfl (by decide) ?_
      refine g_iast rfl rfl (by decide) (by decide) (by decide) ?_
      refine g_aload_n rfl rfl ?_
      refine x_getF (r := 204) hG rfl rfl (by decide) (Or.inr ⟨_, rfl⟩) rfl ?_
      refine g_iconst rfl ⟨by decide, by decide⟩ ?_
      refine x_iald (v := ((t_all 1 T len).2.1)) rfl rfl (by decide) (by decide) (by decide) rfl ?_
      refine g_if_ne (tgt := 115) rfl (by decide) (fun _ => ?_) (fun hx => absurd hx (by omega))
      refine g_iconst rfl ⟨by decide, by decide⟩ ?_
      refine x_zreturn rfl rfl (Or.inl rfl) ?_
      rw [t_flt_f hR3 (by omega)]
      exact ⟨congrArg (fun x => some (tI x)) (if_neg (show ¬ ((t_all 1 T len).2.1) = 0 by omega)).symm, rfl, rfl, fun y => absurd (show ((t_all 1 T len).2.1) = 0 from y) (by omega), m_H_m hF9⟩
set_option maxHeartbeats 4000000 in
set_option maxRecDepth 100000 in
theorem s_lin2 {G : tp_G} {μ : tp_M} (hG : tp_Gf G = true) {T : Int → Int} {len i f p it m ft lo : Int} {D : Int → Int} (hT : ∀ j, 0 ≤ T j ∧ T j ≤ 255) (h0 : 0 ≤ i) (h1 : i ≤ len) (h : ms T len f p m ft lo D μ) (ht : rtk T len i μ) (hI : t_I 2 i (f, p, it, m, ft, D)) (hlo : (2 : Int) = 2 → lo = min 12 it) {V : Int} (hV : ∀ j, 19 ≤ j → j < 20 → V ≠ t_wc j) (hwx : t_wx 2 T len i = -1) : tp_k G mX12_lossLine [tR (some 201), tL (V), tI (t_s T len i)] μ (fun r μ' => l_P 2 T len i (f, p, it, m, ft, D) μ r μ') := by
  refine tp_ok_of mX12_lossLine_ok rfl (Nat.le_refl _) ?_
  have hn19 : tp_lcmp (V) (1819243365) ≠ 0 := fun z => hV 19 (by decide) (by decide) ((q_lc_eq.1 z).trans (by decide))
  refine g_lload_n rfl rfl ?_
  refine g_ldc2 (z := 1819243365) rfl rfl ⟨by decide, by decide⟩ ?_
  refine g_lcmp rfl ?_
  refine g_if_eq (tgt := 13) rfl (by decide) (fun hx => absurd hx (by omega)) (fun _ => ?_)
  refine g_aload_n rfl rfl ?_
  refine g_iV (as := []) mX12_fails_ok rfl rfl rfl rfl rfl rfl (by decide) rfl rfl rfl ?_
  refine g_aload_n rfl rfl ?_
  refine g_aload_n rfl rfl ?_
  refine x_geti (v := (t_s T len i)) rfl rfl (by decide) (Or.inl rfl) ht.2.2.1 ?_
  refine g_puti rfl rfl (by decide) rfl rfl ?_
  refine g_iconst rfl ⟨by decide, by decide⟩ ?_
  refine x_zreturn rfl rfl (Or.inl rfl) ?_
  intro _
  refine x_zreturn rfl rfl (Or.inl rfl) ?_
  rw [l_P]
  exact ⟨mF_pi (by decide) mF_rf, Or.inl ⟨rfl, _, t_ln_n hwx, rfl⟩⟩
set_option maxHeartbeats 4000000 in
set_option maxRecDepth 100000 in
theorem s_cl2 {G : tp_G} {μ : tp_M} (hG : tp_Gf G = true) {T : Int → Int} {len i f p it m ft lo : Int} {D : Int → Int} (hT : ∀ j, 0 ≤ T j ∧ T j ≤ 255) (h0 : 0 ≤ i) (h1 : i ≤ len) (h : ms T len f p m ft lo D μ) (ht : rtk T len i μ) (hI : t_I 2 i (f, p, it, m, ft, D)) (hlo : (2 : Int) = 2 → lo = min 12 it) : tp_k G mX12_lossLine [tR (some 201), tL (t_wd T len i), tI (t_s T len i)] μ (fun r μ' => l_P 2 T len i (f, p, it, m, ft, D) μ r μ') := by
  have hV := t_wx_V (so := 2) (T := T) ⟨by decide, by decide⟩ h0 h1
  have hr := t_wx_r (so := 2) (T := T) (len := len) (i := i) ⟨by decide, by decide⟩
  rcases (show t_wx 2 T len i = -1 ∨ t_wx 2 T len i = 19 by clear hI; omega) with u | u
  · exact s_lin2 hG hT h0 h1 h ht hI hlo (fun j j0 j1 => by rw [show j = 19 by omega]; exact (hV.2 u).2.2.1 rfl) u
  · rw [hV.1 (by omega), u, show t_wc 19 = 1819243365 by decide]; exact s_li19 hG hT h0 h1 h ht hI hlo u
set_option maxHeartbeats 4000000 in
set_option maxRecDepth 100000 in
theorem s_line2 {G : tp_G} {μ : tp_M} (hG : tp_Gf G = true) {T : Int → Int} {len i f p it m ft lo : Int} {D : Int → Int} (hT : ∀ j, 0 ≤ T j ∧ T j ≤ 255) (h0 : 0 ≤ i) (h1 : i ≤ len) (h : ms T len f p m ft lo D μ) (ht : rtk T len i μ) (hI : t_I 2 i (f, p, it, m, ft, D)) (hlo : (2 : Int) = 2 → lo = min 12 it) {V : Int} (hV : V = t_wd T len i) : tp_k G mX12_line [tR (some 201), tI 2, tL (V), tI (t_s T len i)] μ (fun r μ' => l_P 2 T len i (f, p, it, m, ft, D) μ r μ') := by
  refine tp_ok_of mX12_line_ok rfl (Nat.le_refl _) ?_
  refine g_iload_n rfl rfl ?_
  refine g_if_ne (tgt := 14) rfl (by decide) (fun _ => ?_) (fun hx => absurd hx (by omega))
  refine g_iload_n rfl rfl ?_
  refine g_iconst rfl ⟨by decide, by decide⟩ ?_
  refine g_icmp_ne (tgt := 29) rfl (by decide) (fun _ => ?_) (fun hx => absurd hx (by omega))
  refine g_iload_n rfl rfl ?_
  refine g_iconst rfl ⟨by decide, by decide⟩ ?_
  refine g_icmp_ne (tgt := 44) rfl (by decide) (fun hx => absurd hx (by omega)) (fun _ => ?_)
  refine g_aload_n rfl rfl ?_
  refine g_lload_n rfl rfl ?_
  refine g_iload rfl rfl ?_
  refine g_cV (as := [tL (V), tI (t_s T len i)]) ((show tp_k G mX12_lossLine [tR (some 201), tL V, tI (t_s T len i)] μ _ by rw [hV]; exact s_cl2 hG hT h0 h1 h ht hI hlo)) rfl rfl mX12_lossLine_ok rfl rfl rfl (by decide) rfl rfl rfl ?_
  rintro _ w1 ⟨hF1, ⟨rfl, hx1⟩ | ⟨rfl, hx1⟩⟩ _
  · have hF1 := hF1
    refine g_goto (tgt := 51) rfl (by decide) ?_
    refine x_zreturn rfl rfl (Or.inl rfl) ?_
    rw [l_P]
    exact ⟨hF1, Or.inl ⟨rfl, hx1⟩⟩
  · have hF1 := hF1
    refine g_goto (tgt := 51) rfl (by decide) ?_
    refine x_zreturn rfl rfl (Or.inr rfl) ?_
    rw [l_P]
    exact ⟨hF1, Or.inr ⟨rfl, hx1⟩⟩
set_option maxHeartbeats 4000000 in
set_option maxRecDepth 100000 in
theorem l_alz2 {G : tp_G} (hG : tp_Gf G = true) {T : Int → Int} {len : Int} (hT : ∀ j, 0 ≤ T j ∧ T j ≤ 255) (hlen : 0 ≤ len ∧ len ≤ 600) {μ0 : tp_M} {R : (Int × Int) × t_S} : ∀ k, k ≤ len + 1 → ∀ (μ : tp_M) (i : Int) (st : t_S), 0 ≤ k → k ≤ i → i ≤ len → rtk T len i μ → m_Rel 2 st T len μ → t_I 2 i st → t_go 2 T len (len + 1 - k).toNat i st = R → mF μ0 μ → tp_g G mX12_allLines 2 [some (tR (some 201)), some (tI 2), some (tI 1)] [] μ (fun r μ' => a_P 2 T len R μ0 r μ') := by
  refine tp_ind _ ?_
  intro k hkN ih μ i st h0 hki hil ht hR hI hgo hF
  obtain ⟨f, p, it, m, ft, D⟩ := st
  obtain ⟨lo, hlo, hm⟩ := hR
  have hrk := t_rk_i (t_k_b T len i)
  refine g_iload_n rfl rfl ?_
  refine g_if_eq (tgt := 67) rfl (by decide) (fun hx => absurd hx (by omega)) (fun _ => ?_)
  refine g_aload_n rfl rfl ?_
  refine x_geti (v := (t_rk (t_k T len i))) rfl rfl (by decide) (Or.inl rfl) ht.2.1 ?_
  refine g_if_eq (tgt := 67) rfl (by decide) (fun h1 => ?_) (fun h1 => ?_)
  · refine g_iload_n rfl rfl ?_
    refine x_zreturn rfl rfl (Or.inr rfl) ?_
    rw [t_go_e (by omega) (by omega)] at hgo
    rw [← hgo]
    exact ⟨hF, Or.inr ⟨rfl, rfl, ⟨lo, hlo, hm⟩, ht.2.2.1.trans (t_k_0 hil (by omega))⟩⟩
  · refine g_aload_n rfl rfl ?_
    refine g_iload_n rfl rfl ?_
    refine g_aload_n rfl rfl ?_
    refine x_geti (v := (t_rk (t_k T len i))) rfl rfl (by decide) (Or.inl rfl) ht.2.1 ?_
    refine g_iconst rfl ⟨by decide, by decide⟩ ?_
    refine g_icmp_ne (tgt := 30) rfl (by decide) (fun h2 => ?_) (fun h2 => ?_)
    · refine g_lconst (b := 0) rfl rfl ⟨by decide, by decide⟩ ?_
      refine g_aload_n rfl rfl ?_
      refine x_geti (v := (t_s T len i)) rfl rfl (by decide) (Or.inl rfl) ht.2.2.1 ?_
      refine g_cV (as := [tI 2, tL (0), tI (t_s T len i)]) (s_line2 hG hT (by omega) hil hm ht hI hlo (t_wd_0 (by omega))) rfl rfl mX12_line_ok rfl rfl rfl (by decide) rfl rfl rfl ?_
      rintro _ w1 ⟨hF1, ⟨rfl, x1, hx1, hx2⟩ | ⟨rfl, j, st1, hj, htj, ⟨lo1, hlo1, hm1⟩, hn3, hy3⟩⟩ _
      · have hF1 := hF1
        refine g_istore_n rfl rfl rfl ?_
        refine g_iload_n rfl rfl ?_
        refine g_if_eq (tgt := 56) rfl (by decide) (fun _ => ?_) (fun hx => absurd hx (by omega))
        refine g_iload_n rfl rfl ?_
        refine g_if_eq (tgt := 2) rfl (by decide) (fun _ => ?_) (fun hx => absurd hx (by omega))
        refine g_iload_n rfl rfl ?_
        refine g_if_eq (tgt := 67) rfl (by decide) (fun _ => ?_) (fun hx => absurd hx (by omega))
        refine g_iload_n rfl rfl ?_
        refine x_zreturn rfl rfl (Or.inl rfl) ?_
        rw [t_go_0 (by omega) (by omega) hx1] at hgo
        rw [← hgo]
        exact ⟨mF_tr hF hF1, Or.inl ⟨rfl, rfl, hx2⟩⟩
      · have hrj := t_rk_i (t_k_b T len j)
        have hbj := t_e_B (T := T) hj.2
        have hbk := t_s_B (T := T) hj.2
        refine g_istore_n rfl rfl rfl ?_
        refine g_iload_n rfl rfl ?_
        refine g_if_eq (tgt := 56) rfl (by decide) (fun hx => absurd hx (by omega)) (fun _ => ?_)
        refine g_aload_n rfl rfl ?_
        refine x_geti (v := (t_rk (t_k T len j))) rfl rfl (by decide) (Or.inl rfl) htj.2.1 ?_
        refine g_iconst rfl ⟨by decide, by decide⟩ ?_
        refine g_icmp_eq (tgt := 56) rfl (by decide) (fun h3 => ?_) (fun h3 => ?_)
        · refine g_iload_n rfl rfl ?_
          refine g_if_eq (tgt := 2) rfl (by decide) (fun hx => absurd hx (by omega)) (fun _ => ?_)
          refine g_aload_n rfl rfl ?_
          refine g_cV (as := []) (s_tok9 hG hT hm1 (i := t_e T len j) (by omega) (by omega) htj.1) rfl rfl mX12_token_ok rfl rfl rfl (by decide) rfl rfl rfl ?_
          rintro _ w2 ⟨rfl, ht2, hm2, _, hF2⟩ _
          refine g_goto (tgt := 2) rfl (by decide) ?_
          have hok := t_lnI (T := T) (len := len) (so := 2) ⟨by decide, by decide⟩ (by omega) hil hI
          rw [hy3 (by omega)] at hok
          have hok2 := hok.2 rfl
          rw [t_go_1 (by omega) (by omega) (hy3 (by omega))] at hgo
          exact ih (by omega) _ (t_e T len j) st1 (by omega) (by have := hok2.1; have z : i < t_e T len j := this; omega) hok2.2.1 ht2 ⟨lo1, hlo1, hm2⟩ hok2.2.2 hgo (mF_tr (mF_tr hF hF1) hF2)
        · refine g_aload_n rfl rfl ?_
          refine g_iV (as := []) mX12_fails_ok rfl rfl rfl rfl rfl rfl (by decide) rfl rfl rfl ?_
          refine g_aload_n rfl rfl ?_
          refine g_aload_n rfl rfl ?_
          refine x_geti (v := (t_s T len j)) rfl rfl (by decide) (Or.inl rfl) htj.2.2.1 ?_
          refine g_puti rfl rfl (by decide) rfl rfl ?_
          refine g_iconst rfl ⟨by decide, by decide⟩ ?_
          refine x_zreturn rfl rfl (Or.inl rfl) ?_
          intro _
          refine g_istore_n rfl rfl rfl ?_
          refine g_iload_n rfl rfl ?_
          refine g_if_eq (tgt := 2) rfl (by decide) (fun _ => ?_) (fun hx => absurd hx (by omega))
          refine g_iload_n rfl rfl ?_
          refine g_if_eq (tgt := 67) rfl (by decide) (fun _ => ?_) (fun hx => absurd hx (by omega))
          refine g_iload_n rfl rfl ?_
          refine x_zreturn rfl rfl (Or.inl rfl) ?_
          rw [t_go_0 (by omega) (by omega) (hn3 (by omega))] at hgo
          rw [← hgo]
          exact ⟨mF_pi (by decide) (mF_tr hF hF1), Or.inl ⟨rfl, rfl, rfl⟩⟩
    · refine g_aload_n rfl rfl ?_
      refine g_getl rfl rfl (by decide) rfl ?_
      refine g_goto (tgt := 31) rfl (by decide) ?_
      refine g_aload_n rfl rfl ?_
      refine x_geti (v := (t_s T len i)) rfl rfl (by decide) (Or.inl rfl) ht.2.2.1 ?_
      refine g_cV (as := [tI 2, tL (μ.1 201 15), tI (t_s T len i)]) (s_line2 hG hT (by omega) hil hm ht hI hlo ht.2.2.2.2) rfl rfl mX12_line_ok rfl rfl rfl (by decide) rfl rfl rfl ?_
      rintro _ w1 ⟨hF1, ⟨rfl, x1, hx1, hx2⟩ | ⟨rfl, j, st1, hj, htj, ⟨lo1, hlo1, hm1⟩, hn3, hy3⟩⟩ _
      · have hF1 := hF1
        refine g_istore_n rfl rfl rfl ?_
        refine g_iload_n rfl rfl ?_
        refine g_if_eq (tgt := 56) rfl (by decide) (fun _ => ?_) (fun hx => absurd hx (by omega))
        refine g_iload_n rfl rfl ?_
        refine g_if_eq (tgt := 2) rfl (by decide) (fun _ => ?_) (fun hx => absurd hx (by omega))
        refine g_iload_n rfl rfl ?_
        refine g_if_eq (tgt := 67) rfl (by decide) (fun _ => ?_) (fun hx => absurd hx (by omega))
        refine g_iload_n rfl rfl ?_
        refine x_zreturn rfl rfl (Or.inl rfl) ?_
        rw [t_go_0 (by omega) (by omega) hx1] at hgo
        rw [← hgo]
        exact ⟨mF_tr hF hF1, Or.inl ⟨rfl, rfl, hx2⟩⟩
      · have hrj := t_rk_i (t_k_b T len j)
        have hbj := t_e_B (T := T) hj.2
        have hbk := t_s_B (T := T) hj.2
        refine g_istore_n rfl rfl rfl ?_
        refine g_iload_n rfl rfl ?_
        refine g_if_eq (tgt := 56) rfl (by decide) (fun hx => absurd hx (by omega)) (fun _ => ?_)
        refine g_aload_n rfl rfl ?_
        refine x_geti (v := (t_rk (t_k T len j))) rfl rfl (by decide) (Or.inl rfl) htj.2.1 ?_
        refine g_iconst rfl ⟨by decide, by decide⟩ ?_
        refine g_icmp_eq (tgt := 56) rfl (by decide) (fun h4 => ?_) (fun h4 => ?_)
        · refine g_iload_n rfl rfl ?_
          refine g_if_eq (tgt := 2) rfl (by decide) (fun hx => absurd hx (by omega)) (fun _ => ?_)
          refine g_aload_n rfl rfl ?_
          refine g_cV (as := []) (s_tok9 hG hT hm1 (i := t_e T len j) (by omega) (by omega) htj.1) rfl rfl mX12_token_ok rfl rfl rfl (by decide) rfl rfl rfl ?_
          rintro _ w2 ⟨rfl, ht2, hm2, _, hF2⟩ _
          refine g_goto (tgt := 2) rfl (by decide) ?_
          have hok := t_lnI (T := T) (len := len) (so := 2) ⟨by decide, by decide⟩ (by omega) hil hI
          rw [hy3 (by omega)] at hok
          have hok2 := hok.2 rfl
          rw [t_go_1 (by omega) (by omega) (hy3 (by omega))] at hgo
          exact ih (by omega) _ (t_e T len j) st1 (by omega) (by have := hok2.1; have z : i < t_e T len j := this; omega) hok2.2.1 ht2 ⟨lo1, hlo1, hm2⟩ hok2.2.2 hgo (mF_tr (mF_tr hF hF1) hF2)
        · refine g_aload_n rfl rfl ?_
          refine g_iV (as := []) mX12_fails_ok rfl rfl rfl rfl rfl rfl (by decide) rfl rfl rfl ?_
          refine g_aload_n rfl rfl ?_
          refine g_aload_n rfl rfl ?_
          refine x_geti (v := (t_s T len j)) rfl rfl (by decide) (Or.inl rfl) htj.2.2.1 ?_
          refine g_puti rfl rfl (by decide) rfl rfl ?_
          refine g_iconst rfl ⟨by decide, by decide⟩ ?_
          refine x_zreturn rfl rfl (Or.inl rfl) ?_
          intro _
          refine g_istore_n rfl rfl rfl ?_
          refine g_iload_n rfl rfl ?_
          refine g_if_eq (tgt := 2) rfl (by decide) (fun _ => ?_) (fun hx => absurd hx (by omega))
          refine g_iload_n rfl rfl ?_
          refine g_if_eq (tgt := 67) rfl (by decide) (fun _ => ?_) (fun hx => absurd hx (by omega))
          refine g_iload_n rfl rfl ?_
          refine x_zreturn rfl rfl (Or.inl rfl) ?_
          rw [t_go_0 (by omega) (by omega) (hn3 (by omega))] at hgo
          rw [← hgo]
          exact ⟨mF_pi (by decide) (mF_tr hF hF1), Or.inl ⟨rfl, rfl, rfl⟩⟩
set_option maxHeartbeats 4000000 in
set_option maxRecDepth 100000 in
theorem s_alz2 {G : tp_G} {μ : tp_M} (hG : tp_Gf G = true) {T : Int → Int} {len : Int} {st : t_S} (hT : ∀ j, 0 ≤ T j ∧ T j ≤ 255) (hlen : 0 ≤ len ∧ len ≤ 600) (ht : rtk T len 0 μ) (hR : m_Rel 2 st T len μ) (hI : t_I 2 0 st) : tp_k G mX12_allLines [tR (some 201), tI 2] μ (fun r μ' => a_P 2 T len (t_go 2 T len (len + 1 - 0).toNat 0 st) μ r μ') := by
  refine tp_ok_of mX12_allLines_ok rfl (Nat.le_refl _) ?_
  refine g_iconst rfl ⟨by decide, by decide⟩ ?_
  refine g_istore_n rfl rfl rfl ?_
  exact l_alz2 (μ0 := μ) hG hT hlen 0 (by omega) _ 0 st (by omega) (by omega) hlen.1 ht hR hI rfl mF_rf
set_option maxHeartbeats 4000000 in
set_option maxRecDepth 100000 in
theorem l_af2 {G : tp_G} (hG : tp_Gf G = true) {T : Int → Int} {len : Int} {μ0 : tp_M} (hC : rd_C T len μ0) : ∀ k, k ≤ 129 → ∀ (μ : tp_M), 0 ≤ k → (∀ j, 0 ≤ j → j < k → μ.1 211 j = 0) → mF μ0 μ → tp_g G mX12_atFirst 2 [some (tR (some 201)), some (tI 2), some (tI k)] [] μ (fun r μ' => r = none ∧ μ'.1 201 10 = 0 ∧ ms T len 0 0 0 (-1) 0 (t_d0 2) μ' ∧ mF μ0 μ') := by
  refine tp_ind _ ?_
  intro k hkN ih μ h0 hz hF
  refine g_iload_n rfl rfl ?_
  refine g_sipush rfl ⟨by decide, by decide⟩ (by decide) ?_
  refine g_icmp_ge (tgt := 22) rfl (by decide) (fun h1 => ?_) (fun h1 => ?_)
  · refine g_iload_n rfl rfl ?_
    refine g_if_ne (tgt := 82) rfl (by decide) (fun _ => ?_) (fun hx => absurd hx (by omega))
    refine g_aload_n rfl rfl ?_
    refine g_iconst rfl ⟨by decide, by decide⟩ ?_
    refine g_puti rfl rfl (by decide) rfl rfl ?_
    refine g_aload_n rfl rfl ?_
    refine g_iconst rfl ⟨by decide, by decide⟩ ?_
    refine g_puti rfl rfl (by decide) rfl rfl ?_
    refine g_aload_n rfl rfl ?_
    refine g_iconst rfl ⟨by decide, by decide⟩ ?_
    refine g_puti rfl rfl (by decide) rfl rfl ?_
    refine g_aload_n rfl rfl ?_
    refine g_iconst rfl ⟨by decide, by decide⟩ ?_
    refine g_puti rfl rfl (by decide) rfl rfl ?_
    refine g_aload_n rfl rfl ?_
    refine g_iconst rfl ⟨by decide, by decide⟩ ?_
    refine g_puti rfl rfl (by decide) rfl rfl ?_
    refine x_return rfl rfl ?_
    have hz9 : ∀ j, 0 ≤ j → j < 129 → μ.1 211 j = (fun _ => 0 : Int → Int) j := fun j j0 j1 => hz j j0 (by omega)
    have hF9 := hF
    rw [← t_d0_n (show (2 : Int) ≠ 0 by decide)]
    exact ⟨rfl, rfl, ⟨rd_C_m (mF_pi (by decide) (mF_pi (by decide) (mF_pi (by decide) (mF_pi (by decide) (mF_pi (by decide) hF))))) hC, ⟨rfl, fun z => absurd rfl z⟩, rfl, rfl, rfl, (told_n (told_n (told_n (told_n (told_n hz9)))))⟩, (mF_pi (by decide) (mF_pi (by decide) (mF_pi (by decide) (mF_pi (by decide) (mF_pi (by decide) hF)))))⟩
  · refine g_aload_n rfl rfl ?_
    refine x_getF (r := 211) hG rfl rfl (by decide) (Or.inr ⟨_, rfl⟩) rfl ?_
    refine g_iload_n rfl rfl ?_
    refine g_iconst rfl ⟨by decide, by decide⟩ ?_
    refine g_iast rfl rfl (by decide) (by omega) (by omega) ?_
    refine x_iinc (z := k + 1) rfl rfl (by omega) ⟨by omega, by omega⟩ rfl rfl ?_
    refine g_goto (tgt := 2) rfl (by decide) ?_
    exact ih (by omega) _ (by omega) (fun j j0 j1 => by
      by_cases q : j = k
      · rw [q, tp_pi_at]
      · rw [tp_pi_ix q]; exact hz j j0 (by omega)) (mF_pt hF)
set_option maxHeartbeats 4000000 in
set_option maxRecDepth 100000 in
theorem s_af2 {G : tp_G} {μ : tp_M} (hG : tp_Gf G = true) {T : Int → Int} {len : Int} (hC : rd_C T len μ) : tp_k G mX12_atFirst [tR (some 201), tI 2] μ (fun r μ' => r = none ∧ μ'.1 201 10 = 0 ∧ ms T len 0 0 0 (-1) 0 (t_d0 2) μ' ∧ mF μ μ') := by
  refine tp_ok_of mX12_atFirst_ok rfl (Nat.le_refl _) ?_
  refine g_iconst rfl ⟨by decide, by decide⟩ ?_
  refine g_istore_n rfl rfl rfl ?_
  exact l_af2 (μ0 := μ) hG hC 0 (by omega) _ (by omega) (fun j j0 j1 => by omega) mF_rf
set_option maxHeartbeats 4000000 in
set_option maxRecDepth 100000 in
theorem s_rtx2 {G : tp_G} {μ : tp_M} (hG : tp_Gf G = true) {T : Int → Int} {len : Int} (hT : ∀ j, 0 ≤ T j ∧ T j ≤ 255) (hC : rd_C T len μ) : tp_k G mX12_readText [tR (some 201), tI 2] μ (fun r μ' => r = some (tI (if (t_flt 2 T len).1 = 0 then 1 else 0)) ∧ μ'.1 204 0 = (t_flt 2 T len).1 ∧ μ'.1 205 0 = (t_flt 2 T len).2 ∧ ((t_flt 2 T len).1 = 0 → ∀ j, 0 ≤ j → j < 129 → μ'.1 211 j = t_tld 2 T len j) ∧ m_H μ μ') := by
  refine tp_ok_of mX12_readText_ok rfl (Nat.le_refl _) ?_
  have hlen := hC.2.1
  refine g_aload_n rfl rfl ?_
  refine g_iload_n rfl rfl ?_
  refine g_cV (as := [tI 2]) (s_af2 hG hC) rfl rfl mX12_atFirst_ok rfl rfl rfl (by decide) rfl rfl rfl ?_
  rintro _ w1 ⟨rfl, hnx1, hm1, hF1⟩ _
  refine g_aload_n rfl rfl ?_
  refine g_cV (as := []) (s_tok9 hG hT hm1 (i := 0) (by omega) hlen.1 hnx1) rfl rfl mX12_token_ok rfl rfl rfl (by decide) rfl rfl rfl ?_
  rintro _ w2 ⟨rfl, ht2, hm2, _, hF2⟩ _
  refine g_aload_n rfl rfl ?_
  refine g_iload_n rfl rfl ?_
  refine g_cV (as := [tI 2]) (s_alz2 (st := t_s0 2) hG hT hlen ht2 ⟨0, fun _ => by decide, hm2⟩ (t_I0 ⟨by decide, by decide⟩)) rfl rfl mX12_allLines_ok rfl rfl rfl (by decide) rfl rfl rfl ?_
  rintro _ w3 ⟨hF3, ⟨hR3, rfl, h16⟩ | ⟨hR3, rfl, ⟨lo9, hlo9, hm9⟩, hb9⟩⟩ _
  · have hF9 := mF_tr (mF_tr hF1 hF2) hF3
    change (t_all 2 T len).1.1 = 0 at hR3
    change _ = (t_all 2 T len).1.2 at h16
    refine g_istore_n rfl rfl rfl ?_
    refine g_iload_n rfl rfl ?_
    refine g_if_eq (tgt := 52) rfl (by decide) (fun _ => ?_) (fun hx => absurd hx (by omega))
    refine g_aload_n rfl rfl ?_
    refine x_getF (r := 204) hG rfl rfl (by decide) (Or.inr ⟨_, rfl⟩) rfl ?_
    refine g_iconst rfl ⟨by decide, by decide⟩ ?_
    refine g_iload_n rfl rfl ?_
    refine g_if_eq (tgt := 68) rfl (by decide) (fun _ => ?_) (fun hx => absurd hx (by omega))
    refine g_iconst rfl ⟨by decide, by decide⟩ ?_
    refine g_iast rfl rfl (by decide) (by decide) (by decide) ?_
    refine g_aload_n rfl rfl ?_
    refine x_getF (r := 205) hG rfl rfl (by decide) (Or.inr ⟨_, rfl⟩) rfl ?_
    refine g_iconst rfl ⟨by decide, by decide⟩ ?_
    refine g_iload_n rfl rfl ?_
    refine g_if_ne (tgt := 86) rfl (by decide) (fun hx => absurd hx (by omega)) (fun _ => ?_)
    refine g_aload_n rfl rfl ?_
    refine x_geti (v := ((t_all 2 T len).1.2)) rfl rfl (by decide) (Or.inl rfl) h16 ?_
    refine g_goto (tgt := 101) rfl (by decide) ?_
    refine g_iast rfl rfl (by decide) (by decide) (by decide) ?_
    refine g_aload_n rfl rfl ?_
    refine x_getF (r := 204) hG rfl rfl (by decide) (Or.inr ⟨_, rfl⟩) rfl ?_
    refine g_iconst rfl ⟨by decide, by decide⟩ ?_
    refine x_iald (v := 1) rfl rfl (by decide) (by decide) (by decide) rfl ?_
    refine g_if_ne (tgt := 115) rfl (by decide) (fun _ => ?_) (fun hx => absurd hx (by omega))
    refine g_iconst rfl ⟨by decide, by decide⟩ ?_
    refine x_zreturn rfl rfl (Or.inl rfl) ?_
    rw [t_flt_0 hR3]
    exact ⟨rfl, rfl, rfl, fun y => absurd (show (1 : Int) = 0 from y) (by decide), m_H_m hF9⟩
  · have hF9 := mF_tr (mF_tr hF1 hF2) hF3
    change (t_all 2 T len).1.1 = 1 at hR3
    change ms T len (t_all 2 T len).2.1 (t_all 2 T len).2.2.1 (t_all 2 T len).2.2.2.2.1 (t_all 2 T len).2.2.2.2.2.1 lo9 (t_all 2 T len).2.2.2.2.2.2 w3 at hm9
    have hf0 : (t_all 2 T len).2.1 = 0 ∨ (t_all 2 T len).2.1 = 2 ∨ (t_all 2 T len).2.1 = 3 := by
      obtain ⟨i9, hi9⟩ := t_go_I (T := T) (len := len) (so := 2) ⟨by decide, by decide⟩ (len + 1 - 0).toNat 0 (t_s0 2) (by decide) hlen.1 (t_I0 ⟨by decide, by decide⟩) hR3
      exact hi9.1
    refine g_istore_n rfl rfl rfl ?_
    refine g_iload_n rfl rfl ?_
    refine g_if_eq (tgt := 52) rfl (by decide) (fun hx => absurd hx (by omega)) (fun _ => ?_)
    refine g_iload_n rfl rfl ?_
    refine g_if_ne (tgt := 52) rfl (by decide) (fun _ => ?_) (fun hx => absurd hx (by omega))
    refine g_aload_n rfl rfl ?_
    refine x_getF (r := 204) hG rfl rfl (by decide) (Or.inr ⟨_, rfl⟩) rfl ?_
    refine g_iconst rfl ⟨by decide, by decide⟩ ?_
    refine g_iload_n rfl rfl ?_
    refine g_if_eq (tgt := 68) rfl (by decide) (fun hx => absurd hx (by omega)) (fun _ => ?_)
    refine g_aload_n rfl rfl ?_
    refine x_geti (v := ((t_all 2 T len).2.1)) rfl rfl (by decide) (Or.inl rfl) hm9.2.1.1 ?_
    refine g_goto (tgt := 69) rfl (by decide) ?_
    refine g_iast rfl rfl (by decide) (by decide) (by decide) ?_
    refine g_aload_n rfl rfl ?_
    refine x_getF (r := 205) hG rfl rfl (by decide) (Or.inr ⟨_, rfl⟩) rfl ?_
    refine g_iconst rfl ⟨by decide, by decide⟩ ?_
    refine g_iload_n rfl rfl ?_
    refine g_if_ne (tgt := 86) rfl (by decide) (fun _ => ?_) (fun hx => absurd hx (by omega))
    refine g_aload_n rfl rfl ?_
    refine x_geti (v := ((t_all 2 T len).2.1)) rfl rfl (by decide) (Or.inl rfl) hm9.2.1.1 ?_
    refine g_if_le (tgt := 100) rfl (by decide) (fun h1 => ?_) (fun h1 => ?_)
    · refine g_iconst rfl ⟨by decide, by decide⟩ ?_
      refine g_iast rfl rfl (by decide) (by decide) (by decide) ?_
      refine g_aload_n rfl rfl ?_
      refine x_getF (r := 204) hG rfl rfl (by decide) (Or.inr ⟨_, rfl⟩) rfl ?_
      refine g_iconst rfl ⟨by decide, by decide⟩ ?_
      refine x_iald (v := ((t_all 2 T len).2.1)) rfl rfl (by decide) (by decide) (by decide) rfl ?_
      refine g_if_ne (tgt := 115) rfl (by decide) (fun hx => absurd hx (by omega)) (fun _ => ?_)
      refine g_iconst rfl ⟨by decide, by decide⟩ ?_
      refine g_goto (tgt := 116) rfl (by decide) ?_
      refine x_zreturn rfl rfl (Or.inr rfl) ?_
      rw [t_flt_y hR3 (by omega) (fun z => absurd z (by decide))]
      exact ⟨rfl, (by show ((t_all 2 T len).2.1) = 0; omega), rfl, fun _ => fun j j0 j1 => by rw [tp_pi_ne (by omega), tp_pi_ne (by omega)]; exact hm9.2.2.2.2.2 j j0 j1, m_H_m hF9⟩
    · refine g_aload_n rfl rfl ?_
      refine x_geti (v := ((t_all 2 T len).2.2.1)) rfl rfl (by decide) (Or.inl rfl) (hm9.2.1.2 (by omega)) ?_
      refine g_goto (tgt := 101) rfl (by decide) ?_
      refine g_iast rfl rfl (by decide) (by decide) (by decide) ?_
      refine g_aload_n rfl rfl ?_
      refine x_getF (r := 204) hG rfl rfl (by decide) (Or.inr ⟨_, rfl⟩) rfl ?_
      refine g_iconst rfl ⟨by decide, by decide⟩ ?_
      refine x_iald (v := ((t_all 2 T len).2.1)) rfl rfl (by decide) (by decide) (by decide) rfl ?_
      refine g_if_ne (tgt := 115) rfl (by decide) (fun _ => ?_) (fun hx => absurd hx (by omega))
      refine g_iconst rfl ⟨by decide, by decide⟩ ?_
      refine x_zreturn rfl rfl (Or.inl rfl) ?_
      rw [t_flt_f hR3 (by omega)]
      exact ⟨congrArg (fun x => some (tI x)) (if_neg (show ¬ ((t_all 2 T len).2.1) = 0 by omega)).symm, rfl, rfl, fun y => absurd (show ((t_all 2 T len).2.1) = 0 from y) (by omega), m_H_m hF9⟩
set_option maxHeartbeats 4000000 in
set_option maxRecDepth 100000 in
theorem s_lin3 {G : tp_G} {μ : tp_M} (hG : tp_Gf G = true) {T : Int → Int} {len i f p it m ft lo : Int} {D : Int → Int} (hT : ∀ j, 0 ≤ T j ∧ T j ≤ 255) (h0 : 0 ≤ i) (h1 : i ≤ len) (h : ms T len f p m ft lo D μ) (ht : rtk T len i μ) (hI : t_I 3 i (f, p, it, m, ft, D)) (hlo : (3 : Int) = 2 → lo = min 12 it) {V : Int} (hV : ∀ j, 20 ≤ j → j < 21 → V ≠ t_wc j) (hwx : t_wx 3 T len i = -1) : tp_k G mX12_logLine [tR (some 201), tL (V), tI (t_s T len i)] μ (fun r μ' => l_P 3 T len i (f, p, it, m, ft, D) μ r μ') := by
  refine tp_ok_of mX12_logLine_ok rfl (Nat.le_refl _) ?_
  have hn20 : tp_lcmp (V) (7561591) ≠ 0 := fun z => hV 20 (by decide) (by decide) ((q_lc_eq.1 z).trans (by decide))
  refine g_lload_n rfl rfl ?_
  refine g_ldc2 (z := 7561591) rfl rfl ⟨by decide, by decide⟩ ?_
  refine g_lcmp rfl ?_
  refine g_if_eq (tgt := 13) rfl (by decide) (fun hx => absurd hx (by omega)) (fun _ => ?_)
  refine g_aload_n rfl rfl ?_
  refine g_iV (as := []) mX12_fails_ok rfl rfl rfl rfl rfl rfl (by decide) rfl rfl rfl ?_
  refine g_aload_n rfl rfl ?_
  refine g_aload_n rfl rfl ?_
  refine x_geti (v := (t_s T len i)) rfl rfl (by decide) (Or.inl rfl) ht.2.2.1 ?_
  refine g_puti rfl rfl (by decide) rfl rfl ?_
  refine g_iconst rfl ⟨by decide, by decide⟩ ?_
  refine x_zreturn rfl rfl (Or.inl rfl) ?_
  intro _
  refine x_zreturn rfl rfl (Or.inl rfl) ?_
  rw [l_P]
  exact ⟨mF_pi (by decide) mF_rf, Or.inl ⟨rfl, _, t_ln_n hwx, rfl⟩⟩
set_option maxHeartbeats 4000000 in
set_option maxRecDepth 100000 in
theorem s_cl3 {G : tp_G} {μ : tp_M} (hG : tp_Gf G = true) {T : Int → Int} {len i f p it m ft lo : Int} {D : Int → Int} (hT : ∀ j, 0 ≤ T j ∧ T j ≤ 255) (h0 : 0 ≤ i) (h1 : i ≤ len) (h : ms T len f p m ft lo D μ) (ht : rtk T len i μ) (hI : t_I 3 i (f, p, it, m, ft, D)) (hlo : (3 : Int) = 2 → lo = min 12 it) : tp_k G mX12_logLine [tR (some 201), tL (t_wd T len i), tI (t_s T len i)] μ (fun r μ' => l_P 3 T len i (f, p, it, m, ft, D) μ r μ') := by
  have hV := t_wx_V (so := 3) (T := T) ⟨by decide, by decide⟩ h0 h1
  have hr := t_wx_r (so := 3) (T := T) (len := len) (i := i) ⟨by decide, by decide⟩
  rcases (show t_wx 3 T len i = -1 ∨ t_wx 3 T len i = 20 by clear hI; omega) with u | u
  · exact s_lin3 hG hT h0 h1 h ht hI hlo (fun j j0 j1 => by rw [show j = 20 by omega]; exact (hV.2 u).2.2.2 rfl) u
  · rw [hV.1 (by omega), u, show t_wc 20 = 7561591 by decide]; exact s_li20 hG hT h0 h1 h ht hI hlo u
set_option maxHeartbeats 4000000 in
set_option maxRecDepth 100000 in
theorem s_line3 {G : tp_G} {μ : tp_M} (hG : tp_Gf G = true) {T : Int → Int} {len i f p it m ft lo : Int} {D : Int → Int} (hT : ∀ j, 0 ≤ T j ∧ T j ≤ 255) (h0 : 0 ≤ i) (h1 : i ≤ len) (h : ms T len f p m ft lo D μ) (ht : rtk T len i μ) (hI : t_I 3 i (f, p, it, m, ft, D)) (hlo : (3 : Int) = 2 → lo = min 12 it) {V : Int} (hV : V = t_wd T len i) : tp_k G mX12_line [tR (some 201), tI 3, tL (V), tI (t_s T len i)] μ (fun r μ' => l_P 3 T len i (f, p, it, m, ft, D) μ r μ') := by
  refine tp_ok_of mX12_line_ok rfl (Nat.le_refl _) ?_
  refine g_iload_n rfl rfl ?_
  refine g_if_ne (tgt := 14) rfl (by decide) (fun _ => ?_) (fun hx => absurd hx (by omega))
  refine g_iload_n rfl rfl ?_
  refine g_iconst rfl ⟨by decide, by decide⟩ ?_
  refine g_icmp_ne (tgt := 29) rfl (by decide) (fun _ => ?_) (fun hx => absurd hx (by omega))
  refine g_iload_n rfl rfl ?_
  refine g_iconst rfl ⟨by decide, by decide⟩ ?_
  refine g_icmp_ne (tgt := 44) rfl (by decide) (fun _ => ?_) (fun hx => absurd hx (by omega))
  refine g_aload_n rfl rfl ?_
  refine g_lload_n rfl rfl ?_
  refine g_iload rfl rfl ?_
  refine g_cV (as := [tL (V), tI (t_s T len i)]) ((show tp_k G mX12_logLine [tR (some 201), tL V, tI (t_s T len i)] μ _ by rw [hV]; exact s_cl3 hG hT h0 h1 h ht hI hlo)) rfl rfl mX12_logLine_ok rfl rfl rfl (by decide) rfl rfl rfl ?_
  rintro _ w1 ⟨hF1, ⟨rfl, hx1⟩ | ⟨rfl, hx1⟩⟩ _
  · have hF1 := hF1
    refine x_zreturn rfl rfl (Or.inl rfl) ?_
    rw [l_P]
    exact ⟨hF1, Or.inl ⟨rfl, hx1⟩⟩
  · have hF1 := hF1
    refine x_zreturn rfl rfl (Or.inr rfl) ?_
    rw [l_P]
    exact ⟨hF1, Or.inr ⟨rfl, hx1⟩⟩
set_option maxHeartbeats 4000000 in
set_option maxRecDepth 100000 in
theorem l_alz3 {G : tp_G} (hG : tp_Gf G = true) {T : Int → Int} {len : Int} (hT : ∀ j, 0 ≤ T j ∧ T j ≤ 255) (hlen : 0 ≤ len ∧ len ≤ 600) {μ0 : tp_M} {R : (Int × Int) × t_S} : ∀ k, k ≤ len + 1 → ∀ (μ : tp_M) (i : Int) (st : t_S), 0 ≤ k → k ≤ i → i ≤ len → rtk T len i μ → m_Rel 3 st T len μ → t_I 3 i st → t_go 3 T len (len + 1 - k).toNat i st = R → mF μ0 μ → tp_g G mX12_allLines 2 [some (tR (some 201)), some (tI 3), some (tI 1)] [] μ (fun r μ' => a_P 3 T len R μ0 r μ') := by
  refine tp_ind _ ?_
  intro k hkN ih μ i st h0 hki hil ht hR hI hgo hF
  obtain ⟨f, p, it, m, ft, D⟩ := st
  obtain ⟨lo, hlo, hm⟩ := hR
  have hrk := t_rk_i (t_k_b T len i)
  refine g_iload_n rfl rfl ?_
  refine g_if_eq (tgt := 67) rfl (by decide) (fun hx => absurd hx (by omega)) (fun _ => ?_)
  refine g_aload_n rfl rfl ?_
  refine x_geti (v := (t_rk (t_k T len i))) rfl rfl (by decide) (Or.inl rfl) ht.2.1 ?_
  refine g_if_eq (tgt := 67) rfl (by decide) (fun h1 => ?_) (fun h1 => ?_)
  · refine g_iload_n rfl rfl ?_
    refine x_zreturn rfl rfl (Or.inr rfl) ?_
    rw [t_go_e (by omega) (by omega)] at hgo
    rw [← hgo]
    exact ⟨hF, Or.inr ⟨rfl, rfl, ⟨lo, hlo, hm⟩, ht.2.2.1.trans (t_k_0 hil (by omega))⟩⟩
  · refine g_aload_n rfl rfl ?_
    refine g_iload_n rfl rfl ?_
    refine g_aload_n rfl rfl ?_
    refine x_geti (v := (t_rk (t_k T len i))) rfl rfl (by decide) (Or.inl rfl) ht.2.1 ?_
    refine g_iconst rfl ⟨by decide, by decide⟩ ?_
    refine g_icmp_ne (tgt := 30) rfl (by decide) (fun h2 => ?_) (fun h2 => ?_)
    · refine g_lconst (b := 0) rfl rfl ⟨by decide, by decide⟩ ?_
      refine g_aload_n rfl rfl ?_
      refine x_geti (v := (t_s T len i)) rfl rfl (by decide) (Or.inl rfl) ht.2.2.1 ?_
      refine g_cV (as := [tI 3, tL (0), tI (t_s T len i)]) (s_line3 hG hT (by omega) hil hm ht hI hlo (t_wd_0 (by omega))) rfl rfl mX12_line_ok rfl rfl rfl (by decide) rfl rfl rfl ?_
      rintro _ w1 ⟨hF1, ⟨rfl, x1, hx1, hx2⟩ | ⟨rfl, j, st1, hj, htj, ⟨lo1, hlo1, hm1⟩, hn3, hy3⟩⟩ _
      · have hF1 := hF1
        refine g_istore_n rfl rfl rfl ?_
        refine g_iload_n rfl rfl ?_
        refine g_if_eq (tgt := 56) rfl (by decide) (fun _ => ?_) (fun hx => absurd hx (by omega))
        refine g_iload_n rfl rfl ?_
        refine g_if_eq (tgt := 2) rfl (by decide) (fun _ => ?_) (fun hx => absurd hx (by omega))
        refine g_iload_n rfl rfl ?_
        refine g_if_eq (tgt := 67) rfl (by decide) (fun _ => ?_) (fun hx => absurd hx (by omega))
        refine g_iload_n rfl rfl ?_
        refine x_zreturn rfl rfl (Or.inl rfl) ?_
        rw [t_go_0 (by omega) (by omega) hx1] at hgo
        rw [← hgo]
        exact ⟨mF_tr hF hF1, Or.inl ⟨rfl, rfl, hx2⟩⟩
      · have hrj := t_rk_i (t_k_b T len j)
        have hbj := t_e_B (T := T) hj.2
        have hbk := t_s_B (T := T) hj.2
        refine g_istore_n rfl rfl rfl ?_
        refine g_iload_n rfl rfl ?_
        refine g_if_eq (tgt := 56) rfl (by decide) (fun hx => absurd hx (by omega)) (fun _ => ?_)
        refine g_aload_n rfl rfl ?_
        refine x_geti (v := (t_rk (t_k T len j))) rfl rfl (by decide) (Or.inl rfl) htj.2.1 ?_
        refine g_iconst rfl ⟨by decide, by decide⟩ ?_
        refine g_icmp_eq (tgt := 56) rfl (by decide) (fun h3 => ?_) (fun h3 => ?_)
        · refine g_iload_n rfl rfl ?_
          refine g_if_eq (tgt := 2) rfl (by decide) (fun hx => absurd hx (by omega)) (fun _ => ?_)
          refine g_aload_n rfl rfl ?_
          refine g_cV (as := []) (s_tok9 hG hT hm1 (i := t_e T len j) (by omega) (by omega) htj.1) rfl rfl mX12_token_ok rfl rfl rfl (by decide) rfl rfl rfl ?_
          rintro _ w2 ⟨rfl, ht2, hm2, _, hF2⟩ _
          refine g_goto (tgt := 2) rfl (by decide) ?_
          have hok := t_lnI (T := T) (len := len) (so := 3) ⟨by decide, by decide⟩ (by omega) hil hI
          rw [hy3 (by omega)] at hok
          have hok2 := hok.2 rfl
          rw [t_go_1 (by omega) (by omega) (hy3 (by omega))] at hgo
          exact ih (by omega) _ (t_e T len j) st1 (by omega) (by have := hok2.1; have z : i < t_e T len j := this; omega) hok2.2.1 ht2 ⟨lo1, hlo1, hm2⟩ hok2.2.2 hgo (mF_tr (mF_tr hF hF1) hF2)
        · refine g_aload_n rfl rfl ?_
          refine g_iV (as := []) mX12_fails_ok rfl rfl rfl rfl rfl rfl (by decide) rfl rfl rfl ?_
          refine g_aload_n rfl rfl ?_
          refine g_aload_n rfl rfl ?_
          refine x_geti (v := (t_s T len j)) rfl rfl (by decide) (Or.inl rfl) htj.2.2.1 ?_
          refine g_puti rfl rfl (by decide) rfl rfl ?_
          refine g_iconst rfl ⟨by decide, by decide⟩ ?_
          refine x_zreturn rfl rfl (Or.inl rfl) ?_
          intro _
          refine g_istore_n rfl rfl rfl ?_
          refine g_iload_n rfl rfl ?_
          refine g_if_eq (tgt := 2) rfl (by decide) (fun _ => ?_) (fun hx => absurd hx (by omega))
          refine g_iload_n rfl rfl ?_
          refine g_if_eq (tgt := 67) rfl (by decide) (fun _ => ?_) (fun hx => absurd hx (by omega))
          refine g_iload_n rfl rfl ?_
          refine x_zreturn rfl rfl (Or.inl rfl) ?_
          rw [t_go_0 (by omega) (by omega) (hn3 (by omega))] at hgo
          rw [← hgo]
          exact ⟨mF_pi (by decide) (mF_tr hF hF1), Or.inl ⟨rfl, rfl, rfl⟩⟩
    · refine g_aload_n rfl rfl ?_
      refine g_getl rfl rfl (by decide) rfl ?_
      refine g_goto (tgt := 31) rfl (by decide) ?_
      refine g_aload_n rfl rfl ?_
      refine x_geti (v := (t_s T len i)) rfl rfl (by decide) (Or.inl rfl) ht.2.2.1 ?_
      refine g_cV (as := [tI 3, tL (μ.1 201 15), tI (t_s T len i)]) (s_line3 hG hT (by omega) hil hm ht hI hlo ht.2.2.2.2) rfl rfl mX12_line_ok rfl rfl rfl (by decide) rfl rfl rfl ?_
      rintro _ w1 ⟨hF1, ⟨rfl, x1, hx1, hx2⟩ | ⟨rfl, j, st1, hj, htj, ⟨lo1, hlo1, hm1⟩, hn3, hy3⟩⟩ _
      · have hF1 := hF1
        refine g_istore_n rfl rfl rfl ?_
        refine g_iload_n rfl rfl ?_
        refine g_if_eq (tgt := 56) rfl (by decide) (fun _ => ?_) (fun hx => absurd hx (by omega))
        refine g_iload_n rfl rfl ?_
        refine g_if_eq (tgt := 2) rfl (by decide) (fun _ => ?_) (fun hx => absurd hx (by omega))
        refine g_iload_n rfl rfl ?_
        refine g_if_eq (tgt := 67) rfl (by decide) (fun _ => ?_) (fun hx => absurd hx (by omega))
        refine g_iload_n rfl rfl ?_
        refine x_zreturn rfl rfl (Or.inl rfl) ?_
        rw [t_go_0 (by omega) (by omega) hx1] at hgo
        rw [← hgo]
        exact ⟨mF_tr hF hF1, Or.inl ⟨rfl, rfl, hx2⟩⟩
      · have hrj := t_rk_i (t_k_b T len j)
        have hbj := t_e_B (T := T) hj.2
        have hbk := t_s_B (T := T) hj.2
        refine g_istore_n rfl rfl rfl ?_
        refine g_iload_n rfl rfl ?_
        refine g_if_eq (tgt := 56) rfl (by decide) (fun hx => absurd hx (by omega)) (fun _ => ?_)
        refine g_aload_n rfl rfl ?_
        refine x_geti (v := (t_rk (t_k T len j))) rfl rfl (by decide) (Or.inl rfl) htj.2.1 ?_
        refine g_iconst rfl ⟨by decide, by decide⟩ ?_
        refine g_icmp_eq (tgt := 56) rfl (by decide) (fun h4 => ?_) (fun h4 => ?_)
        · refine g_iload_n rfl rfl ?_
          refine g_if_eq (tgt := 2) rfl (by decide) (fun hx => absurd hx (by omega)) (fun _ => ?_)
          refine g_aload_n rfl rfl ?_
          refine g_cV (as := []) (s_tok9 hG hT hm1 (i := t_e T len j) (by omega) (by omega) htj.1) rfl rfl mX12_token_ok rfl rfl rfl (by decide) rfl rfl rfl ?_
          rintro _ w2 ⟨rfl, ht2, hm2, _, hF2⟩ _
          refine g_goto (tgt := 2) rfl (by decide) ?_
          have hok := t_lnI (T := T) (len := len) (so := 3) ⟨by decide, by decide⟩ (by omega) hil hI
          rw [hy3 (by omega)] at hok
          have hok2 := hok.2 rfl
          rw [t_go_1 (by omega) (by omega) (hy3 (by omega))] at hgo
          exact ih (by omega) _ (t_e T len j) st1 (by omega) (by have := hok2.1; have z : i < t_e T len j := this; omega) hok2.2.1 ht2 ⟨lo1, hlo1, hm2⟩ hok2.2.2 hgo (mF_tr (mF_tr hF hF1) hF2)
        · refine g_aload_n rfl rfl ?_
          refine g_iV (as := []) mX12_fails_ok rfl rfl rfl rfl rfl rfl (by decide) rfl rfl rfl ?_
          refine g_aload_n rfl rfl ?_
          refine g_aload_n rfl rfl ?_
          refine x_geti (v := (t_s T len j)) rfl rfl (by decide) (Or.inl rfl) htj.2.2.1 ?_
          refine g_puti rfl rfl (by decide) rfl rfl ?_
          refine g_iconst rfl ⟨by decide, by decide⟩ ?_
          refine x_zreturn rfl rfl (Or.inl rfl) ?_
          intro _
          refine g_istore_n rfl rfl rfl ?_
          refine g_iload_n rfl rfl ?_
          refine g_if_eq (tgt := 2) rfl (by decide) (fun _ => ?_) (fun hx => absurd hx (by omega))
          refine g_iload_n rfl rfl ?_
          refine g_if_eq (tgt := 67) rfl (by decide) (fun _ => ?_) (fun hx => absurd hx (by omega))
          refine g_iload_n rfl rfl ?_
          refine x_zreturn rfl rfl (Or.inl rfl) ?_
          rw [t_go_0 (by omega) (by omega) (hn3 (by omega))] at hgo
          rw [← hgo]
          exact ⟨mF_pi (by decide) (mF_tr hF hF1), Or.inl ⟨rfl, rfl, rfl⟩⟩
set_option maxHeartbeats 4000000 in
set_option maxRecDepth 100000 in
theorem s_alz3 {G : tp_G} {μ : tp_M} (hG : tp_Gf G = true) {T : Int → Int} {len : Int} {st : t_S} (hT : ∀ j, 0 ≤ T j ∧ T j ≤ 255) (hlen : 0 ≤ len ∧ len ≤ 600) (ht : rtk T len 0 μ) (hR : m_Rel 3 st T len μ) (hI : t_I 3 0 st) : tp_k G mX12_allLines [tR (some 201), tI 3] μ (fun r μ' => a_P 3 T len (t_go 3 T len (len + 1 - 0).toNat 0 st) μ r μ') := by
  refine tp_ok_of mX12_allLines_ok rfl (Nat.le_refl _) ?_
  refine g_iconst rfl ⟨by decide, by decide⟩ ?_
  refine g_istore_n rfl rfl rfl ?_
  exact l_alz3 (μ0 := μ) hG hT hlen 0 (by omega) _ 0 st (by omega) (by omega) hlen.1 ht hR hI rfl mF_rf
set_option maxHeartbeats 4000000 in
set_option maxRecDepth 100000 in
theorem l_af3 {G : tp_G} (hG : tp_Gf G = true) {T : Int → Int} {len : Int} {μ0 : tp_M} (hC : rd_C T len μ0) : ∀ k, k ≤ 129 → ∀ (μ : tp_M), 0 ≤ k → (∀ j, 0 ≤ j → j < k → μ.1 211 j = 0) → mF μ0 μ → tp_g G mX12_atFirst 2 [some (tR (some 201)), some (tI 3), some (tI k)] [] μ (fun r μ' => r = none ∧ μ'.1 201 10 = 0 ∧ ms T len 0 0 0 (-1) 0 (t_d0 3) μ' ∧ mF μ0 μ') := by
  refine tp_ind _ ?_
  intro k hkN ih μ h0 hz hF
  refine g_iload_n rfl rfl ?_
  refine g_sipush rfl ⟨by decide, by decide⟩ (by decide) ?_
  refine g_icmp_ge (tgt := 22) rfl (by decide) (fun h1 => ?_) (fun h1 => ?_)
  · refine g_iload_n rfl rfl ?_
    refine g_if_ne (tgt := 82) rfl (by decide) (fun _ => ?_) (fun hx => absurd hx (by omega))
    refine g_aload_n rfl rfl ?_
    refine g_iconst rfl ⟨by decide, by decide⟩ ?_
    refine g_puti rfl rfl (by decide) rfl rfl ?_
    refine g_aload_n rfl rfl ?_
    refine g_iconst rfl ⟨by decide, by decide⟩ ?_
    refine g_puti rfl rfl (by decide) rfl rfl ?_
    refine g_aload_n rfl rfl ?_
    refine g_iconst rfl ⟨by decide, by decide⟩ ?_
    refine g_puti rfl rfl (by decide) rfl rfl ?_
    refine g_aload_n rfl rfl ?_
    refine g_iconst rfl ⟨by decide, by decide⟩ ?_
    refine g_puti rfl rfl (by decide) rfl rfl ?_
    refine g_aload_n rfl rfl ?_
    refine g_iconst rfl ⟨by decide, by decide⟩ ?_
    refine g_puti rfl rfl (by decide) rfl rfl ?_
    refine x_return rfl rfl ?_
    have hz9 : ∀ j, 0 ≤ j → j < 129 → μ.1 211 j = (fun _ => 0 : Int → Int) j := fun j j0 j1 => hz j j0 (by omega)
    have hF9 := hF
    rw [← t_d0_n (show (3 : Int) ≠ 0 by decide)]
    exact ⟨rfl, rfl, ⟨rd_C_m (mF_pi (by decide) (mF_pi (by decide) (mF_pi (by decide) (mF_pi (by decide) (mF_pi (by decide) hF))))) hC, ⟨rfl, fun z => absurd rfl z⟩, rfl, rfl, rfl, (told_n (told_n (told_n (told_n (told_n hz9)))))⟩, (mF_pi (by decide) (mF_pi (by decide) (mF_pi (by decide) (mF_pi (by decide) (mF_pi (by decide) hF)))))⟩
  · refine g_aload_n rfl rfl ?_
    refine x_getF (r := 211) hG rfl rfl (by decide) (Or.inr ⟨_, rfl⟩) rfl ?_
    refine g_iload_n rfl rfl ?_
    refine g_iconst rfl ⟨by decide, by decide⟩ ?_
    refine g_iast rfl rfl (by decide) (by omega) (by omega) ?_
    refine x_iinc (z := k + 1) rfl rfl (by omega) ⟨by omega, by omega⟩ rfl rfl ?_
    refine g_goto (tgt := 2) rfl (by decide) ?_
    exact ih (by omega) _ (by omega) (fun j j0 j1 => by
      by_cases q : j = k
      · rw [q, tp_pi_at]
      · rw [tp_pi_ix q]; exact hz j j0 (by omega)) (mF_pt hF)
set_option maxHeartbeats 4000000 in
set_option maxRecDepth 100000 in
theorem s_af3 {G : tp_G} {μ : tp_M} (hG : tp_Gf G = true) {T : Int → Int} {len : Int} (hC : rd_C T len μ) : tp_k G mX12_atFirst [tR (some 201), tI 3] μ (fun r μ' => r = none ∧ μ'.1 201 10 = 0 ∧ ms T len 0 0 0 (-1) 0 (t_d0 3) μ' ∧ mF μ μ') := by
  refine tp_ok_of mX12_atFirst_ok rfl (Nat.le_refl _) ?_
  refine g_iconst rfl ⟨by decide, by decide⟩ ?_
  refine g_istore_n rfl rfl rfl ?_
  exact l_af3 (μ0 := μ) hG hC 0 (by omega) _ (by omega) (fun j j0 j1 => by omega) mF_rf
set_option maxHeartbeats 4000000 in
set_option maxRecDepth 100000 in
theorem s_rtx3 {G : tp_G} {μ : tp_M} (hG : tp_Gf G = true) {T : Int → Int} {len : Int} (hT : ∀ j, 0 ≤ T j ∧ T j ≤ 255) (hC : rd_C T len μ) : tp_k G mX12_readText [tR (some 201), tI 3] μ (fun r μ' => r = some (tI (if (t_flt 3 T len).1 = 0 then 1 else 0)) ∧ μ'.1 204 0 = (t_flt 3 T len).1 ∧ μ'.1 205 0 = (t_flt 3 T len).2 ∧ ((t_flt 3 T len).1 = 0 → ∀ j, 0 ≤ j → j < 129 → μ'.1 211 j = t_tld 3 T len j) ∧ m_H μ μ') := by
  refine tp_ok_of mX12_readText_ok rfl (Nat.le_refl _) ?_
  have hlen := hC.2.1
  refine g_aload_n rfl rfl ?_
  refine g_iload_n rfl rfl ?_
  refine g_cV (as := [tI 3]) (s_af3 hG hC) rfl rfl mX12_atFirst_ok rfl rfl rfl (by decide) rfl rfl rfl ?_
  rintro _ w1 ⟨rfl, hnx1, hm1, hF1⟩ _
  refine g_aload_n rfl rfl ?_
  refine g_cV (as := []) (s_tok9 hG hT hm1 (i := 0) (by omega) hlen.1 hnx1) rfl rfl mX12_token_ok rfl rfl rfl (by decide) rfl rfl rfl ?_
  rintro _ w2 ⟨rfl, ht2, hm2, _, hF2⟩ _
  refine g_aload_n rfl rfl ?_
  refine g_iload_n rfl rfl ?_
  refine g_cV (as := [tI 3]) (s_alz3 (st := t_s0 3) hG hT hlen ht2 ⟨0, fun _ => by decide, hm2⟩ (t_I0 ⟨by decide, by decide⟩)) rfl rfl mX12_allLines_ok rfl rfl rfl (by decide) rfl rfl rfl ?_
  rintro _ w3 ⟨hF3, ⟨hR3, rfl, h16⟩ | ⟨hR3, rfl, ⟨lo9, hlo9, hm9⟩, hb9⟩⟩ _
  · have hF9 := mF_tr (mF_tr hF1 hF2) hF3
    change (t_all 3 T len).1.1 = 0 at hR3
    change _ = (t_all 3 T len).1.2 at h16
    refine g_istore_n rfl rfl rfl ?_
    refine g_iload_n rfl rfl ?_
    refine g_if_eq (tgt := 52) rfl (by decide) (fun _ => ?_) (fun hx => absurd hx (by omega))
    refine g_aload_n rfl rfl ?_
    refine x_getF (r := 204) hG rfl rfl (by decide) (Or.inr ⟨_, rfl⟩) rfl ?_
    refine g_iconst rfl ⟨by decide, by decide⟩ ?_
    refine g_iload_n rfl rfl ?_
    refine g_if_eq (tgt := 68) rfl (by decide) (fun _ => ?_) (fun hx => absurd hx (by omega))
    refine g_iconst rfl ⟨by decide, by decide⟩ ?_
    refine g_iast rfl rfl (by decide) (by decide) (by decide) ?_
    refine g_aload_n rfl rfl ?_
    refine x_getF (r := 205) hG rfl rfl (by decide) (Or.inr ⟨_, rfl⟩) rfl ?_
    refine g_iconst rfl ⟨by decide, by decide⟩ ?_
    refine g_iload_n rfl rfl ?_
    refine g_if_ne (tgt := 86) rfl (by decide) (fun hx => absurd hx (by omega)) (fun _ => ?_)
    refine g_aload_n rfl rfl ?_
    refine x_geti (v := ((t_all 3 T len).1.2)) rfl rfl (by decide) (Or.inl rfl) h16 ?_
    refine g_goto (tgt := 101) rfl (by decide) ?_
    refine g_iast rfl rfl (by decide) (by decide) (by decide) ?_
    refine g_aload_n rfl rfl ?_
    refine x_getF (r := 204) hG rfl rfl (by decide) (Or.inr ⟨_, rfl⟩) rfl ?_
    refine g_iconst rfl ⟨by decide, by decide⟩ ?_
    refine x_iald (v := 1) rfl rfl (by decide) (by decide) (by decide) rfl ?_
    refine g_if_ne (tgt := 115) rfl (by decide) (fun _ => ?_) (fun hx => absurd hx (by omega))
    refine g_iconst rfl ⟨by decide, by decide⟩ ?_
    refine x_zreturn rfl rfl (Or.inl rfl) ?_
    rw [t_flt_0 hR3]
    exact ⟨rfl, rfl, rfl, fun y => absurd (show (1 : Int) = 0 from y) (by decide), m_H_m hF9⟩
  · have hF9 := mF_tr (mF_tr hF1 hF2) hF3
    change (t_all 3 T len).1.1 = 1 at hR3
    change ms T len (t_all 3 T len).2.1 (t_all 3 T len).2.2.1 (t_all 3 T len).2.2.2.2.1 (t_all 3 T len).2.2.2.2.2.1 lo9 (t_all 3 T len).2.2.2.2.2.2 w3 at hm9
    have hf0 : (t_all 3 T len).2.1 = 0 ∨ (t_all 3 T len).2.1 = 2 ∨ (t_all 3 T len).2.1 = 3 := by
      obtain ⟨i9, hi9⟩ := t_go_I (T := T) (len := len) (so := 3) ⟨by decide, by decide⟩ (len + 1 - 0).toNat 0 (t_s0 3) (by decide) hlen.1 (t_I0 ⟨by decide, by decide⟩) hR3
      exact hi9.1
    refine g_istore_n rfl rfl rfl ?_
    refine g_iload_n rfl rfl ?_
    refine g_if_eq (tgt := 52) rfl (by decide) (fun hx => absurd hx (by omega)) (fun _ => ?_)
    refine g_iload_n rfl rfl ?_
    refine g_if_ne (tgt := 52) rfl (by decide) (fun _ => ?_) (fun hx => absurd hx (by omega))
    refine g_aload_n rfl rfl ?_
    refine x_getF (r := 204) hG rfl rfl (by decide) (Or.inr ⟨_, rfl⟩) rfl ?_
    refine g_iconst rfl ⟨by decide, by decide⟩ ?_
    refine g_iload_n rfl rfl ?_
    refine g_if_eq (tgt := 68) rfl (by decide) (fun hx => absurd hx (by omega)) (fun _ => ?_)
    refine g_aload_n rfl rfl ?_
    refine x_geti (v := ((t_all 3 T len).2.1)) rfl rfl (by decide) (Or.inl rfl) hm9.2.1.1 ?_
    refine g_goto (tgt := 69) rfl (by decide) ?_
    refine g_iast rfl rfl (by decide) (by decide) (by decide) ?_
    refine g_aload_n rfl rfl ?_
    refine x_getF (r := 205) hG rfl rfl (by decide) (Or.inr ⟨_, rfl⟩) rfl ?_
    refine g_iconst rfl ⟨by decide, by decide⟩ ?_
    refine g_iload_n rfl rfl ?_
    refine g_if_ne (tgt := 86) rfl (by decide) (fun _ => ?_) (fun hx => absurd hx (by omega))
    refine g_aload_n rfl rfl ?_
    refine x_geti (v := ((t_all 3 T len).2.1)) rfl rfl (by decide) (Or.inl rfl) hm9.2.1.1 ?_
    refine g_if_le (tgt := 100) rfl (by decide) (fun h1 => ?_) (fun h1 => ?_)
    · refine g_iconst rfl ⟨by decide, by decide⟩ ?_
      refine g_iast rfl rfl (by decide) (by decide) (by decide) ?_
      refine g_aload_n rfl rfl ?_
      refine x_getF (r := 204) hG rfl rfl (by decide) (Or.inr ⟨_, rfl⟩) rfl ?_
      refine g_iconst rfl ⟨by decide, by decide⟩ ?_
      refine x_iald (v := ((t_all 3 T len).2.1)) rfl rfl (by decide) (by decide) (by decide) rfl ?_
      refine g_if_ne (tgt := 115) rfl (by decide) (fun hx => absurd hx (by omega)) (fun _ => ?_)
      refine g_iconst rfl ⟨by decide, by decide⟩ ?_
      refine g_goto (tgt := 116) rfl (by decide) ?_
      refine x_zreturn rfl rfl (Or.inr rfl) ?_
      rw [t_flt_y hR3 (by omega) (fun z => absurd z (by decide))]
      exact ⟨rfl, (by show ((t_all 3 T len).2.1) = 0; omega), rfl, fun _ => fun j j0 j1 => by rw [tp_pi_ne (by omega), tp_pi_ne (by omega)]; exact hm9.2.2.2.2.2 j j0 j1, m_H_m hF9⟩
    · refine g_aload_n rfl rfl ?_
      refine x_geti (v := ((t_all 3 T len).2.2.1)) rfl rfl (by decide) (Or.inl rfl) (hm9.2.1.2 (by omega)) ?_
      refine g_goto (tgt := 101) rfl (by decide) ?_
      refine g_iast rfl rfl (by decide) (by decide) (by decide) ?_
      refine g_aload_n rfl rfl ?_
      refine x_getF (r := 204) hG rfl rfl (by decide) (Or.inr ⟨_, rfl⟩) rfl ?_
      refine g_iconst rfl ⟨by decide, by decide⟩ ?_
      refine x_iald (v := ((t_all 3 T len).2.1)) rfl rfl (by decide) (by decide) (by decide) rfl ?_
      refine g_if_ne (tgt := 115) rfl (by decide) (fun _ => ?_) (fun hx => absurd hx (by omega))
      refine g_iconst rfl ⟨by decide, by decide⟩ ?_
      refine x_zreturn rfl rfl (Or.inl rfl) ?_
      rw [t_flt_f hR3 (by omega)]
      exact ⟨congrArg (fun x => some (tI x)) (if_neg (show ¬ ((t_all 3 T len).2.1) = 0 by omega)).symm, rfl, rfl, fun y => absurd (show ((t_all 3 T len).2.1) = 0 from y) (by omega), m_H_m hF9⟩
