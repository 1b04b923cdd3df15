theorem q_ush (x : Int) : 0 ≤ tp_ushr x 16 ∧ tp_ushr x 16 < 65536 := by
  unfold tp_ushr
  have n : ((Int32.ofInt x).toUInt32 >>> ((Int32.ofInt 16).toUInt32 &&& Int32.toUInt32 31)).toNat = (Int32.ofInt x).toUInt32.toNat / 65536 := by
    rw [UInt32.toNat_shiftRight, show ((Int32.ofInt 16).toUInt32 &&& Int32.toUInt32 31).toNat = 16 by decide, Nat.shiftRight_eq_div_pow]
  have l : (Int32.ofInt x).toUInt32.toNat < 4294967296 := UInt32.toNat_lt _
  generalize (Int32.ofInt x).toUInt32 >>> ((Int32.ofInt 16).toUInt32 &&& Int32.toUInt32 31) = u at *
  generalize (Int32.ofInt x).toUInt32.toNat = y at *
  have n2 : u.toBitVec.toNat = y / 65536 := n
  have e : u.toInt32.toInt = ((y / 65536 : Nat) : Int) := by
    show u.toBitVec.toInt = _
    rw [BitVec.toInt_eq_toNat_of_lt (by rw [n2]; omega), n2]
  rw [e]
  omega
theorem r_dw_y {n m u s : Int} {b : Bool} (h : u < m) : r_dw n m u s b = (if b = true then 100 + tp_ushr (r_sd s) 16 % 2 else tp_ushr (r_sd s) 16 % n, r_sd s) := if_pos h
theorem r_dw_n {n m u s : Int} {b : Bool} (h : ¬ u < m) : r_dw n m u s b = (-1, s) := if_neg h
theorem r_src_dw {n m : Int} (h0 : 0 < n) (h1 : n ≤ 40) : r_src (r_dw n m) := fun u s hu => by
  by_cases h : u < m
  · rw [r_dw_y h, r_dw_y h]
    refine ⟨?_, ?_⟩
    · show (100 + tp_ushr (r_sd s) 16 % 2 : Int) = -1 ∨ (100 + tp_ushr (r_sd s) 16 % 2 : Int) = 100 ∨ (100 + tp_ushr (r_sd s) 16 % 2 : Int) = 101
      omega
    · show (tp_ushr (r_sd s) 16 % n : Int) = -1 ∨ (0 ≤ (tp_ushr (r_sd s) 16 % n : Int) ∧ (tp_ushr (r_sd s) 16 % n : Int) ≤ 39)
      have a := Int.emod_nonneg (tp_ushr (r_sd s) 16) (b := n) (by omega)
      have b := Int.emod_lt_of_pos (tp_ushr (r_sd s) 16) h0
      omega
  · rw [r_dw_n h, r_dw_n h]
    exact ⟨Or.inl rfl, Or.inl rfl⟩
set_option maxHeartbeats 4000000 in
set_option maxRecDepth 100000 in
theorem s_choD50_1 {G : tp_G} {μ : tp_M} (hG : tp_Gf G = true) {c : Nat} (hc : tp_SH c = .inl 0) (hcl : c < 37) (hdr : μ.2 50 7 = none) (hco : μ.2 50 5 = some c) (hsz : 0 < μ.1 c 4 ∧ μ.1 c 4 ≤ 40) (hmo : 0 ≤ μ.1 50 9 ∧ μ.1 50 9 ≤ 60) (hu : 0 ≤ μ.1 50 13) (hu2 : μ.1 50 13 < 1000) : tp_k G mX7_chosen [tR (some 50), tI 1] μ (fun r μ' => r = some (tI (r_dw (μ.1 c 4) (μ.1 50 9) (μ.1 50 13) (μ.1 50 8) true).1) ∧ μ' = tp_cho (tp_pi μ 50 8 (r_dw (μ.1 c 4) (μ.1 50 9) (μ.1 50 13) (μ.1 50 8) true).2) 50 ((r_dw (μ.1 c 4) (μ.1 50 9) (μ.1 50 13) (μ.1 50 8) true).1)) := by
  have hcn : c < 234 := by omega
  have hu1 := q_ush (tp_w (tp_w (μ.1 50 8 * 1103515245) + 12345))
  have hz0 := Int.emod_nonneg (tp_ushr (tp_w (tp_w (μ.1 50 8 * 1103515245) + 12345)) 16) (b := 2) (by omega)
  have hz1 := Int.emod_lt_of_pos (tp_ushr (tp_w (tp_w (μ.1 50 8 * 1103515245) + 12345)) 16) (b := 2) (by omega)
  refine tp_ok_of mX7_chosen_ok rfl (Nat.le_refl _) ?_
  refine g_aload_n rfl rfl ?_
  refine x_getM (v := none) hG rfl rfl (by decide) (Or.inl ⟨_, rfl⟩) rfl hdr ?_
  refine g_ifnonnull (tgt := 15) rfl (by decide) (fun _ hx => by cases hx) (fun _ => ?_)
  refine g_aload_n rfl rfl ?_
  refine g_iload_n rfl rfl ?_
  refine g_iV (as := [tI 1]) mX7_drawnChoice_ok rfl rfl rfl rfl rfl rfl (by decide) rfl rfl rfl ?_
  refine g_aload_n rfl rfl ?_
  refine x_geti (v := (μ.1 50 13)) rfl rfl (by decide) (Or.inl rfl) rfl ?_
  refine g_aload_n rfl rfl ?_
  refine x_geti (v := (μ.1 50 9)) rfl rfl (by decide) (Or.inl rfl) rfl ?_
  refine g_icmp_ge (tgt := 18) rfl (by decide) (fun h1 => ?_) (fun h1 => ?_)
  · refine g_iconst rfl ⟨by decide, by decide⟩ ?_
    refine x_ireturn rfl rfl ?_
    intro _
    refine g_goto (tgt := 26) rfl (by decide) ?_
    refine g_istore_n rfl rfl rfl ?_
    refine g_iload_n rfl rfl ?_
    refine g_bipush rfl ⟨by decide, by decide⟩ (by decide) ?_
    refine g_icmp_eq (tgt := 39) rfl (by decide) (fun hx => absurd hx (by omega)) (fun _ => ?_)
    refine g_iload_n rfl rfl ?_
    refine g_bipush rfl ⟨by decide, by decide⟩ (by decide) ?_
    refine g_icmp_ne (tgt := 43) rfl (by decide) (fun _ => ?_) (fun hx => absurd hx (by omega))
    refine g_iconst rfl ⟨by decide, by decide⟩ ?_
    refine g_istore_n rfl rfl rfl ?_
    refine g_iload_n rfl rfl ?_
    refine g_iconst rfl ⟨by decide, by decide⟩ ?_
    refine g_icmp_eq (tgt := 55) rfl (by decide) (fun _ => ?_) (fun hx => absurd hx (by omega))
    refine g_aload_n rfl rfl ?_
    refine g_iconst rfl ⟨by decide, by decide⟩ ?_
    refine g_iV (as := [tI 2]) mX7_endBy_ok rfl rfl rfl rfl rfl rfl (by decide) rfl rfl rfl ?_
    refine g_aload_n rfl rfl ?_
    refine g_iload_n rfl rfl ?_
    refine g_puti rfl rfl (by decide) rfl rfl ?_
    refine g_iconst rfl ⟨by decide, by decide⟩ ?_
    refine x_ireturn rfl rfl ?_
    intro _
    refine x_ireturn rfl rfl ?_
    rw [r_dw_n (by omega)]
    refine ⟨rfl, ?_⟩
    unfold tp_cho
    rw [if_pos rfl, tp_pi_self]
    rfl
  · refine g_aload_n rfl rfl ?_
    refine x_getM (v := (some c)) hG rfl rfl (by decide) (Or.inl ⟨_, rfl⟩) rfl hco ?_
    refine g_ifnonnull (tgt := 20) rfl (by decide) (fun _ _ => ?_) (fun hx => by cases hx)
    refine g_aload_n rfl rfl ?_
    refine g_aload_n rfl rfl ?_
    refine x_geti (v := (μ.1 50 8)) rfl rfl (by decide) (Or.inl rfl) rfl ?_
    refine g_ldc rfl ⟨by decide, by decide⟩ ?_
    refine g_imul rfl ?_
    refine g_sipush rfl ⟨by decide, by decide⟩ (by decide) ?_
    refine g_iadd rfl ?_
    refine g_puti rfl rfl (by decide) rfl rfl ?_
    refine g_iload_n rfl rfl ?_
    refine g_if_eq (tgt := 43) rfl (by decide) (fun hx => absurd hx (by omega)) (fun _ => ?_)
    refine g_iconst rfl ⟨by decide, by decide⟩ ?_
    refine g_goto (tgt := 50) rfl (by decide) ?_
    refine g_istore_n rfl rfl rfl ?_
    refine g_iload_n rfl rfl ?_
    refine g_if_gt (tgt := 59) rfl (by decide) (fun _ => ?_) (fun hx => absurd hx (by omega))
    refine g_aload_n rfl rfl ?_
    refine x_geti (v := (tp_w (tp_w (μ.1 50 8 * 1103515245) + 12345))) rfl rfl (by decide) (Or.inl rfl) rfl ?_
    refine g_bipush rfl ⟨by decide, by decide⟩ (by decide) ?_
    refine g_iushr rfl ?_
    refine g_iload_n rfl rfl ?_
    refine x_irem rfl (by omega) (by omega) ?_
    refine g_istore_n rfl rfl rfl ?_
    refine g_iload_n rfl rfl ?_
    refine g_if_eq (tgt := 80) rfl (by decide) (fun hx => absurd hx (by omega)) (fun _ => ?_)
    refine g_bipush rfl ⟨by decide, by decide⟩ (by decide) ?_
    refine g_iload_n rfl rfl ?_
    refine x_iadd (z := ((tp_ushr (tp_w (tp_w (μ.1 50 8 * 1103515245) + 12345)) 16) % 2) + 100) rfl (by omega) ⟨by omega, by omega⟩ ?_
    refine g_goto (tgt := 81) rfl (by decide) ?_
    refine x_ireturn rfl rfl ?_
    intro _
    refine g_goto (tgt := 26) rfl (by decide) ?_
    refine g_istore_n rfl rfl rfl ?_
    refine g_iload_n rfl rfl ?_
    refine g_bipush rfl ⟨by decide, by decide⟩ (by decide) ?_
    refine g_icmp_eq (tgt := 39) rfl (by decide) (fun h2 => ?_) (fun h2 => ?_)
    · refine g_iconst rfl ⟨by decide, by decide⟩ ?_
      refine g_goto (tgt := 44) rfl (by decide) ?_
      refine g_istore_n rfl rfl rfl ?_
      refine g_iload_n rfl rfl ?_
      refine g_iconst rfl ⟨by decide, by decide⟩ ?_
      refine g_icmp_eq (tgt := 55) rfl (by decide) (fun hx => absurd hx (by omega)) (fun _ => ?_)
      refine g_iload_n rfl rfl ?_
      refine g_iload_n rfl rfl ?_
      refine g_icmp_eq (tgt := 61) rfl (by decide) (fun _ => ?_) (fun hx => absurd hx (by omega))
      refine g_aload_n rfl rfl ?_
      refine g_dupr rfl ?_
      refine x_geti (v := (μ.1 50 13)) rfl rfl (by decide) (Or.inl rfl) rfl ?_
      refine g_iconst rfl ⟨by decide, by decide⟩ ?_
      refine x_iadd (z := (μ.1 50 13) + 1) rfl (by omega) ⟨by omega, by omega⟩ ?_
      refine g_puti rfl rfl (by decide) rfl rfl ?_
      refine g_iload_n rfl rfl ?_
      refine x_ireturn rfl rfl ?_
      rw [r_dw_y (by omega)]
      refine ⟨congrArg (fun z => some (tI z)) (by show _ = (100 + tp_ushr (r_sd (μ.1 50 8)) 16 % 2 : Int); unfold r_sd; omega), ?_⟩
      unfold tp_cho
      rw [if_neg (by show ¬ ((100 + tp_ushr (r_sd (μ.1 50 8)) 16 % 2 : Int) = -1); unfold r_sd; omega)]
      rfl
    · refine g_iload_n rfl rfl ?_
      refine g_bipush rfl ⟨by decide, by decide⟩ (by decide) ?_
      refine g_icmp_ne (tgt := 43) rfl (by decide) (fun hx => absurd hx (by omega)) (fun _ => ?_)
      refine g_iconst rfl ⟨by decide, by decide⟩ ?_
      refine g_goto (tgt := 44) rfl (by decide) ?_
      refine g_istore_n rfl rfl rfl ?_
      refine g_iload_n rfl rfl ?_
      refine g_iconst rfl ⟨by decide, by decide⟩ ?_
      refine g_icmp_eq (tgt := 55) rfl (by decide) (fun hx => absurd hx (by omega)) (fun _ => ?_)
      refine g_iload_n rfl rfl ?_
      refine g_iload_n rfl rfl ?_
      refine g_icmp_eq (tgt := 61) rfl (by decide) (fun _ => ?_) (fun hx => absurd hx (by omega))
      refine g_aload_n rfl rfl ?_
      refine g_dupr rfl ?_
      refine x_geti (v := (μ.1 50 13)) rfl rfl (by decide) (Or.inl rfl) rfl ?_
      refine g_iconst rfl ⟨by decide, by decide⟩ ?_
      refine x_iadd (z := (μ.1 50 13) + 1) rfl (by omega) ⟨by omega, by omega⟩ ?_
      refine g_puti rfl rfl (by decide) rfl rfl ?_
      refine g_iload_n rfl rfl ?_
      refine x_ireturn rfl rfl ?_
      rw [r_dw_y (by omega)]
      refine ⟨congrArg (fun z => some (tI z)) (by show _ = (100 + tp_ushr (r_sd (μ.1 50 8)) 16 % 2 : Int); unfold r_sd; omega), ?_⟩
      unfold tp_cho
      rw [if_neg (by show ¬ ((100 + tp_ushr (r_sd (μ.1 50 8)) 16 % 2 : Int) = -1); unfold r_sd; omega)]
      rfl
set_option maxHeartbeats 4000000 in
set_option maxRecDepth 100000 in
theorem s_choDM_1 {G : tp_G} {μ : tp_M} (hG : tp_Gf G = true) (hsz : 0 < μ.1 201 26 ∧ μ.1 201 26 ≤ 40) (hmo : 0 ≤ μ.1 201 37 ∧ μ.1 201 37 ≤ 60) (hu : 0 ≤ μ.1 201 31) (hu2 : μ.1 201 31 < 1000) : tp_k G mX12_choose [tR (some 201), tI 1] μ (fun r μ' => r = some (tI (r_dw (μ.1 201 26) (μ.1 201 37) (μ.1 201 31) (μ.1 201 38) true).1) ∧ μ' = m_cho (tp_pi μ 201 38 (r_dw (μ.1 201 26) (μ.1 201 37) (μ.1 201 31) (μ.1 201 38) true).2) ((r_dw (μ.1 201 26) (μ.1 201 37) (μ.1 201 31) (μ.1 201 38) true).1)) := by
  have hu1 := q_ush (tp_w (tp_w (μ.1 201 38 * 1103515245) + 12345))
  have hz0 := Int.emod_nonneg (tp_ushr (tp_w (tp_w (μ.1 201 38 * 1103515245) + 12345)) 16) (b := 2) (by omega)
  have hz1 := Int.emod_lt_of_pos (tp_ushr (tp_w (tp_w (μ.1 201 38 * 1103515245) + 12345)) 16) (b := 2) (by omega)
  refine tp_ok_of mX12_choose_ok rfl (Nat.le_refl _) ?_
  refine g_iconst rfl ⟨by decide, by decide⟩ ?_
  refine g_istore_n rfl rfl rfl ?_
  refine g_aload_n rfl rfl ?_
  refine x_geti (v := (μ.1 201 37)) rfl rfl (by decide) (Or.inl rfl) rfl ?_
  refine g_if_ge (tgt := 83) rfl (by decide) (fun _ => ?_) (fun hx => absurd hx (by omega))
  refine g_aload_n rfl rfl ?_
  refine x_geti (v := (μ.1 201 31)) rfl rfl (by decide) (Or.inl rfl) rfl ?_
  refine g_aload_n rfl rfl ?_
  refine x_geti (v := (μ.1 201 37)) rfl rfl (by decide) (Or.inl rfl) rfl ?_
  refine g_icmp_ge (tgt := 118) rfl (by decide) (fun h1 => ?_) (fun h1 => ?_)
  · refine g_aload_n rfl rfl ?_
    refine g_dupr rfl ?_
    refine x_geti (v := (μ.1 201 31)) rfl rfl (by decide) (Or.inl rfl) rfl ?_
    refine g_iload_n rfl rfl ?_
    refine g_iconst rfl ⟨by decide, by decide⟩ ?_
    refine g_icmp_ne (tgt := 132) rfl (by decide) (fun hx => absurd hx (by omega)) (fun _ => ?_)
    refine g_iconst rfl ⟨by decide, by decide⟩ ?_
    refine g_goto (tgt := 133) rfl (by decide) ?_
    refine x_iadd (z := (μ.1 201 31)) rfl (by omega) ⟨by omega, by omega⟩ ?_
    refine g_puti rfl rfl (by decide) rfl rfl ?_
    refine g_iload_n rfl rfl ?_
    refine x_ireturn rfl rfl ?_
    rw [r_dw_n (by omega)]
    refine ⟨rfl, ?_⟩
    unfold m_cho
    rw [if_pos rfl, tp_pi_self]
    exact tp_pi_self
  · refine g_iload_n rfl rfl ?_
    refine g_if_eq (tgt := 109) rfl (by decide) (fun hx => absurd hx (by omega)) (fun _ => ?_)
    refine g_bipush rfl ⟨by decide, by decide⟩ (by decide) ?_
    refine g_aload_n rfl rfl ?_
    refine g_iconst rfl ⟨by decide, by decide⟩ ?_
    refine g_iV (as := [tI 2]) mX12_draw_ok rfl rfl rfl rfl rfl rfl (by decide) rfl rfl rfl ?_
    refine g_aload_n rfl rfl ?_
    refine g_aload_n rfl rfl ?_
    refine x_geti (v := (μ.1 201 38)) rfl rfl (by decide) (Or.inl rfl) rfl ?_
    refine g_ldc_w rfl ⟨by decide, by decide⟩ ?_
    refine g_imul rfl ?_
    refine g_sipush rfl ⟨by decide, by decide⟩ (by decide) ?_
    refine g_iadd rfl ?_
    refine g_puti rfl rfl (by decide) rfl rfl ?_
    refine g_aload_n rfl rfl ?_
    refine x_geti (v := (tp_w (tp_w (μ.1 201 38 * 1103515245) + 12345))) rfl rfl (by decide) (Or.inl rfl) rfl ?_
    refine g_bipush rfl ⟨by decide, by decide⟩ (by decide) ?_
    refine g_iushr rfl ?_
    refine g_iload_n rfl rfl ?_
    refine x_irem rfl (by omega) (by omega) ?_
    refine x_ireturn rfl rfl ?_
    intro _
    refine x_iadd (z := ((tp_ushr (tp_w (tp_w (μ.1 201 38 * 1103515245) + 12345)) 16) % 2) + 100) rfl (by omega) ⟨by omega, by omega⟩ ?_
    refine g_goto (tgt := 117) rfl (by decide) ?_
    refine g_istore_n rfl rfl rfl ?_
    refine g_aload_n rfl rfl ?_
    refine g_dupr rfl ?_
    refine x_geti (v := (μ.1 201 31)) rfl rfl (by decide) (Or.inl rfl) rfl ?_
    refine g_iload_n rfl rfl ?_
    refine g_iconst rfl ⟨by decide, by decide⟩ ?_
    refine g_icmp_ne (tgt := 132) rfl (by decide) (fun _ => ?_) (fun hx => absurd hx (by omega))
    refine g_iconst rfl ⟨by decide, by decide⟩ ?_
    refine x_iadd (z := (μ.1 201 31) + 1) rfl (by omega) ⟨by omega, by omega⟩ ?_
    refine g_puti rfl rfl (by decide) rfl rfl ?_
    refine g_iload_n rfl rfl ?_
    refine x_ireturn rfl rfl ?_
    rw [r_dw_y (by omega)]
    refine ⟨congrArg (fun z => some (tI z)) (by show _ = (100 + tp_ushr (r_sd (μ.1 201 38)) 16 % 2 : Int); unfold r_sd; omega), ?_⟩
    unfold m_cho
    rw [if_neg (by show ¬ ((100 + tp_ushr (r_sd (μ.1 201 38)) 16 % 2 : Int) = -1); unfold r_sd; omega)]
    rfl
set_option maxHeartbeats 4000000 in
set_option maxRecDepth 100000 in
theorem s_choD50_0 {G : tp_G} {μ : tp_M} (hG : tp_Gf G = true) {c : Nat} (hc : tp_SH c = .inl 0) (hcl : c < 37) (hdr : μ.2 50 7 = none) (hco : μ.2 50 5 = some c) (hsz : 0 < μ.1 c 4 ∧ μ.1 c 4 ≤ 40) (hmo : 0 ≤ μ.1 50 9 ∧ μ.1 50 9 ≤ 60) (hu : 0 ≤ μ.1 50 13) (hu2 : μ.1 50 13 < 1000) : tp_k G mX7_chosen [tR (some 50), tI 0] μ (fun r μ' => r = some (tI (r_dw (μ.1 c 4) (μ.1 50 9) (μ.1 50 13) (μ.1 50 8) false).1) ∧ μ' = tp_cho (tp_pi μ 50 8 (r_dw (μ.1 c 4) (μ.1 50 9) (μ.1 50 13) (μ.1 50 8) false).2) 50 ((r_dw (μ.1 c 4) (μ.1 50 9) (μ.1 50 13) (μ.1 50 8) false).1)) := by
  have hcn : c < 234 := by omega
  have hu1 := q_ush (tp_w (tp_w (μ.1 50 8 * 1103515245) + 12345))
  have hz0 := Int.emod_nonneg (tp_ushr (tp_w (tp_w (μ.1 50 8 * 1103515245) + 12345)) 16) (b := μ.1 c 4) (by omega)
  have hz1 := Int.emod_lt_of_pos (tp_ushr (tp_w (tp_w (μ.1 50 8 * 1103515245) + 12345)) 16) (b := μ.1 c 4) (by omega)
  refine tp_ok_of mX7_chosen_ok rfl (Nat.le_refl _) ?_
  refine g_aload_n rfl rfl ?_
  refine x_getM (v := none) hG rfl rfl (by decide) (Or.inl ⟨_, rfl⟩) rfl hdr ?_
  refine g_ifnonnull (tgt := 15) rfl (by decide) (fun _ hx => by cases hx) (fun _ => ?_)
  refine g_aload_n rfl rfl ?_
  refine g_iload_n rfl rfl ?_
  refine g_iV (as := [tI 0]) mX7_drawnChoice_ok rfl rfl rfl rfl rfl rfl (by decide) rfl rfl rfl ?_
  refine g_aload_n rfl rfl ?_
  refine x_geti (v := (μ.1 50 13)) rfl rfl (by decide) (Or.inl rfl) rfl ?_
  refine g_aload_n rfl rfl ?_
  refine x_geti (v := (μ.1 50 9)) rfl rfl (by decide) (Or.inl rfl) rfl ?_
  refine g_icmp_ge (tgt := 18) rfl (by decide) (fun h1 => ?_) (fun h1 => ?_)
  · refine g_iconst rfl ⟨by decide, by decide⟩ ?_
    refine x_ireturn rfl rfl ?_
    intro _
    refine g_goto (tgt := 26) rfl (by decide) ?_
    refine g_istore_n rfl rfl rfl ?_
    refine g_iload_n rfl rfl ?_
    refine g_bipush rfl ⟨by decide, by decide⟩ (by decide) ?_
    refine g_icmp_eq (tgt := 39) rfl (by decide) (fun hx => absurd hx (by omega)) (fun _ => ?_)
    refine g_iload_n rfl rfl ?_
    refine g_bipush rfl ⟨by decide, by decide⟩ (by decide) ?_
    refine g_icmp_ne (tgt := 43) rfl (by decide) (fun _ => ?_) (fun hx => absurd hx (by omega))
    refine g_iconst rfl ⟨by decide, by decide⟩ ?_
    refine g_istore_n rfl rfl rfl ?_
    refine g_iload_n rfl rfl ?_
    refine g_iconst rfl ⟨by decide, by decide⟩ ?_
    refine g_icmp_eq (tgt := 55) rfl (by decide) (fun _ => ?_) (fun hx => absurd hx (by omega))
    refine g_aload_n rfl rfl ?_
    refine g_iconst rfl ⟨by decide, by decide⟩ ?_
    refine g_iV (as := [tI 2]) mX7_endBy_ok rfl rfl rfl rfl rfl rfl (by decide) rfl rfl rfl ?_
    refine g_aload_n rfl rfl ?_
    refine g_iload_n rfl rfl ?_
    refine g_puti rfl rfl (by decide) rfl rfl ?_
    refine g_iconst rfl ⟨by decide, by decide⟩ ?_
    refine x_ireturn rfl rfl ?_
    intro _
    refine x_ireturn rfl rfl ?_
    rw [r_dw_n (by omega)]
    refine ⟨rfl, ?_⟩
    unfold tp_cho
    rw [if_pos rfl, tp_pi_self]
    rfl
  · refine g_aload_n rfl rfl ?_
    refine x_getM (v := (some c)) hG rfl rfl (by decide) (Or.inl ⟨_, rfl⟩) rfl hco ?_
    refine g_ifnonnull (tgt := 20) rfl (by decide) (fun _ _ => ?_) (fun hx => by cases hx)
    refine g_aload_n rfl rfl ?_
    refine g_aload_n rfl rfl ?_
    refine x_geti (v := (μ.1 50 8)) rfl rfl (by decide) (Or.inl rfl) rfl ?_
    refine g_ldc rfl ⟨by decide, by decide⟩ ?_
    refine g_imul rfl ?_
    refine g_sipush rfl ⟨by decide, by decide⟩ (by decide) ?_
    refine g_iadd rfl ?_
    refine g_puti rfl rfl (by decide) rfl rfl ?_
    refine g_iload_n rfl rfl ?_
    refine g_if_eq (tgt := 43) rfl (by decide) (fun _ => ?_) (fun hx => absurd hx (by omega))
    refine g_aload_n rfl rfl ?_
    refine x_getM (v := (some c)) hG rfl rfl (by decide) (Or.inl ⟨_, rfl⟩) rfl hco ?_
    refine x_geti (v := (μ.1 c 4)) rfl hc hcn (Or.inl rfl) (by rw [tp_pi_ne (by omega)]; first | done | rfl) ?_
    refine g_istore_n rfl rfl rfl ?_
    refine g_iload_n rfl rfl ?_
    refine g_if_gt (tgt := 59) rfl (by decide) (fun _ => ?_) (fun hx => absurd hx (by omega))
    refine g_aload_n rfl rfl ?_
    refine x_geti (v := (tp_w (tp_w (μ.1 50 8 * 1103515245) + 12345))) rfl rfl (by decide) (Or.inl rfl) rfl ?_
    refine g_bipush rfl ⟨by decide, by decide⟩ (by decide) ?_
    refine g_iushr rfl ?_
    refine g_iload_n rfl rfl ?_
    refine x_irem rfl (by omega) (by omega) ?_
    refine g_istore_n rfl rfl rfl ?_
    refine g_iload_n rfl rfl ?_
    refine g_if_eq (tgt := 80) rfl (by decide) (fun _ => ?_) (fun hx => absurd hx (by omega))
    refine g_iload_n rfl rfl ?_
    refine x_ireturn rfl rfl ?_
    intro _
    refine g_goto (tgt := 26) rfl (by decide) ?_
    refine g_istore_n rfl rfl rfl ?_
    refine g_iload_n rfl rfl ?_
    refine g_bipush rfl ⟨by decide, by decide⟩ (by decide) ?_
    refine g_icmp_eq (tgt := 39) rfl (by decide) (fun hx => absurd hx (by omega)) (fun _ => ?_)
    refine g_iload_n rfl rfl ?_
    refine g_bipush rfl ⟨by decide, by decide⟩ (by decide) ?_
    refine g_icmp_ne (tgt := 43) rfl (by decide) (fun _ => ?_) (fun hx => absurd hx (by omega))
    refine g_iconst rfl ⟨by decide, by decide⟩ ?_
    refine g_istore_n rfl rfl rfl ?_
    refine g_iload_n rfl rfl ?_
    refine g_iconst rfl ⟨by decide, by decide⟩ ?_
    refine g_icmp_eq (tgt := 55) rfl (by decide) (fun hx => absurd hx (by omega)) (fun _ => ?_)
    refine g_iload_n rfl rfl ?_
    refine g_iload_n rfl rfl ?_
    refine g_icmp_eq (tgt := 61) rfl (by decide) (fun _ => ?_) (fun hx => absurd hx (by omega))
    refine g_aload_n rfl rfl ?_
    refine g_dupr rfl ?_
    refine x_geti (v := (μ.1 50 13)) rfl rfl (by decide) (Or.inl rfl) rfl ?_
    refine g_iconst rfl ⟨by decide, by decide⟩ ?_
    refine x_iadd (z := (μ.1 50 13) + 1) rfl (by omega) ⟨by omega, by omega⟩ ?_
    refine g_puti rfl rfl (by decide) rfl rfl ?_
    refine g_iload_n rfl rfl ?_
    refine x_ireturn rfl rfl ?_
    rw [r_dw_y (by omega)]
    refine ⟨rfl, ?_⟩
    unfold tp_cho
    rw [if_neg (by show ¬ ((tp_ushr (r_sd (μ.1 50 8)) 16 % (μ.1 c 4) : Int) = -1); unfold r_sd; omega)]
    rfl
set_option maxHeartbeats 4000000 in
set_option maxRecDepth 100000 in
theorem s_choDM_0 {G : tp_G} {μ : tp_M} (hG : tp_Gf G = true) (hsz : 0 < μ.1 201 26 ∧ μ.1 201 26 ≤ 40) (hmo : 0 ≤ μ.1 201 37 ∧ μ.1 201 37 ≤ 60) (hu : 0 ≤ μ.1 201 31) (hu2 : μ.1 201 31 < 1000) : tp_k G mX12_choose [tR (some 201), tI 0] μ (fun r μ' => r = some (tI (r_dw (μ.1 201 26) (μ.1 201 37) (μ.1 201 31) (μ.1 201 38) false).1) ∧ μ' = m_cho (tp_pi μ 201 38 (r_dw (μ.1 201 26) (μ.1 201 37) (μ.1 201 31) (μ.1 201 38) false).2) ((r_dw (μ.1 201 26) (μ.1 201 37) (μ.1 201 31) (μ.1 201 38) false).1)) := by
  have hu1 := q_ush (tp_w (tp_w (μ.1 201 38 * 1103515245) + 12345))
  have hz0 := Int.emod_nonneg (tp_ushr (tp_w (tp_w (μ.1 201 38 * 1103515245) + 12345)) 16) (b := μ.1 201 26) (by omega)
  have hz1 := Int.emod_lt_of_pos (tp_ushr (tp_w (tp_w (μ.1 201 38 * 1103515245) + 12345)) 16) (b := μ.1 201 26) (by omega)
  refine tp_ok_of mX12_choose_ok rfl (Nat.le_refl _) ?_
  refine g_iconst rfl ⟨by decide, by decide⟩ ?_
  refine g_istore_n rfl rfl rfl ?_
  refine g_aload_n rfl rfl ?_
  refine x_geti (v := (μ.1 201 37)) rfl rfl (by decide) (Or.inl rfl) rfl ?_
  refine g_if_ge (tgt := 83) rfl (by decide) (fun _ => ?_) (fun hx => absurd hx (by omega))
  refine g_aload_n rfl rfl ?_
  refine x_geti (v := (μ.1 201 31)) rfl rfl (by decide) (Or.inl rfl) rfl ?_
  refine g_aload_n rfl rfl ?_
  refine x_geti (v := (μ.1 201 37)) rfl rfl (by decide) (Or.inl rfl) rfl ?_
  refine g_icmp_ge (tgt := 118) rfl (by decide) (fun h1 => ?_) (fun h1 => ?_)
  · refine g_aload_n rfl rfl ?_
    refine g_dupr rfl ?_
    refine x_geti (v := (μ.1 201 31)) rfl rfl (by decide) (Or.inl rfl) rfl ?_
    refine g_iload_n rfl rfl ?_
    refine g_iconst rfl ⟨by decide, by decide⟩ ?_
    refine g_icmp_ne (tgt := 132) rfl (by decide) (fun hx => absurd hx (by omega)) (fun _ => ?_)
    refine g_iconst rfl ⟨by decide, by decide⟩ ?_
    refine g_goto (tgt := 133) rfl (by decide) ?_
    refine x_iadd (z := (μ.1 201 31)) rfl (by omega) ⟨by omega, by omega⟩ ?_
    refine g_puti rfl rfl (by decide) rfl rfl ?_
    refine g_iload_n rfl rfl ?_
    refine x_ireturn rfl rfl ?_
    rw [r_dw_n (by omega)]
    refine ⟨rfl, ?_⟩
    unfold m_cho
    rw [if_pos rfl, tp_pi_self]
    exact tp_pi_self
  · refine g_iload_n rfl rfl ?_
    refine g_if_eq (tgt := 109) rfl (by decide) (fun _ => ?_) (fun hx => absurd hx (by omega))
    refine g_aload_n rfl rfl ?_
    refine g_aload_n rfl rfl ?_
    refine x_geti (v := (μ.1 201 26)) rfl rfl (by decide) (Or.inl rfl) rfl ?_
    refine g_iV (as := [tI (μ.1 201 26)]) mX12_draw_ok rfl rfl rfl rfl rfl rfl (by decide) rfl rfl rfl ?_
    refine g_aload_n rfl rfl ?_
    refine g_aload_n rfl rfl ?_
    refine x_geti (v := (μ.1 201 38)) rfl rfl (by decide) (Or.inl rfl) rfl ?_
    refine g_ldc_w rfl ⟨by decide, by decide⟩ ?_
    refine g_imul rfl ?_
    refine g_sipush rfl ⟨by decide, by decide⟩ (by decide) ?_
    refine g_iadd rfl ?_
    refine g_puti rfl rfl (by decide) rfl rfl ?_
    refine g_aload_n rfl rfl ?_
    refine x_geti (v := (tp_w (tp_w (μ.1 201 38 * 1103515245) + 12345))) rfl rfl (by decide) (Or.inl rfl) rfl ?_
    refine g_bipush rfl ⟨by decide, by decide⟩ (by decide) ?_
    refine g_iushr rfl ?_
    refine g_iload_n rfl rfl ?_
    refine x_irem rfl (by omega) (by omega) ?_
    refine x_ireturn rfl rfl ?_
    intro _
    refine g_istore_n rfl rfl rfl ?_
    refine g_aload_n rfl rfl ?_
    refine g_dupr rfl ?_
    refine x_geti (v := (μ.1 201 31)) rfl rfl (by decide) (Or.inl rfl) rfl ?_
    refine g_iload_n rfl rfl ?_
    refine g_iconst rfl ⟨by decide, by decide⟩ ?_
    refine g_icmp_ne (tgt := 132) rfl (by decide) (fun _ => ?_) (fun hx => absurd hx (by omega))
    refine g_iconst rfl ⟨by decide, by decide⟩ ?_
    refine x_iadd (z := (μ.1 201 31) + 1) rfl (by omega) ⟨by omega, by omega⟩ ?_
    refine g_puti rfl rfl (by decide) rfl rfl ?_
    refine g_iload_n rfl rfl ?_
    refine x_ireturn rfl rfl ?_
    rw [r_dw_y (by omega)]
    refine ⟨rfl, ?_⟩
    unfold m_cho
    rw [if_neg (by show ¬ ((tp_ushr (r_sd (μ.1 201 38)) 16 % (μ.1 201 26) : Int) = -1); unfold r_sd; omega)]
    rfl
theorem r_Hc_dw50 {G : tp_G} (hG : tp_Gf G = true) {c : Nat} {f : Int → Int} {m : Int} {μ0 : tp_M} (hc : tp_SH c = .inl 0) (hcl : c < 37) (hdr : μ0.2 50 7 = none) (hco : μ0.2 50 5 = some c) (hf : μ0.1 c 4 = f 0) (hf0 : 0 < f 0 ∧ f 0 ≤ 40) (hm : μ0.1 50 9 = m) (hm0 : 0 ≤ m ∧ m ≤ 60) : r_Hc G (r_dw (f 0) m) 50 μ0 := by
  intro μ a dp us sd stk hF hM hu hu2 b
  have h1 : μ.2 50 7 = none := by rw [hF.2.2]; exact hdr
  have h2 : μ.2 50 5 = some c := by rw [hF.2.2]; exact hco
  have h3 : μ.1 c 4 = f 0 := by rw [hF.1 c (by omega)]; exact hf
  have h4 : μ.1 50 9 = m := by rw [hF.2.1]; exact hm
  have e13 : μ.1 50 13 = us := hM.2.2.1
  have e8 : μ.1 50 8 = sd := hM.2.2.2
  cases b with
  | true =>
    have q := s_choD50_1 hG hc hcl h1 h2 (by omega) (by omega) (by omega) (by omega)
    rw [h3, h4, e13, e8] at q
    exact q
  | false =>
    have q := s_choD50_0 hG hc hcl h1 h2 (by omega) (by omega) (by omega) (by omega)
    rw [h3, h4, e13, e8] at q
    exact q
theorem m_Hc_dw {G : tp_G} (hG : tp_Gf G = true) {f : Int → Int} {m : Int} {μ0 : tp_M} (hf : μ0.1 201 26 = f 0) (hf0 : 0 < f 0 ∧ f 0 ≤ 40) (hm : μ0.1 201 37 = m) (hm0 : 0 ≤ m ∧ m ≤ 60) : m_Hc G (r_dw (f 0) m) μ0 := by
  intro μ a dp us sd stk hF hM hu hu2 b
  have h3 : μ.1 201 26 = f 0 := by rw [hF.2.1 26 (by omega) (by omega)]; exact hf
  have h4 : μ.1 201 37 = m := by rw [hF.2.1 37 (by omega) (by omega)]; exact hm
  have e13 : μ.1 201 31 = us := hM.2.2.1
  have e8 : μ.1 201 38 = sd := hM.2.2.2
  cases b with
  | true =>
    have q := s_choDM_1 (μ := μ) hG (by omega) (by omega) (by omega) (by omega)
    rw [h3, h4, e13, e8] at q
    exact q
  | false =>
    have q := s_choDM_0 (μ := μ) hG (by omega) (by omega) (by omega) (by omega)
    rw [h3, h4, e13, e8] at q
    exact q
set_option maxHeartbeats 4000000 in
set_option maxRecDepth 100000 in
theorem s_go0 {G : tp_G} {μ : tp_M} (hG : tp_Gf G = true) {c : Nat} {f : Int → Int} (hc : tp_SH c = .inl 0) (hcl : c < 37) (hco : μ.2 50 5 = some c) (hCd : tp_Cd c f μ) (hf : f 0 = 0) : tp_k G mX7_go [tR (some 50)] μ (fun r μ' => r = none ∧ c_T 50 0 (fun _ => 0) (fun _ => 0) (fun _ => 0) 3 0 0 0 μ' ∧ (∀ c', (c' < 50 ∨ 54 < c') → μ'.1 c' = μ.1 c') ∧ μ'.2 = μ.2) := by
  have hcn : c < 234 := by omega
  refine tp_ok_of mX7_go_ok rfl (Nat.le_refl _) ?_
  refine g_aload_n rfl rfl ?_
  refine g_iconst rfl ⟨by decide, by decide⟩ ?_
  refine g_puti rfl rfl (by decide) rfl rfl ?_
  refine g_aload_n rfl rfl ?_
  refine g_iconst rfl ⟨by decide, by decide⟩ ?_
  refine g_puti rfl rfl (by decide) rfl rfl ?_
  refine g_aload_n rfl rfl ?_
  refine g_iconst rfl ⟨by decide, by decide⟩ ?_
  refine g_puti rfl rfl (by decide) rfl rfl ?_
  refine g_aload_n rfl rfl ?_
  refine g_iconst rfl ⟨by decide, by decide⟩ ?_
  refine g_puti rfl rfl (by decide) rfl rfl ?_
  refine g_aload_n rfl rfl ?_
  refine g_iconst rfl ⟨by decide, by decide⟩ ?_
  refine g_puti rfl rfl (by decide) rfl rfl ?_
  refine g_aload_n rfl rfl ?_
  refine g_iconst rfl ⟨by decide, by decide⟩ ?_
  refine g_puti rfl rfl (by decide) rfl rfl ?_
  refine g_iconst rfl ⟨by decide, by decide⟩ ?_
  refine g_istore_n rfl rfl rfl ?_
  refine g_iconst rfl ⟨by decide, by decide⟩ ?_
  refine g_istore_n rfl rfl rfl ?_
  refine g_iload_n rfl rfl ?_
  refine g_sipush rfl ⟨by decide, by decide⟩ (by decide) ?_
  refine g_icmp_ge (tgt := 97) rfl (by decide) (fun hx => absurd hx (by omega)) (fun _ => ?_)
  refine g_aload_n rfl rfl ?_
  refine g_iload_n rfl rfl ?_
  refine g_iV (as := [tI 0]) mX7_hasInstruction_ok rfl rfl rfl rfl rfl rfl (by decide) rfl rfl rfl ?_
  refine g_aload_n rfl rfl ?_
  refine x_getM (v := (some c)) hG rfl rfl (by decide) (Or.inl ⟨_, rfl⟩) rfl hco ?_
  refine g_ifnull (tgt := 22) rfl (by decide) (fun hx => by cases hx) (fun _ _ => ?_)
  refine g_aload_n rfl rfl ?_
  refine x_getM (v := (some c)) hG rfl rfl (by decide) (Or.inl ⟨_, rfl⟩) rfl hco ?_
  refine g_iload_n rfl rfl ?_
  refine g_cV (as := [tI 0]) (s_hasXo hG hc hcl (tp_Cd_pi hcl (by omega) (tp_Cd_pi hcl (by omega) (tp_Cd_pi hcl (by omega) (tp_Cd_pi hcl (by omega) (tp_Cd_pi hcl (by omega) (tp_Cd_pi hcl (by omega) hCd)))))) (by omega)) rfl rfl mX0_has_ok rfl hc rfl hcn rfl rfl rfl ?_
  rintro _ w9 ⟨rfl, hw9⟩ _
  have hw9 := hw9.symm
  subst hw9
  refine g_if_eq (tgt := 22) rfl (by decide) (fun _ => ?_) (fun hx => absurd hx (by omega))
  refine g_iconst rfl ⟨by decide, by decide⟩ ?_
  refine x_zreturn rfl rfl (Or.inl rfl) ?_
  intro _
  refine g_if_ne (tgt := 50) rfl (by decide) (fun hx => absurd hx (by omega)) (fun _ => ?_)
  refine x_return rfl rfl ?_
  exact ⟨rfl, ⟨rfl, fun j g0 g1 => by omega, fun j g0 g1 => by omega, fun j g0 g1 => by omega, rfl, rfl, rfl, rfl⟩, fun c9 z9 => by rw [tp_pi_ne (by omega), tp_pi_ne (by omega), tp_pi_ne (by omega), tp_pi_ne (by omega), tp_pi_ne (by omega), tp_pi_ne (by omega)], rfl⟩
set_option maxHeartbeats 4000000 in
set_option maxRecDepth 100000 in
theorem s_runs0 {G : tp_G} {μ : tp_M} (hG : tp_Gf G = true) (hf : μ.1 201 26 = 0) : tp_k G mX12_runs [tR (some 201)] μ (fun r μ' => r = none ∧ m_T 0 (fun _ => 0) (fun _ => 0) (fun _ => 0) 3 0 0 0 μ' ∧ m_F μ μ') := by
  refine tp_ok_of mX12_runs_ok rfl (Nat.le_refl _) ?_
  refine g_aload_n rfl rfl ?_
  refine g_iconst rfl ⟨by decide, by decide⟩ ?_
  refine g_puti rfl rfl (by decide) rfl rfl ?_
  refine g_aload_n rfl rfl ?_
  refine g_iconst rfl ⟨by decide, by decide⟩ ?_
  refine g_puti rfl rfl (by decide) rfl rfl ?_
  refine g_aload_n rfl rfl ?_
  refine g_iconst rfl ⟨by decide, by decide⟩ ?_
  refine g_puti rfl rfl (by decide) rfl rfl ?_
  refine g_aload_n rfl rfl ?_
  refine g_iconst rfl ⟨by decide, by decide⟩ ?_
  refine g_puti rfl rfl (by decide) rfl rfl ?_
  refine g_aload_n rfl rfl ?_
  refine g_iconst rfl ⟨by decide, by decide⟩ ?_
  refine g_puti rfl rfl (by decide) rfl rfl ?_
  refine g_aload_n rfl rfl ?_
  refine g_aload_n rfl rfl ?_
  refine x_geti (v := (μ.1 201 26)) rfl rfl (by decide) (Or.inl rfl) rfl ?_
  refine g_if_ne (tgt := 37) rfl (by decide) (fun hx => absurd hx (by omega)) (fun _ => ?_)
  refine g_iconst rfl ⟨by decide, by decide⟩ ?_
  refine g_goto (tgt := 38) rfl (by decide) ?_
  refine g_puti rfl rfl (by decide) rfl rfl ?_
  refine g_iconst rfl ⟨by decide, by decide⟩ ?_
  refine g_istore_n rfl rfl rfl ?_
  refine g_aload_n rfl rfl ?_
  refine x_geti (v := 3) rfl rfl (by decide) (Or.inl rfl) rfl ?_
  refine g_if_ne (tgt := 148) rfl (by decide) (fun _ => ?_) (fun hx => absurd hx (by omega))
  refine x_return rfl rfl ?_
  exact ⟨rfl, ⟨rfl, fun j g0 g1 => by omega, fun j g0 g1 => by omega, fun j g0 g1 => by omega, rfl, rfl, rfl, rfl⟩, ⟨fun c9 z1 z2 => by rw [tp_pi_ne (by omega), tp_pi_ne (by omega), tp_pi_ne (by omega), tp_pi_ne (by omega), tp_pi_ne (by omega), tp_pi_ne (by omega)], fun j z1 z2 => by rw [tp_pi_ix (by omega), tp_pi_ix (by omega), tp_pi_ix (by omega), tp_pi_ix (by omega), tp_pi_ix (by omega), tp_pi_ix (by omega)], rfl⟩⟩
