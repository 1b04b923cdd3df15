/-! a word as a number -/
def q_wv (T : Int → Int) (s : Int) : Nat → Int
  | 0 => 0
  | m + 1 => q_wv T s m * 256 + T (s + m)
def q_WV (T : Int → Int) (s n : Int) : Int := q_wv T s n.toNat
theorem q_WV_s {T : Int → Int} {s n : Int} (h : 0 ≤ n) : q_WV T s (n + 1) = q_WV T s n * 256 + T (s + n) := by
  unfold q_WV
  rw [show (n + 1).toNat = n.toNat + 1 by omega]
  show q_wv T s n.toNat * 256 + T (s + (n.toNat : Int)) = _
  rw [show ((n.toNat : Nat) : Int) = n by omega]
theorem q_wv_b {T : Int → Int} {s : Int} : ∀ n : Nat, (∀ j, s ≤ j → j < s + n → 97 ≤ T j ∧ T j ≤ 122) → 0 ≤ q_wv T s n ∧ 2 * q_wv T s n < 256 ^ n := by
  intro n
  induction n with
  | zero => intro _; exact ⟨Int.le_refl 0, by show (2 : Int) * 0 < 1; decide⟩
  | succ n ih =>
    intro h
    have a := ih (fun j j0 j1 => h j j0 (by omega))
    have b := h (s + n) (by omega) (by omega)
    have e : (256 : Int) ^ (n + 1) = 256 ^ n * 256 := Int.pow_succ 256 n
    show 0 ≤ q_wv T s n * 256 + T (s + n) ∧ 2 * (q_wv T s n * 256 + T (s + n)) < 256 ^ (n + 1)
    rw [e]
    omega
theorem q_WV_b {T : Int → Int} {s n : Int} (h0 : 0 ≤ n) (h7 : n ≤ 7) (h : ∀ j, s ≤ j → j < s + n → 97 ≤ T j ∧ T j ≤ 122) : 0 ≤ q_WV T s n ∧ q_WV T s n < 36028797018963968 := by
  have a := q_wv_b (T := T) (s := s) n.toNat (fun j j0 j1 => h j j0 (by omega))
  refine ⟨a.1, ?_⟩
  have b := a.2
  show q_wv T s n.toNat < 36028797018963968
  rcases (show n.toNat = 0 ∨ n.toNat = 1 ∨ n.toNat = 2 ∨ n.toNat = 3 ∨ n.toNat = 4 ∨ n.toNat = 5 ∨ n.toNat = 6 ∨ n.toNat = 7 by omega) with q | q | q | q | q | q | q | q <;> rw [q] at b ⊢ <;> omega
theorem tl_sh8 (x b : Nat) (hx : x < 36028797018963968) (hb : b < 256) : tp_Lor (tp_Lshl (x : Int) 8) (b : Int) = ((x * 256 + b : Nat) : Int) := by
  unfold tp_Lor tp_Lshl
  rw [Int64.ofInt_toInt]
  have e : ((Int64.ofInt (x : Int) <<< ((Int32.ofInt 8).toInt64 &&& 63)) ||| Int64.ofInt (b : Int)).toInt = ((BitVec.ofNat 64 x <<< 8) ||| (BitVec.ofNat 64 b)).toInt := by
    rw [show ((Int32.ofInt 8).toInt64 &&& 63) = (8 : Int64) by decide]
    rfl
  have n : ((BitVec.ofNat 64 x <<< 8) ||| (BitVec.ofNat 64 b)).toNat = x * 256 + b := by
    have h1 : x % 2 ^ 64 = x := Nat.mod_eq_of_lt (by omega)
    have h2 : b % 2 ^ 64 = b := Nat.mod_eq_of_lt (by omega)
    have h3 : x <<< 8 = x * 256 := Nat.shiftLeft_eq x 8
    have h4 : x <<< 8 % 2 ^ 64 = x <<< 8 := Nat.mod_eq_of_lt (by rw [h3]; omega)
    rw [BitVec.toNat_or, BitVec.toNat_shiftLeft, BitVec.toNat_ofNat, BitVec.toNat_ofNat, h1, h2, h4, ← Nat.shiftLeft_add_eq_or_of_lt (by omega), h3]
  rw [e, BitVec.toInt_eq_toNat_of_lt (by rw [n]; omega), n]
theorem tl_sh {x b : Int} (hx : 0 ≤ x ∧ x < 36028797018963968) (hb : 0 ≤ b ∧ b < 256) : tp_Lor (tp_Lshl x 8) b = x * 256 + b := by
  have e := tl_sh8 x.toNat b.toNat (by omega) (by omega)
  rw [show ((x.toNat : Nat) : Int) = x by omega, show ((b.toNat : Nat) : Int) = b by omega] at e
  rw [e]
  omega
/-- the number of the word that is met from i on; 0 if there is none, or a longer one -/
def t_wds (T : Int → Int) (len s : Int) : Int := if t_ks T len s = 1 ∧ t_R t_lt T len s - s ≤ 8 then q_WV T s (t_R t_lt T len s - s) else 0
def t_wd (T : Int → Int) (len i : Int) : Int := t_wds T len (t_s T len i)
/-- the reference's names of the sorts of tokens -/
def t_rk (k : Int) : Int := if k = 0 then 0 else if k = 1 then 2 else if k = 2 then 3 else if k = 3 then 4 else 1
/-- what the reference's reader finds -/
def rd_C (T : Int → Int) (len : Int) (μ : tp_M) : Prop := μ.1 201 11 = len ∧ (0 ≤ len ∧ len ≤ 600) ∧ ∀ j, 0 ≤ j → j < len → tp_and (μ.1 202 j) 255 = T j
def rd_F (μ0 μ : tp_M) : Prop := (∀ c, c ≠ 201 → μ.1 c = μ0.1 c) ∧ (∀ j, j ≠ 10 → (j < 12 ∨ 15 < j) → μ.1 201 j = μ0.1 201 j) ∧ μ.2 = μ0.2
theorem rd_F_rf {μ : tp_M} : rd_F μ μ := ⟨fun _ _ => rfl, fun _ _ _ => rfl, rfl⟩
theorem rd_F_tr {μ μ1 μ2 : tp_M} (h : rd_F μ μ1) (h2 : rd_F μ1 μ2) : rd_F μ μ2 := ⟨fun c z => (h2.1 c z).trans (h.1 c z), fun j z y => (h2.2.1 j z y).trans (h.2.1 j z y), h2.2.2.trans h.2.2⟩
theorem rd_F_pi {μ μ1 : tp_M} {j v : Int} (hj : j = 10 ∨ (12 ≤ j ∧ j ≤ 15)) (h : rd_F μ μ1) : rd_F μ (tp_pi μ1 201 j v) := ⟨fun c z => by rw [tp_pi_ne z]; exact h.1 c z, fun i z y => by rw [tp_pi_ix (by omega)]; exact h.2.1 i z y, h.2.2⟩
theorem rd_C_F {T : Int → Int} {len : Int} {μ μ' : tp_M} (h : rd_F μ μ') (hC : rd_C T len μ) : rd_C T len μ' := by
  unfold rd_C
  rw [h.2.1 11 (by omega) (by omega), h.1 202 (by omega)]
  exact hC
set_option maxHeartbeats 4000000 in
set_option maxRecDepth 100000 in
theorem s_see {G : tp_G} {μ : tp_M} (hG : tp_Gf G = true) {T : Int → Int} {len k : Int} (hC : rd_C T len μ) (h0 : 0 ≤ k) (hnx : μ.1 201 10 = k) (h1 : k < len) : tp_k G mX12_see [tR (some 201)] μ (fun r μ' => r = some (tI (T k)) ∧ μ' = μ) := by
  refine tp_ok_of mX12_see_ok rfl (Nat.le_refl _) ?_
  have hc1 := hC.1
  have hc2 := hC.2.1
  refine g_aload_n rfl rfl ?_
  refine x_geti (v := k) rfl rfl (by decide) (Or.inl rfl) hnx ?_
  refine g_aload_n rfl rfl ?_
  refine x_geti (v := len) rfl rfl (by decide) (Or.inl rfl) hc1 ?_
  refine g_icmp_ge (tgt := 27) rfl (by decide) (fun hx => absurd hx (by omega)) (fun _ => ?_)
  refine g_aload_n rfl rfl ?_
  refine x_getF (r := 202) hG rfl rfl (by decide) (Or.inr ⟨_, rfl⟩) rfl ?_
  refine g_aload_n rfl rfl ?_
  refine x_geti (v := k) rfl rfl (by decide) (Or.inl rfl) hnx ?_
  refine g_bald rfl rfl (by decide) (by omega) (by omega) ?_
  refine g_sipush rfl ⟨by decide, by decide⟩ (by decide) ?_
  refine g_iand rfl ?_
  refine g_goto (tgt := 28) rfl (by decide) ?_
  refine x_ireturn rfl rfl ?_
  exact ⟨by rw [hC.2.2 k (by omega) (by omega)], rfl⟩
set_option maxHeartbeats 4000000 in
set_option maxRecDepth 100000 in
theorem s_seeo {G : tp_G} {μ : tp_M} (hG : tp_Gf G = true) {T : Int → Int} {len k : Int} (hC : rd_C T len μ) (h0 : 0 ≤ k) (hnx : μ.1 201 10 = k) (h1 : len ≤ k) : tp_k G mX12_see [tR (some 201)] μ (fun r μ' => r = some (tI (-1)) ∧ μ' = μ) := by
  refine tp_ok_of mX12_see_ok rfl (Nat.le_refl _) ?_
  have hc1 := hC.1
  have hc2 := hC.2.1
  refine g_aload_n rfl rfl ?_
  refine x_geti (v := k) rfl rfl (by decide) (Or.inl rfl) hnx ?_
  refine g_aload_n rfl rfl ?_
  refine x_geti (v := len) rfl rfl (by decide) (Or.inl rfl) hc1 ?_
  refine g_icmp_ge (tgt := 27) rfl (by decide) (fun _ => ?_) (fun hx => absurd hx (by omega))
  refine g_iconst rfl ⟨by decide, by decide⟩ ?_
  refine x_ireturn rfl rfl ?_
  exact ⟨rfl, rfl⟩
set_option maxHeartbeats 4000000 in
set_option maxRecDepth 100000 in
theorem s_seeV {G : tp_G} {μ : tp_M} (hG : tp_Gf G = true) {T : Int → Int} {len k : Int} (hC : rd_C T len μ) (h0 : 0 ≤ k) (hnx : μ.1 201 10 = k) : tp_k G mX12_see [tR (some 201)] μ (fun r μ' => ((k < len ∧ r = some (tI (T k))) ∨ (len ≤ k ∧ r = some (tI (-1)))) ∧ μ' = μ) := by
  by_cases q : k < len
  · exact tp_kc (fun r μ' z => ⟨Or.inl ⟨q, z.1⟩, z.2⟩) (s_see hG hC h0 hnx q)
  · exact tp_kc (fun r μ' z => ⟨Or.inr ⟨by omega, z.1⟩, z.2⟩) (s_seeo hG hC h0 hnx (by omega))
set_option maxHeartbeats 4000000 in
set_option maxRecDepth 100000 in
theorem l_tokL {G : tp_G} (hG : tp_Gf G = true) {T : Int → Int} {len : Int} (hT : ∀ j, 0 ≤ T j ∧ T j ≤ 255) {μ0 : tp_M} (hC0 : rd_C T len μ0) {S E c : Int} (hS : 0 ≤ S ∧ S < len) (hS0 : 97 ≤ T S ∧ T S ≤ 122) (hE : t_R t_lt T len S = E) : ∀ k, k ≤ len → ∀ (μ : tp_M) (q : Int), 0 ≤ k → μ.1 201 10 = k → (0 ≤ q ∧ q = k - S) → t_R t_lt T len k = E → μ.1 201 12 = S → (q ≤ 8 → μ.1 201 15 = q_WV T S q) → (∀ j, S ≤ j → j < k → 97 ≤ T j ∧ T j ≤ 122) → rd_F μ0 μ → tp_g G mX12_token 74 [some (tR (some 201)), some (tI c), some (tI q)] [] μ (fun r μ' => r = none ∧ μ'.1 201 10 = t_es T len S ∧ μ'.1 201 13 = t_rk (t_ks T len S) ∧ μ'.1 201 12 = S ∧ (t_ks T len S = 2 → μ'.1 201 14 = t_vs T len S) ∧ μ'.1 201 15 = t_wds T len S ∧ rd_F μ0 μ') := by
  refine tp_ind _ ?_
  intro k hkN ih μ q h0 hnx hq hs h12 hwd hlt hF
  have hC := rd_C_F hF hC0
  have hc1 := hC.1
  have hc2 := hC.2.1
  refine g_aload_n rfl rfl ?_
  refine g_cV (as := []) (s_seeV (k := k) hG hC (by omega) hnx) rfl rfl mX12_see_ok rfl rfl rfl (by decide) rfl rfl rfl ?_
  rintro _ w9 ⟨⟨h9, rfl⟩ | ⟨h9, rfl⟩, hw9⟩ _
  · have hw9 := hw9.symm
    subst hw9
    have hTb9 := hT (k)
    refine g_bipush rfl ⟨by decide, by decide⟩ (by decide) ?_
    refine g_bipush rfl ⟨by decide, by decide⟩ (by decide) ?_
    refine g_iS (as := [tI (T k), tI 97, tI 122]) mX12_in_ok rfl rfl rfl rfl rfl rfl rfl ?_
    refine g_iload_n rfl rfl ?_
    refine g_iload_n rfl rfl ?_
    refine g_icmp_lt (tgt := 14) rfl (by decide) (fun h1 => ?_) (fun h1 => ?_)
    · refine g_iconst rfl ⟨by decide, by decide⟩ ?_
      refine x_zreturn rfl rfl (Or.inl rfl) ?_
      intro _
      refine g_if_eq (tgt := 121) rfl (by decide) (fun _ => ?_) (fun hx => absurd hx (by omega))
      refine g_aload_n rfl rfl ?_
      refine g_iload_n rfl rfl ?_
      refine g_bipush rfl ⟨by decide, by decide⟩ (by decide) ?_
      refine g_icmp_le (tgt := 132) rfl (by decide) (fun h2 => ?_) (fun h2 => ?_)
      · refine g_aload_n rfl rfl ?_
        refine g_getl rfl rfl (by decide) rfl ?_
        refine g_putl rfl rfl (by decide) rfl rfl ?_
        refine g_aload_n rfl rfl ?_
        refine g_iconst rfl ⟨by decide, by decide⟩ ?_
        refine g_puti rfl rfl (by decide) rfl rfl ?_
        refine g_goto (tgt := 266) rfl (by decide) ?_
        refine x_return rfl rfl ?_
        have hn : ¬ (k < len ∧ t_lt (T k) = true) := fun z => by
          have z2 := (t_lt_i _).1 z.2
          omega
        have hEk : E = k := by rw [← hs, t_R_n hn]
        have hk1 := t_ks_1 (T := T) (len := len) (s := S) (by omega) hS0
        have hES : t_R t_lt T len S = E := hE
        exact ⟨rfl, by rw [hk1.2, hES, hEk]; exact hnx, by rw [hk1.1]; rfl, h12, fun z => by rw [hk1.1] at z; omega, by unfold t_wds; rw [if_pos ⟨hk1.1, by rw [hES]; omega⟩, hES, hEk, show k - S = q by omega]; exact hwd (by omega), (rd_F_pi (by decide) (rd_F_pi (by decide) hF))⟩
      · refine g_lconst (b := 0) rfl rfl ⟨by decide, by decide⟩ ?_
        refine g_goto (tgt := 136) rfl (by decide) ?_
        refine g_putl rfl rfl (by decide) rfl rfl ?_
        refine g_aload_n rfl rfl ?_
        refine g_iconst rfl ⟨by decide, by decide⟩ ?_
        refine g_puti rfl rfl (by decide) rfl rfl ?_
        refine g_goto (tgt := 266) rfl (by decide) ?_
        refine x_return rfl rfl ?_
        have hn : ¬ (k < len ∧ t_lt (T k) = true) := fun z => by
          have z2 := (t_lt_i _).1 z.2
          omega
        have hEk : E = k := by rw [← hs, t_R_n hn]
        have hk1 := t_ks_1 (T := T) (len := len) (s := S) (by omega) hS0
        have hES : t_R t_lt T len S = E := hE
        exact ⟨rfl, by rw [hk1.2, hES, hEk]; exact hnx, by rw [hk1.1]; rfl, h12, fun z => by rw [hk1.1] at z; omega, by unfold t_wds; rw [if_neg (by rw [hES]; omega)]; rfl, (rd_F_pi (by decide) (rd_F_pi (by decide) hF))⟩
    · refine g_iload_n rfl rfl ?_
      refine g_iload_n rfl rfl ?_
      refine g_icmp_gt (tgt := 14) rfl (by decide) (fun h3 => ?_) (fun h3 => ?_)
      · refine g_iconst rfl ⟨by decide, by decide⟩ ?_
        refine x_zreturn rfl rfl (Or.inl rfl) ?_
        intro _
        refine g_if_eq (tgt := 121) rfl (by decide) (fun _ => ?_) (fun hx => absurd hx (by omega))
        refine g_aload_n rfl rfl ?_
        refine g_iload_n rfl rfl ?_
        refine g_bipush rfl ⟨by decide, by decide⟩ (by decide) ?_
        refine g_icmp_le (tgt := 132) rfl (by decide) (fun h4 => ?_) (fun h4 => ?_)
        · refine g_aload_n rfl rfl ?_
          refine g_getl rfl rfl (by decide) rfl ?_
          refine g_putl rfl rfl (by decide) rfl rfl ?_
          refine g_aload_n rfl rfl ?_
          refine g_iconst rfl ⟨by decide, by decide⟩ ?_
          refine g_puti rfl rfl (by decide) rfl rfl ?_
          refine g_goto (tgt := 266) rfl (by decide) ?_
          refine x_return rfl rfl ?_
          have hn : ¬ (k < len ∧ t_lt (T k) = true) := fun z => by
            have z2 := (t_lt_i _).1 z.2
            omega
          have hEk : E = k := by rw [← hs, t_R_n hn]
          have hk1 := t_ks_1 (T := T) (len := len) (s := S) (by omega) hS0
          have hES : t_R t_lt T len S = E := hE
          exact ⟨rfl, by rw [hk1.2, hES, hEk]; exact hnx, by rw [hk1.1]; rfl, h12, fun z => by rw [hk1.1] at z; omega, by unfold t_wds; rw [if_pos ⟨hk1.1, by rw [hES]; omega⟩, hES, hEk, show k - S = q by omega]; exact hwd (by omega), (rd_F_pi (by decide) (rd_F_pi (by decide) hF))⟩
        · refine g_lconst (b := 0) rfl rfl ⟨by decide, by decide⟩ ?_
          refine g_goto (tgt := 136) rfl (by decide) ?_
          refine g_putl rfl rfl (by decide) rfl rfl ?_
          refine g_aload_n rfl rfl ?_
          refine g_iconst rfl ⟨by decide, by decide⟩ ?_
          refine g_puti rfl rfl (by decide) rfl rfl ?_
          refine g_goto (tgt := 266) rfl (by decide) ?_
          refine x_return rfl rfl ?_
          have hn : ¬ (k < len ∧ t_lt (T k) = true) := fun z => by
            have z2 := (t_lt_i _).1 z.2
            omega
          have hEk : E = k := by rw [← hs, t_R_n hn]
          have hk1 := t_ks_1 (T := T) (len := len) (s := S) (by omega) hS0
          have hES : t_R t_lt T len S = E := hE
          exact ⟨rfl, by rw [hk1.2, hES, hEk]; exact hnx, by rw [hk1.1]; rfl, h12, fun z => by rw [hk1.1] at z; omega, by unfold t_wds; rw [if_neg (by rw [hES]; omega)]; rfl, (rd_F_pi (by decide) (rd_F_pi (by decide) hF))⟩
      · refine g_iconst rfl ⟨by decide, by decide⟩ ?_
        refine g_goto (tgt := 15) rfl (by decide) ?_
        refine x_zreturn rfl rfl (Or.inr rfl) ?_
        intro _
        refine g_if_eq (tgt := 121) rfl (by decide) (fun hx => absurd hx (by omega)) (fun _ => ?_)
        refine g_aload_n rfl rfl ?_
        refine g_aload_n rfl rfl ?_
        refine g_getl rfl rfl (by decide) rfl ?_
        refine g_bipush rfl ⟨by decide, by decide⟩ (by decide) ?_
        refine g_lshl rfl ?_
        refine g_aload_n rfl rfl ?_
        refine g_cV (as := []) (s_see (k := k) hG hC (by omega) hnx (by omega)) rfl rfl mX12_see_ok rfl rfl rfl (by decide) rfl rfl rfl ?_
        rintro _ w9 ⟨rfl, hw9⟩ _
        have hw9 := hw9.symm
        subst hw9
        have hTb4 := hT (k)
        refine g_i2l rfl ?_
        refine g_lor rfl ?_
        refine g_putl rfl rfl (by decide) rfl rfl ?_
        refine g_aload_n rfl rfl ?_
        refine g_dupr rfl ?_
        refine x_geti (v := k) rfl rfl (by decide) (Or.inl rfl) hnx ?_
        refine g_iconst rfl ⟨by decide, by decide⟩ ?_
        refine x_iadd (z := k + 1) rfl (by omega) ⟨by omega, by omega⟩ ?_
        refine g_puti rfl rfl (by decide) rfl rfl ?_
        refine x_iinc (z := q + 1) rfl rfl (by omega) ⟨by omega, by omega⟩ rfl rfl ?_
        refine g_goto (tgt := 74) rfl (by decide) ?_
        have hy := t_R_y (P := t_lt) (T := T) (len := len) (i := k) (by omega) ((t_lt_i _).2 (by omega))
        exact ih (by omega) _ _ (by omega) rfl (by omega) (by rw [← hy]; exact hs) h12 (fun z => by
          show tp_Lor (tp_Lshl (μ.1 201 15) 8) (T k) = _
          rw [hwd (by omega), tl_sh (q_WV_b (by omega) (by omega) (fun j j0 j1 => hlt j j0 (by omega))) (by omega), q_WV_s (by omega), show S + q = k by omega]) (fun j j0 j1 => by rcases (show j < k ∨ j = k by omega) with u | u; (exact hlt j j0 u); (rw [u]; omega)) (rd_F_pi (by decide) (rd_F_pi (by decide) hF))
  · have hw9 := hw9.symm
    subst hw9
    refine g_bipush rfl ⟨by decide, by decide⟩ (by decide) ?_
    refine g_bipush rfl ⟨by decide, by decide⟩ (by decide) ?_
    refine g_iS (as := [tI (-1), tI 97, tI 122]) mX12_in_ok rfl rfl rfl rfl rfl rfl rfl ?_
    refine g_iload_n rfl rfl ?_
    refine g_iload_n rfl rfl ?_
    refine g_icmp_lt (tgt := 14) rfl (by decide) (fun _ => ?_) (fun hx => absurd hx (by omega))
    refine g_iconst rfl ⟨by decide, by decide⟩ ?_
    refine x_zreturn rfl rfl (Or.inl rfl) ?_
    intro _
    refine g_if_eq (tgt := 121) rfl (by decide) (fun _ => ?_) (fun hx => absurd hx (by omega))
    refine g_aload_n rfl rfl ?_
    refine g_iload_n rfl rfl ?_
    refine g_bipush rfl ⟨by decide, by decide⟩ (by decide) ?_
    refine g_icmp_le (tgt := 132) rfl (by decide) (fun h5 => ?_) (fun h5 => ?_)
    · refine g_aload_n rfl rfl ?_
      refine g_getl rfl rfl (by decide) rfl ?_
      refine g_putl rfl rfl (by decide) rfl rfl ?_
      refine g_aload_n rfl rfl ?_
      refine g_iconst rfl ⟨by decide, by decide⟩ ?_
      refine g_puti rfl rfl (by decide) rfl rfl ?_
      refine g_goto (tgt := 266) rfl (by decide) ?_
      refine x_return rfl rfl ?_
      have hn : ¬ (k < len ∧ t_lt (T k) = true) := fun z => by
        have z2 := (t_lt_i _).1 z.2
        omega
      have hEk : E = k := by rw [← hs, t_R_n hn]
      have hk1 := t_ks_1 (T := T) (len := len) (s := S) (by omega) hS0
      have hES : t_R t_lt T len S = E := hE
      exact ⟨rfl, by rw [hk1.2, hES, hEk]; exact hnx, by rw [hk1.1]; rfl, h12, fun z => by rw [hk1.1] at z; omega, by unfold t_wds; rw [if_pos ⟨hk1.1, by rw [hES]; omega⟩, hES, hEk, show k - S = q by omega]; exact hwd (by omega), (rd_F_pi (by decide) (rd_F_pi (by decide) hF))⟩
    · refine g_lconst (b := 0) rfl rfl ⟨by decide, by decide⟩ ?_
      refine g_goto (tgt := 136) rfl (by decide) ?_
      refine g_putl rfl rfl (by decide) rfl rfl ?_
      refine g_aload_n rfl rfl ?_
      refine g_iconst rfl ⟨by decide, by decide⟩ ?_
      refine g_puti rfl rfl (by decide) rfl rfl ?_
      refine g_goto (tgt := 266) rfl (by decide) ?_
      refine x_return rfl rfl ?_
      have hn : ¬ (k < len ∧ t_lt (T k) = true) := fun z => by
        have z2 := (t_lt_i _).1 z.2
        omega
      have hEk : E = k := by rw [← hs, t_R_n hn]
      have hk1 := t_ks_1 (T := T) (len := len) (s := S) (by omega) hS0
      have hES : t_R t_lt T len S = E := hE
      exact ⟨rfl, by rw [hk1.2, hES, hEk]; exact hnx, by rw [hk1.1]; rfl, h12, fun z => by rw [hk1.1] at z; omega, by unfold t_wds; rw [if_neg (by rw [hES]; omega)]; rfl, (rd_F_pi (by decide) (rd_F_pi (by decide) hF))⟩
set_option maxHeartbeats 4000000 in
set_option maxRecDepth 100000 in
theorem l_tokD {G : tp_G} (hG : tp_Gf G = true) {T : Int → Int} {len : Int} (hT : ∀ j, 0 ≤ T j ∧ T j ≤ 255) {μ0 : tp_M} (hC0 : rd_C T len μ0) {S E c : Int} (hS : 0 ≤ S ∧ S < len) (hS0 : 48 ≤ T S ∧ T S ≤ 57) (hE : t_R t_dg T len S = E) : ∀ k, k ≤ len → ∀ (μ : tp_M) (q : Int), 0 ≤ k → μ.1 201 10 = k → (0 ≤ q ∧ q = k - S) → t_R t_dg T len k = E → μ.1 201 12 = S → μ.1 201 14 = t_nv T S k → μ.1 201 15 = 0 → rd_F μ0 μ → tp_g G mX12_token 163 [some (tR (some 201)), some (tI c), some (tI q)] [] μ (fun r μ' => r = none ∧ μ'.1 201 10 = t_es T len S ∧ μ'.1 201 13 = t_rk (t_ks T len S) ∧ μ'.1 201 12 = S ∧ (t_ks T len S = 2 → μ'.1 201 14 = t_vs T len S) ∧ μ'.1 201 15 = t_wds T len S ∧ rd_F μ0 μ') := by
  refine tp_ind _ ?_
  intro k hkN ih μ q h0 hnx hq hs h12 hnm h15 hF
  have hC := rd_C_F hF hC0
  have hc1 := hC.1
  have hc2 := hC.2.1
  have hnvb := t_nv_b hT S k
  refine g_aload_n rfl rfl ?_
  refine g_cV (as := []) (s_seeV (k := k) hG hC (by omega) hnx) rfl rfl mX12_see_ok rfl rfl rfl (by decide) rfl rfl rfl ?_
  rintro _ w9 ⟨⟨h9, rfl⟩ | ⟨h9, rfl⟩, hw9⟩ _
  · have hw9 := hw9.symm
    subst hw9
    have hTb9 := hT (k)
    refine g_bipush rfl ⟨by decide, by decide⟩ (by decide) ?_
    refine g_bipush rfl ⟨by decide, by decide⟩ (by decide) ?_
    refine g_iS (as := [tI (T k), tI 48, tI 57]) mX12_in_ok rfl rfl rfl rfl rfl rfl rfl ?_
    refine g_iload_n rfl rfl ?_
    refine g_iload_n rfl rfl ?_
    refine g_icmp_lt (tgt := 14) rfl (by decide) (fun h1 => ?_) (fun h1 => ?_)
    · refine g_iconst rfl ⟨by decide, by decide⟩ ?_
      refine x_zreturn rfl rfl (Or.inl rfl) ?_
      intro _
      refine g_if_eq (tgt := 224) rfl (by decide) (fun _ => ?_) (fun hx => absurd hx (by omega))
      refine g_aload_n rfl rfl ?_
      refine g_iload_n rfl rfl ?_
      refine g_iconst rfl ⟨by decide, by decide⟩ ?_
      refine g_icmp_le (tgt := 234) rfl (by decide) (fun h2 => ?_) (fun h2 => ?_)
      · refine g_iconst rfl ⟨by decide, by decide⟩ ?_
        refine g_puti rfl rfl (by decide) rfl rfl ?_
        refine g_goto (tgt := 266) rfl (by decide) ?_
        refine x_return rfl rfl ?_
        have hn : ¬ (k < len ∧ t_dg (T k) = true) := fun z => by
          have z2 := (t_dg_i _).1 z.2
          omega
        have hEk : E = k := by rw [← hs, t_R_n hn]
        have hk2 := t_ks_2 (T := T) (len := len) (s := S) (by omega) hS0
        have hyb := t_R_y (P := t_dg) (T := T) (len := len) (i := S) (by omega) ((t_dg_i _).2 hS0)
        have hyB := t_R_B (P := t_dg) (T := T) (len := len) (i := S + 1) (by omega)
        rw [if_pos (by omega)] at hk2
        exact ⟨rfl, by rw [hk2.2, hE, hEk]; exact hnx, by rw [hk2.1]; rfl, h12, fun z => by rw [← t_nv_e (by omega), hE, hEk]; exact hnm, by unfold t_wds; rw [if_neg (by rw [hk2.1]; omega)]; exact h15, (rd_F_pi (by decide) hF)⟩
      · refine g_iconst rfl ⟨by decide, by decide⟩ ?_
        refine g_goto (tgt := 235) rfl (by decide) ?_
        refine g_puti rfl rfl (by decide) rfl rfl ?_
        refine g_goto (tgt := 266) rfl (by decide) ?_
        refine x_return rfl rfl ?_
        have hn : ¬ (k < len ∧ t_dg (T k) = true) := fun z => by
          have z2 := (t_dg_i _).1 z.2
          omega
        have hEk : E = k := by rw [← hs, t_R_n hn]
        have hk2 := t_ks_2 (T := T) (len := len) (s := S) (by omega) hS0
        have hyb := t_R_y (P := t_dg) (T := T) (len := len) (i := S) (by omega) ((t_dg_i _).2 hS0)
        have hyB := t_R_B (P := t_dg) (T := T) (len := len) (i := S + 1) (by omega)
        rw [if_neg (by omega)] at hk2
        exact ⟨rfl, by rw [hk2.2, hE, hEk]; exact hnx, by rw [hk2.1]; rfl, h12, fun z => by rw [← t_nv_e (by omega), hE, hEk]; exact hnm, by unfold t_wds; rw [if_neg (by rw [hk2.1]; omega)]; exact h15, (rd_F_pi (by decide) hF)⟩
    · refine g_iload_n rfl rfl ?_
      refine g_iload_n rfl rfl ?_
      refine g_icmp_gt (tgt := 14) rfl (by decide) (fun h3 => ?_) (fun h3 => ?_)
      · refine g_iconst rfl ⟨by decide, by decide⟩ ?_
        refine x_zreturn rfl rfl (Or.inl rfl) ?_
        intro _
        refine g_if_eq (tgt := 224) rfl (by decide) (fun _ => ?_) (fun hx => absurd hx (by omega))
        refine g_aload_n rfl rfl ?_
        refine g_iload_n rfl rfl ?_
        refine g_iconst rfl ⟨by decide, by decide⟩ ?_
        refine g_icmp_le (tgt := 234) rfl (by decide) (fun h4 => ?_) (fun h4 => ?_)
        · refine g_iconst rfl ⟨by decide, by decide⟩ ?_
          refine g_puti rfl rfl (by decide) rfl rfl ?_
          refine g_goto (tgt := 266) rfl (by decide) ?_
          refine x_return rfl rfl ?_
          have hn : ¬ (k < len ∧ t_dg (T k) = true) := fun z => by
            have z2 := (t_dg_i _).1 z.2
            omega
          have hEk : E = k := by rw [← hs, t_R_n hn]
          have hk2 := t_ks_2 (T := T) (len := len) (s := S) (by omega) hS0
          have hyb := t_R_y (P := t_dg) (T := T) (len := len) (i := S) (by omega) ((t_dg_i _).2 hS0)
          have hyB := t_R_B (P := t_dg) (T := T) (len := len) (i := S + 1) (by omega)
          rw [if_pos (by omega)] at hk2
          exact ⟨rfl, by rw [hk2.2, hE, hEk]; exact hnx, by rw [hk2.1]; rfl, h12, fun z => by rw [← t_nv_e (by omega), hE, hEk]; exact hnm, by unfold t_wds; rw [if_neg (by rw [hk2.1]; omega)]; exact h15, (rd_F_pi (by decide) hF)⟩
        · refine g_iconst rfl ⟨by decide, by decide⟩ ?_
          refine g_goto (tgt := 235) rfl (by decide) ?_
          refine g_puti rfl rfl (by decide) rfl rfl ?_
          refine g_goto (tgt := 266) rfl (by decide) ?_
          refine x_return rfl rfl ?_
          have hn : ¬ (k < len ∧ t_dg (T k) = true) := fun z => by
            have z2 := (t_dg_i _).1 z.2
            omega
          have hEk : E = k := by rw [← hs, t_R_n hn]
          have hk2 := t_ks_2 (T := T) (len := len) (s := S) (by omega) hS0
          have hyb := t_R_y (P := t_dg) (T := T) (len := len) (i := S) (by omega) ((t_dg_i _).2 hS0)
          have hyB := t_R_B (P := t_dg) (T := T) (len := len) (i := S + 1) (by omega)
          rw [if_neg (by omega)] at hk2
          exact ⟨rfl, by rw [hk2.2, hE, hEk]; exact hnx, by rw [hk2.1]; rfl, h12, fun z => by rw [← t_nv_e (by omega), hE, hEk]; exact hnm, by unfold t_wds; rw [if_neg (by rw [hk2.1]; omega)]; exact h15, (rd_F_pi (by decide) hF)⟩
      · refine g_iconst rfl ⟨by decide, by decide⟩ ?_
        refine g_goto (tgt := 15) rfl (by decide) ?_
        refine x_zreturn rfl rfl (Or.inr rfl) ?_
        intro _
        refine g_if_eq (tgt := 224) rfl (by decide) (fun hx => absurd hx (by omega)) (fun _ => ?_)
        refine g_aload_n rfl rfl ?_
        refine g_iload_n rfl rfl ?_
        refine g_iconst rfl ⟨by decide, by decide⟩ ?_
        refine g_icmp_ge (tgt := 201) rfl (by decide) (fun h5 => ?_) (fun h5 => ?_)
        · refine g_aload_n rfl rfl ?_
          refine x_geti (v := (t_nv T S k)) rfl rfl (by decide) (Or.inl rfl) hnm ?_
          refine g_puti rfl rfl (by decide) rfl rfl ?_
          refine g_aload_n rfl rfl ?_
          refine g_dupr rfl ?_
          refine x_geti (v := k) rfl rfl (by decide) (Or.inl rfl) hnx ?_
          refine g_iconst rfl ⟨by decide, by decide⟩ ?_
          refine x_iadd (z := k + 1) rfl (by omega) ⟨by omega, by omega⟩ ?_
          refine g_puti rfl rfl (by decide) rfl rfl ?_
          refine x_iinc (z := q + 1) rfl rfl (by omega) ⟨by omega, by omega⟩ rfl rfl ?_
          refine g_goto (tgt := 163) rfl (by decide) ?_
          have hy := t_R_y (P := t_dg) (T := T) (len := len) (i := k) (by omega) ((t_dg_i _).2 (by omega))
          have hv := t_nv_s (T := T) (s := S) (k := k) (by omega)
          rw [if_neg (by omega)] at hv
          exact ih (by omega) _ _ (by omega) rfl (by omega) (by rw [← hy]; exact hs) h12 (by show t_nv T S k = _; rw [hv]) h15 (rd_F_pi (by decide) (rd_F_pi (by decide) hF))
        · refine g_bipush rfl ⟨by decide, by decide⟩ (by decide) ?_
          refine g_aload_n rfl rfl ?_
          refine x_geti (v := (t_nv T S k)) rfl rfl (by decide) (Or.inl rfl) hnm ?_
          refine x_imul (z := 10 * (t_nv T S k)) rfl (by omega) ⟨by omega, by omega⟩ ?_
          refine g_aload_n rfl rfl ?_
          refine g_cV (as := []) (s_see (k := k) hG hC (by omega) hnx (by omega)) rfl rfl mX12_see_ok rfl rfl rfl (by decide) rfl rfl rfl ?_
          rintro _ w9 ⟨rfl, hw9⟩ _
          have hw9 := hw9.symm
          subst hw9
          have hTb5 := hT (k)
          refine x_iadd (z := 10 * (t_nv T S k) + (T k)) rfl (by omega) ⟨by omega, by omega⟩ ?_
          refine g_bipush rfl ⟨by decide, by decide⟩ (by decide) ?_
          refine x_isub (z := 10 * (t_nv T S k) + (T k) - 48) rfl (by omega) ⟨by omega, by omega⟩ ?_
          refine g_goto (tgt := 205) rfl (by decide) ?_
          refine g_puti rfl rfl (by decide) rfl rfl ?_
          refine g_aload_n rfl rfl ?_
          refine g_dupr rfl ?_
          refine x_geti (v := k) rfl rfl (by decide) (Or.inl rfl) hnx ?_
          refine g_iconst rfl ⟨by decide, by decide⟩ ?_
          refine x_iadd (z := k + 1) rfl (by omega) ⟨by omega, by omega⟩ ?_
          refine g_puti rfl rfl (by decide) rfl rfl ?_
          refine x_iinc (z := q + 1) rfl rfl (by omega) ⟨by omega, by omega⟩ rfl rfl ?_
          refine g_goto (tgt := 163) rfl (by decide) ?_
          have hy := t_R_y (P := t_dg) (T := T) (len := len) (i := k) (by omega) ((t_dg_i _).2 (by omega))
          have hv := t_nv_s (T := T) (s := S) (k := k) (by omega)
          rw [if_pos (by omega)] at hv
          exact ih (by omega) _ _ (by omega) rfl (by omega) (by rw [← hy]; exact hs) h12 (by show 10 * t_nv T S k + T k - 48 = _; rw [hv]; omega) h15 (rd_F_pi (by decide) (rd_F_pi (by decide) hF))
  · have hw9 := hw9.symm
    subst hw9
    refine g_bipush rfl ⟨by decide, by decide⟩ (by decide) ?_
    refine g_bipush rfl ⟨by decide, by decide⟩ (by decide) ?_
    refine g_iS (as := [tI (-1), tI 48, tI 57]) mX12_in_ok rfl rfl rfl rfl rfl rfl rfl ?_
    refine g_iload_n rfl rfl ?_
    refine g_iload_n rfl rfl ?_
    refine g_icmp_lt (tgt := 14) rfl (by decide) (fun _ => ?_) (fun hx => absurd hx (by omega))
    refine g_iconst rfl ⟨by decide, by decide⟩ ?_
    refine x_zreturn rfl rfl (Or.inl rfl) ?_
    intro _
    refine g_if_eq (tgt := 224) rfl (by decide) (fun _ => ?_) (fun hx => absurd hx (by omega))
    refine g_aload_n rfl rfl ?_
    refine g_iload_n rfl rfl ?_
    refine g_iconst rfl ⟨by decide, by decide⟩ ?_
    refine g_icmp_le (tgt := 234) rfl (by decide) (fun h6 => ?_) (fun h6 => ?_)
    · refine g_iconst rfl ⟨by decide, by decide⟩ ?_
      refine g_puti rfl rfl (by decide) rfl rfl ?_
      refine g_goto (tgt := 266) rfl (by decide) ?_
      refine x_return rfl rfl ?_
      have hn : ¬ (k < len ∧ t_dg (T k) = true) := fun z => by
        have z2 := (t_dg_i _).1 z.2
        omega
      have hEk : E = k := by rw [← hs, t_R_n hn]
      have hk2 := t_ks_2 (T := T) (len := len) (s := S) (by omega) hS0
      have hyb := t_R_y (P := t_dg) (T := T) (len := len) (i := S) (by omega) ((t_dg_i _).2 hS0)
      have hyB := t_R_B (P := t_dg) (T := T) (len := len) (i := S + 1) (by omega)
      rw [if_pos (by omega)] at hk2
      exact ⟨rfl, by rw [hk2.2, hE, hEk]; exact hnx, by rw [hk2.1]; rfl, h12, fun z => by rw [← t_nv_e (by omega), hE, hEk]; exact hnm, by unfold t_wds; rw [if_neg (by rw [hk2.1]; omega)]; exact h15, (rd_F_pi (by decide) hF)⟩
    · refine g_iconst rfl ⟨by decide, by decide⟩ ?_
      refine g_goto (tgt := 235) rfl (by decide) ?_
      refine g_puti rfl rfl (by decide) rfl rfl ?_
      refine g_goto (tgt := 266) rfl (by decide) ?_
      refine x_return rfl rfl ?_
      have hn : ¬ (k < len ∧ t_dg (T k) = true) := fun z => by
        have z2 := (t_dg_i _).1 z.2
        omega
      have hEk : E = k := by rw [← hs, t_R_n hn]
      have hk2 := t_ks_2 (T := T) (len := len) (s := S) (by omega) hS0
      have hyb := t_R_y (P := t_dg) (T := T) (len := len) (i := S) (by omega) ((t_dg_i _).2 hS0)
      have hyB := t_R_B (P := t_dg) (T := T) (len := len) (i := S + 1) (by omega)
      rw [if_neg (by omega)] at hk2
      exact ⟨rfl, by rw [hk2.2, hE, hEk]; exact hnx, by rw [hk2.1]; rfl, h12, fun z => by rw [← t_nv_e (by omega), hE, hEk]; exact hnm, by unfold t_wds; rw [if_neg (by rw [hk2.1]; omega)]; exact h15, (rd_F_pi (by decide) hF)⟩
set_option maxHeartbeats 4000000 in
set_option maxRecDepth 100000 in
theorem l_tok {G : tp_G} (hG : tp_Gf G = true) {T : Int → Int} {len : Int} (hT : ∀ j, 0 ≤ T j ∧ T j ≤ 255) {μ0 : tp_M} (hC0 : rd_C T len μ0) {S : Int} : ∀ k, k ≤ len → ∀ (μ : tp_M) (x1 x2 : Option tp_V), 0 ≤ k → μ.1 201 10 = k → t_R t_bl T len k = S → rd_F μ0 μ → tp_g G mX12_token 0 [some (tR (some 201)), x1, x2] [] μ (fun r μ' => r = none ∧ μ'.1 201 10 = t_es T len S ∧ μ'.1 201 13 = t_rk (t_ks T len S) ∧ μ'.1 201 12 = S ∧ (t_ks T len S = 2 → μ'.1 201 14 = t_vs T len S) ∧ μ'.1 201 15 = t_wds T len S ∧ rd_F μ0 μ') := by
  refine tp_ind _ ?_
  intro k hkN ih μ x1 x2 h0 hnx hs hF
  have hC := rd_C_F hF hC0
  have hc1 := hC.1
  have hc2 := hC.2.1
  refine g_aload_n rfl rfl ?_
  refine g_cV (as := []) (s_seeV (k := k) hG hC (by omega) hnx) rfl rfl mX12_see_ok rfl rfl rfl (by decide) rfl rfl rfl ?_
  rintro _ w9 ⟨⟨h9, rfl⟩ | ⟨h9, rfl⟩, hw9⟩ _
  · have hw9 := hw9.symm
    subst hw9
    have hTb9 := hT (k)
    refine g_bipush rfl ⟨by decide, by decide⟩ (by decide) ?_
    refine g_icmp_eq (tgt := 18) rfl (by decide) (fun h1 => ?_) (fun h1 => ?_)
    · refine g_aload_n rfl rfl ?_
      refine g_dupr rfl ?_
      refine x_geti (v := k) rfl rfl (by decide) (Or.inl rfl) hnx ?_
      refine g_iconst rfl ⟨by decide, by decide⟩ ?_
      refine x_iadd (z := k + 1) rfl (by omega) ⟨by omega, by omega⟩ ?_
      refine g_puti rfl rfl (by decide) rfl rfl ?_
      refine g_goto (tgt := 0) rfl (by decide) ?_
      have hy := t_R_y (P := t_bl) (T := T) (len := len) (i := k) (by omega) ((t_bl_i _).2 (by omega))
      exact ih (by omega) _ _ _ (by omega) rfl (by rw [← hy]; exact hs) (rd_F_pi (by decide) hF)
    · refine g_aload_n rfl rfl ?_
      refine g_cV (as := []) (s_see (k := k) hG hC (by omega) hnx (by omega)) rfl rfl mX12_see_ok rfl rfl rfl (by decide) rfl rfl rfl ?_
      rintro _ w9 ⟨rfl, hw9⟩ _
      have hw9 := hw9.symm
      subst hw9
      have hTb1 := hT (k)
      refine g_bipush rfl ⟨by decide, by decide⟩ (by decide) ?_
      refine g_icmp_ne (tgt := 31) rfl (by decide) (fun h2 => ?_) (fun h2 => ?_)
      · refine g_aload_n rfl rfl ?_
        refine g_aload_n rfl rfl ?_
        refine x_geti (v := k) rfl rfl (by decide) (Or.inl rfl) hnx ?_
        refine g_puti rfl rfl (by decide) rfl rfl ?_
        refine g_aload_n rfl rfl ?_
        refine g_cV (as := []) (s_see (k := k) hG (rd_C_F (rd_F_pi (by decide) rd_F_rf) hC) (by omega) hnx (by omega)) rfl rfl mX12_see_ok rfl rfl rfl (by decide) rfl rfl rfl ?_
        rintro _ w9 ⟨rfl, hw9⟩ _
        have hw9 := hw9.symm
        subst hw9
        have hTb2 := hT (k)
        refine g_istore_n rfl rfl rfl ?_
        refine g_aload_n rfl rfl ?_
        refine g_lconst (b := 0) rfl rfl ⟨by decide, by decide⟩ ?_
        refine g_putl rfl rfl (by decide) rfl rfl ?_
        refine g_iconst rfl ⟨by decide, by decide⟩ ?_
        refine g_istore_n rfl rfl rfl ?_
        refine g_iload_n rfl rfl ?_
        refine g_if_ge (tgt := 63) rfl (by decide) (fun _ => ?_) (fun hx => absurd hx (by omega))
        refine g_iload_n rfl rfl ?_
        refine g_bipush rfl ⟨by decide, by decide⟩ (by decide) ?_
        refine g_bipush rfl ⟨by decide, by decide⟩ (by decide) ?_
        refine g_iS (as := [tI (T k), tI 97, tI 122]) mX12_in_ok rfl rfl rfl rfl rfl rfl rfl ?_
        refine g_iload_n rfl rfl ?_
        refine g_iload_n rfl rfl ?_
        refine g_icmp_lt (tgt := 14) rfl (by decide) (fun h3 => ?_) (fun h3 => ?_)
        · refine g_iconst rfl ⟨by decide, by decide⟩ ?_
          refine x_zreturn rfl rfl (Or.inl rfl) ?_
          intro _
          refine g_if_eq (tgt := 147) rfl (by decide) (fun _ => ?_) (fun hx => absurd hx (by omega))
          refine g_iload_n rfl rfl ?_
          refine g_bipush rfl ⟨by decide, by decide⟩ (by decide) ?_
          refine g_bipush rfl ⟨by decide, by decide⟩ (by decide) ?_
          refine g_iS (as := [tI (T k), tI 48, tI 57]) mX12_in_ok rfl rfl rfl rfl rfl rfl rfl ?_
          refine g_iload_n rfl rfl ?_
          refine g_iload_n rfl rfl ?_
          refine g_icmp_lt (tgt := 14) rfl (by decide) (fun h4 => ?_) (fun h4 => ?_)
          · refine g_iconst rfl ⟨by decide, by decide⟩ ?_
            refine x_zreturn rfl rfl (Or.inl rfl) ?_
            intro _
            refine g_if_eq (tgt := 241) rfl (by decide) (fun _ => ?_) (fun hx => absurd hx (by omega))
            refine g_aload_n rfl rfl ?_
            refine g_dupr rfl ?_
            refine x_geti (v := k) rfl rfl (by decide) (Or.inl rfl) hnx ?_
            refine g_iconst rfl ⟨by decide, by decide⟩ ?_
            refine x_iadd (z := k + 1) rfl (by omega) ⟨by omega, by omega⟩ ?_
            refine g_puti rfl rfl (by decide) rfl rfl ?_
            refine g_aload_n rfl rfl ?_
            refine g_iload_n rfl rfl ?_
            refine g_bipush rfl ⟨by decide, by decide⟩ (by decide) ?_
            refine g_icmp_ne (tgt := 262) rfl (by decide) (fun _ => ?_) (fun hx => absurd hx (by omega))
            refine g_iconst rfl ⟨by decide, by decide⟩ ?_
            refine g_puti rfl rfl (by decide) rfl rfl ?_
            refine x_return rfl rfl ?_
            have hn : ¬ (k < len ∧ t_bl (T k) = true) := fun z => by
              have z2 := (t_bl_i _).1 z.2
              omega
            have hSk : S = k := by rw [← hs, t_R_n hn]
            rw [hSk]
            have hk3 := t_ks_3 (T := T) (len := len) (s := k) (by omega) (by omega) (by omega)
            rw [if_neg (by omega)] at hk3
            exact ⟨rfl, by rw [hk3.2]; rfl, by rw [hk3.1]; rfl, rfl, fun z => by rw [hk3.1] at z; omega, by unfold t_wds; rw [if_neg (by rw [hk3.1]; omega)]; rfl, (rd_F_pi (by decide) (rd_F_pi (by decide) (rd_F_pi (by decide) (rd_F_pi (by decide) hF))))⟩
          · refine g_iload_n rfl rfl ?_
            refine g_iload_n rfl rfl ?_
            refine g_icmp_gt (tgt := 14) rfl (by decide) (fun h5 => ?_) (fun h5 => ?_)
            · refine g_iconst rfl ⟨by decide, by decide⟩ ?_
              refine x_zreturn rfl rfl (Or.inl rfl) ?_
              intro _
              refine g_if_eq (tgt := 241) rfl (by decide) (fun _ => ?_) (fun hx => absurd hx (by omega))
              refine g_aload_n rfl rfl ?_
              refine g_dupr rfl ?_
              refine x_geti (v := k) rfl rfl (by decide) (Or.inl rfl) hnx ?_
              refine g_iconst rfl ⟨by decide, by decide⟩ ?_
              refine x_iadd (z := k + 1) rfl (by omega) ⟨by omega, by omega⟩ ?_
              refine g_puti rfl rfl (by decide) rfl rfl ?_
              refine g_aload_n rfl rfl ?_
              refine g_iload_n rfl rfl ?_
              refine g_bipush rfl ⟨by decide, by decide⟩ (by decide) ?_
              refine g_icmp_ne (tgt := 262) rfl (by decide) (fun h6 => ?_) (fun h6 => ?_)
              · refine g_iconst rfl ⟨by decide, by decide⟩ ?_
                refine g_puti rfl rfl (by decide) rfl rfl ?_
                refine x_return rfl rfl ?_
                have hn : ¬ (k < len ∧ t_bl (T k) = true) := fun z => by
                  have z2 := (t_bl_i _).1 z.2
                  omega
                have hSk : S = k := by rw [← hs, t_R_n hn]
                rw [hSk]
                have hk3 := t_ks_3 (T := T) (len := len) (s := k) (by omega) (by omega) (by omega)
                rw [if_neg (by omega)] at hk3
                exact ⟨rfl, by rw [hk3.2]; rfl, by rw [hk3.1]; rfl, rfl, fun z => by rw [hk3.1] at z; omega, by unfold t_wds; rw [if_neg (by rw [hk3.1]; omega)]; rfl, (rd_F_pi (by decide) (rd_F_pi (by decide) (rd_F_pi (by decide) (rd_F_pi (by decide) hF))))⟩
              · refine g_iconst rfl ⟨by decide, by decide⟩ ?_
                refine g_goto (tgt := 263) rfl (by decide) ?_
                refine g_puti rfl rfl (by decide) rfl rfl ?_
                refine x_return rfl rfl ?_
                have hn : ¬ (k < len ∧ t_bl (T k) = true) := fun z => by
                  have z2 := (t_bl_i _).1 z.2
                  omega
                have hSk : S = k := by rw [← hs, t_R_n hn]
                rw [hSk]
                have hk3 := t_ks_3 (T := T) (len := len) (s := k) (by omega) (by omega) (by omega)
                rw [if_pos (by omega)] at hk3
                exact ⟨rfl, by rw [hk3.2]; rfl, by rw [hk3.1]; rfl, rfl, fun z => by rw [hk3.1] at z; omega, by unfold t_wds; rw [if_neg (by rw [hk3.1]; omega)]; rfl, (rd_F_pi (by decide) (rd_F_pi (by decide) (rd_F_pi (by decide) (rd_F_pi (by decide) hF))))⟩
            · refine g_iconst rfl ⟨by decide, by decide⟩ ?_
              refine g_goto (tgt := 15) rfl (by decide) ?_
              refine x_zreturn rfl rfl (Or.inr rfl) ?_
              intro _
              refine g_if_eq (tgt := 241) rfl (by decide) (fun hx => absurd hx (by omega)) (fun _ => ?_)
              refine g_aload_n rfl rfl ?_
              refine g_iconst rfl ⟨by decide, by decide⟩ ?_
              refine g_puti rfl rfl (by decide) rfl rfl ?_
              have hn : ¬ (k < len ∧ t_bl (T k) = true) := fun z => by
                have z2 := (t_bl_i _).1 z.2
                omega
              have hSk : S = k := by rw [← hs, t_R_n hn]
              rw [hSk]
              exact l_tokD (μ0 := μ0) hG hT hC0 (S := k) ⟨h0, by omega⟩ (by omega) rfl k (by omega) _ _ h0 hnx (by omega) rfl rfl (by show (0 : Int) = _; exact (if_pos (Int.le_refl _)).symm) rfl (rd_F_pi (by decide) (rd_F_pi (by decide) (rd_F_pi (by decide) hF)))
        · refine g_iload_n rfl rfl ?_
          refine g_iload_n rfl rfl ?_
          refine g_icmp_gt (tgt := 14) rfl (by decide) (fun h7 => ?_) (fun h7 => ?_)
          · refine g_iconst rfl ⟨by decide, by decide⟩ ?_
            refine x_zreturn rfl rfl (Or.inl rfl) ?_
            intro _
            refine g_if_eq (tgt := 147) rfl (by decide) (fun _ => ?_) (fun hx => absurd hx (by omega))
            refine g_iload_n rfl rfl ?_
            refine g_bipush rfl ⟨by decide, by decide⟩ (by decide) ?_
            refine g_bipush rfl ⟨by decide, by decide⟩ (by decide) ?_
            refine g_iS (as := [tI (T k), tI 48, tI 57]) mX12_in_ok rfl rfl rfl rfl rfl rfl rfl ?_
            refine g_iload_n rfl rfl ?_
            refine g_iload_n rfl rfl ?_
            refine g_icmp_lt (tgt := 14) rfl (by decide) (fun hx => absurd hx (by omega)) (fun _ => ?_)
            refine g_iload_n rfl rfl ?_
            refine g_iload_n rfl rfl ?_
            refine g_icmp_gt (tgt := 14) rfl (by decide) (fun _ => ?_) (fun hx => absurd hx (by omega))
            refine g_iconst rfl ⟨by decide, by decide⟩ ?_
            refine x_zreturn rfl rfl (Or.inl rfl) ?_
            intro _
            refine g_if_eq (tgt := 241) rfl (by decide) (fun _ => ?_) (fun hx => absurd hx (by omega))
            refine g_aload_n rfl rfl ?_
            refine g_dupr rfl ?_
            refine x_geti (v := k) rfl rfl (by decide) (Or.inl rfl) hnx ?_
            refine g_iconst rfl ⟨by decide, by decide⟩ ?_
            refine x_iadd (z := k + 1) rfl (by omega) ⟨by omega, by omega⟩ ?_
            refine g_puti rfl rfl (by decide) rfl rfl ?_
            refine g_aload_n rfl rfl ?_
            refine g_iload_n rfl rfl ?_
            refine g_bipush rfl ⟨by decide, by decide⟩ (by decide) ?_
            refine g_icmp_ne (tgt := 262) rfl (by decide) (fun _ => ?_) (fun hx => absurd hx (by omega))
            refine g_iconst rfl ⟨by decide, by decide⟩ ?_
            refine g_puti rfl rfl (by decide) rfl rfl ?_
            refine x_return rfl rfl ?_
            have hn : ¬ (k < len ∧ t_bl (T k) = true) := fun z => by
              have z2 := (t_bl_i _).1 z.2
              omega
            have hSk : S = k := by rw [← hs, t_R_n hn]
            rw [hSk]
            have hk3 := t_ks_3 (T := T) (len := len) (s := k) (by omega) (by omega) (by omega)
            rw [if_neg (by omega)] at hk3
            exact ⟨rfl, by rw [hk3.2]; rfl, by rw [hk3.1]; rfl, rfl, fun z => by rw [hk3.1] at z; omega, by unfold t_wds; rw [if_neg (by rw [hk3.1]; omega)]; rfl, (rd_F_pi (by decide) (rd_F_pi (by decide) (rd_F_pi (by decide) (rd_F_pi (by decide) hF))))⟩
          · refine g_iconst rfl ⟨by decide, by decide⟩ ?_
            refine g_goto (tgt := 15) rfl (by decide) ?_
            refine x_zreturn rfl rfl (Or.inr rfl) ?_
            intro _
            refine g_if_eq (tgt := 147) rfl (by decide) (fun hx => absurd hx (by omega)) (fun _ => ?_)
            have hn : ¬ (k < len ∧ t_bl (T k) = true) := fun z => by
              have z2 := (t_bl_i _).1 z.2
              omega
            have hSk : S = k := by rw [← hs, t_R_n hn]
            rw [hSk]
            exact l_tokL (μ0 := μ0) hG hT hC0 (S := k) ⟨h0, by omega⟩ (by omega) rfl k (by omega) _ _ h0 hnx (by omega) rfl rfl (fun _ => rfl) (fun j j0 j1 => by omega) (rd_F_pi (by decide) (rd_F_pi (by decide) hF))
      · refine g_aload_n rfl rfl ?_
        refine g_dupr rfl ?_
        refine x_geti (v := k) rfl rfl (by decide) (Or.inl rfl) hnx ?_
        refine g_iconst rfl ⟨by decide, by decide⟩ ?_
        refine x_iadd (z := k + 1) rfl (by omega) ⟨by omega, by omega⟩ ?_
        refine g_puti rfl rfl (by decide) rfl rfl ?_
        refine g_goto (tgt := 0) rfl (by decide) ?_
        have hy := t_R_y (P := t_bl) (T := T) (len := len) (i := k) (by omega) ((t_bl_i _).2 (by omega))
        exact ih (by omega) _ _ _ (by omega) rfl (by rw [← hy]; exact hs) (rd_F_pi (by decide) hF)
  · have hw9 := hw9.symm
    subst hw9
    refine g_bipush rfl ⟨by decide, by decide⟩ (by decide) ?_
    refine g_icmp_eq (tgt := 18) rfl (by decide) (fun hx => absurd hx (by omega)) (fun _ => ?_)
    refine g_aload_n rfl rfl ?_
    refine g_cV (as := []) (s_seeo (k := k) hG hC (by omega) hnx (by omega)) rfl rfl mX12_see_ok rfl rfl rfl (by decide) rfl rfl rfl ?_
    rintro _ w9 ⟨rfl, hw9⟩ _
    have hw9 := hw9.symm
    subst hw9
    refine g_bipush rfl ⟨by decide, by decide⟩ (by decide) ?_
    refine g_icmp_ne (tgt := 31) rfl (by decide) (fun _ => ?_) (fun hx => absurd hx (by omega))
    refine g_aload_n rfl rfl ?_
    refine g_aload_n rfl rfl ?_
    refine x_geti (v := k) rfl rfl (by decide) (Or.inl rfl) hnx ?_
    refine g_puti rfl rfl (by decide) rfl rfl ?_
    refine g_aload_n rfl rfl ?_
    refine g_cV (as := []) (s_seeo (k := k) hG (rd_C_F (rd_F_pi (by decide) rd_F_rf) hC) (by omega) hnx (by omega)) rfl rfl mX12_see_ok rfl rfl rfl (by decide) rfl rfl rfl ?_
    rintro _ w9 ⟨rfl, hw9⟩ _
    have hw9 := hw9.symm
    subst hw9
    refine g_istore_n rfl rfl rfl ?_
    refine g_aload_n rfl rfl ?_
    refine g_lconst (b := 0) rfl rfl ⟨by decide, by decide⟩ ?_
    refine g_putl rfl rfl (by decide) rfl rfl ?_
    refine g_iconst rfl ⟨by decide, by decide⟩ ?_
    refine g_istore_n rfl rfl rfl ?_
    refine g_iload_n rfl rfl ?_
    refine g_if_ge (tgt := 63) rfl (by decide) (fun hx => absurd hx (by omega)) (fun _ => ?_)
    refine g_aload_n rfl rfl ?_
    refine g_iconst rfl ⟨by decide, by decide⟩ ?_
    refine g_puti rfl rfl (by decide) rfl rfl ?_
    refine g_goto (tgt := 266) rfl (by decide) ?_
    refine x_return rfl rfl ?_
    have hn : ¬ (k < len ∧ t_bl (T k) = true) := fun z => by
      have z2 := (t_bl_i _).1 z.2
      omega
    have hSk : S = k := by rw [← hs, t_R_n hn]
    rw [hSk]
    have hk0 := t_ks_0 (T := T) (len := len) (s := k) (by omega)
    exact ⟨rfl, by rw [hk0.2]; exact hnx, by rw [hk0.1]; rfl, rfl, fun z => by rw [hk0.1] at z; omega, by unfold t_wds; rw [if_neg (by rw [hk0.1]; omega)]; rfl, (rd_F_pi (by decide) (rd_F_pi (by decide) (rd_F_pi (by decide) hF)))⟩
set_option maxHeartbeats 4000000 in
set_option maxRecDepth 100000 in
theorem s_tok {G : tp_G} {μ : tp_M} (hG : tp_Gf G = true) {T : Int → Int} {len : Int} (hT : ∀ j, 0 ≤ T j ∧ T j ≤ 255) (hC : rd_C T len μ) {i : Int} (h0 : 0 ≤ i) (h1 : i ≤ len) (hnx : μ.1 201 10 = i) : tp_k G mX12_token [tR (some 201)] μ (fun r μ' => r = none ∧ μ'.1 201 10 = t_e T len i ∧ μ'.1 201 13 = t_rk (t_k T len i) ∧ μ'.1 201 12 = t_s T len i ∧ (t_k T len i = 2 → μ'.1 201 14 = t_v T len i) ∧ μ'.1 201 15 = t_wd T len i ∧ rd_F μ μ') := by
  refine tp_ok_of mX12_token_ok rfl (Nat.le_refl _) ?_
  exact l_tok hG hT hC i h1 _ _ _ h0 hnx rfl rd_F_rf
