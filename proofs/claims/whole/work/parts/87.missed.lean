def q_ta (f A : Int → Int) (a k : Int) : Int := if A k = a ∧ q_tr f (A k) = 1 then 1 else 0
theorem q_ta_b (f A : Int → Int) (a k : Int) : 0 ≤ q_ta f A a k ∧ q_ta f A a k ≤ 1 := by unfold q_ta; split <;> omega
def q_ms (f A J : Int → Int) (n m a : Int) : Int := if 0 < q_s (q_ta f A a) n ∧ q_s (q_ra A J m a) n = 0 then 1 else 0
theorem q_ms_b (f A J : Int → Int) (n m a : Int) : 0 ≤ q_ms f A J n m a ∧ q_ms f A J n m a ≤ 1 := by unfold q_ms; split <;> omega
theorem q_ta_0 {f A B Y H : Int → Int} {n a : Int} (hW : r_W f n A B Y H) (h : f 0 ≤ a) : q_s (q_ta f A a) n = 0 := q_s_z (fun j j0 j1 => if_neg (fun z => by have := (hW.2.2.2 j j0 j1).1.1; omega))
theorem q_bt_an {S x a : Int} (hS : q_st S) (h0 : 0 ≤ a) : q_bt (tp_Land S (tp_Lxor (q_mb x) (-1))) a = true ↔ (q_bt S a = true ∧ ¬ (a = x ∧ x < 40)) := by
  rw [q_bt_and, q_bt_xor, Bool.and_eq_true]
  by_cases q : a < 40
  · rw [q_bt_m1 h0 (by omega), ← q_mb_bt h0]
    cases q_bt (q_mb x) a <;> simp
  · rw [hS.2 a (by omega)]
    exact ⟨fun z => absurd z.1 (by decide), fun z => absurd z.1 (by decide)⟩
set_option maxHeartbeats 4000000 in
set_option maxRecDepth 100000 in
theorem l_ms2 {G : tp_G} {μ : tp_M} (hG : tp_Gf G = true) {c : Nat} {f : Int → Int} {n : Int} {A B Y H : Int → Int} {E D U T : Int} (hc : tp_SH c = .inl 0) (hcl : c < 37) (hw : tp_Cw f) (hW : r_W f n A B Y H) (hT : c_T 50 n A B Y E D U T μ) (hCd : tp_Cd c f μ) (hco : μ.2 50 5 = some c) {s : v_T} {J : Int → Int} (hJ : v_J s n J) (hM : p_M A s μ) {q : Int} {x1 x2 x3 : Option tp_V} {r5 : Option Nat} : ∀ k, k ≤ q_s s.2.2.2 s.2.1 → ∀ (S : Int), 0 ≤ k → q_st S → (∀ a, 0 ≤ a → (q_bt S a = true ↔ (0 < q_s (q_ta f A a) n ∧ q_s (fun j => q_is (fun i => A (J i)) a j) k = 0))) → tp_g G mX11_missed 98 [some (tR (some 0)), x1, x2, x3, some (tI q), some (tR (r5)), some (tL (S)), none, some (tI k)] [] μ (fun r μ' => ∃ v, r = some (tI v) ∧ q_sel (q_ms f A J n (q_s s.2.2.2 s.2.1)) 40 q v ∧ μ' = μ) := by
  have hcn : c < 234 := by omega
  have hw0 := hw.1
  have hn0 := hW.1
  have hn6 := hT.1
  have hm2 := hM.2.1
  have hsz := hJ.2.2.2.2.1
  refine tp_ind _ ?_
  intro k hkN ih S h0 hS hB
  refine g_iload rfl rfl ?_
  refine g_aload_n rfl rfl ?_
  refine x_getF (r := 76) hG rfl rfl (by decide) (Or.inl ⟨_, rfl⟩) rfl ?_
  refine x_geti (v := (μ.1 76 2)) rfl rfl (by decide) (Or.inl rfl) rfl ?_
  refine g_icmp_ge (tgt := 137) rfl (by decide) (fun h1 => ?_) (fun h1 => ?_)
  · refine g_lload rfl rfl ?_
    refine g_iload rfl rfl ?_
    refine g_cS (as := [tL (S), tI q]) (s_som hG hS) rfl rfl mX11_sizeOrMember_ok rfl rfl rfl rfl ?_
    rintro _ w9 ⟨v, rfl, hq, hw9⟩ _
    have hw9 := hw9.symm
    subst hw9
    refine x_ireturn rfl rfl ?_
    refine ⟨_, rfl, q_sel_c (by omega) (fun a a0 a1 => ?_) hq, rfl⟩
    have e := hB a a0
    rw [show k = q_s s.2.2.2 s.2.1 by omega, q_ra_e hsz.1 hJ.2.2.1 hJ.2.2.2.1] at e
    by_cases z : q_bt S a = true
    · rw [q_in_1 z]; exact if_pos (e.1 z)
    · rw [q_in_0 (q_bt_f z)]; exact if_neg (fun u => z (e.2 u))
  · refine g_lload rfl rfl ?_
    refine g_aload_n rfl rfl ?_
    refine x_getF (r := 76) hG rfl rfl (by decide) (Or.inl ⟨_, rfl⟩) rfl ?_
    refine g_iload rfl rfl ?_
    refine g_iV (as := [tI k]) mX4_address_ok rfl rfl rfl rfl rfl rfl (by decide) rfl rfl rfl ?_
    refine g_iload_n rfl rfl ?_
    refine g_if_lt (tgt := 19) rfl (by decide) (fun hx => absurd hx (by omega)) (fun _ => ?_)
    refine g_iload_n rfl rfl ?_
    refine g_aload_n rfl rfl ?_
    refine x_geti (v := (μ.1 76 2)) rfl rfl (by decide) (Or.inl rfl) rfl ?_
    refine g_icmp_ge (tgt := 19) rfl (by decide) (fun hx => absurd hx (by omega)) (fun _ => ?_)
    refine g_iload_n rfl rfl ?_
    refine g_sipush rfl ⟨by decide, by decide⟩ (by decide) ?_
    refine g_icmp_lt (tgt := 23) rfl (by decide) (fun _ => ?_) (fun hx => absurd hx (by omega))
    refine g_aload_n rfl rfl ?_
    refine x_getF (r := 77) hG rfl rfl (by decide) (Or.inr ⟨_, rfl⟩) rfl ?_
    refine g_iload_n rfl rfl ?_
    refine x_iald (v := (μ.1 77 k)) rfl rfl (by decide) (by omega) (by omega) rfl ?_
    refine x_ireturn rfl rfl ?_
    intro _
    refine g_cS (as := [tI (μ.1 77 k)]) (s_member hG) rfl rfl mX11_member_ok rfl rfl rfl rfl ?_
    rintro _ w9 ⟨rfl, hw9⟩ _
    have hw9 := hw9.symm
    subst hw9
    refine g_ldc2 (z := -1) rfl rfl ⟨by decide, by decide⟩ ?_
    refine g_lxor rfl ?_
    refine g_land rfl ?_
    refine g_lstore rfl rfl rfl ?_
    refine x_iinc (z := k + 1) rfl rfl (by omega) ⟨by omega, by omega⟩ rfl rfl ?_
    refine g_goto (tgt := 98) rfl (by decide) ?_
    exact ih (by omega) _ (by omega) (q_st_and hS) (fun a a0 => by
      rw [q_bt_an hS a0, hB a a0, q_s1 h0, p_M_J hM hJ k h0 (by omega)]
      have hjb := hJ.2.2.2.1 k h0 (by omega)
      have hra := (hW.2.2.2 (J k) hjb.1 hjb.2).1.1
      have e9 := q_is_b (fun i => A (J i)) a k
      have e8 := q_s_B (F := fun j => q_is (fun i => A (J i)) a j) (k := k) h0 (fun j => q_is_b _ a j)
      by_cases z : A (J k) = a
      · have e7 : q_is (fun i => A (J i)) a k = 1 := if_pos z
        omega
      · have e7 : q_is (fun i => A (J i)) a k = 0 := if_neg z
        omega)
set_option maxHeartbeats 4000000 in
set_option maxRecDepth 100000 in
theorem l_ms1 {G : tp_G} {μ : tp_M} (hG : tp_Gf G = true) {c : Nat} {f : Int → Int} {n : Int} {A B Y H : Int → Int} {E D U T : Int} (hc : tp_SH c = .inl 0) (hcl : c < 37) (hw : tp_Cw f) (hW : r_W f n A B Y H) (hT : c_T 50 n A B Y E D U T μ) (hCd : tp_Cd c f μ) (hco : μ.2 50 5 = some c) {s : v_T} {J : Int → Int} (hJ : v_J s n J) (hM : p_M A s μ) {q : Int} {x1 x2 x3 : Option tp_V} {r5 : Option Nat} : ∀ k, k ≤ n → ∀ (S : Int), 0 ≤ k → q_st S → (∀ a, 0 ≤ a → (q_bt S a = true ↔ 0 < q_s (q_ta f A a) k)) → tp_g G mX11_missed 48 [some (tR (some 0)), x1, x2, x3, some (tI q), some (tR (r5)), some (tL (S)), none, some (tI k)] [] μ (fun r μ' => ∃ v, r = some (tI v) ∧ q_sel (q_ms f A J n (q_s s.2.2.2 s.2.1)) 40 q v ∧ μ' = μ) := by
  have hcn : c < 234 := by omega
  have hw0 := hw.1
  have hn0 := hW.1
  have hn6 := hT.1
  have hm2 := hM.2.1
  have hsz := hJ.2.2.2.2.1
  refine tp_ind _ ?_
  intro k hkN ih S h0 hS hB
  refine g_iload rfl rfl ?_
  refine g_aload_n rfl rfl ?_
  refine x_getF (r := 50) hG rfl rfl (by decide) (Or.inl ⟨_, rfl⟩) rfl ?_
  refine x_geti (v := (μ.1 50 6)) rfl rfl (by decide) (Or.inl rfl) rfl ?_
  refine g_icmp_ge (tgt := 95) rfl (by decide) (fun h1 => ?_) (fun h1 => ?_)
  · refine g_iconst rfl ⟨by decide, by decide⟩ ?_
    refine g_istore rfl rfl rfl ?_
    exact l_ms2 hG hc hcl hw hW hT hCd hco hJ hM 0 (by omega) _ (by omega) hS (fun a a0 => by rw [hB a a0, show k = n by omega, show q_s (fun j => q_is (fun i => A (J i)) a j) 0 = 0 from rfl]; omega)
  · refine g_aload_n rfl rfl ?_
    refine x_getF (r := 50) hG rfl rfl (by decide) (Or.inl ⟨_, rfl⟩) rfl ?_
    refine g_iload rfl rfl ?_
    refine g_cV (as := [tI k]) (s_isTraced50 hG hc hcl hw hW hT hCd hco (by omega) (by omega)) rfl rfl mX7_isTraced_ok rfl rfl rfl (by decide) rfl rfl rfl ?_
    rintro _ w9 ⟨rfl, hw9⟩ _
    have hw9 := hw9.symm
    subst hw9
    have hq1 := q_tr_b f (A k)
    refine g_if_eq (tgt := 89) rfl (by decide) (fun h2 => ?_) (fun h2 => ?_)
    · refine x_iinc (z := k + 1) rfl rfl (by omega) ⟨by omega, by omega⟩ rfl rfl ?_
      refine g_goto (tgt := 48) rfl (by decide) ?_
      exact ih (by omega) _ (by omega) hS (fun a a0 => by rw [hB a a0, q_s1 h0, show q_ta f A a k = 0 from if_neg (by omega)]; omega)
    · refine g_lload rfl rfl ?_
      refine g_aload_n rfl rfl ?_
      refine x_getF (r := 50) hG rfl rfl (by decide) (Or.inl ⟨_, rfl⟩) rfl ?_
      refine g_iload rfl rfl ?_
      refine g_cV (as := [tI k]) (s_at50 hG hT (by omega) (by omega) (by omega)) rfl rfl mX7_at_ok rfl rfl rfl (by decide) rfl rfl rfl ?_
      rintro _ w9 ⟨rfl, hw9⟩ _
      have hw9 := hw9.symm
      subst hw9
      have hr2 := (hW.2.2.2 (k) (by omega) (by omega)).1.1
      refine g_cS (as := [tI (A k)]) (s_member hG) rfl rfl mX11_member_ok rfl rfl rfl rfl ?_
      rintro _ w9 ⟨rfl, hw9⟩ _
      have hw9 := hw9.symm
      subst hw9
      refine g_lor rfl ?_
      refine g_lstore rfl rfl rfl ?_
      refine x_iinc (z := k + 1) rfl rfl (by omega) ⟨by omega, by omega⟩ rfl rfl ?_
      refine g_goto (tgt := 48) rfl (by decide) ?_
      exact ih (by omega) _ (by omega) (q_st_or hS (q_mb_st _)) (fun a a0 => by
        have hra := (hW.2.2.2 k h0 (by omega)).1.1
        rw [q_bt_or, Bool.or_eq_true, hB a a0, q_mb_bt a0, q_s1 h0]
        have e8 := q_s_B (F := q_ta f A a) (k := k) h0 (fun j => q_ta_b f A a j)
        by_cases z : A k = a
        · rw [show q_ta f A a k = 1 from if_pos ⟨z, by omega⟩]; omega
        · rw [show q_ta f A a k = 0 from if_neg (fun u => z u.1)]; omega)
set_option maxHeartbeats 4000000 in
set_option maxRecDepth 100000 in
theorem l_isM {G : tp_G} {μ : tp_M} (hG : tp_Gf G = true) {ck : Int} {f : Int → Int} {n : Int} {A B Y H : Int → Int} {E D U T : Int} (hw : tp_Cw f) (hW : r_W f n A B Y H) (hT : m_T n A B Y E D U T μ) (hMc : tp_Mc ck f μ) {J : Int → Int} {m a : Int} (hI : ∀ i, 0 ≤ i → i < n → μ.1 226 i = q_im J m i) : ∀ k, k ≤ n → ∀ (s : Int), 0 ≤ k → s = q_s (q_ta f A a) k → tp_g G mX12_isMissed 4 [some (tR (some 201)), some (tI a), some (tI s), some (tI k)] [] μ (fun r μ' => r = some (tI (q_ms f A J n m a)) ∧ μ' = μ) := by
  have hw0 := hw.1
  have hn0 := hW.1
  have hn6 := hT.1
  refine tp_ind _ ?_
  intro k hkN ih s h0 hs
  have hsb := q_s_B (F := q_ta f A a) (k := k) h0 (fun j => q_ta_b f A a j)
  rw [← hs] at hsb
  refine g_iload_n rfl rfl ?_
  refine g_aload_n rfl rfl ?_
  refine x_geti (v := (μ.1 201 27)) rfl rfl (by decide) (Or.inl rfl) rfl ?_
  refine g_icmp_ge (tgt := 44) rfl (by decide) (fun h1 => ?_) (fun h1 => ?_)
  · refine g_iload_n rfl rfl ?_
    refine g_if_le (tgt := 60) rfl (by decide) (fun h2 => ?_) (fun h2 => ?_)
    · refine g_iconst rfl ⟨by decide, by decide⟩ ?_
      refine x_zreturn rfl rfl (Or.inl rfl) ?_
      have hkn : k = n := by omega
      rw [hkn] at hs
      exact ⟨by rw [show q_ms f A J n m a = 0 from if_neg (by omega)], rfl⟩
    · refine g_aload_n rfl rfl ?_
      refine g_iload_n rfl rfl ?_
      refine g_cV (as := [tI a]) (s_rat (m := m) hG hn0 hn6 hT.2.1 hI) rfl rfl mX12_rebuiltAt_ok rfl rfl rfl (by decide) rfl rfl rfl ?_
      rintro _ w9 ⟨rfl, hw9⟩ _
      have hw9 := hw9.symm
      subst hw9
      refine g_if_ne (tgt := 60) rfl (by decide) (fun h3 => ?_) (fun h3 => ?_)
      · refine g_iconst rfl ⟨by decide, by decide⟩ ?_
        refine x_zreturn rfl rfl (Or.inl rfl) ?_
        have hkn : k = n := by omega
        rw [hkn] at hs
        exact ⟨by rw [show q_ms f A J n m a = 0 from if_neg (by omega)], rfl⟩
      · refine g_iconst rfl ⟨by decide, by decide⟩ ?_
        refine g_goto (tgt := 61) rfl (by decide) ?_
        refine x_zreturn rfl rfl (Or.inr rfl) ?_
        have hkn : k = n := by omega
        rw [hkn] at hs
        exact ⟨by rw [show q_ms f A J n m a = 1 from if_pos (by omega)], rfl⟩
  · refine g_iload_n rfl rfl ?_
    refine g_aload_n rfl rfl ?_
    refine x_getF (r := 212) hG rfl rfl (by decide) (Or.inr ⟨_, rfl⟩) rfl ?_
    refine g_iload_n rfl rfl ?_
    refine x_iald (v := (μ.1 212 k)) rfl rfl (by decide) (by omega) (by omega) rfl ?_
    refine g_iload_n rfl rfl ?_
    refine g_icmp_ne (tgt := 35) rfl (by decide) (fun h4 => ?_) (fun h4 => ?_)
    · refine g_iconst rfl ⟨by decide, by decide⟩ ?_
      refine x_iadd (z := s) rfl (by omega) ⟨by omega, by omega⟩ ?_
      refine g_istore_n rfl rfl rfl ?_
      refine x_iinc (z := k + 1) rfl rfl (by omega) ⟨by omega, by omega⟩ rfl rfl ?_
      refine g_goto (tgt := 4) rfl (by decide) ?_
      exact ih (by omega) _ (by omega) (by rw [q_s1 h0]; have e1 := hT.2.1 k h0 (by omega); (first | rw [show q_ta f A a k = 1 from if_pos (by omega)] | rw [show q_ta f A a k = 0 from if_neg (by omega)]); omega)
    · refine g_aload_n rfl rfl ?_
      refine g_iload_n rfl rfl ?_
      refine g_cV (as := [tI k]) (s_isTracedM hG hw hW hT hMc (by omega) (by omega)) rfl rfl mX12_isTraced_ok rfl rfl rfl (by decide) rfl rfl rfl ?_
      rintro _ w9 ⟨rfl, hw9⟩ _
      have hw9 := hw9.symm
      subst hw9
      have hq1 := q_tr_b f (A k)
      refine g_if_eq (tgt := 35) rfl (by decide) (fun h5 => ?_) (fun h5 => ?_)
      · refine g_iconst rfl ⟨by decide, by decide⟩ ?_
        refine x_iadd (z := s) rfl (by omega) ⟨by omega, by omega⟩ ?_
        refine g_istore_n rfl rfl rfl ?_
        refine x_iinc (z := k + 1) rfl rfl (by omega) ⟨by omega, by omega⟩ rfl rfl ?_
        refine g_goto (tgt := 4) rfl (by decide) ?_
        exact ih (by omega) _ (by omega) (by rw [q_s1 h0]; have e1 := hT.2.1 k h0 (by omega); (first | rw [show q_ta f A a k = 1 from if_pos (by omega)] | rw [show q_ta f A a k = 0 from if_neg (by omega)]); omega)
      · refine g_iconst rfl ⟨by decide, by decide⟩ ?_
        refine g_goto (tgt := 36) rfl (by decide) ?_
        refine x_iadd (z := s + 1) rfl (by omega) ⟨by omega, by omega⟩ ?_
        refine g_istore_n rfl rfl rfl ?_
        refine x_iinc (z := k + 1) rfl rfl (by omega) ⟨by omega, by omega⟩ rfl rfl ?_
        refine g_goto (tgt := 4) rfl (by decide) ?_
        exact ih (by omega) _ (by omega) (by rw [q_s1 h0]; have e1 := hT.2.1 k h0 (by omega); (first | rw [show q_ta f A a k = 1 from if_pos (by omega)] | rw [show q_ta f A a k = 0 from if_neg (by omega)]); omega)
set_option maxHeartbeats 4000000 in
set_option maxRecDepth 100000 in
theorem s_isM {G : tp_G} {μ : tp_M} (hG : tp_Gf G = true) {ck : Int} {f : Int → Int} {n : Int} {A B Y H : Int → Int} {E D U T : Int} (hw : tp_Cw f) (hW : r_W f n A B Y H) (hT : m_T n A B Y E D U T μ) (hMc : tp_Mc ck f μ) {J : Int → Int} {m a : Int} (hI : ∀ i, 0 ≤ i → i < n → μ.1 226 i = q_im J m i) : tp_k G mX12_isMissed [tR (some 201), tI a] μ (fun r μ' => r = some (tI (q_ms f A J n m a)) ∧ μ' = μ) := by
  refine tp_ok_of mX12_isMissed_ok rfl (Nat.le_refl _) ?_
  have hw0 := hw.1
  have hn0 := hW.1
  refine g_iconst rfl ⟨by decide, by decide⟩ ?_
  refine g_istore_n rfl rfl rfl ?_
  refine g_iconst rfl ⟨by decide, by decide⟩ ?_
  refine g_istore_n rfl rfl rfl ?_
  exact l_isM hG hw hW hT hMc hI 0 (by omega) 0 (by omega) rfl
set_option maxHeartbeats 4000000 in
set_option maxRecDepth 100000 in
theorem l_msM {G : tp_G} {μ : tp_M} (hG : tp_Gf G = true) {ck : Int} {f : Int → Int} {n : Int} {A B Y H : Int → Int} {E D U T : Int} (hw : tp_Cw f) (hW : r_W f n A B Y H) (hT : m_T n A B Y E D U T μ) (hMc : tp_Mc ck f μ) {J : Int → Int} {m : Int} (hI : ∀ i, 0 ≤ i → i < n → μ.1 226 i = q_im J m i) {q : Int} {x1 x2 x3 : Option tp_V} : ∀ k, k ≤ f 0 → ∀ (h : Int), 0 ≤ k → h = q_s (q_ms f A J n m) k → (∀ a, 0 ≤ a → a < k → q_ms f A J n m a = 1 → q_s (q_ms f A J n m) a ≠ q) → tp_g G mX12_missed 27 [some (tR (some 201)), x1, x2, x3, some (tI q), some (tI h), some (tI k)] [] μ (fun r μ' => ∃ v, r = some (tI v) ∧ q_sel (q_ms f A J n m) (f 0) q v ∧ μ' = μ) := by
  have hw0 := hw.1
  have hn0 := hW.1
  have hall := hMc.2.2.1
  refine tp_ind _ ?_
  intro k hkN ih h h0 hs hz
  have hsb := q_s_B (F := q_ms f A J n m) (k := k) (by omega) (q_ms_b f A J n m)
  rw [← hs] at hsb
  refine g_iload rfl rfl ?_
  refine g_aload_n rfl rfl ?_
  refine x_geti (v := (μ.1 201 26)) rfl rfl (by decide) (Or.inl rfl) rfl ?_
  refine g_icmp_ge (tgt := 64) rfl (by decide) (fun h1 => ?_) (fun h1 => ?_)
  · refine g_iload rfl rfl ?_
    refine g_iconst rfl ⟨by decide, by decide⟩ ?_
    refine g_icmp_ne (tgt := 75) rfl (by decide) (fun h2 => ?_) (fun h2 => ?_)
    · refine g_iconst rfl ⟨by decide, by decide⟩ ?_
      refine x_ireturn rfl rfl ?_
      exact ⟨_, rfl, Or.inr ⟨by omega, Or.inr ⟨rfl, fun a g0 g1 g2 => hz a g0 (by omega) g2⟩⟩, rfl⟩
    · refine g_iload rfl rfl ?_
      refine g_goto (tgt := 76) rfl (by decide) ?_
      refine x_ireturn rfl rfl ?_
      exact ⟨_, rfl, Or.inl ⟨by omega, by rw [show f 0 = k by omega]; exact hs⟩, rfl⟩
  · refine g_aload_n rfl rfl ?_
    refine g_iload rfl rfl ?_
    refine g_cV (as := [tI k]) (s_isM hG hw hW hT hMc hI) rfl rfl mX12_isMissed_ok rfl rfl rfl (by decide) rfl rfl rfl ?_
    rintro _ w9 ⟨rfl, hw9⟩ _
    have hw9 := hw9.symm
    subst hw9
    have hqb := q_ms_b f A J n m (k)
    refine g_if_eq (tgt := 58) rfl (by decide) (fun h3 => ?_) (fun h3 => ?_)
    · refine x_iinc (z := k + 1) rfl rfl (by omega) ⟨by omega, by omega⟩ rfl rfl ?_
      refine g_goto (tgt := 27) rfl (by decide) ?_
      exact ih (by omega) _ (by omega) (by rw [q_s1 (by omega)]; omega) (fun a g0 g1 g2 => by rcases (show a < k ∨ a = k by omega) with t | t; exact hz a g0 t g2; (rw [t] at g2 ⊢; omega))
    · refine g_iload rfl rfl ?_
      refine g_iload rfl rfl ?_
      refine g_icmp_ne (tgt := 55) rfl (by decide) (fun h4 => ?_) (fun h4 => ?_)
      · refine x_iinc (z := h + 1) rfl rfl (by omega) ⟨by omega, by omega⟩ rfl rfl ?_
        refine x_iinc (z := k + 1) rfl rfl (by omega) ⟨by omega, by omega⟩ rfl rfl ?_
        refine g_goto (tgt := 27) rfl (by decide) ?_
        exact ih (by omega) _ (by omega) (by rw [q_s1 (by omega)]; omega) (fun a g0 g1 g2 => by rcases (show a < k ∨ a = k by omega) with t | t; exact hz a g0 t g2; (rw [t] at g2 ⊢; omega))
      · refine g_iload rfl rfl ?_
        refine x_ireturn rfl rfl ?_
        exact ⟨_, rfl, Or.inr ⟨by omega, Or.inl ⟨⟨by omega, by omega⟩, by omega, by omega⟩⟩, rfl⟩
set_option maxHeartbeats 4000000 in
set_option maxRecDepth 100000 in
theorem p_missedN {G : tp_G} (hG : tp_Gf G = true) {a d k : Int} {μ : tp_M} (hR : tp_R μ) : tp_q G mX11_missed mX12_missed [tI a, tI d, tI (-1), tI k] μ := by
  have hm2l := tp_R_many hR 2 (by decide) (by decide)
  have hm0 := tp_R_many hR 0 (by decide) (by decide)
  have hm1 := tp_R_many hR 1 (by decide) (by decide)
  by_cases hab : ((a < 0 ∨ μ.1 5 0 ≤ a) ∨ (d < 0 ∨ μ.1 5 1 ≤ d))
  · obtain ⟨hX, hM⟩ := tp_layo hG hR hab
    refine tp_ok_of mX11_missed_ok rfl (Nat.le_refl _) ?_
    refine g_aload_n rfl rfl ?_
    refine x_getF (r := 1) hG rfl rfl (by decide) (Or.inl ⟨_, rfl⟩) rfl ?_
    refine g_iconst rfl ⟨by decide, by decide⟩ ?_
    refine g_iload_n rfl rfl ?_
    refine g_cV (as := [tI 2, tI (-1)]) (s_rowOf2o hG (by omega)) rfl rfl mX9_rowOf_ok rfl rfl rfl (by decide) rfl rfl rfl ?_
    rintro _ w9 ⟨rfl, hw9⟩ _
    have hw9 := hw9.symm
    subst hw9
    refine g_astore rfl rfl rfl ?_
    refine g_aload rfl rfl ?_
    refine g_ifnonnull (tgt := 21) rfl (by decide) (fun _ hx => by cases hx) (fun _ => ?_)
    refine g_iload_n rfl rfl ?_
    refine g_iconst rfl ⟨by decide, by decide⟩ ?_
    refine g_icmp_ne (tgt := 30) rfl (by decide) (fun hx => absurd hx (by omega)) (fun _ => ?_)
    refine g_aload_n rfl rfl ?_
    refine g_iload_n rfl rfl ?_
    refine g_iload_n rfl rfl ?_
    refine g_cV (as := [tI a, tI d]) (hX) rfl rfl mX11_follow_ok rfl rfl rfl (by decide) rfl rfl rfl ?_
    rintro _ w9 ⟨rfl, hw9⟩ _
    have hw9 := hw9.symm
    subst hw9
    refine g_if_ne (tgt := 32) rfl (by decide) (fun hx => absurd hx (by omega)) (fun _ => ?_)
    refine g_iconst rfl ⟨by decide, by decide⟩ ?_
    refine x_ireturn rfl rfl ?_
    refine ⟨_, rfl, ?_⟩
    refine tp_ok_of mX12_missed_ok rfl (Nat.le_refl _) ?_
    refine g_aload_n rfl rfl ?_
    refine g_iconst rfl ⟨by decide, by decide⟩ ?_
    refine g_puti rfl rfl (by decide) rfl rfl ?_
    refine g_aload_n rfl rfl ?_
    refine g_iload_n rfl rfl ?_
    refine g_iload_n rfl rfl ?_
    refine g_iload_n rfl rfl ?_
    refine g_iV (as := [tI a, tI d, tI (-1)]) mX12_layRebuilt_ok rfl rfl rfl rfl rfl rfl (by decide) rfl rfl rfl ?_
    refine g_iload_n rfl rfl ?_
    refine g_iconst rfl ⟨by decide, by decide⟩ ?_
    refine g_icmp_eq (tgt := 14) rfl (by decide) (fun _ => ?_) (fun hx => absurd hx (by omega))
    refine g_aload_n rfl rfl ?_
    refine g_iload_n rfl rfl ?_
    refine g_iload_n rfl rfl ?_
    refine g_iV (as := [tI a, tI d]) mX12_layPackets_ok rfl rfl rfl rfl rfl rfl (by decide) rfl rfl rfl ?_
    refine g_aload_n rfl rfl ?_
    refine g_iload_n rfl rfl ?_
    refine g_iload_n rfl rfl ?_
    refine g_cV (as := [tI a, tI d]) (hM _ (tp_kp_pi (by decide) tp_kp_rf)) rfl rfl mX12_lay_ok rfl rfl rfl (by decide) rfl rfl rfl ?_
    rintro _ w2 ⟨rfl, hGm⟩ _
    have hkp2 : tp_kp μ w2 := m_G_kp (tp_kp_pi (by decide) tp_kp_rf) hGm
    refine g_if_ne (tgt := 11) rfl (by decide) (fun hx => absurd hx (by omega)) (fun _ => ?_)
    refine g_iconst rfl ⟨by decide, by decide⟩ ?_
    refine x_zreturn rfl rfl (Or.inl rfl) ?_
    intro _
    refine g_if_ne (tgt := 25) rfl (by decide) (fun hx => absurd hx (by omega)) (fun _ => ?_)
    refine g_iconst rfl ⟨by decide, by decide⟩ ?_
    refine x_zreturn rfl rfl (Or.inl rfl) ?_
    intro _
    refine g_if_ne (tgt := 17) rfl (by decide) (fun hx => absurd hx (by omega)) (fun _ => ?_)
    refine g_iconst rfl ⟨by decide, by decide⟩ ?_
    refine x_ireturn rfl rfl ?_
    exact ⟨rfl, tp_R_kp hR hkp2⟩
  · obtain ⟨a, rfl⟩ : ∃ a9 : Nat, a = (a9 : Int) := ⟨a.toNat, by omega⟩
    obtain ⟨d, rfl⟩ : ∃ d9 : Nat, d = (d9 : Int) := ⟨d.toNat, by omega⟩
    obtain ⟨n, A, B, Y, H, E, D, U, T, hW, hw, hCd0, hX, hM⟩ := tp_lay hG hR (k := a) (d := d) (by omega) (by omega) (by omega) (by omega)
    generalize tp_cf μ (a : Int) = f at hW hw hCd0 hX hM
    obtain ⟨c, hcE⟩ : ∃ c, c = 6 + 5 * a := ⟨_, rfl⟩
    rw [← hcE] at hCd0 hX
    have hc : tp_SH c = .inl 0 := by rcases (show a = 0 ∨ a = 1 by omega) with q | q <;> (subst q; subst hcE; rfl)
    have hcl : c < 37 := by omega
    have hcn : c < 234 := by omega
    have hw0 := hw.1
    have hn0 := hW.1
    have hrl := hw.2.2
    refine tp_ok_of mX11_missed_ok rfl (Nat.le_refl _) ?_
    refine g_aload_n rfl rfl ?_
    refine x_getF (r := 1) hG rfl rfl (by decide) (Or.inl ⟨_, rfl⟩) rfl ?_
    refine g_iconst rfl ⟨by decide, by decide⟩ ?_
    refine g_iload_n rfl rfl ?_
    refine g_cV (as := [tI 2, tI (-1)]) (s_rowOf2o hG (by omega)) rfl rfl mX9_rowOf_ok rfl rfl rfl (by decide) rfl rfl rfl ?_
    rintro _ w9 ⟨rfl, hw9⟩ _
    have hw9 := hw9.symm
    subst hw9
    refine g_astore rfl rfl rfl ?_
    refine g_aload rfl rfl ?_
    refine g_ifnonnull (tgt := 21) rfl (by decide) (fun _ hx => by cases hx) (fun _ => ?_)
    refine g_iload_n rfl rfl ?_
    refine g_iconst rfl ⟨by decide, by decide⟩ ?_
    refine g_icmp_ne (tgt := 30) rfl (by decide) (fun hx => absurd hx (by omega)) (fun _ => ?_)
    refine g_aload_n rfl rfl ?_
    refine g_iload_n rfl rfl ?_
    refine g_iload_n rfl rfl ?_
    refine g_cV (as := [tI (a : Int), tI (d : Int)]) (hX) rfl rfl mX11_follow_ok rfl rfl rfl (by decide) rfl rfl rfl ?_
    rintro _ w1 ⟨rfl, hT, hco, hfr⟩ _
    have hCd : tp_Cd c f w1 := tp_Cd_fr hcl (fun k9 z9 => hfr k9 (by omega)) hCd0
    have hkp1 : tp_kp μ w1 := fun k9 z9 => hfr k9 (by unfold tp_tl at z9; omega)
    have hn6 := hT.1
    refine g_if_ne (tgt := 32) rfl (by decide) (fun _ => ?_) (fun hx => absurd hx (by omega))
    refine g_aload_n rfl rfl ?_
    refine g_iV (as := []) mX11_encode_ok rfl rfl rfl rfl rfl rfl (by decide) rfl rfl rfl ?_
    refine g_aload_n rfl rfl ?_
    refine x_getF (r := 50) hG rfl rfl (by decide) (Or.inl ⟨_, rfl⟩) rfl ?_
    refine x_getM (v := (some c)) hG rfl rfl (by decide) (Or.inl ⟨_, rfl⟩) rfl (by first | exact hco | exact hco3 | exact hco5) ?_
    refine g_astore_n rfl rfl rfl ?_
    refine g_aload_n rfl rfl ?_
    refine g_ifnull (tgt := 34) rfl (by decide) (fun hx => by cases hx) (fun _ _ => ?_)
    refine g_aload_n rfl rfl ?_
    refine x_getF (r := 62) hG rfl rfl (by decide) (Or.inl ⟨_, rfl⟩) rfl ?_
    refine g_aload_n rfl rfl ?_
    refine g_aload_n rfl rfl ?_
    refine x_getF (r := 50) hG rfl rfl (by decide) (Or.inl ⟨_, rfl⟩) rfl ?_
    refine g_aload_n rfl rfl ?_
    refine g_iconst rfl ⟨by decide, by decide⟩ ?_
    refine g_cV (as := [tI 0]) (s_ruleN (n := 1) hG hc hcl hCd (by decide) (by decide) (by decide)) rfl rfl mX0_rule_ok rfl hc rfl hcn rfl rfl rfl ?_
    rintro _ w9 ⟨rfl, hw9⟩ _
    have hw9 := hw9.symm
    subst hw9
    refine g_aload_n rfl rfl ?_
    refine g_iconst rfl ⟨by decide, by decide⟩ ?_
    refine g_cV (as := [tI 1]) (s_ruleN (n := 2) hG hc hcl hCd (by decide) (by decide) (by decide)) rfl rfl mX0_rule_ok rfl hc rfl hcn rfl rfl rfl ?_
    rintro _ w9 ⟨rfl, hw9⟩ _
    have hw9 := hw9.symm
    subst hw9
    refine g_cV (as := [tR (some c), tR (some 50), tI (f 1), tI (f 2)]) (s_encode hG hc hcl hw hCd hW hT (by omega) (by omega)) rfl rfl mX1_encode_ok rfl rfl rfl (by decide) rfl rfl rfl ?_
    rintro _ w3 ⟨rfl, hE3⟩ _
    have hkp3 : tp_kp μ w3 := fun k9 z9 => (hE3.2.2.2.2.1 k9 (by unfold tp_tl at z9; omega)).trans (hkp1 k9 z9)
    have hBJ := e_all_B (bt := f 1) (dp := f 2) hw hW (by omega) (by omega)
    obtain ⟨σ, hσ⟩ : ∃ σ9, σ9 = (e_all f (f 1) (f 2) A B Y n) := ⟨_, rfl⟩
    rw [← hσ] at hE3 hBJ
    have hbB := hBJ.1
    have hJ1 := hBJ.2.1
    have hJ2 := hBJ.2.2.1
    have hsz3 : w3.1 63 4 = σ.1 0 9 := hE3.1.2.2.2.2.2.2.2.2.1
    have hp9 : 0 ≤ σ.1 0 9 ∧ σ.1 0 9 ≤ 209 := by omega
    have HH : ∀ p, 0 ≤ p → p < σ.1 0 9 → s_H f A B Y (f 2) n σ p := by rw [hσ]; exact H_all hw hW (by omega) (by omega)
    have hCd3 : tp_Cd c f w3 := tp_Cd_fr hcl (fun k9 z9 => hE3.2.2.2.2.1 k9 (by omega)) hCd
    have hco3 : w3.2 50 5 = some c := by rw [hE3.2.2.2.2.2]; exact hco
    have hT3 : c_T 50 n A B Y E D U T w3 := c_T_fr (fun c9 z1 z2 => hE3.2.2.2.2.1 c9 (by omega)) hT
    refine x_return rfl rfl ?_
    intro _
    refine g_aload_n rfl rfl ?_
    refine g_aload rfl rfl ?_
    refine g_iV (as := [tR none]) mX11_rebuild_ok rfl rfl rfl rfl rfl rfl (by decide) rfl rfl rfl ?_
    refine g_aload_n rfl rfl ?_
    refine x_getF (r := 70) hG rfl rfl (by decide) (Or.inl ⟨_, rfl⟩) rfl ?_
    refine g_aload_n rfl rfl ?_
    refine x_getF (r := 50) hG rfl rfl (by decide) (Or.inl ⟨_, rfl⟩) rfl ?_
    refine x_getM (v := (some c)) hG rfl rfl (by decide) (Or.inl ⟨_, rfl⟩) rfl (by first | exact hco | exact hco3 | exact hco5) ?_
    refine g_aload_n rfl rfl ?_
    refine x_getF (r := 62) hG rfl rfl (by decide) (Or.inl ⟨_, rfl⟩) rfl ?_
    refine x_getF (r := 63) hG rfl rfl (by decide) (Or.inl ⟨_, rfl⟩) rfl ?_
    refine g_cV (as := [tR (some c), tR (some 63)]) (s_walk hG hc hcl hw hW hCd3 hsz3 hE3.2.1 hp9 HH) rfl rfl mX10_go_ok rfl rfl rfl (by decide) rfl rfl rfl ?_
    rintro _ w5 ⟨rfl, hQ5, hF5, hP5⟩ _
    have hkp5 : tp_kp μ w5 := fun k9 z9 => (hF5 k9 (by unfold tp_tl at z9; omega)).trans (hkp3 k9 z9)
    have hpk5 : w5.2 70 5 = some 63 := by rw [hP5]; rfl
    have hco5 : w5.2 50 5 = some c := by rw [hP5]; exact hco3
    have hsz5 : w5.1 63 4 = σ.1 0 9 := by rw [hF5 63 (by omega)]; exact hsz3
    have hB5 : c_B σ w5 := fun i z0 z1 => by rw [hF5 64 (by omega), hF5 65 (by omega), hF5 66 (by omega), hF5 67 (by omega)]; exact hE3.2.1 i z0 z1
    have hT5 : c_T 50 n A B Y E D U T w5 := c_T_fr (fun c9 z1 z2 => hF5 c9 (by omega)) hT3
    have hCd5 : tp_Cd c f w5 := tp_Cd_fr hcl (fun k9 z9 => hF5 k9 (by omega)) hCd3
    have hU9 : 0 ≤ w_U σ (σ.1 0 9) ∧ w_U σ (σ.1 0 9) ≤ 200 := by
      have q := w_U_b HH (σ.1 0 9).toNat (by omega)
      rw [show (((σ.1 0 9).toNat : Nat) : Int) = σ.1 0 9 by omega] at q
      refine ⟨q.1, ?_⟩
      rcases (show σ.1 0 9 = 0 ∨ 1 ≤ σ.1 0 9 by omega) with z | z
      · rw [z]; show (0 : Int) ≤ 200; omega
      · have q2 := q.2 (by omega); have q3 := (HH (σ.1 0 9 - 1) (by omega) (by omega)).2.1; omega
    refine g_aload_n rfl rfl ?_
    refine x_getF (r := 76) hG rfl rfl (by decide) (Or.inl ⟨_, rfl⟩) rfl ?_
    refine g_aload_n rfl rfl ?_
    refine x_getF (r := 70) hG rfl rfl (by decide) (Or.inl ⟨_, rfl⟩) rfl ?_
    refine g_aload_n rfl rfl ?_
    refine g_iconst rfl ⟨by decide, by decide⟩ ?_
    refine g_cV (as := [tR (some 70), tR none, tI (-1)]) (s_siftN hG hsz5 hB5 hp9 (by omega) HH hQ5 hpk5) rfl rfl mX4_sift_ok rfl rfl rfl (by decide) rfl rfl rfl ?_
    rintro _ w6 ⟨rfl, hM6, hF6⟩ _
    obtain ⟨s, hs⟩ : ∃ s9, s9 = v_S (v_1 (-1)) σ (σ.1 0 9) := ⟨_, rfl⟩
    rw [← hs] at hM6
    have hI6 := v_I_all (l := (v_1 (-1))) HH hp9.1 (Int.le_refl _)
    rw [← hs] at hI6
    obtain ⟨J, hJ⟩ := v_J_ex (n := n) hI6 (v_K_n hn0.1 HH)
    have hnp6 : 0 ≤ s.2.1 ∧ s.2.1 ≤ 209 := by have := hI6.2.1; omega
    have hsz6 := hJ.2.2.2.2.1
    have hm1 := hM6.1
    have hm2 := hM6.2.1
    have hkp6 : tp_kp μ w6 := fun k9 z9 => (hF6.1 k9 (by unfold tp_tl at z9; omega) (by unfold tp_tl at z9; omega) (by unfold tp_tl at z9; omega)).trans (hkp5 k9 z9)
    have hw70 : w6.1 70 6 = w_U σ (σ.1 0 9) := by rw [hF6.1 70 (by omega) (by omega) (by omega)]; exact hQ5.1
    have h206 : w6.1 206 2 = μ.1 206 2 := by rw [hkp6 206 (by unfold tp_tl; omega)]
    refine x_return rfl rfl ?_
    intro _
    refine g_lconst (b := 0) rfl rfl ⟨by decide, by decide⟩ ?_
    refine g_lstore rfl rfl rfl ?_
    refine g_iconst rfl ⟨by decide, by decide⟩ ?_
    refine g_istore rfl rfl rfl ?_
    have hT6 : c_T 50 n A B Y E D U T w6 := c_T_fr (fun c9 z1 z2 => hF6.1 c9 (by omega) (by omega) (by omega)) hT5
    have hCd6 : tp_Cd c f w6 := tp_Cd_fr hcl (fun k9 z9 => hF6.1 k9 (by omega) (by omega) (by omega)) hCd5
    have hco6 : w6.2 50 5 = some c := by rw [hF6.2]; exact hco5
    refine tp_conseq (fun r9 μ9 q9 => ?_) (l_ms1 hG hc hcl hw hW hT6 hCd6 hco6 hJ hM6 0 (by omega) 0 (by omega) q_st_0 (fun a a0 => by rw [q_bt_0, show q_s (q_ta f A a) 0 = 0 from rfl]; exact ⟨fun z => (by cases z), fun z => by omega⟩))
    obtain ⟨v, rfl, hq, e9⟩ := q9
    have e9 := e9.symm
    subst e9
    refine ⟨_, rfl, ?_⟩
    refine tp_ok_of mX12_missed_ok rfl (Nat.le_refl _) ?_
    refine g_aload_n rfl rfl ?_
    refine g_iconst rfl ⟨by decide, by decide⟩ ?_
    refine g_puti rfl rfl (by decide) rfl rfl ?_
    refine g_aload_n rfl rfl ?_
    refine g_iload_n rfl rfl ?_
    refine g_iload_n rfl rfl ?_
    refine g_iload_n rfl rfl ?_
    refine g_iV (as := [tI (a : Int), tI (d : Int), tI (-1)]) mX12_layRebuilt_ok rfl rfl rfl rfl rfl rfl (by decide) rfl rfl rfl ?_
    refine g_iload_n rfl rfl ?_
    refine g_iconst rfl ⟨by decide, by decide⟩ ?_
    refine g_icmp_eq (tgt := 14) rfl (by decide) (fun _ => ?_) (fun hx => absurd hx (by omega))
    refine g_aload_n rfl rfl ?_
    refine g_iload_n rfl rfl ?_
    refine g_iload_n rfl rfl ?_
    refine g_iV (as := [tI (a : Int), tI (d : Int)]) mX12_layPackets_ok rfl rfl rfl rfl rfl rfl (by decide) rfl rfl rfl ?_
    refine g_aload_n rfl rfl ?_
    refine g_iload_n rfl rfl ?_
    refine g_iload_n rfl rfl ?_
    refine g_cV (as := [tI (a : Int), tI (d : Int)]) (hM _ (tp_kp_pi (by decide) hkp6)) rfl rfl mX12_lay_ok rfl rfl rfl (by decide) rfl rfl rfl ?_
    rintro _ w2 ⟨rfl, hTm, hMc, hGm, hdr, hdm⟩ _
    have hkp2 : tp_kp μ w2 := m_G_kp (tp_kp_pi (by decide) hkp6) hGm
    have hm6 := hTm.1
    have hall := hMc.2.2.1
    refine g_if_ne (tgt := 11) rfl (by decide) (fun _ => ?_) (fun hx => absurd hx (by omega))
    refine g_aload_n rfl rfl ?_
    refine g_aload_n rfl rfl ?_
    refine g_iconst rfl ⟨by decide, by decide⟩ ?_
    refine g_cV (as := [tI 1]) (s_of hG hMc (by omega) (by omega)) rfl rfl mX12_of_ok rfl rfl rfl (by decide) rfl rfl rfl ?_
    rintro _ w9 ⟨rfl, hw9⟩ _
    have hw9 := hw9.symm
    subst hw9
    refine g_aload_n rfl rfl ?_
    refine g_iconst rfl ⟨by decide, by decide⟩ ?_
    refine g_cV (as := [tI 2]) (s_of hG hMc (by omega) (by omega)) rfl rfl mX12_of_ok rfl rfl rfl (by decide) rfl rfl rfl ?_
    rintro _ w9 ⟨rfl, hw9⟩ _
    have hw9 := hw9.symm
    subst hw9
    refine g_cV (as := [tI (f 1), tI (f 2)]) (s_encodesM hG hw hMc hW hTm (by omega) (by omega)) rfl rfl mX12_encodes_ok rfl rfl rfl (by decide) rfl rfl rfl ?_
    rintro _ w4 ⟨rfl, hE4⟩ _
    have hkp4 : tp_kp μ w4 := fun k9 z9 => (hE4.2.2.2.1 k9 (by unfold tp_tl at z9; omega) (by unfold tp_tl at z9; omega)).trans (hkp2 k9 z9)
    rw [← hσ] at hE4
    have hMB := hE4.2.1
    have hsz4 : w4.1 201 47 = σ.1 0 9 := hE4.1.2.2.2.2.2.2.2.2.1
    have hQ4 : v_Q σ w4 := ⟨hsz4, fun i i0 i1 => ⟨(hMB i i0 i1).1, (hMB i i0 i1).2.2.2.1, (hMB i i0 i1).2.2.2.2.1⟩⟩
    have hn4 : w4.1 201 27 = n := by rw [hE4.2.2.2.2 27 (by omega)]; exact hm6
    have hA4 : ∀ j, 0 ≤ j → j < n → w4.1 212 j = A j := fun j j0 j1 => by rw [hE4.2.2.2.1 212 (by omega) (by omega)]; exact hTm.2.1 j j0 j1
    refine g_iconst rfl ⟨by decide, by decide⟩ ?_
    refine x_zreturn rfl rfl (Or.inr rfl) ?_
    intro _
    refine g_if_ne (tgt := 25) rfl (by decide) (fun _ => ?_) (fun hx => absurd hx (by omega))
    refine g_aload_n rfl rfl ?_
    refine g_iload_n rfl rfl ?_
    refine g_cV (as := [tI (-1)]) (s_byN hG hQ4 hp9 (by omega) HH) rfl rfl mX12_rebuildsBy_ok rfl rfl rfl (by decide) rfl rfl rfl ?_
    rintro _ w7 ⟨rfl, hM7, hs7, hG7⟩ _
    rw [show v_S (fun _ => 0) σ (σ.1 0 9) = v_S (v_1 (-1)) σ (σ.1 0 9) from v_S_c (fun i i0 i1 => (show v_1 (-1) i = 0 from if_neg (by omega)).symm)] at hM7 hs7
    rw [← hs] at hM7 hs7
    have hkp7 : tp_kp μ w7 := fun k9 z9 => (hG7.1 k9 (by unfold tp_tl at z9; omega) (by unfold tp_tl at z9; omega) (by unfold tp_tl at z9; omega) (by unfold tp_tl at z9; omega)).trans (hkp4 k9 z9)
    have hn7 : w7.1 201 27 = n := by rw [hG7.2 27 (by omega) (by omega)]; exact hn4
    have hA7 : ∀ j, 0 ≤ j → j < n → w7.1 212 j = A j := fun j j0 j1 => by rw [hG7.1 212 (by omega) (by omega) (by omega) (by omega)]; exact hA4 j j0 j1
    have hr7 := hM7.1
    have hQ7 : v_Q σ w7 := v_Q_G hG7 hQ4
    refine g_iconst rfl ⟨by decide, by decide⟩ ?_
    refine x_zreturn rfl rfl (Or.inr rfl) ?_
    intro _
    refine g_if_ne (tgt := 17) rfl (by decide) (fun _ => ?_) (fun hx => absurd hx (by omega))
    refine g_aload_n rfl rfl ?_
    refine g_cV (as := []) (s_marks hG hJ (by omega) (by omega) hM7 hn7 hs7) rfl rfl mX12_marks_ok rfl rfl rfl (by decide) rfl rfl rfl ?_
    rintro _ w8 ⟨rfl, hI8, hF8⟩ _
    have hkp8 : tp_kp μ w8 := q_f1_kp (by unfold tp_tl; omega) hkp7 hF8
    refine g_iconst rfl ⟨by decide, by decide⟩ ?_
    refine g_istore rfl rfl rfl ?_
    refine g_iconst rfl ⟨by decide, by decide⟩ ?_
    refine g_istore rfl rfl rfl ?_
    have hMc8 : tp_Mc (a : Int) f w8 := by
      obtain ⟨q1, q2, q3, q4⟩ := hMc
      exact ⟨q1, by rw [hF8.1 201 (by omega), hG7.2 24 (by omega) (by omega), hE4.2.2.2.2 24 (by omega)]; exact q2, by rw [hF8.1 201 (by omega), hG7.2 26 (by omega) (by omega), hE4.2.2.2.2 26 (by omega)]; exact q3, fun i i0 i1 => by rw [hF8.1 207 (by omega), hG7.1 207 (by omega) (by omega) (by omega) (by omega), hE4.2.2.2.1 207 (by omega) (by omega)]; exact q4 i i0 i1⟩
    have hT8 : m_T n A B Y (w8.1 201 28) (w8.1 201 30) (w8.1 201 31) (w8.1 201 32) w8 := ⟨by rw [hF8.1 201 (by omega)]; exact hn7, fun j j0 j1 => by rw [hF8.1 212 (by omega)]; exact hA7 j j0 j1, fun j j0 j1 => by rw [hF8.1 213 (by omega), hG7.1 213 (by omega) (by omega) (by omega) (by omega), hE4.2.2.2.1 213 (by omega) (by omega)]; exact hTm.2.2.1 j j0 j1, fun j j0 j1 => by rw [hF8.1 214 (by omega), hG7.1 214 (by omega) (by omega) (by omega) (by omega), hE4.2.2.2.1 214 (by omega) (by omega)]; exact hTm.2.2.2.1 j j0 j1, rfl, rfl, rfl, rfl⟩
    refine tp_conseq (fun r9 μ8 q8 => ?_) (l_msM hG hw hW hT8 hMc8 hI8 0 (by omega) 0 (by omega) rfl (fun a g0 g1 => by omega))
    obtain ⟨v2, rfl, hq2, e8⟩ := q8
    have e8 := e8.symm
    subst e8
    exact ⟨by rw [q_sel_u (fun a => (q_ms_b f A J n (q_s s.2.2.2 s.2.1) a).1) (q_sel_x (M := 40) hw0.1 hw0.2 (fun a g0 g1 => if_neg (fun z => by have := q_ta_0 hW g0; omega)) hq2) hq], tp_R_kp hR hkp8⟩
set_option maxHeartbeats 4000000 in
set_option maxRecDepth 100000 in
theorem p_missed0 {G : tp_G} (hG : tp_Gf G = true) {a d k : Int} {μ : tp_M} (hR : tp_R μ) (hld : 0 < μ.1 5 2) : tp_q G mX11_missed mX12_missed [tI a, tI d, tI 0, tI k] μ := by
  have hm2l := tp_R_many hR 2 (by decide) (by decide)
  have hm0 := tp_R_many hR 0 (by decide) (by decide)
  have hm1 := tp_R_many hR 1 (by decide) (by decide)
  by_cases hab : ((a < 0 ∨ μ.1 5 0 ≤ a) ∨ (d < 0 ∨ μ.1 5 1 ≤ d))
  · obtain ⟨hX, hM⟩ := tp_layo hG hR hab
    refine tp_ok_of mX11_missed_ok rfl (Nat.le_refl _) ?_
    refine g_aload_n rfl rfl ?_
    refine x_getF (r := 1) hG rfl rfl (by decide) (Or.inl ⟨_, rfl⟩) rfl ?_
    refine g_iconst rfl ⟨by decide, by decide⟩ ?_
    refine g_iload_n rfl rfl ?_
    refine g_cV (as := [tI 2, tI 0]) (s_rowOf20 hG hld) rfl rfl mX9_rowOf_ok rfl rfl rfl (by decide) rfl rfl rfl ?_
    rintro _ w9 ⟨rfl, hw9⟩ _
    have hw9 := hw9.symm
    subst hw9
    refine g_astore rfl rfl rfl ?_
    refine g_aload rfl rfl ?_
    refine g_ifnonnull (tgt := 21) rfl (by decide) (fun _ _ => ?_) (fun hx => by cases hx)
    refine g_aload_n rfl rfl ?_
    refine g_iload_n rfl rfl ?_
    refine g_iload_n rfl rfl ?_
    refine g_cV (as := [tI a, tI d]) (hX) rfl rfl mX11_follow_ok rfl rfl rfl (by decide) rfl rfl rfl ?_
    rintro _ w9 ⟨rfl, hw9⟩ _
    have hw9 := hw9.symm
    subst hw9
    refine g_if_ne (tgt := 32) rfl (by decide) (fun hx => absurd hx (by omega)) (fun _ => ?_)
    refine g_iconst rfl ⟨by decide, by decide⟩ ?_
    refine x_ireturn rfl rfl ?_
    refine ⟨_, rfl, ?_⟩
    refine tp_ok_of mX12_missed_ok rfl (Nat.le_refl _) ?_
    refine g_aload_n rfl rfl ?_
    refine g_iconst rfl ⟨by decide, by decide⟩ ?_
    refine g_puti rfl rfl (by decide) rfl rfl ?_
    refine g_aload_n rfl rfl ?_
    refine g_iload_n rfl rfl ?_
    refine g_iload_n rfl rfl ?_
    refine g_iload_n rfl rfl ?_
    refine g_iV (as := [tI a, tI d, tI 0]) mX12_layRebuilt_ok rfl rfl rfl rfl rfl rfl (by decide) rfl rfl rfl ?_
    refine g_iload_n rfl rfl ?_
    refine g_iconst rfl ⟨by decide, by decide⟩ ?_
    refine g_icmp_eq (tgt := 14) rfl (by decide) (fun hx => absurd hx (by omega)) (fun _ => ?_)
    refine g_aload_n rfl rfl ?_
    refine g_iconst rfl ⟨by decide, by decide⟩ ?_
    refine g_iload_n rfl rfl ?_
    refine g_iV (as := [tI 2, tI 0]) mX12_is_ok rfl rfl rfl rfl rfl rfl (by decide) rfl rfl rfl ?_
    refine g_iload_n rfl rfl ?_
    refine g_iconst rfl ⟨by decide, by decide⟩ ?_
    refine g_aload_n rfl rfl ?_
    refine x_getF (r := 206) hG rfl rfl (by decide) (Or.inr ⟨_, rfl⟩) rfl ?_
    refine g_iload_n rfl rfl ?_
    refine x_iald (v := (μ.1 206 2)) rfl rfl (by decide) (by decide) (by decide) rfl ?_
    refine g_iconst rfl ⟨by decide, by decide⟩ ?_
    refine x_isub (z := (μ.1 206 2) - 1) rfl (by omega) ⟨by omega, by omega⟩ ?_
    refine g_iS (as := [tI 0, tI 0, tI ((μ.1 206 2) - 1)]) mX12_in_ok rfl rfl rfl rfl rfl rfl rfl ?_
    refine g_iload_n rfl rfl ?_
    refine g_iload_n rfl rfl ?_
    refine g_icmp_lt (tgt := 14) rfl (by decide) (fun hx => absurd hx (by omega)) (fun _ => ?_)
    refine g_iload_n rfl rfl ?_
    refine g_iload_n rfl rfl ?_
    refine g_icmp_gt (tgt := 14) rfl (by decide) (fun hx => absurd hx (by omega)) (fun _ => ?_)
    refine g_iconst rfl ⟨by decide, by decide⟩ ?_
    refine g_goto (tgt := 15) rfl (by decide) ?_
    refine x_zreturn rfl rfl (Or.inr rfl) ?_
    intro _
    refine x_zreturn rfl rfl (Or.inr rfl) ?_
    intro _
    refine g_if_eq (tgt := 23) rfl (by decide) (fun hx => absurd hx (by omega)) (fun _ => ?_)
    refine g_aload_n rfl rfl ?_
    refine g_iload_n rfl rfl ?_
    refine g_iload_n rfl rfl ?_
    refine g_iV (as := [tI a, tI d]) mX12_layPackets_ok rfl rfl rfl rfl rfl rfl (by decide) rfl rfl rfl ?_
    refine g_aload_n rfl rfl ?_
    refine g_iload_n rfl rfl ?_
    refine g_iload_n rfl rfl ?_
    refine g_cV (as := [tI a, tI d]) (hM _ (tp_kp_pi (by decide) tp_kp_rf)) rfl rfl mX12_lay_ok rfl rfl rfl (by decide) rfl rfl rfl ?_
    rintro _ w2 ⟨rfl, hGm⟩ _
    have hkp2 : tp_kp μ w2 := m_G_kp (tp_kp_pi (by decide) tp_kp_rf) hGm
    refine g_if_ne (tgt := 11) rfl (by decide) (fun hx => absurd hx (by omega)) (fun _ => ?_)
    refine g_iconst rfl ⟨by decide, by decide⟩ ?_
    refine x_zreturn rfl rfl (Or.inl rfl) ?_
    intro _
    refine g_if_ne (tgt := 25) rfl (by decide) (fun hx => absurd hx (by omega)) (fun _ => ?_)
    refine g_iconst rfl ⟨by decide, by decide⟩ ?_
    refine x_zreturn rfl rfl (Or.inl rfl) ?_
    intro _
    refine g_if_ne (tgt := 17) rfl (by decide) (fun hx => absurd hx (by omega)) (fun _ => ?_)
    refine g_iconst rfl ⟨by decide, by decide⟩ ?_
    refine x_ireturn rfl rfl ?_
    exact ⟨rfl, tp_R_kp hR hkp2⟩
  · obtain ⟨a, rfl⟩ : ∃ a9 : Nat, a = (a9 : Int) := ⟨a.toNat, by omega⟩
    obtain ⟨d, rfl⟩ : ∃ d9 : Nat, d = (d9 : Int) := ⟨d.toNat, by omega⟩
    obtain ⟨n, A, B, Y, H, E, D, U, T, hW, hw, hCd0, hX, hM⟩ := tp_lay hG hR (k := a) (d := d) (by omega) (by omega) (by omega) (by omega)
    generalize tp_cf μ (a : Int) = f at hW hw hCd0 hX hM
    obtain ⟨c, hcE⟩ : ∃ c, c = 6 + 5 * a := ⟨_, rfl⟩
    rw [← hcE] at hCd0 hX
    have hc : tp_SH c = .inl 0 := by rcases (show a = 0 ∨ a = 1 by omega) with q | q <;> (subst q; subst hcE; rfl)
    have hcl : c < 37 := by omega
    have hcn : c < 234 := by omega
    have hw0 := hw.1
    have hn0 := hW.1
    have hrl := hw.2.2
    refine tp_ok_of mX11_missed_ok rfl (Nat.le_refl _) ?_
    refine g_aload_n rfl rfl ?_
    refine x_getF (r := 1) hG rfl rfl (by decide) (Or.inl ⟨_, rfl⟩) rfl ?_
    refine g_iconst rfl ⟨by decide, by decide⟩ ?_
    refine g_iload_n rfl rfl ?_
    refine g_cV (as := [tI 2, tI 0]) (s_rowOf20 hG hld) rfl rfl mX9_rowOf_ok rfl rfl rfl (by decide) rfl rfl rfl ?_
    rintro _ w9 ⟨rfl, hw9⟩ _
    have hw9 := hw9.symm
    subst hw9
    refine g_astore rfl rfl rfl ?_
    refine g_aload rfl rfl ?_
    refine g_ifnonnull (tgt := 21) rfl (by decide) (fun _ _ => ?_) (fun hx => by cases hx)
    refine g_aload_n rfl rfl ?_
    refine g_iload_n rfl rfl ?_
    refine g_iload_n rfl rfl ?_
    refine g_cV (as := [tI (a : Int), tI (d : Int)]) (hX) rfl rfl mX11_follow_ok rfl rfl rfl (by decide) rfl rfl rfl ?_
    rintro _ w1 ⟨rfl, hT, hco, hfr⟩ _
    have hCd : tp_Cd c f w1 := tp_Cd_fr hcl (fun k9 z9 => hfr k9 (by omega)) hCd0
    have hkp1 : tp_kp μ w1 := fun k9 z9 => hfr k9 (by unfold tp_tl at z9; omega)
    have hn6 := hT.1
    refine g_if_ne (tgt := 32) rfl (by decide) (fun _ => ?_) (fun hx => absurd hx (by omega))
    refine g_aload_n rfl rfl ?_
    refine g_iV (as := []) mX11_encode_ok rfl rfl rfl rfl rfl rfl (by decide) rfl rfl rfl ?_
    refine g_aload_n rfl rfl ?_
    refine x_getF (r := 50) hG rfl rfl (by decide) (Or.inl ⟨_, rfl⟩) rfl ?_
    refine x_getM (v := (some c)) hG rfl rfl (by decide) (Or.inl ⟨_, rfl⟩) rfl (by first | exact hco | exact hco3 | exact hco5) ?_
    refine g_astore_n rfl rfl rfl ?_
    refine g_aload_n rfl rfl ?_
    refine g_ifnull (tgt := 34) rfl (by decide) (fun hx => by cases hx) (fun _ _ => ?_)
    refine g_aload_n rfl rfl ?_
    refine x_getF (r := 62) hG rfl rfl (by decide) (Or.inl ⟨_, rfl⟩) rfl ?_
    refine g_aload_n rfl rfl ?_
    refine g_aload_n rfl rfl ?_
    refine x_getF (r := 50) hG rfl rfl (by decide) (Or.inl ⟨_, rfl⟩) rfl ?_
    refine g_aload_n rfl rfl ?_
    refine g_iconst rfl ⟨by decide, by decide⟩ ?_
    refine g_cV (as := [tI 0]) (s_ruleN (n := 1) hG hc hcl hCd (by decide) (by decide) (by decide)) rfl rfl mX0_rule_ok rfl hc rfl hcn rfl rfl rfl ?_
    rintro _ w9 ⟨rfl, hw9⟩ _
    have hw9 := hw9.symm
    subst hw9
    refine g_aload_n rfl rfl ?_
    refine g_iconst rfl ⟨by decide, by decide⟩ ?_
    refine g_cV (as := [tI 1]) (s_ruleN (n := 2) hG hc hcl hCd (by decide) (by decide) (by decide)) rfl rfl mX0_rule_ok rfl hc rfl hcn rfl rfl rfl ?_
    rintro _ w9 ⟨rfl, hw9⟩ _
    have hw9 := hw9.symm
    subst hw9
    refine g_cV (as := [tR (some c), tR (some 50), tI (f 1), tI (f 2)]) (s_encode hG hc hcl hw hCd hW hT (by omega) (by omega)) rfl rfl mX1_encode_ok rfl rfl rfl (by decide) rfl rfl rfl ?_
    rintro _ w3 ⟨rfl, hE3⟩ _
    have hkp3 : tp_kp μ w3 := fun k9 z9 => (hE3.2.2.2.2.1 k9 (by unfold tp_tl at z9; omega)).trans (hkp1 k9 z9)
    have hBJ := e_all_B (bt := f 1) (dp := f 2) hw hW (by omega) (by omega)
    obtain ⟨σ, hσ⟩ : ∃ σ9, σ9 = (e_all f (f 1) (f 2) A B Y n) := ⟨_, rfl⟩
    rw [← hσ] at hE3 hBJ
    have hbB := hBJ.1
    have hJ1 := hBJ.2.1
    have hJ2 := hBJ.2.2.1
    have hsz3 : w3.1 63 4 = σ.1 0 9 := hE3.1.2.2.2.2.2.2.2.2.1
    have hp9 : 0 ≤ σ.1 0 9 ∧ σ.1 0 9 ≤ 209 := by omega
    have HH : ∀ p, 0 ≤ p → p < σ.1 0 9 → s_H f A B Y (f 2) n σ p := by rw [hσ]; exact H_all hw hW (by omega) (by omega)
    have hCd3 : tp_Cd c f w3 := tp_Cd_fr hcl (fun k9 z9 => hE3.2.2.2.2.1 k9 (by omega)) hCd
    have hco3 : w3.2 50 5 = some c := by rw [hE3.2.2.2.2.2]; exact hco
    have hT3 : c_T 50 n A B Y E D U T w3 := c_T_fr (fun c9 z1 z2 => hE3.2.2.2.2.1 c9 (by omega)) hT
    refine x_return rfl rfl ?_
    intro _
    refine g_aload_n rfl rfl ?_
    refine g_aload rfl rfl ?_
    refine g_iV (as := [tR (some 28)]) mX11_rebuild_ok rfl rfl rfl rfl rfl rfl (by decide) rfl rfl rfl ?_
    refine g_aload_n rfl rfl ?_
    refine x_getF (r := 70) hG rfl rfl (by decide) (Or.inl ⟨_, rfl⟩) rfl ?_
    refine g_aload_n rfl rfl ?_
    refine x_getF (r := 50) hG rfl rfl (by decide) (Or.inl ⟨_, rfl⟩) rfl ?_
    refine x_getM (v := (some c)) hG rfl rfl (by decide) (Or.inl ⟨_, rfl⟩) rfl (by first | exact hco | exact hco3 | exact hco5) ?_
    refine g_aload_n rfl rfl ?_
    refine x_getF (r := 62) hG rfl rfl (by decide) (Or.inl ⟨_, rfl⟩) rfl ?_
    refine x_getF (r := 63) hG rfl rfl (by decide) (Or.inl ⟨_, rfl⟩) rfl ?_
    refine g_cV (as := [tR (some c), tR (some 63)]) (s_walk hG hc hcl hw hW hCd3 hsz3 hE3.2.1 hp9 HH) rfl rfl mX10_go_ok rfl rfl rfl (by decide) rfl rfl rfl ?_
    rintro _ w5 ⟨rfl, hQ5, hF5, hP5⟩ _
    have hkp5 : tp_kp μ w5 := fun k9 z9 => (hF5 k9 (by unfold tp_tl at z9; omega)).trans (hkp3 k9 z9)
    have hpk5 : w5.2 70 5 = some 63 := by rw [hP5]; rfl
    have hco5 : w5.2 50 5 = some c := by rw [hP5]; exact hco3
    have hsz5 : w5.1 63 4 = σ.1 0 9 := by rw [hF5 63 (by omega)]; exact hsz3
    have hB5 : c_B σ w5 := fun i z0 z1 => by rw [hF5 64 (by omega), hF5 65 (by omega), hF5 66 (by omega), hF5 67 (by omega)]; exact hE3.2.1 i z0 z1
    have hT5 : c_T 50 n A B Y E D U T w5 := c_T_fr (fun c9 z1 z2 => hF5 c9 (by omega)) hT3
    have hCd5 : tp_Cd c f w5 := tp_Cd_fr hcl (fun k9 z9 => hF5 k9 (by omega)) hCd3
    have hU9 : 0 ≤ w_U σ (σ.1 0 9) ∧ w_U σ (σ.1 0 9) ≤ 200 := by
      have q := w_U_b HH (σ.1 0 9).toNat (by omega)
      rw [show (((σ.1 0 9).toNat : Nat) : Int) = σ.1 0 9 by omega] at q
      refine ⟨q.1, ?_⟩
      rcases (show σ.1 0 9 = 0 ∨ 1 ≤ σ.1 0 9 by omega) with z | z
      · rw [z]; show (0 : Int) ≤ 200; omega
      · have q2 := q.2 (by omega); have q3 := (HH (σ.1 0 9 - 1) (by omega) (by omega)).2.1; omega
    have hL5 : tp_Lo w5.1 28 (tp_of μ 0) := by
      have hL := tp_R_loss hR 0 (by decide) hld
      unfold tp_Lo at hL ⊢
      rw [hkp5 28 (by unfold tp_tl; omega), hkp5 (28 + 1) (by unfold tp_tl; omega)]
      exact hL
    refine g_aload_n rfl rfl ?_
    refine x_getF (r := 76) hG rfl rfl (by decide) (Or.inl ⟨_, rfl⟩) rfl ?_
    refine g_aload_n rfl rfl ?_
    refine x_getF (r := 70) hG rfl rfl (by decide) (Or.inl ⟨_, rfl⟩) rfl ?_
    refine g_aload_n rfl rfl ?_
    refine g_iconst rfl ⟨by decide, by decide⟩ ?_
    refine g_cV (as := [tR (some 70), tR (some 28), tI (-1)]) (s_sift0 hG hsz5 hB5 hp9 (by omega) HH hQ5 hpk5 hL5) rfl rfl mX4_sift_ok rfl rfl rfl (by decide) rfl rfl rfl ?_
    rintro _ w6 ⟨rfl, hM6, hF6⟩ _
    obtain ⟨s, hs⟩ : ∃ s9, s9 = v_S (v_2 (tp_of μ 0)) σ (σ.1 0 9) := ⟨_, rfl⟩
    rw [← hs] at hM6
    have hI6 := v_I_all (l := (v_2 (tp_of μ 0))) HH hp9.1 (Int.le_refl _)
    rw [← hs] at hI6
    obtain ⟨J, hJ⟩ := v_J_ex (n := n) hI6 (v_K_n hn0.1 HH)
    have hnp6 : 0 ≤ s.2.1 ∧ s.2.1 ≤ 209 := by have := hI6.2.1; omega
    have hsz6 := hJ.2.2.2.2.1
    have hm1 := hM6.1
    have hm2 := hM6.2.1
    have hkp6 : tp_kp μ w6 := fun k9 z9 => (hF6.1 k9 (by unfold tp_tl at z9; omega) (by unfold tp_tl at z9; omega) (by unfold tp_tl at z9; omega)).trans (hkp5 k9 z9)
    have hw70 : w6.1 70 6 = w_U σ (σ.1 0 9) := by rw [hF6.1 70 (by omega) (by omega) (by omega)]; exact hQ5.1
    have h206 : w6.1 206 2 = μ.1 206 2 := by rw [hkp6 206 (by unfold tp_tl; omega)]
    refine x_return rfl rfl ?_
    intro _
    refine g_lconst (b := 0) rfl rfl ⟨by decide, by decide⟩ ?_
    refine g_lstore rfl rfl rfl ?_
    refine g_iconst rfl ⟨by decide, by decide⟩ ?_
    refine g_istore rfl rfl rfl ?_
    have hT6 : c_T 50 n A B Y E D U T w6 := c_T_fr (fun c9 z1 z2 => hF6.1 c9 (by omega) (by omega) (by omega)) hT5
    have hCd6 : tp_Cd c f w6 := tp_Cd_fr hcl (fun k9 z9 => hF6.1 k9 (by omega) (by omega) (by omega)) hCd5
    have hco6 : w6.2 50 5 = some c := by rw [hF6.2]; exact hco5
    refine tp_conseq (fun r9 μ9 q9 => ?_) (l_ms1 hG hc hcl hw hW hT6 hCd6 hco6 hJ hM6 0 (by omega) 0 (by omega) q_st_0 (fun a a0 => by rw [q_bt_0, show q_s (q_ta f A a) 0 = 0 from rfl]; exact ⟨fun z => (by cases z), fun z => by omega⟩))
    obtain ⟨v, rfl, hq, e9⟩ := q9
    have e9 := e9.symm
    subst e9
    refine ⟨_, rfl, ?_⟩
    refine tp_ok_of mX12_missed_ok rfl (Nat.le_refl _) ?_
    refine g_aload_n rfl rfl ?_
    refine g_iconst rfl ⟨by decide, by decide⟩ ?_
    refine g_puti rfl rfl (by decide) rfl rfl ?_
    refine g_aload_n rfl rfl ?_
    refine g_iload_n rfl rfl ?_
    refine g_iload_n rfl rfl ?_
    refine g_iload_n rfl rfl ?_
    refine g_iV (as := [tI (a : Int), tI (d : Int), tI 0]) mX12_layRebuilt_ok rfl rfl rfl rfl rfl rfl (by decide) rfl rfl rfl ?_
    refine g_iload_n rfl rfl ?_
    refine g_iconst rfl ⟨by decide, by decide⟩ ?_
    refine g_icmp_eq (tgt := 14) rfl (by decide) (fun hx => absurd hx (by omega)) (fun _ => ?_)
    refine g_aload_n rfl rfl ?_
    refine g_iconst rfl ⟨by decide, by decide⟩ ?_
    refine g_iload_n rfl rfl ?_
    refine g_iV (as := [tI 2, tI 0]) mX12_is_ok rfl rfl rfl rfl rfl rfl (by decide) rfl rfl rfl ?_
    refine g_iload_n rfl rfl ?_
    refine g_iconst rfl ⟨by decide, by decide⟩ ?_
    refine g_aload_n rfl rfl ?_
    refine x_getF (r := 206) hG rfl rfl (by decide) (Or.inr ⟨_, rfl⟩) rfl ?_
    refine g_iload_n rfl rfl ?_
    refine x_iald (v := (w6.1 206 2)) rfl rfl (by decide) (by decide) (by decide) rfl ?_
    refine g_iconst rfl ⟨by decide, by decide⟩ ?_
    refine x_isub (z := (w6.1 206 2) - 1) rfl (by omega) ⟨by omega, by omega⟩ ?_
    refine g_iS (as := [tI 0, tI 0, tI ((w6.1 206 2) - 1)]) mX12_in_ok rfl rfl rfl rfl rfl rfl rfl ?_
    refine g_iload_n rfl rfl ?_
    refine g_iload_n rfl rfl ?_
    refine g_icmp_lt (tgt := 14) rfl (by decide) (fun hx => absurd hx (by omega)) (fun _ => ?_)
    refine g_iload_n rfl rfl ?_
    refine g_iload_n rfl rfl ?_
    refine g_icmp_gt (tgt := 14) rfl (by decide) (fun hx => absurd hx (by omega)) (fun _ => ?_)
    refine g_iconst rfl ⟨by decide, by decide⟩ ?_
    refine g_goto (tgt := 15) rfl (by decide) ?_
    refine x_zreturn rfl rfl (Or.inr rfl) ?_
    intro _
    refine x_zreturn rfl rfl (Or.inr rfl) ?_
    intro _
    refine g_if_eq (tgt := 23) rfl (by decide) (fun hx => absurd hx (by omega)) (fun _ => ?_)
    refine g_aload_n rfl rfl ?_
    refine g_iload_n rfl rfl ?_
    refine g_iload_n rfl rfl ?_
    refine g_iV (as := [tI (a : Int), tI (d : Int)]) mX12_layPackets_ok rfl rfl rfl rfl rfl rfl (by decide) rfl rfl rfl ?_
    refine g_aload_n rfl rfl ?_
    refine g_iload_n rfl rfl ?_
    refine g_iload_n rfl rfl ?_
    refine g_cV (as := [tI (a : Int), tI (d : Int)]) (hM _ (tp_kp_pi (by decide) hkp6)) rfl rfl mX12_lay_ok rfl rfl rfl (by decide) rfl rfl rfl ?_
    rintro _ w2 ⟨rfl, hTm, hMc, hGm, hdr, hdm⟩ _
    have hkp2 : tp_kp μ w2 := m_G_kp (tp_kp_pi (by decide) hkp6) hGm
    have hm6 := hTm.1
    have hall := hMc.2.2.1
    refine g_if_ne (tgt := 11) rfl (by decide) (fun _ => ?_) (fun hx => absurd hx (by omega))
    refine g_aload_n rfl rfl ?_
    refine g_aload_n rfl rfl ?_
    refine g_iconst rfl ⟨by decide, by decide⟩ ?_
    refine g_cV (as := [tI 1]) (s_of hG hMc (by omega) (by omega)) rfl rfl mX12_of_ok rfl rfl rfl (by decide) rfl rfl rfl ?_
    rintro _ w9 ⟨rfl, hw9⟩ _
    have hw9 := hw9.symm
    subst hw9
    refine g_aload_n rfl rfl ?_
    refine g_iconst rfl ⟨by decide, by decide⟩ ?_
    refine g_cV (as := [tI 2]) (s_of hG hMc (by omega) (by omega)) rfl rfl mX12_of_ok rfl rfl rfl (by decide) rfl rfl rfl ?_
    rintro _ w9 ⟨rfl, hw9⟩ _
    have hw9 := hw9.symm
    subst hw9
    refine g_cV (as := [tI (f 1), tI (f 2)]) (s_encodesM hG hw hMc hW hTm (by omega) (by omega)) rfl rfl mX12_encodes_ok rfl rfl rfl (by decide) rfl rfl rfl ?_
    rintro _ w4 ⟨rfl, hE4⟩ _
    have hkp4 : tp_kp μ w4 := fun k9 z9 => (hE4.2.2.2.1 k9 (by unfold tp_tl at z9; omega) (by unfold tp_tl at z9; omega)).trans (hkp2 k9 z9)
    rw [← hσ] at hE4
    have hMB := hE4.2.1
    have hsz4 : w4.1 201 47 = σ.1 0 9 := hE4.1.2.2.2.2.2.2.2.2.1
    have hQ4 : v_Q σ w4 := ⟨hsz4, fun i i0 i1 => ⟨(hMB i i0 i1).1, (hMB i i0 i1).2.2.2.1, (hMB i i0 i1).2.2.2.2.1⟩⟩
    have hn4 : w4.1 201 27 = n := by rw [hE4.2.2.2.2 27 (by omega)]; exact hm6
    have hA4 : ∀ j, 0 ≤ j → j < n → w4.1 212 j = A j := fun j j0 j1 => by rw [hE4.2.2.2.1 212 (by omega) (by omega)]; exact hTm.2.1 j j0 j1
    refine g_iconst rfl ⟨by decide, by decide⟩ ?_
    refine x_zreturn rfl rfl (Or.inr rfl) ?_
    intro _
    refine g_if_ne (tgt := 25) rfl (by decide) (fun _ => ?_) (fun hx => absurd hx (by omega))
    refine g_aload_n rfl rfl ?_
    refine g_iload_n rfl rfl ?_
    refine g_cV (as := [tI 0]) (s_by0 (g := tp_of μ 0) hG hQ4 hp9 (by omega) HH (fun i i0 i1 => by rw [hkp4 209 (by unfold tp_tl; omega)]; show μ.1 209 (0 + i) = μ.1 209 (101 * 0 + i); exact congrArg (μ.1 209) (by omega))) rfl rfl mX12_rebuildsBy_ok rfl rfl rfl (by decide) rfl rfl rfl ?_
    rintro _ w7 ⟨rfl, hM7, hs7, hG7⟩ _
    rw [← hs] at hM7 hs7
    have hkp7 : tp_kp μ w7 := fun k9 z9 => (hG7.1 k9 (by unfold tp_tl at z9; omega) (by unfold tp_tl at z9; omega) (by unfold tp_tl at z9; omega) (by unfold tp_tl at z9; omega)).trans (hkp4 k9 z9)
    have hn7 : w7.1 201 27 = n := by rw [hG7.2 27 (by omega) (by omega)]; exact hn4
    have hA7 : ∀ j, 0 ≤ j → j < n → w7.1 212 j = A j := fun j j0 j1 => by rw [hG7.1 212 (by omega) (by omega) (by omega) (by omega)]; exact hA4 j j0 j1
    have hr7 := hM7.1
    have hQ7 : v_Q σ w7 := v_Q_G hG7 hQ4
    refine g_iconst rfl ⟨by decide, by decide⟩ ?_
    refine x_zreturn rfl rfl (Or.inr rfl) ?_
    intro _
    refine g_if_ne (tgt := 17) rfl (by decide) (fun _ => ?_) (fun hx => absurd hx (by omega))
    refine g_aload_n rfl rfl ?_
    refine g_cV (as := []) (s_marks hG hJ (by omega) (by omega) hM7 hn7 hs7) rfl rfl mX12_marks_ok rfl rfl rfl (by decide) rfl rfl rfl ?_
    rintro _ w8 ⟨rfl, hI8, hF8⟩ _
    have hkp8 : tp_kp μ w8 := q_f1_kp (by unfold tp_tl; omega) hkp7 hF8
    refine g_iconst rfl ⟨by decide, by decide⟩ ?_
    refine g_istore rfl rfl rfl ?_
    refine g_iconst rfl ⟨by decide, by decide⟩ ?_
    refine g_istore rfl rfl rfl ?_
    have hMc8 : tp_Mc (a : Int) f w8 := by
      obtain ⟨q1, q2, q3, q4⟩ := hMc
      exact ⟨q1, by rw [hF8.1 201 (by omega), hG7.2 24 (by omega) (by omega), hE4.2.2.2.2 24 (by omega)]; exact q2, by rw [hF8.1 201 (by omega), hG7.2 26 (by omega) (by omega), hE4.2.2.2.2 26 (by omega)]; exact q3, fun i i0 i1 => by rw [hF8.1 207 (by omega), hG7.1 207 (by omega) (by omega) (by omega) (by omega), hE4.2.2.2.1 207 (by omega) (by omega)]; exact q4 i i0 i1⟩
    have hT8 : m_T n A B Y (w8.1 201 28) (w8.1 201 30) (w8.1 201 31) (w8.1 201 32) w8 := ⟨by rw [hF8.1 201 (by omega)]; exact hn7, fun j j0 j1 => by rw [hF8.1 212 (by omega)]; exact hA7 j j0 j1, fun j j0 j1 => by rw [hF8.1 213 (by omega), hG7.1 213 (by omega) (by omega) (by omega) (by omega), hE4.2.2.2.1 213 (by omega) (by omega)]; exact hTm.2.2.1 j j0 j1, fun j j0 j1 => by rw [hF8.1 214 (by omega), hG7.1 214 (by omega) (by omega) (by omega) (by omega), hE4.2.2.2.1 214 (by omega) (by omega)]; exact hTm.2.2.2.1 j j0 j1, rfl, rfl, rfl, rfl⟩
    refine tp_conseq (fun r9 μ8 q8 => ?_) (l_msM hG hw hW hT8 hMc8 hI8 0 (by omega) 0 (by omega) rfl (fun a g0 g1 => by omega))
    obtain ⟨v2, rfl, hq2, e8⟩ := q8
    have e8 := e8.symm
    subst e8
    exact ⟨by rw [q_sel_u (fun a => (q_ms_b f A J n (q_s s.2.2.2 s.2.1) a).1) (q_sel_x (M := 40) hw0.1 hw0.2 (fun a g0 g1 => if_neg (fun z => by have := q_ta_0 hW g0; omega)) hq2) hq], tp_R_kp hR hkp8⟩
set_option maxHeartbeats 4000000 in
set_option maxRecDepth 100000 in
theorem p_missed1 {G : tp_G} (hG : tp_Gf G = true) {a d k : Int} {μ : tp_M} (hR : tp_R μ) (hld : 1 < μ.1 5 2) : tp_q G mX11_missed mX12_missed [tI a, tI d, tI 1, tI k] μ := by
  have hm2l := tp_R_many hR 2 (by decide) (by decide)
  have hm0 := tp_R_many hR 0 (by decide) (by decide)
  have hm1 := tp_R_many hR 1 (by decide) (by decide)
  by_cases hab : ((a < 0 ∨ μ.1 5 0 ≤ a) ∨ (d < 0 ∨ μ.1 5 1 ≤ d))
  · obtain ⟨hX, hM⟩ := tp_layo hG hR hab
    refine tp_ok_of mX11_missed_ok rfl (Nat.le_refl _) ?_
    refine g_aload_n rfl rfl ?_
    refine x_getF (r := 1) hG rfl rfl (by decide) (Or.inl ⟨_, rfl⟩) rfl ?_
    refine g_iconst rfl ⟨by decide, by decide⟩ ?_
    refine g_iload_n rfl rfl ?_
    refine g_cV (as := [tI 2, tI 1]) (s_rowOf21 hG hld) rfl rfl mX9_rowOf_ok rfl rfl rfl (by decide) rfl rfl rfl ?_
    rintro _ w9 ⟨rfl, hw9⟩ _
    have hw9 := hw9.symm
    subst hw9
    refine g_astore rfl rfl rfl ?_
    refine g_aload rfl rfl ?_
    refine g_ifnonnull (tgt := 21) rfl (by decide) (fun _ _ => ?_) (fun hx => by cases hx)
    refine g_aload_n rfl rfl ?_
    refine g_iload_n rfl rfl ?_
    refine g_iload_n rfl rfl ?_
    refine g_cV (as := [tI a, tI d]) (hX) rfl rfl mX11_follow_ok rfl rfl rfl (by decide) rfl rfl rfl ?_
    rintro _ w9 ⟨rfl, hw9⟩ _
    have hw9 := hw9.symm
    subst hw9
    refine g_if_ne (tgt := 32) rfl (by decide) (fun hx => absurd hx (by omega)) (fun _ => ?_)
    refine g_iconst rfl ⟨by decide, by decide⟩ ?_
    refine x_ireturn rfl rfl ?_
    refine ⟨_, rfl, ?_⟩
    refine tp_ok_of mX12_missed_ok rfl (Nat.le_refl _) ?_
    refine g_aload_n rfl rfl ?_
    refine g_iconst rfl ⟨by decide, by decide⟩ ?_
    refine g_puti rfl rfl (by decide) rfl rfl ?_
    refine g_aload_n rfl rfl ?_
    refine g_iload_n rfl rfl ?_
    refine g_iload_n rfl rfl ?_
    refine g_iload_n rfl rfl ?_
    refine g_iV (as := [tI a, tI d, tI 1]) mX12_layRebuilt_ok rfl rfl rfl rfl rfl rfl (by decide) rfl rfl rfl ?_
    refine g_iload_n rfl rfl ?_
    refine g_iconst rfl ⟨by decide, by decide⟩ ?_
    refine g_icmp_eq (tgt := 14) rfl (by decide) (fun hx => absurd hx (by omega)) (fun _ => ?_)
    refine g_aload_n rfl rfl ?_
    refine g_iconst rfl ⟨by decide, by decide⟩ ?_
    refine g_iload_n rfl rfl ?_
    refine g_iV (as := [tI 2, tI 1]) mX12_is_ok rfl rfl rfl rfl rfl rfl (by decide) rfl rfl rfl ?_
    refine g_iload_n rfl rfl ?_
    refine g_iconst rfl ⟨by decide, by decide⟩ ?_
    refine g_aload_n rfl rfl ?_
    refine x_getF (r := 206) hG rfl rfl (by decide) (Or.inr ⟨_, rfl⟩) rfl ?_
    refine g_iload_n rfl rfl ?_
    refine x_iald (v := (μ.1 206 2)) rfl rfl (by decide) (by decide) (by decide) rfl ?_
    refine g_iconst rfl ⟨by decide, by decide⟩ ?_
    refine x_isub (z := (μ.1 206 2) - 1) rfl (by omega) ⟨by omega, by omega⟩ ?_
    refine g_iS (as := [tI 1, tI 0, tI ((μ.1 206 2) - 1)]) mX12_in_ok rfl rfl rfl rfl rfl rfl rfl ?_
    refine g_iload_n rfl rfl ?_
    refine g_iload_n rfl rfl ?_
    refine g_icmp_lt (tgt := 14) rfl (by decide) (fun hx => absurd hx (by omega)) (fun _ => ?_)
    refine g_iload_n rfl rfl ?_
    refine g_iload_n rfl rfl ?_
    refine g_icmp_gt (tgt := 14) rfl (by decide) (fun hx => absurd hx (by omega)) (fun _ => ?_)
    refine g_iconst rfl ⟨by decide, by decide⟩ ?_
    refine g_goto (tgt := 15) rfl (by decide) ?_
    refine x_zreturn rfl rfl (Or.inr rfl) ?_
    intro _
    refine x_zreturn rfl rfl (Or.inr rfl) ?_
    intro _
    refine g_if_eq (tgt := 23) rfl (by decide) (fun hx => absurd hx (by omega)) (fun _ => ?_)
    refine g_aload_n rfl rfl ?_
    refine g_iload_n rfl rfl ?_
    refine g_iload_n rfl rfl ?_
    refine g_iV (as := [tI a, tI d]) mX12_layPackets_ok rfl rfl rfl rfl rfl rfl (by decide) rfl rfl rfl ?_
    refine g_aload_n rfl rfl ?_
    refine g_iload_n rfl rfl ?_
    refine g_iload_n rfl rfl ?_
    refine g_cV (as := [tI a, tI d]) (hM _ (tp_kp_pi (by decide) tp_kp_rf)) rfl rfl mX12_lay_ok rfl rfl rfl (by decide) rfl rfl rfl ?_
    rintro _ w2 ⟨rfl, hGm⟩ _
    have hkp2 : tp_kp μ w2 := m_G_kp (tp_kp_pi (by decide) tp_kp_rf) hGm
    refine g_if_ne (tgt := 11) rfl (by decide) (fun hx => absurd hx (by omega)) (fun _ => ?_)
    refine g_iconst rfl ⟨by decide, by decide⟩ ?_
    refine x_zreturn rfl rfl (Or.inl rfl) ?_
    intro _
    refine g_if_ne (tgt := 25) rfl (by decide) (fun hx => absurd hx (by omega)) (fun _ => ?_)
    refine g_iconst rfl ⟨by decide, by decide⟩ ?_
    refine x_zreturn rfl rfl (Or.inl rfl) ?_
    intro _
    refine g_if_ne (tgt := 17) rfl (by decide) (fun hx => absurd hx (by omega)) (fun _ => ?_)
    refine g_iconst rfl ⟨by decide, by decide⟩ ?_
    refine x_ireturn rfl rfl ?_
    exact ⟨rfl, tp_R_kp hR hkp2⟩
  · obtain ⟨a, rfl⟩ : ∃ a9 : Nat, a = (a9 : Int) := ⟨a.toNat, by omega⟩
    obtain ⟨d, rfl⟩ : ∃ d9 : Nat, d = (d9 : Int) := ⟨d.toNat, by omega⟩
    obtain ⟨n, A, B, Y, H, E, D, U, T, hW, hw, hCd0, hX, hM⟩ := tp_lay hG hR (k := a) (d := d) (by omega) (by omega) (by omega) (by omega)
    generalize tp_cf μ (a : Int) = f at hW hw hCd0 hX hM
    obtain ⟨c, hcE⟩ : ∃ c, c = 6 + 5 * a := ⟨_, rfl⟩
    rw [← hcE] at hCd0 hX
    have hc : tp_SH c = .inl 0 := by rcases (show a = 0 ∨ a = 1 by omega) with q | q <;> (subst q; subst hcE; rfl)
    have hcl : c < 37 := by omega
    have hcn : c < 234 := by omega
    have hw0 := hw.1
    have hn0 := hW.1
    have hrl := hw.2.2
    refine tp_ok_of mX11_missed_ok rfl (Nat.le_refl _) ?_
    refine g_aload_n rfl rfl ?_
    refine x_getF (r := 1) hG rfl rfl (by decide) (Or.inl ⟨_, rfl⟩) rfl ?_
    refine g_iconst rfl ⟨by decide, by decide⟩ ?_
    refine g_iload_n rfl rfl ?_
    refine g_cV (as := [tI 2, tI 1]) (s_rowOf21 hG hld) rfl rfl mX9_rowOf_ok rfl rfl rfl (by decide) rfl rfl rfl ?_
    rintro _ w9 ⟨rfl, hw9⟩ _
    have hw9 := hw9.symm
    subst hw9
    refine g_astore rfl rfl rfl ?_
    refine g_aload rfl rfl ?_
    refine g_ifnonnull (tgt := 21) rfl (by decide) (fun _ _ => ?_) (fun hx => by cases hx)
    refine g_aload_n rfl rfl ?_
    refine g_iload_n rfl rfl ?_
    refine g_iload_n rfl rfl ?_
    refine g_cV (as := [tI (a : Int), tI (d : Int)]) (hX) rfl rfl mX11_follow_ok rfl rfl rfl (by decide) rfl rfl rfl ?_
    rintro _ w1 ⟨rfl, hT, hco, hfr⟩ _
    have hCd : tp_Cd c f w1 := tp_Cd_fr hcl (fun k9 z9 => hfr k9 (by omega)) hCd0
    have hkp1 : tp_kp μ w1 := fun k9 z9 => hfr k9 (by unfold tp_tl at z9; omega)
    have hn6 := hT.1
    refine g_if_ne (tgt := 32) rfl (by decide) (fun _ => ?_) (fun hx => absurd hx (by omega))
    refine g_aload_n rfl rfl ?_
    refine g_iV (as := []) mX11_encode_ok rfl rfl rfl rfl rfl rfl (by decide) rfl rfl rfl ?_
    refine g_aload_n rfl rfl ?_
    refine x_getF (r := 50) hG rfl rfl (by decide) (Or.inl ⟨_, rfl⟩) rfl ?_
    refine x_getM (v := (some c)) hG rfl rfl (by decide) (Or.inl ⟨_, rfl⟩) rfl (by first | exact hco | exact hco3 | exact hco5) ?_
    refine g_astore_n rfl rfl rfl ?_
    refine g_aload_n rfl rfl ?_
    refine g_ifnull (tgt := 34) rfl (by decide) (fun hx => by cases hx) (fun _ _ => ?_)
    refine g_aload_n rfl rfl ?_
    refine x_getF (r := 62) hG rfl rfl (by decide) (Or.inl ⟨_, rfl⟩) rfl ?_
    refine g_aload_n rfl rfl ?_
    refine g_aload_n rfl rfl ?_
    refine x_getF (r := 50) hG rfl rfl (by decide) (Or.inl ⟨_, rfl⟩) rfl ?_
    refine g_aload_n rfl rfl ?_
    refine g_iconst rfl ⟨by decide, by decide⟩ ?_
    refine g_cV (as := [tI 0]) (s_ruleN (n := 1) hG hc hcl hCd (by decide) (by decide) (by decide)) rfl rfl mX0_rule_ok rfl hc rfl hcn rfl rfl rfl ?_
    rintro _ w9 ⟨rfl, hw9⟩ _
    have hw9 := hw9.symm
    subst hw9
    refine g_aload_n rfl rfl ?_
    refine g_iconst rfl ⟨by decide, by decide⟩ ?_
    refine g_cV (as := [tI 1]) (s_ruleN (n := 2) hG hc hcl hCd (by decide) (by decide) (by decide)) rfl rfl mX0_rule_ok rfl hc rfl hcn rfl rfl rfl ?_
    rintro _ w9 ⟨rfl, hw9⟩ _
    have hw9 := hw9.symm
    subst hw9
    refine g_cV (as := [tR (some c), tR (some 50), tI (f 1), tI (f 2)]) (s_encode hG hc hcl hw hCd hW hT (by omega) (by omega)) rfl rfl mX1_encode_ok rfl rfl rfl (by decide) rfl rfl rfl ?_
    rintro _ w3 ⟨rfl, hE3⟩ _
    have hkp3 : tp_kp μ w3 := fun k9 z9 => (hE3.2.2.2.2.1 k9 (by unfold tp_tl at z9; omega)).trans (hkp1 k9 z9)
    have hBJ := e_all_B (bt := f 1) (dp := f 2) hw hW (by omega) (by omega)
    obtain ⟨σ, hσ⟩ : ∃ σ9, σ9 = (e_all f (f 1) (f 2) A B Y n) := ⟨_, rfl⟩
    rw [← hσ] at hE3 hBJ
    have hbB := hBJ.1
    have hJ1 := hBJ.2.1
    have hJ2 := hBJ.2.2.1
    have hsz3 : w3.1 63 4 = σ.1 0 9 := hE3.1.2.2.2.2.2.2.2.2.1
    have hp9 : 0 ≤ σ.1 0 9 ∧ σ.1 0 9 ≤ 209 := by omega
    have HH : ∀ p, 0 ≤ p → p < σ.1 0 9 → s_H f A B Y (f 2) n σ p := by rw [hσ]; exact H_all hw hW (by omega) (by omega)
    have hCd3 : tp_Cd c f w3 := tp_Cd_fr hcl (fun k9 z9 => hE3.2.2.2.2.1 k9 (by omega)) hCd
    have hco3 : w3.2 50 5 = some c := by rw [hE3.2.2.2.2.2]; exact hco
    have hT3 : c_T 50 n A B Y E D U T w3 := c_T_fr (fun c9 z1 z2 => hE3.2.2.2.2.1 c9 (by omega)) hT
    refine x_return rfl rfl ?_
    intro _
    refine g_aload_n rfl rfl ?_
    refine g_aload rfl rfl ?_
    refine g_iV (as := [tR (some 31)]) mX11_rebuild_ok rfl rfl rfl rfl rfl rfl (by decide) rfl rfl rfl ?_
    refine g_aload_n rfl rfl ?_
    refine x_getF (r := 70) hG rfl rfl (by decide) (Or.inl ⟨_, rfl⟩) rfl ?_
    refine g_aload_n rfl rfl ?_
    refine x_getF (r := 50) hG rfl rfl (by decide) (Or.inl ⟨_, rfl⟩) rfl ?_
    refine x_getM (v := (some c)) hG rfl rfl (by decide) (Or.inl ⟨_, rfl⟩) rfl (by first | exact hco | exact hco3 | exact hco5) ?_
    refine g_aload_n rfl rfl ?_
    refine x_getF (r := 62) hG rfl rfl (by decide) (Or.inl ⟨_, rfl⟩) rfl ?_
    refine x_getF (r := 63) hG rfl rfl (by decide) (Or.inl ⟨_, rfl⟩) rfl ?_
    refine g_cV (as := [tR (some c), tR (some 63)]) (s_walk hG hc hcl hw hW hCd3 hsz3 hE3.2.1 hp9 HH) rfl rfl mX10_go_ok rfl rfl rfl (by decide) rfl rfl rfl ?_
    rintro _ w5 ⟨rfl, hQ5, hF5, hP5⟩ _
    have hkp5 : tp_kp μ w5 := fun k9 z9 => (hF5 k9 (by unfold tp_tl at z9; omega)).trans (hkp3 k9 z9)
    have hpk5 : w5.2 70 5 = some 63 := by rw [hP5]; rfl
    have hco5 : w5.2 50 5 = some c := by rw [hP5]; exact hco3
    have hsz5 : w5.1 63 4 = σ.1 0 9 := by rw [hF5 63 (by omega)]; exact hsz3
    have hB5 : c_B σ w5 := fun i z0 z1 => by rw [hF5 64 (by omega), hF5 65 (by omega), hF5 66 (by omega), hF5 67 (by omega)]; exact hE3.2.1 i z0 z1
    have hT5 : c_T 50 n A B Y E D U T w5 := c_T_fr (fun c9 z1 z2 => hF5 c9 (by omega)) hT3
    have hCd5 : tp_Cd c f w5 := tp_Cd_fr hcl (fun k9 z9 => hF5 k9 (by omega)) hCd3
    have hU9 : 0 ≤ w_U σ (σ.1 0 9) ∧ w_U σ (σ.1 0 9) ≤ 200 := by
      have q := w_U_b HH (σ.1 0 9).toNat (by omega)
      rw [show (((σ.1 0 9).toNat : Nat) : Int) = σ.1 0 9 by omega] at q
      refine ⟨q.1, ?_⟩
      rcases (show σ.1 0 9 = 0 ∨ 1 ≤ σ.1 0 9 by omega) with z | z
      · rw [z]; show (0 : Int) ≤ 200; omega
      · have q2 := q.2 (by omega); have q3 := (HH (σ.1 0 9 - 1) (by omega) (by omega)).2.1; omega
    have hL5 : tp_Lo w5.1 31 (tp_of μ 1) := by
      have hL := tp_R_loss hR 1 (by decide) hld
      unfold tp_Lo at hL ⊢
      rw [hkp5 31 (by unfold tp_tl; omega), hkp5 (31 + 1) (by unfold tp_tl; omega)]
      exact hL
    refine g_aload_n rfl rfl ?_
    refine x_getF (r := 76) hG rfl rfl (by decide) (Or.inl ⟨_, rfl⟩) rfl ?_
    refine g_aload_n rfl rfl ?_
    refine x_getF (r := 70) hG rfl rfl (by decide) (Or.inl ⟨_, rfl⟩) rfl ?_
    refine g_aload_n rfl rfl ?_
    refine g_iconst rfl ⟨by decide, by decide⟩ ?_
    refine g_cV (as := [tR (some 70), tR (some 31), tI (-1)]) (s_sift1 hG hsz5 hB5 hp9 (by omega) HH hQ5 hpk5 hL5) rfl rfl mX4_sift_ok rfl rfl rfl (by decide) rfl rfl rfl ?_
    rintro _ w6 ⟨rfl, hM6, hF6⟩ _
    obtain ⟨s, hs⟩ : ∃ s9, s9 = v_S (v_2 (tp_of μ 1)) σ (σ.1 0 9) := ⟨_, rfl⟩
    rw [← hs] at hM6
    have hI6 := v_I_all (l := (v_2 (tp_of μ 1))) HH hp9.1 (Int.le_refl _)
    rw [← hs] at hI6
    obtain ⟨J, hJ⟩ := v_J_ex (n := n) hI6 (v_K_n hn0.1 HH)
    have hnp6 : 0 ≤ s.2.1 ∧ s.2.1 ≤ 209 := by have := hI6.2.1; omega
    have hsz6 := hJ.2.2.2.2.1
    have hm1 := hM6.1
    have hm2 := hM6.2.1
    have hkp6 : tp_kp μ w6 := fun k9 z9 => (hF6.1 k9 (by unfold tp_tl at z9; omega) (by unfold tp_tl at z9; omega) (by unfold tp_tl at z9; omega)).trans (hkp5 k9 z9)
    have hw70 : w6.1 70 6 = w_U σ (σ.1 0 9) := by rw [hF6.1 70 (by omega) (by omega) (by omega)]; exact hQ5.1
    have h206 : w6.1 206 2 = μ.1 206 2 := by rw [hkp6 206 (by unfold tp_tl; omega)]
    refine x_return rfl rfl ?_
    intro _
    refine g_lconst (b := 0) rfl rfl ⟨by decide, by decide⟩ ?_
    refine g_lstore rfl rfl rfl ?_
    refine g_iconst rfl ⟨by decide, by decide⟩ ?_
    refine g_istore rfl rfl rfl ?_
    have hT6 : c_T 50 n A B Y E D U T w6 := c_T_fr (fun c9 z1 z2 => hF6.1 c9 (by omega) (by omega) (by omega)) hT5
    have hCd6 : tp_Cd c f w6 := tp_Cd_fr hcl (fun k9 z9 => hF6.1 k9 (by omega) (by omega) (by omega)) hCd5
    have hco6 : w6.2 50 5 = some c := by rw [hF6.2]; exact hco5
    refine tp_conseq (fun r9 μ9 q9 => ?_) (l_ms1 hG hc hcl hw hW hT6 hCd6 hco6 hJ hM6 0 (by omega) 0 (by omega) q_st_0 (fun a a0 => by rw [q_bt_0, show q_s (q_ta f A a) 0 = 0 from rfl]; exact ⟨fun z => (by cases z), fun z => by omega⟩))
    obtain ⟨v, rfl, hq, e9⟩ := q9
    have e9 := e9.symm
    subst e9
    refine ⟨_, rfl, ?_⟩
    refine tp_ok_of mX12_missed_ok rfl (Nat.le_refl _) ?_
    refine g_aload_n rfl rfl ?_
    refine g_iconst rfl ⟨by decide, by decide⟩ ?_
    refine g_puti rfl rfl (by decide) rfl rfl ?_
    refine g_aload_n rfl rfl ?_
    refine g_iload_n rfl rfl ?_
    refine g_iload_n rfl rfl ?_
    refine g_iload_n rfl rfl ?_
    refine g_iV (as := [tI (a : Int), tI (d : Int), tI 1]) mX12_layRebuilt_ok rfl rfl rfl rfl rfl rfl (by decide) rfl rfl rfl ?_
    refine g_iload_n rfl rfl ?_
    refine g_iconst rfl ⟨by decide, by decide⟩ ?_
    refine g_icmp_eq (tgt := 14) rfl (by decide) (fun hx => absurd hx (by omega)) (fun _ => ?_)
    refine g_aload_n rfl rfl ?_
    refine g_iconst rfl ⟨by decide, by decide⟩ ?_
    refine g_iload_n rfl rfl ?_
    refine g_iV (as := [tI 2, tI 1]) mX12_is_ok rfl rfl rfl rfl rfl rfl (by decide) rfl rfl rfl ?_
    refine g_iload_n rfl rfl ?_
    refine g_iconst rfl ⟨by decide, by decide⟩ ?_
    refine g_aload_n rfl rfl ?_
    refine x_getF (r := 206) hG rfl rfl (by decide) (Or.inr ⟨_, rfl⟩) rfl ?_
    refine g_iload_n rfl rfl ?_
    refine x_iald (v := (w6.1 206 2)) rfl rfl (by decide) (by decide) (by decide) rfl ?_
    refine g_iconst rfl ⟨by decide, by decide⟩ ?_
    refine x_isub (z := (w6.1 206 2) - 1) rfl (by omega) ⟨by omega, by omega⟩ ?_
    refine g_iS (as := [tI 1, tI 0, tI ((w6.1 206 2) - 1)]) mX12_in_ok rfl rfl rfl rfl rfl rfl rfl ?_
    refine g_iload_n rfl rfl ?_
    refine g_iload_n rfl rfl ?_
    refine g_icmp_lt (tgt := 14) rfl (by decide) (fun hx => absurd hx (by omega)) (fun _ => ?_)
    refine g_iload_n rfl rfl ?_
    refine g_iload_n rfl rfl ?_
    refine g_icmp_gt (tgt := 14) rfl (by decide) (fun hx => absurd hx (by omega)) (fun _ => ?_)
    refine g_iconst rfl ⟨by decide, by decide⟩ ?_
    refine g_goto (tgt := 15) rfl (by decide) ?_
    refine x_zreturn rfl rfl (Or.inr rfl) ?_
    intro _
    refine x_zreturn rfl rfl (Or.inr rfl) ?_
    intro _
    refine g_if_eq (tgt := 23) rfl (by decide) (fun hx => absurd hx (by omega)) (fun _ => ?_)
    refine g_aload_n rfl rfl ?_
    refine g_iload_n rfl rfl ?_
    refine g_iload_n rfl rfl ?_
    refine g_iV (as := [tI (a : Int), tI (d : Int)]) mX12_layPackets_ok rfl rfl rfl rfl rfl rfl (by decide) rfl rfl rfl ?_
    refine g_aload_n rfl rfl ?_
    refine g_iload_n rfl rfl ?_
    refine g_iload_n rfl rfl ?_
    refine g_cV (as := [tI (a : Int), tI (d : Int)]) (hM _ (tp_kp_pi (by decide) hkp6)) rfl rfl mX12_lay_ok rfl rfl rfl (by decide) rfl rfl rfl ?_
    rintro _ w2 ⟨rfl, hTm, hMc, hGm, hdr, hdm⟩ _
    have hkp2 : tp_kp μ w2 := m_G_kp (tp_kp_pi (by decide) hkp6) hGm
    have hm6 := hTm.1
    have hall := hMc.2.2.1
    refine g_if_ne (tgt := 11) rfl (by decide) (fun _ => ?_) (fun hx => absurd hx (by omega))
    refine g_aload_n rfl rfl ?_
    refine g_aload_n rfl rfl ?_
    refine g_iconst rfl ⟨by decide, by decide⟩ ?_
    refine g_cV (as := [tI 1]) (s_of hG hMc (by omega) (by omega)) rfl rfl mX12_of_ok rfl rfl rfl (by decide) rfl rfl rfl ?_
    rintro _ w9 ⟨rfl, hw9⟩ _
    have hw9 := hw9.symm
    subst hw9
    refine g_aload_n rfl rfl ?_
    refine g_iconst rfl ⟨by decide, by decide⟩ ?_
    refine g_cV (as := [tI 2]) (s_of hG hMc (by omega) (by omega)) rfl rfl mX12_of_ok rfl rfl rfl (by decide) rfl rfl rfl ?_
    rintro _ w9 ⟨rfl, hw9⟩ _
    have hw9 := hw9.symm
    subst hw9
    refine g_cV (as := [tI (f 1), tI (f 2)]) (s_encodesM hG hw hMc hW hTm (by omega) (by omega)) rfl rfl mX12_encodes_ok rfl rfl rfl (by decide) rfl rfl rfl ?_
    rintro _ w4 ⟨rfl, hE4⟩ _
    have hkp4 : tp_kp μ w4 := fun k9 z9 => (hE4.2.2.2.1 k9 (by unfold tp_tl at z9; omega) (by unfold tp_tl at z9; omega)).trans (hkp2 k9 z9)
    rw [← hσ] at hE4
    have hMB := hE4.2.1
    have hsz4 : w4.1 201 47 = σ.1 0 9 := hE4.1.2.2.2.2.2.2.2.2.1
    have hQ4 : v_Q σ w4 := ⟨hsz4, fun i i0 i1 => ⟨(hMB i i0 i1).1, (hMB i i0 i1).2.2.2.1, (hMB i i0 i1).2.2.2.2.1⟩⟩
    have hn4 : w4.1 201 27 = n := by rw [hE4.2.2.2.2 27 (by omega)]; exact hm6
    have hA4 : ∀ j, 0 ≤ j → j < n → w4.1 212 j = A j := fun j j0 j1 => by rw [hE4.2.2.2.1 212 (by omega) (by omega)]; exact hTm.2.1 j j0 j1
    refine g_iconst rfl ⟨by decide, by decide⟩ ?_
    refine x_zreturn rfl rfl (Or.inr rfl) ?_
    intro _
    refine g_if_ne (tgt := 25) rfl (by decide) (fun _ => ?_) (fun hx => absurd hx (by omega))
    refine g_aload_n rfl rfl ?_
    refine g_iload_n rfl rfl ?_
    refine g_cV (as := [tI 1]) (s_by1 (g := tp_of μ 1) hG hQ4 hp9 (by omega) HH (fun i i0 i1 => by rw [hkp4 209 (by unfold tp_tl; omega)]; show μ.1 209 (101 + i) = μ.1 209 (101 * 1 + i); exact congrArg (μ.1 209) (by omega))) rfl rfl mX12_rebuildsBy_ok rfl rfl rfl (by decide) rfl rfl rfl ?_
    rintro _ w7 ⟨rfl, hM7, hs7, hG7⟩ _
    rw [← hs] at hM7 hs7
    have hkp7 : tp_kp μ w7 := fun k9 z9 => (hG7.1 k9 (by unfold tp_tl at z9; omega) (by unfold tp_tl at z9; omega) (by unfold tp_tl at z9; omega) (by unfold tp_tl at z9; omega)).trans (hkp4 k9 z9)
    have hn7 : w7.1 201 27 = n := by rw [hG7.2 27 (by omega) (by omega)]; exact hn4
    have hA7 : ∀ j, 0 ≤ j → j < n → w7.1 212 j = A j := fun j j0 j1 => by rw [hG7.1 212 (by omega) (by omega) (by omega) (by omega)]; exact hA4 j j0 j1
    have hr7 := hM7.1
    have hQ7 : v_Q σ w7 := v_Q_G hG7 hQ4
    refine g_iconst rfl ⟨by decide, by decide⟩ ?_
    refine x_zreturn rfl rfl (Or.inr rfl) ?_
    intro _
    refine g_if_ne (tgt := 17) rfl (by decide) (fun _ => ?_) (fun hx => absurd hx (by omega))
    refine g_aload_n rfl rfl ?_
    refine g_cV (as := []) (s_marks hG hJ (by omega) (by omega) hM7 hn7 hs7) rfl rfl mX12_marks_ok rfl rfl rfl (by decide) rfl rfl rfl ?_
    rintro _ w8 ⟨rfl, hI8, hF8⟩ _
    have hkp8 : tp_kp μ w8 := q_f1_kp (by unfold tp_tl; omega) hkp7 hF8
    refine g_iconst rfl ⟨by decide, by decide⟩ ?_
    refine g_istore rfl rfl rfl ?_
    refine g_iconst rfl ⟨by decide, by decide⟩ ?_
    refine g_istore rfl rfl rfl ?_
    have hMc8 : tp_Mc (a : Int) f w8 := by
      obtain ⟨q1, q2, q3, q4⟩ := hMc
      exact ⟨q1, by rw [hF8.1 201 (by omega), hG7.2 24 (by omega) (by omega), hE4.2.2.2.2 24 (by omega)]; exact q2, by rw [hF8.1 201 (by omega), hG7.2 26 (by omega) (by omega), hE4.2.2.2.2 26 (by omega)]; exact q3, fun i i0 i1 => by rw [hF8.1 207 (by omega), hG7.1 207 (by omega) (by omega) (by omega) (by omega), hE4.2.2.2.1 207 (by omega) (by omega)]; exact q4 i i0 i1⟩
    have hT8 : m_T n A B Y (w8.1 201 28) (w8.1 201 30) (w8.1 201 31) (w8.1 201 32) w8 := ⟨by rw [hF8.1 201 (by omega)]; exact hn7, fun j j0 j1 => by rw [hF8.1 212 (by omega)]; exact hA7 j j0 j1, fun j j0 j1 => by rw [hF8.1 213 (by omega), hG7.1 213 (by omega) (by omega) (by omega) (by omega), hE4.2.2.2.1 213 (by omega) (by omega)]; exact hTm.2.2.1 j j0 j1, fun j j0 j1 => by rw [hF8.1 214 (by omega), hG7.1 214 (by omega) (by omega) (by omega) (by omega), hE4.2.2.2.1 214 (by omega) (by omega)]; exact hTm.2.2.2.1 j j0 j1, rfl, rfl, rfl, rfl⟩
    refine tp_conseq (fun r9 μ8 q8 => ?_) (l_msM hG hw hW hT8 hMc8 hI8 0 (by omega) 0 (by omega) rfl (fun a g0 g1 => by omega))
    obtain ⟨v2, rfl, hq2, e8⟩ := q8
    have e8 := e8.symm
    subst e8
    exact ⟨by rw [q_sel_u (fun a => (q_ms_b f A J n (q_s s.2.2.2 s.2.1) a).1) (q_sel_x (M := 40) hw0.1 hw0.2 (fun a g0 g1 => if_neg (fun z => by have := q_ta_0 hW g0; omega)) hq2) hq], tp_R_kp hR hkp8⟩
set_option maxHeartbeats 4000000 in
set_option maxRecDepth 100000 in
theorem p_missed {G : tp_G} (hG : tp_Gf G = true) {a d l k : Int} : tp_pair G mX11_missed mX12_missed [tI a, tI d, tI l, tI k] := by
  intro μ hR
  have hm2l := tp_R_many hR 2 (by decide) (by decide)
  rcases (show l = -1 ∨ (l = 0 ∧ 0 < μ.1 5 2) ∨ (l = 1 ∧ 1 < μ.1 5 2) ∨ l ≤ -2 ∨ (0 ≤ l ∧ μ.1 5 2 ≤ l) by omega) with rfl | ⟨rfl, hld⟩ | ⟨rfl, hld⟩ | hld | hld
  · exact p_missedN hG hR 
  · exact p_missed0 hG hR hld 
  · exact p_missed1 hG hR hld 
  · refine tp_ok_of mX11_missed_ok rfl (Nat.le_refl _) ?_
    refine g_aload_n rfl rfl ?_
    refine x_getF (r := 1) hG rfl rfl (by decide) (Or.inl ⟨_, rfl⟩) rfl ?_
    refine g_iconst rfl ⟨by decide, by decide⟩ ?_
    refine g_iload_n rfl rfl ?_
    refine g_cV (as := [tI 2, tI l]) (s_rowOf2o hG (by omega)) rfl rfl mX9_rowOf_ok rfl rfl rfl (by decide) rfl rfl rfl ?_
    rintro _ w9 ⟨rfl, hw9⟩ _
    have hw9 := hw9.symm
    subst hw9
    refine g_astore rfl rfl rfl ?_
    refine g_aload rfl rfl ?_
    refine g_ifnonnull (tgt := 21) rfl (by decide) (fun _ hx => by cases hx) (fun _ => ?_)
    refine g_iload_n rfl rfl ?_
    refine g_iconst rfl ⟨by decide, by decide⟩ ?_
    refine g_icmp_ne (tgt := 30) rfl (by decide) (fun _ => ?_) (fun hx => absurd hx (by omega))
    refine g_iconst rfl ⟨by decide, by decide⟩ ?_
    refine x_ireturn rfl rfl ?_
    refine ⟨_, rfl, ?_⟩
    refine tp_ok_of mX12_missed_ok rfl (Nat.le_refl _) ?_
    refine g_aload_n rfl rfl ?_
    refine g_iconst rfl ⟨by decide, by decide⟩ ?_
    refine g_puti rfl rfl (by decide) rfl rfl ?_
    refine g_aload_n rfl rfl ?_
    refine g_iload_n rfl rfl ?_
    refine g_iload_n rfl rfl ?_
    refine g_iload_n rfl rfl ?_
    refine g_iV (as := [tI a, tI d, tI l]) mX12_layRebuilt_ok rfl rfl rfl rfl rfl rfl (by decide) rfl rfl rfl ?_
    refine g_iload_n rfl rfl ?_
    refine g_iconst rfl ⟨by decide, by decide⟩ ?_
    refine g_icmp_eq (tgt := 14) rfl (by decide) (fun hx => absurd hx (by omega)) (fun _ => ?_)
    refine g_aload_n rfl rfl ?_
    refine g_iconst rfl ⟨by decide, by decide⟩ ?_
    refine g_iload_n rfl rfl ?_
    refine g_iV (as := [tI 2, tI l]) mX12_is_ok rfl rfl rfl rfl rfl rfl (by decide) rfl rfl rfl ?_
    refine g_iload_n rfl rfl ?_
    refine g_iconst rfl ⟨by decide, by decide⟩ ?_
    refine g_aload_n rfl rfl ?_
    refine x_getF (r := 206) hG rfl rfl (by decide) (Or.inr ⟨_, rfl⟩) rfl ?_
    refine g_iload_n rfl rfl ?_
    refine x_iald (v := (μ.1 206 2)) rfl rfl (by decide) (by decide) (by decide) rfl ?_
    refine g_iconst rfl ⟨by decide, by decide⟩ ?_
    refine x_isub (z := (μ.1 206 2) - 1) rfl (by omega) ⟨by omega, by omega⟩ ?_
    refine g_iS (as := [tI l, tI 0, tI ((μ.1 206 2) - 1)]) mX12_in_ok rfl rfl rfl rfl rfl rfl rfl ?_
    refine g_iload_n rfl rfl ?_
    refine g_iload_n rfl rfl ?_
    refine g_icmp_lt (tgt := 14) rfl (by decide) (fun _ => ?_) (fun hx => absurd hx (by omega))
    refine g_iconst rfl ⟨by decide, by decide⟩ ?_
    refine x_zreturn rfl rfl (Or.inl rfl) ?_
    intro _
    refine x_zreturn rfl rfl (Or.inl rfl) ?_
    intro _
    refine g_if_eq (tgt := 23) rfl (by decide) (fun _ => ?_) (fun hx => absurd hx (by omega))
    refine g_iconst rfl ⟨by decide, by decide⟩ ?_
    refine x_zreturn rfl rfl (Or.inl rfl) ?_
    intro _
    refine g_if_ne (tgt := 17) rfl (by decide) (fun hx => absurd hx (by omega)) (fun _ => ?_)
    refine g_iconst rfl ⟨by decide, by decide⟩ ?_
    refine x_ireturn rfl rfl ?_
    exact ⟨rfl, tp_R_kp hR (tp_kp_pi (by decide) tp_kp_rf)⟩
  · refine tp_ok_of mX11_missed_ok rfl (Nat.le_refl _) ?_
    refine g_aload_n rfl rfl ?_
    refine x_getF (r := 1) hG rfl rfl (by decide) (Or.inl ⟨_, rfl⟩) rfl ?_
    refine g_iconst rfl ⟨by decide, by decide⟩ ?_
    refine g_iload_n rfl rfl ?_
    refine g_cV (as := [tI 2, tI l]) (s_rowOf2o hG (by omega)) rfl rfl mX9_rowOf_ok rfl rfl rfl (by decide) rfl rfl rfl ?_
    rintro _ w9 ⟨rfl, hw9⟩ _
    have hw9 := hw9.symm
    subst hw9
    refine g_astore rfl rfl rfl ?_
    refine g_aload rfl rfl ?_
    refine g_ifnonnull (tgt := 21) rfl (by decide) (fun _ hx => by cases hx) (fun _ => ?_)
    refine g_iload_n rfl rfl ?_
    refine g_iconst rfl ⟨by decide, by decide⟩ ?_
    refine g_icmp_ne (tgt := 30) rfl (by decide) (fun _ => ?_) (fun hx => absurd hx (by omega))
    refine g_iconst rfl ⟨by decide, by decide⟩ ?_
    refine x_ireturn rfl rfl ?_
    refine ⟨_, rfl, ?_⟩
    refine tp_ok_of mX12_missed_ok rfl (Nat.le_refl _) ?_
    refine g_aload_n rfl rfl ?_
    refine g_iconst rfl ⟨by decide, by decide⟩ ?_
    refine g_puti rfl rfl (by decide) rfl rfl ?_
    refine g_aload_n rfl rfl ?_
    refine g_iload_n rfl rfl ?_
    refine g_iload_n rfl rfl ?_
    refine g_iload_n rfl rfl ?_
    refine g_iV (as := [tI a, tI d, tI l]) mX12_layRebuilt_ok rfl rfl rfl rfl rfl rfl (by decide) rfl rfl rfl ?_
    refine g_iload_n rfl rfl ?_
    refine g_iconst rfl ⟨by decide, by decide⟩ ?_
    refine g_icmp_eq (tgt := 14) rfl (by decide) (fun hx => absurd hx (by omega)) (fun _ => ?_)
    refine g_aload_n rfl rfl ?_
    refine g_iconst rfl ⟨by decide, by decide⟩ ?_
    refine g_iload_n rfl rfl ?_
    refine g_iV (as := [tI 2, tI l]) mX12_is_ok rfl rfl rfl rfl rfl rfl (by decide) rfl rfl rfl ?_
    refine g_iload_n rfl rfl ?_
    refine g_iconst rfl ⟨by decide, by decide⟩ ?_
    refine g_aload_n rfl rfl ?_
    refine x_getF (r := 206) hG rfl rfl (by decide) (Or.inr ⟨_, rfl⟩) rfl ?_
    refine g_iload_n rfl rfl ?_
    refine x_iald (v := (μ.1 206 2)) rfl rfl (by decide) (by decide) (by decide) rfl ?_
    refine g_iconst rfl ⟨by decide, by decide⟩ ?_
    refine x_isub (z := (μ.1 206 2) - 1) rfl (by omega) ⟨by omega, by omega⟩ ?_
    refine g_iS (as := [tI l, tI 0, tI ((μ.1 206 2) - 1)]) mX12_in_ok rfl rfl rfl rfl rfl rfl rfl ?_
    refine g_iload_n rfl rfl ?_
    refine g_iload_n rfl rfl ?_
    refine g_icmp_lt (tgt := 14) rfl (by decide) (fun hx => absurd hx (by omega)) (fun _ => ?_)
    refine g_iload_n rfl rfl ?_
    refine g_iload_n rfl rfl ?_
    refine g_icmp_gt (tgt := 14) rfl (by decide) (fun _ => ?_) (fun hx => absurd hx (by omega))
    refine g_iconst rfl ⟨by decide, by decide⟩ ?_
    refine x_zreturn rfl rfl (Or.inl rfl) ?_
    intro _
    refine x_zreturn rfl rfl (Or.inl rfl) ?_
    intro _
    refine g_if_eq (tgt := 23) rfl (by decide) (fun _ => ?_) (fun hx => absurd hx (by omega))
    refine g_iconst rfl ⟨by decide, by decide⟩ ?_
    refine x_zreturn rfl rfl (Or.inl rfl) ?_
    intro _
    refine g_if_ne (tgt := 17) rfl (by decide) (fun hx => absurd hx (by omega)) (fun _ => ?_)
    refine g_iconst rfl ⟨by decide, by decide⟩ ?_
    refine x_ireturn rfl rfl ?_
    exact ⟨rfl, tp_R_kp hR (tp_kp_pi (by decide) tp_kp_rf)⟩
