/-- is an address traced -/
def q_tr (f : Int → Int) (a : Int) : Int := if f 4 ≤ a ∧ a ≤ f 5 ∧ (f 6 = 2 ∨ f 6 = f (89 + a)) then 1 else 0
theorem q_tr_1 {f : Int → Int} {a : Int} (h : f 4 ≤ a ∧ a ≤ f 5 ∧ (f 6 = 2 ∨ f 6 = f (89 + a))) : q_tr f a = 1 := if_pos h
theorem q_tr_0 {f : Int → Int} {a : Int} (h : ¬ (f 4 ≤ a ∧ a ≤ f 5 ∧ (f 6 = 2 ∨ f 6 = f (89 + a)))) : q_tr f a = 0 := if_neg h
theorem q_tr_b (f : Int → Int) (a : Int) : 0 ≤ q_tr f a ∧ q_tr f a ≤ 1 := by unfold q_tr; split <;> omega
def q_lp (A : Int → Int) (j : Int) : Int := if 1 ≤ j ∧ A j ≤ A (j - 1) then 1 else 0
theorem q_lp_b (A : Int → Int) (j : Int) : 0 ≤ q_lp A j ∧ q_lp A j ≤ 1 := by unfold q_lp; split <;> omega
def q_is (A : Int → Int) (a j : Int) : Int := if A j = a then 1 else 0
theorem q_is_b (A : Int → Int) (a j : Int) : 0 ≤ q_is A a j ∧ q_is A a j ≤ 1 := by unfold q_is; split <;> omega
theorem q_s_B {F : Int → Int} {k : Int} (hk : 0 ≤ k) (h : ∀ j, 0 ≤ F j ∧ F j ≤ 1) : 0 ≤ q_s F k ∧ q_s F k ≤ k := q_s_b hk (fun j _ _ => h j)
theorem s_kindX {G : tp_G} {μ : tp_M} (hG : tp_Gf G = true) {c : Nat} {f : Int → Int} {a : Int} (hc : tp_SH c = .inl 0) (hcl : c < 37) (hw : tp_Cw f) (h : tp_Cd c f μ) (h0 : 0 ≤ a) (h1 : a < f 0) : tp_k G mX0_kindAt [tR (some c), tI a] μ (fun r μ' => r = some (tI (f (9 + a))) ∧ μ' = μ) := by
  have q := s_kindAt (μ := μ) (a := a) hG hc (by omega) h0 (by rw [h.1]; exact h1) (by rw [h.1]; exact hw.1.2)
  rw [h.2.1 a h0 h1] at q
  exact q
theorem s_kindXo {G : tp_G} {μ : tp_M} (hG : tp_Gf G = true) {c : Nat} {f : Int → Int} {a : Int} (hc : tp_SH c = .inl 0) (hcl : c < 37) (h : tp_Cd c f μ) (h0 : a < 0 ∨ f 0 ≤ a) : tp_k G mX0_kindAt [tR (some c), tI a] μ (fun r μ' => r = some (tI (-1)) ∧ μ' = μ) := s_kindAto hG hc (by omega) (by rw [h.1]; exact h0)
theorem s_targX {G : tp_G} {μ : tp_M} (hG : tp_Gf G = true) {c : Nat} {f : Int → Int} {a : Int} (hc : tp_SH c = .inl 0) (hcl : c < 37) (hw : tp_Cw f) (h : tp_Cd c f μ) (h0 : 0 ≤ a) (h1 : a < f 0) : tp_k G mX0_targetAt [tR (some c), tI a] μ (fun r μ' => r = some (tI (f (49 + a))) ∧ μ' = μ) := by
  have q := s_targetAt (μ := μ) (a := a) hG hc (by omega) h0 (by rw [h.1]; exact h1) (by rw [h.1]; exact hw.1.2)
  rw [h.2.2.1 a h0 h1] at q
  exact q
theorem s_ruleX {G : tp_G} {μ : tp_M} (hG : tp_Gf G = true) {c : Nat} {f : Int → Int} {a : Int} (hc : tp_SH c = .inl 0) (hcl : c < 37) (h : tp_Cd c f μ) (h0 : 0 ≤ a) (h1 : a < 8) : tp_k G mX0_rule [tR (some c), tI a] μ (fun r μ' => r = some (tI (f (1 + a))) ∧ μ' = μ) := by
  have q := s_rule (μ := μ) (a := a) hG hc (by omega) h0 h1
  rw [h.2.2.2.2 a h0 h1] at q
  exact q
theorem s_hasX {G : tp_G} {μ : tp_M} (hG : tp_Gf G = true) {c : Nat} {f : Int → Int} {a : Int} (hc : tp_SH c = .inl 0) (hcl : c < 37) (hw : tp_Cw f) (h : tp_Cd c f μ) (h0 : 0 ≤ a) (h1 : a < f 0) : tp_k G mX0_has [tR (some c), tI a] μ (fun r μ' => r = some (tI 1) ∧ μ' = μ) := s_has hG hc (by omega) h0 (by rw [h.1]; exact h1) (by rw [h.1]; exact hw.1.2)
theorem s_hasXo {G : tp_G} {μ : tp_M} (hG : tp_Gf G = true) {c : Nat} {f : Int → Int} {a : Int} (hc : tp_SH c = .inl 0) (hcl : c < 37) (h : tp_Cd c f μ) (h0 : a < 0 ∨ f 0 ≤ a) : tp_k G mX0_has [tR (some c), tI a] μ (fun r μ' => r = some (tI 0) ∧ μ' = μ) := s_haso hG hc (by omega) (by rw [h.1]; exact h0)
set_option maxHeartbeats 4000000 in
set_option maxRecDepth 100000 in
theorem s_at50 {G : tp_G} {μ : tp_M} (hG : tp_Gf G = true) {n k : Int} {A B Y : Int → Int} {E D U T : Int} (hT : c_T 50 n A B Y E D U T μ) (hn : n ≤ 200) (h0 : 0 ≤ k) (h1 : k < n) : tp_k G mX7_at [tR (some 50), tI k] μ (fun r μ' => r = some (tI (A k)) ∧ μ' = μ) := by
  refine tp_ok_of mX7_at_ok rfl (Nat.le_refl _) ?_
  have hn6 := hT.1
  refine g_iload_n rfl rfl ?_
  refine g_if_lt (tgt := 19) rfl (by decide) (fun hx => absurd hx (by omega)) (fun _ => ?_)
  refine g_iload_n rfl rfl ?_
  refine g_aload_n rfl rfl ?_
  refine x_geti (v := (μ.1 50 6)) rfl rfl (by decide) (Or.inl rfl) rfl ?_
  refine g_icmp_ge (tgt := 19) rfl (by decide) (fun hx => absurd hx (by omega)) (fun _ => ?_)
  refine g_iload_n rfl rfl ?_
  refine g_sipush rfl ⟨by decide, by decide⟩ (by decide) ?_
  refine g_icmp_lt (tgt := 23) rfl (by decide) (fun _ => ?_) (fun hx => absurd hx (by omega))
  refine g_aload_n rfl rfl ?_
  refine x_getF (r := 51) hG rfl rfl (by decide) (Or.inr ⟨_, rfl⟩) rfl ?_
  refine g_iload_n rfl rfl ?_
  refine x_iald (v := (μ.1 51 k)) rfl rfl (by decide) (by omega) (by omega) rfl ?_
  refine x_ireturn rfl rfl ?_
  exact ⟨by rw [hT.2.1 k (by omega) (by omega)], rfl⟩
set_option maxHeartbeats 4000000 in
set_option maxRecDepth 100000 in
theorem s_behind50 {G : tp_G} {μ : tp_M} (hG : tp_Gf G = true) {n k : Int} {A B Y : Int → Int} {E D U T : Int} (hT : c_T 50 n A B Y E D U T μ) (hn : n ≤ 200) (h0 : 0 ≤ k) (h1 : k < n) : tp_k G mX7_behind [tR (some 50), tI k] μ (fun r μ' => r = some (tI (B k)) ∧ μ' = μ) := by
  refine tp_ok_of mX7_behind_ok rfl (Nat.le_refl _) ?_
  have hn6 := hT.1
  refine g_iload_n rfl rfl ?_
  refine g_if_lt (tgt := 19) rfl (by decide) (fun hx => absurd hx (by omega)) (fun _ => ?_)
  refine g_iload_n rfl rfl ?_
  refine g_aload_n rfl rfl ?_
  refine x_geti (v := (μ.1 50 6)) rfl rfl (by decide) (Or.inl rfl) rfl ?_
  refine g_icmp_ge (tgt := 19) rfl (by decide) (fun hx => absurd hx (by omega)) (fun _ => ?_)
  refine g_iload_n rfl rfl ?_
  refine g_sipush rfl ⟨by decide, by decide⟩ (by decide) ?_
  refine g_icmp_lt (tgt := 23) rfl (by decide) (fun _ => ?_) (fun hx => absurd hx (by omega))
  refine g_aload_n rfl rfl ?_
  refine x_getF (r := 52) hG rfl rfl (by decide) (Or.inr ⟨_, rfl⟩) rfl ?_
  refine g_iload_n rfl rfl ?_
  refine x_iald (v := (μ.1 52 k)) rfl rfl (by decide) (by omega) (by omega) rfl ?_
  refine x_ireturn rfl rfl ?_
  exact ⟨by rw [hT.2.2.1 k (by omega) (by omega)], rfl⟩
set_option maxHeartbeats 4000000 in
set_option maxRecDepth 100000 in
theorem s_taken50 {G : tp_G} {μ : tp_M} (hG : tp_Gf G = true) {n k : Int} {A B Y : Int → Int} {E D U T : Int} (hT : c_T 50 n A B Y E D U T μ) (hn : n ≤ 200) (h0 : 0 ≤ k) (h1 : k < n) (hy : Y k = 0 ∨ Y k = 1) : tp_k G mX7_isTaken [tR (some 50), tI k] μ (fun r μ' => r = some (tI (Y k)) ∧ μ' = μ) := by
  refine tp_ok_of mX7_isTaken_ok rfl (Nat.le_refl _) ?_
  have hn6 := hT.1
  have hyk : μ.1 53 k = Y k := hT.2.2.2.1 k h0 h1
  refine g_iload_n rfl rfl ?_
  refine g_if_lt (tgt := 32) rfl (by decide) (fun hx => absurd hx (by omega)) (fun _ => ?_)
  refine g_iload_n rfl rfl ?_
  refine g_aload_n rfl rfl ?_
  refine x_geti (v := (μ.1 50 6)) rfl rfl (by decide) (Or.inl rfl) rfl ?_
  refine g_icmp_ge (tgt := 32) rfl (by decide) (fun hx => absurd hx (by omega)) (fun _ => ?_)
  refine g_iload_n rfl rfl ?_
  refine g_sipush rfl ⟨by decide, by decide⟩ (by decide) ?_
  refine g_icmp_ge (tgt := 32) rfl (by decide) (fun hx => absurd hx (by omega)) (fun _ => ?_)
  refine g_aload_n rfl rfl ?_
  refine x_getF (r := 53) hG rfl rfl (by decide) (Or.inr ⟨_, rfl⟩) rfl ?_
  refine g_iload_n rfl rfl ?_
  refine g_zald rfl rfl (by decide) (by omega) (by omega) ?_
  refine g_if_eq (tgt := 32) rfl (by decide) (fun h1 => ?_) (fun h1 => ?_)
  · refine g_iconst rfl ⟨by decide, by decide⟩ ?_
    refine x_zreturn rfl rfl (Or.inl rfl) ?_
    exact ⟨by rw [← hyk]; exact congrArg (fun z => some (tI z)) (by omega), rfl⟩
  · refine g_iconst rfl ⟨by decide, by decide⟩ ?_
    refine g_goto (tgt := 33) rfl (by decide) ?_
    refine x_zreturn rfl rfl (Or.inr rfl) ?_
    exact ⟨by rw [← hyk]; exact congrArg (fun z => some (tI z)) (by omega), rfl⟩
set_option maxHeartbeats 4000000 in
set_option maxRecDepth 100000 in
theorem s_at50o {G : tp_G} {μ : tp_M} (hG : tp_Gf G = true) {n k : Int} {A B Y : Int → Int} {E D U T : Int} (hT : c_T 50 n A B Y E D U T μ) (hn : n ≤ 200) (h0 : k < 0 ∨ n ≤ k) : tp_k G mX7_at [tR (some 50), tI k] μ (fun r μ' => r = some (tI (-1)) ∧ μ' = μ) := by
  refine tp_ok_of mX7_at_ok rfl (Nat.le_refl _) ?_
  have hn6 := hT.1
  refine g_iload_n rfl rfl ?_
  refine g_if_lt (tgt := 19) rfl (by decide) (fun h1 => ?_) (fun h1 => ?_)
  · first
      | omega
      | refine g_iconst rfl ⟨by decide, by decide⟩ ?_
        refine g_goto (tgt := 29) rfl (by decide) ?_
        refine x_ireturn rfl rfl ?_
        exact ⟨rfl, rfl⟩
  · first
      | omega
      | refine g_iload_n rfl rfl ?_
        refine g_aload_n rfl rfl ?_
        refine x_geti (v := (μ.1 50 6)) rfl rfl (by decide) (Or.inl rfl) rfl ?_
        refine g_icmp_ge (tgt := 19) rfl (by decide) (fun h2 => ?_) (fun h2 => ?_)
        · first
            | omega
            | refine g_iconst rfl ⟨by decide, by decide⟩ ?_
              refine g_goto (tgt := 29) rfl (by decide) ?_
              refine x_ireturn rfl rfl ?_
              exact ⟨rfl, rfl⟩
        · first
            | omega
            | refine g_iload_n rfl rfl ?_
              refine g_sipush rfl ⟨by decide, by decide⟩ (by decide) ?_
              refine g_icmp_lt (tgt := 23) rfl (by decide) (fun _ => ?_) (fun hx => absurd hx (by omega))
              refine g_aload_n rfl rfl ?_
              refine x_getF (r := 51) hG rfl rfl (by decide) (Or.inr ⟨_, rfl⟩) rfl ?_
              refine g_iload_n rfl rfl ?_
              refine x_iald (v := (μ.1 51 k)) rfl rfl (by decide) (by omega) (by omega) rfl ?_
              refine x_ireturn rfl rfl ?_
              exact ⟨rfl, rfl⟩
set_option maxHeartbeats 4000000 in
set_option maxRecDepth 100000 in
theorem s_at56 {G : tp_G} {μ : tp_M} (hG : tp_Gf G = true) {n k : Int} {A B Y : Int → Int} {E D U T : Int} (hT : c_T 56 n A B Y E D U T μ) (hn : n ≤ 200) (h0 : 0 ≤ k) (h1 : k < n) : tp_k G mX7_at [tR (some 56), tI k] μ (fun r μ' => r = some (tI (A k)) ∧ μ' = μ) := by
  refine tp_ok_of mX7_at_ok rfl (Nat.le_refl _) ?_
  have hn6 := hT.1
  refine g_iload_n rfl rfl ?_
  refine g_if_lt (tgt := 19) rfl (by decide) (fun hx => absurd hx (by omega)) (fun _ => ?_)
  refine g_iload_n rfl rfl ?_
  refine g_aload_n rfl rfl ?_
  refine x_geti (v := (μ.1 56 6)) rfl rfl (by decide) (Or.inl rfl) rfl ?_
  refine g_icmp_ge (tgt := 19) rfl (by decide) (fun hx => absurd hx (by omega)) (fun _ => ?_)
  refine g_iload_n rfl rfl ?_
  refine g_sipush rfl ⟨by decide, by decide⟩ (by decide) ?_
  refine g_icmp_lt (tgt := 23) rfl (by decide) (fun _ => ?_) (fun hx => absurd hx (by omega))
  refine g_aload_n rfl rfl ?_
  refine x_getF (r := 57) hG rfl rfl (by decide) (Or.inr ⟨_, rfl⟩) rfl ?_
  refine g_iload_n rfl rfl ?_
  refine x_iald (v := (μ.1 57 k)) rfl rfl (by decide) (by omega) (by omega) rfl ?_
  refine x_ireturn rfl rfl ?_
  exact ⟨by rw [hT.2.1 k (by omega) (by omega)], rfl⟩
set_option maxHeartbeats 4000000 in
set_option maxRecDepth 100000 in
theorem s_at56o {G : tp_G} {μ : tp_M} (hG : tp_Gf G = true) {n k : Int} {A B Y : Int → Int} {E D U T : Int} (hT : c_T 56 n A B Y E D U T μ) (hn : n ≤ 200) (h0 : k < 0 ∨ n ≤ k) : tp_k G mX7_at [tR (some 56), tI k] μ (fun r μ' => r = some (tI (-1)) ∧ μ' = μ) := by
  refine tp_ok_of mX7_at_ok rfl (Nat.le_refl _) ?_
  have hn6 := hT.1
  refine g_iload_n rfl rfl ?_
  refine g_if_lt (tgt := 19) rfl (by decide) (fun h1 => ?_) (fun h1 => ?_)
  · first
      | omega
      | refine g_iconst rfl ⟨by decide, by decide⟩ ?_
        refine g_goto (tgt := 29) rfl (by decide) ?_
        refine x_ireturn rfl rfl ?_
        exact ⟨rfl, rfl⟩
  · first
      | omega
      | refine g_iload_n rfl rfl ?_
        refine g_aload_n rfl rfl ?_
        refine x_geti (v := (μ.1 56 6)) rfl rfl (by decide) (Or.inl rfl) rfl ?_
        refine g_icmp_ge (tgt := 19) rfl (by decide) (fun h2 => ?_) (fun h2 => ?_)
        · first
            | omega
            | refine g_iconst rfl ⟨by decide, by decide⟩ ?_
              refine g_goto (tgt := 29) rfl (by decide) ?_
              refine x_ireturn rfl rfl ?_
              exact ⟨rfl, rfl⟩
        · first
            | omega
            | refine g_iload_n rfl rfl ?_
              refine g_sipush rfl ⟨by decide, by decide⟩ (by decide) ?_
              refine g_icmp_lt (tgt := 23) rfl (by decide) (fun _ => ?_) (fun hx => absurd hx (by omega))
              refine g_aload_n rfl rfl ?_
              refine x_getF (r := 57) hG rfl rfl (by decide) (Or.inr ⟨_, rfl⟩) rfl ?_
              refine g_iload_n rfl rfl ?_
              refine x_iald (v := (μ.1 57 k)) rfl rfl (by decide) (by omega) (by omega) rfl ?_
              refine x_ireturn rfl rfl ?_
              exact ⟨rfl, rfl⟩
set_option maxHeartbeats 4000000 in
set_option maxRecDepth 100000 in
theorem s_traces {G : tp_G} {μ : tp_M} (hG : tp_Gf G = true) {c : Nat} {f : Int → Int} {a : Int} (hc : tp_SH c = .inl 0) (hcl : c < 37) (hw : tp_Cw f) (hCd : tp_Cd c f μ) (h0 : 0 ≤ a) (h1 : a < f 0) : tp_k G mX0_traces [tR (some c), tI a] μ (fun r μ' => r = some (tI (q_tr f a)) ∧ μ' = μ) := by
  refine tp_ok_of mX0_traces_ok rfl (Nat.le_refl _) ?_
  have hcn : c < 234 := by omega
  have hw0 := hw.1
  have hr := tp_code1 c hcn hc
  have hs := tp_code2 c hcn hc
  have e3 : μ.1 (c + 4) 3 = f 4 := hCd.2.2.2.2 3 (by omega) (by omega)
  have e4 : μ.1 (c + 4) 4 = f 5 := hCd.2.2.2.2 4 (by omega) (by omega)
  have e5 : μ.1 (c + 4) 5 = f 6 := hCd.2.2.2.2 5 (by omega) (by omega)
  have em : μ.1 (c + 3) a = f (89 + a) := hCd.2.2.2.1 a h0 h1
  refine g_aload_n rfl rfl ?_
  refine g_iload_n rfl rfl ?_
  refine g_cV (as := [tI a]) (s_hasX hG hc hcl hw hCd h0 h1) rfl rfl mX0_has_ok rfl hc rfl hcn rfl rfl rfl ?_
  rintro _ w9 ⟨rfl, hw9⟩ _
  have hw9 := hw9.symm
  subst hw9
  refine g_if_eq (tgt := 28) rfl (by decide) (fun hx => absurd hx (by omega)) (fun _ => ?_)
  refine g_iload_n rfl rfl ?_
  refine g_aload_n rfl rfl ?_
  refine x_getF (r := c + 4) hG rfl hc hcn (Or.inr ⟨_, rfl⟩) hr.2.2.2 ?_
  refine g_iconst rfl ⟨by decide, by decide⟩ ?_
  refine x_iald (v := (μ.1 (c + 4) 3)) rfl hs.2.2.2.1 (by omega) (by decide) (by decide) rfl ?_
  refine g_icmp_lt (tgt := 28) rfl (by decide) (fun h1 => ?_) (fun h1 => ?_)
  · refine g_iconst rfl ⟨by decide, by decide⟩ ?_
    refine x_zreturn rfl rfl (Or.inl rfl) ?_
    exact ⟨by rw [q_tr_0 (by omega)], rfl⟩
  · refine g_iload_n rfl rfl ?_
    refine g_aload_n rfl rfl ?_
    refine x_getF (r := c + 4) hG rfl hc hcn (Or.inr ⟨_, rfl⟩) hr.2.2.2 ?_
    refine g_iconst rfl ⟨by decide, by decide⟩ ?_
    refine x_iald (v := (μ.1 (c + 4) 4)) rfl hs.2.2.2.1 (by omega) (by decide) (by decide) rfl ?_
    refine g_icmp_le (tgt := 30) rfl (by decide) (fun h2 => ?_) (fun h2 => ?_)
    · refine g_aload_n rfl rfl ?_
      refine x_getF (r := c + 4) hG rfl hc hcn (Or.inr ⟨_, rfl⟩) hr.2.2.2 ?_
      refine g_iconst rfl ⟨by decide, by decide⟩ ?_
      refine x_iald (v := (μ.1 (c + 4) 5)) rfl hs.2.2.2.1 (by omega) (by decide) (by decide) rfl ?_
      refine g_iconst rfl ⟨by decide, by decide⟩ ?_
      refine g_icmp_eq (tgt := 55) rfl (by decide) (fun h3 => ?_) (fun h3 => ?_)
      · refine g_iconst rfl ⟨by decide, by decide⟩ ?_
        refine g_goto (tgt := 60) rfl (by decide) ?_
        refine x_zreturn rfl rfl (Or.inr rfl) ?_
        exact ⟨by rw [q_tr_1 (by omega)], rfl⟩
      · refine g_aload_n rfl rfl ?_
        refine x_getF (r := c + 4) hG rfl hc hcn (Or.inr ⟨_, rfl⟩) hr.2.2.2 ?_
        refine g_iconst rfl ⟨by decide, by decide⟩ ?_
        refine x_iald (v := (μ.1 (c + 4) 5)) rfl hs.2.2.2.1 (by omega) (by decide) (by decide) rfl ?_
        refine g_aload_n rfl rfl ?_
        refine x_getF (r := c + 3) hG rfl hc hcn (Or.inr ⟨_, rfl⟩) hr.2.2.1 ?_
        refine g_iload_n rfl rfl ?_
        refine x_iald (v := (μ.1 (c + 3) a)) rfl hs.2.2.1 (by omega) (by omega) (by omega) rfl ?_
        refine g_icmp_ne (tgt := 59) rfl (by decide) (fun h4 => ?_) (fun h4 => ?_)
        · refine g_iconst rfl ⟨by decide, by decide⟩ ?_
          refine x_zreturn rfl rfl (Or.inl rfl) ?_
          exact ⟨by rw [q_tr_0 (by omega)], rfl⟩
        · refine g_iconst rfl ⟨by decide, by decide⟩ ?_
          refine g_goto (tgt := 60) rfl (by decide) ?_
          refine x_zreturn rfl rfl (Or.inr rfl) ?_
          exact ⟨by rw [q_tr_1 (by omega)], rfl⟩
    · refine g_iconst rfl ⟨by decide, by decide⟩ ?_
      refine x_zreturn rfl rfl (Or.inl rfl) ?_
      exact ⟨by rw [q_tr_0 (by omega)], rfl⟩
set_option maxHeartbeats 4000000 in
set_option maxRecDepth 100000 in
theorem s_isTraced50 {G : tp_G} {μ : tp_M} (hG : tp_Gf G = true) {c : Nat} {f : Int → Int} {n : Int} {A B Y H : Int → Int} {E D U T : Int} (hc : tp_SH c = .inl 0) (hcl : c < 37) (hw : tp_Cw f) (hW : r_W f n A B Y H) {k : Int} (hT : c_T 50 n A B Y E D U T μ) (hCd : tp_Cd c f μ) (hco : μ.2 50 5 = some c) (h0 : 0 ≤ k) (h1 : k < n) : tp_k G mX7_isTraced [tR (some 50), tI k] μ (fun r μ' => r = some (tI (q_tr f (A k))) ∧ μ' = μ) := by
  refine tp_ok_of mX7_isTraced_ok rfl (Nat.le_refl _) ?_
  have hcn : c < 234 := by omega
  have hw0 := hw.1
  have hn0 := hW.1
  refine g_aload_n rfl rfl ?_
  refine x_getM (v := (some c)) hG rfl rfl (by decide) (Or.inl ⟨_, rfl⟩) rfl hco ?_
  refine g_ifnull (tgt := 26) rfl (by decide) (fun hx => by cases hx) (fun _ _ => ?_)
  refine g_aload_n rfl rfl ?_
  refine x_getM (v := (some c)) hG rfl rfl (by decide) (Or.inl ⟨_, rfl⟩) rfl hco ?_
  refine g_aload_n rfl rfl ?_
  refine g_iload_n rfl rfl ?_
  refine g_cV (as := [tI k]) (s_at50 hG hT (by omega) (by omega) (by omega)) rfl rfl mX7_at_ok rfl rfl rfl (by decide) rfl rfl rfl ?_
  rintro _ w9 ⟨rfl, hw9⟩ _
  have hw9 := hw9.symm
  subst hw9
  have hr0 := (hW.2.2.2 (k) (by omega) (by omega)).1.1
  refine g_cV (as := [tI (A k)]) (s_traces hG hc hcl hw hCd (by omega) (by omega)) rfl rfl mX0_traces_ok rfl hc rfl hcn rfl rfl rfl ?_
  rintro _ w9 ⟨rfl, hw9⟩ _
  have hw9 := hw9.symm
  subst hw9
  have hq1 := q_tr_b f (A k)
  refine g_if_eq (tgt := 26) rfl (by decide) (fun h2 => ?_) (fun h2 => ?_)
  · refine g_iconst rfl ⟨by decide, by decide⟩ ?_
    refine x_zreturn rfl rfl (Or.inl rfl) ?_
    exact ⟨by rw [show q_tr f (A k) = 0 by omega], rfl⟩
  · refine g_iconst rfl ⟨by decide, by decide⟩ ?_
    refine g_goto (tgt := 27) rfl (by decide) ?_
    refine x_zreturn rfl rfl (Or.inr rfl) ?_
    exact ⟨by rw [show q_tr f (A k) = 1 by omega], rfl⟩
set_option maxHeartbeats 4000000 in
set_option maxRecDepth 100000 in
theorem s_isTracedM {G : tp_G} {μ : tp_M} (hG : tp_Gf G = true) {ck : Int} {f : Int → Int} {n : Int} {A B Y H : Int → Int} {E D U T : Int} (hw : tp_Cw f) (hW : r_W f n A B Y H) {k : Int} (hT : m_T n A B Y E D U T μ) (hMc : tp_Mc ck f μ) (h0 : 0 ≤ k) (h1 : k < n) : tp_k G mX12_isTraced [tR (some 201), tI k] μ (fun r μ' => r = some (tI (q_tr f (A k))) ∧ μ' = μ) := by
  refine tp_ok_of mX12_isTraced_ok rfl (Nat.le_refl _) ?_
  have hw0 := hw.1
  have hn0 := hW.1
  have ea := hT.2.1 k h0 h1
  have hra := (hW.2.2.2 k h0 h1).1.1
  rw [← ea]
  rw [← ea] at hra
  have e89 : f (μ.1 212 k + 89) = f (89 + μ.1 212 k) := congrArg f (by omega)
  refine g_aload_n rfl rfl ?_
  refine x_getF (r := 212) hG rfl rfl (by decide) (Or.inr ⟨_, rfl⟩) rfl ?_
  refine g_iload_n rfl rfl ?_
  refine x_iald (v := (μ.1 212 k)) rfl rfl (by decide) (by omega) (by omega) rfl ?_
  refine g_istore_n rfl rfl rfl ?_
  refine g_iload_n rfl rfl ?_
  refine g_aload_n rfl rfl ?_
  refine g_iconst rfl ⟨by decide, by decide⟩ ?_
  refine g_cV (as := [tI 4]) (s_of hG hMc (by omega) (by omega)) rfl rfl mX12_of_ok rfl rfl rfl (by decide) rfl rfl rfl ?_
  rintro _ w9 ⟨rfl, hw9⟩ _
  have hw9 := hw9.symm
  subst hw9
  refine g_aload_n rfl rfl ?_
  refine g_iconst rfl ⟨by decide, by decide⟩ ?_
  refine g_cV (as := [tI 5]) (s_of hG hMc (by omega) (by omega)) rfl rfl mX12_of_ok rfl rfl rfl (by decide) rfl rfl rfl ?_
  rintro _ w9 ⟨rfl, hw9⟩ _
  have hw9 := hw9.symm
  subst hw9
  refine g_iS (as := [tI (μ.1 212 k), tI (f 4), tI (f 5)]) mX12_in_ok rfl rfl rfl rfl rfl rfl rfl ?_
  refine g_iload_n rfl rfl ?_
  refine g_iload_n rfl rfl ?_
  refine g_icmp_lt (tgt := 14) rfl (by decide) (fun h1 => ?_) (fun h1 => ?_)
  · refine g_iconst rfl ⟨by decide, by decide⟩ ?_
    refine x_zreturn rfl rfl (Or.inl rfl) ?_
    intro _
    refine g_if_eq (tgt := 55) rfl (by decide) (fun _ => ?_) (fun hx => absurd hx (by omega))
    refine g_iconst rfl ⟨by decide, by decide⟩ ?_
    refine x_zreturn rfl rfl (Or.inl rfl) ?_
    exact ⟨by rw [q_tr_0 (by omega)], rfl⟩
  · refine g_iload_n rfl rfl ?_
    refine g_iload_n rfl rfl ?_
    refine g_icmp_gt (tgt := 14) rfl (by decide) (fun h2 => ?_) (fun h2 => ?_)
    · refine g_iconst rfl ⟨by decide, by decide⟩ ?_
      refine x_zreturn rfl rfl (Or.inl rfl) ?_
      intro _
      refine g_if_eq (tgt := 55) rfl (by decide) (fun _ => ?_) (fun hx => absurd hx (by omega))
      refine g_iconst rfl ⟨by decide, by decide⟩ ?_
      refine x_zreturn rfl rfl (Or.inl rfl) ?_
      exact ⟨by rw [q_tr_0 (by omega)], rfl⟩
    · refine g_iconst rfl ⟨by decide, by decide⟩ ?_
      refine g_goto (tgt := 15) rfl (by decide) ?_
      refine x_zreturn rfl rfl (Or.inr rfl) ?_
      intro _
      refine g_if_eq (tgt := 55) rfl (by decide) (fun hx => absurd hx (by omega)) (fun _ => ?_)
      refine g_aload_n rfl rfl ?_
      refine g_bipush rfl ⟨by decide, by decide⟩ (by decide) ?_
      refine g_cV (as := [tI 6]) (s_of hG hMc (by omega) (by omega)) rfl rfl mX12_of_ok rfl rfl rfl (by decide) rfl rfl rfl ?_
      rintro _ w9 ⟨rfl, hw9⟩ _
      have hw9 := hw9.symm
      subst hw9
      refine g_iconst rfl ⟨by decide, by decide⟩ ?_
      refine g_icmp_eq (tgt := 51) rfl (by decide) (fun h3 => ?_) (fun h3 => ?_)
      · refine g_iconst rfl ⟨by decide, by decide⟩ ?_
        refine g_goto (tgt := 56) rfl (by decide) ?_
        refine x_zreturn rfl rfl (Or.inr rfl) ?_
        exact ⟨by rw [q_tr_1 (by omega)], rfl⟩
      · refine g_aload_n rfl rfl ?_
        refine g_bipush rfl ⟨by decide, by decide⟩ (by decide) ?_
        refine g_iload_n rfl rfl ?_
        refine x_iadd (z := (μ.1 212 k) + 89) rfl (by omega) ⟨by omega, by omega⟩ ?_
        refine g_cV (as := [tI ((μ.1 212 k) + 89)]) (s_of hG hMc (by omega) (by omega)) rfl rfl mX12_of_ok rfl rfl rfl (by decide) rfl rfl rfl ?_
        rintro _ w9 ⟨rfl, hw9⟩ _
        have hw9 := hw9.symm
        subst hw9
        refine g_aload_n rfl rfl ?_
        refine g_bipush rfl ⟨by decide, by decide⟩ (by decide) ?_
        refine g_cV (as := [tI 6]) (s_of hG hMc (by omega) (by omega)) rfl rfl mX12_of_ok rfl rfl rfl (by decide) rfl rfl rfl ?_
        rintro _ w9 ⟨rfl, hw9⟩ _
        have hw9 := hw9.symm
        subst hw9
        refine g_icmp_ne (tgt := 55) rfl (by decide) (fun h4 => ?_) (fun h4 => ?_)
        · refine g_iconst rfl ⟨by decide, by decide⟩ ?_
          refine x_zreturn rfl rfl (Or.inl rfl) ?_
          exact ⟨by rw [q_tr_0 (by omega)], rfl⟩
        · refine g_iconst rfl ⟨by decide, by decide⟩ ?_
          refine g_goto (tgt := 56) rfl (by decide) ?_
          refine x_zreturn rfl rfl (Or.inr rfl) ?_
          exact ⟨by rw [q_tr_1 (by omega)], rfl⟩
set_option maxHeartbeats 4000000 in
set_option maxRecDepth 100000 in
theorem l_traced50 {G : tp_G} {μ : tp_M} (hG : tp_Gf G = true) {c : Nat} {f : Int → Int} {n : Int} {A B Y H : Int → Int} {E D U T : Int} (hc : tp_SH c = .inl 0) (hcl : c < 37) (hw : tp_Cw f) (hW : r_W f n A B Y H) (hT : c_T 50 n A B Y E D U T μ) (hCd : tp_Cd c f μ) (hco : μ.2 50 5 = some c) : ∀ k, k ≤ n → ∀ (s : Int), 0 ≤ k → s = q_s (fun j => q_tr f (A j)) k → tp_g G mX7_traced 4 [some (tR (some 50)), some (tI s), some (tI k)] [] μ (fun r μ' => r = some (tI (q_s (fun j => q_tr f (A j)) n)) ∧ μ' = μ) := by
  have hcn : c < 234 := by omega
  have hw0 := hw.1
  have hn0 := hW.1
  have hn6 := hT.1
  refine tp_ind _ ?_
  intro k hkN ih s h0 hs
  have hsb := q_s_B (F := (fun j => q_tr f (A j))) (k := k) (by omega) (fun j => q_tr_b f (A j))
  rw [← hs] at hsb
  refine g_iload_n rfl rfl ?_
  refine g_aload_n rfl rfl ?_
  refine x_geti (v := (μ.1 50 6)) rfl rfl (by decide) (Or.inl rfl) rfl ?_
  refine g_icmp_ge (tgt := 29) rfl (by decide) (fun h1 => ?_) (fun h1 => ?_)
  · refine g_iload_n rfl rfl ?_
    refine x_ireturn rfl rfl ?_
    exact ⟨by rw [show n = k by omega, ← hs], rfl⟩
  · refine g_aload_n rfl rfl ?_
    refine g_iload_n rfl rfl ?_
    refine g_cV (as := [tI k]) (s_isTraced50 hG hc hcl hw hW hT hCd hco (by omega) (by omega)) rfl rfl mX7_isTraced_ok rfl rfl rfl (by decide) rfl rfl rfl ?_
    rintro _ w9 ⟨rfl, hw9⟩ _
    have hw9 := hw9.symm
    subst hw9
    have hq1 := q_tr_b f (A k)
    refine g_if_eq (tgt := 23) rfl (by decide) (fun h2 => ?_) (fun h2 => ?_)
    · refine x_iinc (z := k + 1) rfl rfl (by omega) ⟨by omega, by omega⟩ rfl rfl ?_
      refine g_goto (tgt := 4) rfl (by decide) ?_
      exact ih (by omega) _ (by omega) (by rw [q_s1 (by omega)]; omega)
    · refine x_iinc (z := s + 1) rfl rfl (by omega) ⟨by omega, by omega⟩ rfl rfl ?_
      refine x_iinc (z := k + 1) rfl rfl (by omega) ⟨by omega, by omega⟩ rfl rfl ?_
      refine g_goto (tgt := 4) rfl (by decide) ?_
      exact ih (by omega) _ (by omega) (by rw [q_s1 (by omega)]; omega)
set_option maxHeartbeats 4000000 in
set_option maxRecDepth 100000 in
theorem s_traced50 {G : tp_G} {μ : tp_M} (hG : tp_Gf G = true) {c : Nat} {f : Int → Int} {n : Int} {A B Y H : Int → Int} {E D U T : Int} (hc : tp_SH c = .inl 0) (hcl : c < 37) (hw : tp_Cw f) (hW : r_W f n A B Y H) (hT : c_T 50 n A B Y E D U T μ) (hCd : tp_Cd c f μ) (hco : μ.2 50 5 = some c) : tp_k G mX7_traced [tR (some 50)] μ (fun r μ' => r = some (tI (q_s (fun j => q_tr f (A j)) n)) ∧ μ' = μ) := by
  refine tp_ok_of mX7_traced_ok rfl (Nat.le_refl _) ?_
  have hcn : c < 234 := by omega
  have hw0 := hw.1
  have hn0 := hW.1
  refine g_iconst rfl ⟨by decide, by decide⟩ ?_
  refine g_istore_n rfl rfl rfl ?_
  refine g_iconst rfl ⟨by decide, by decide⟩ ?_
  refine g_istore_n rfl rfl rfl ?_
  exact l_traced50 hG hc hcl hw hW hT hCd hco 0 (by omega) 0 (by omega) rfl
set_option maxHeartbeats 4000000 in
set_option maxRecDepth 100000 in
theorem l_tracedM {G : tp_G} {μ : tp_M} (hG : tp_Gf G = true) {ck : Int} {f : Int → Int} {n : Int} {A B Y H : Int → Int} {E D U T : Int} (hw : tp_Cw f) (hW : r_W f n A B Y H) (hT : m_T n A B Y E D U T μ) (hMc : tp_Mc ck f μ) : ∀ k, k ≤ n → ∀ (s : Int), 0 ≤ k → s = q_s (fun j => q_tr f (A j)) k → tp_g G mX12_tracedMany 4 [some (tR (some 201)), some (tI s), some (tI k)] [] μ (fun r μ' => r = some (tI (q_s (fun j => q_tr f (A j)) n)) ∧ μ' = μ) := by
  have hw0 := hw.1
  have hn0 := hW.1
  have hn6 := hT.1
  refine tp_ind _ ?_
  intro k hkN ih s h0 hs
  have hsb := q_s_B (F := (fun j => q_tr f (A j))) (k := k) (by omega) (fun j => q_tr_b f (A j))
  rw [← hs] at hsb
  refine g_iload_n rfl rfl ?_
  refine g_aload_n rfl rfl ?_
  refine x_geti (v := (μ.1 201 27)) rfl rfl (by decide) (Or.inl rfl) rfl ?_
  refine g_icmp_ge (tgt := 34) rfl (by decide) (fun h1 => ?_) (fun h1 => ?_)
  · refine g_iload_n rfl rfl ?_
    refine x_ireturn rfl rfl ?_
    exact ⟨by rw [show n = k by omega, ← hs], rfl⟩
  · refine g_iload_n rfl rfl ?_
    refine g_aload_n rfl rfl ?_
    refine g_iload_n rfl rfl ?_
    refine g_cV (as := [tI k]) (s_isTracedM hG hw hW hT hMc (by omega) (by omega)) rfl rfl mX12_isTraced_ok rfl rfl rfl (by decide) rfl rfl rfl ?_
    rintro _ w9 ⟨rfl, hw9⟩ _
    have hw9 := hw9.symm
    subst hw9
    have hq1 := q_tr_b f (A k)
    refine g_if_eq (tgt := 25) rfl (by decide) (fun h2 => ?_) (fun h2 => ?_)
    · refine g_iconst rfl ⟨by decide, by decide⟩ ?_
      refine x_iadd (z := s) rfl (by omega) ⟨by omega, by omega⟩ ?_
      refine g_istore_n rfl rfl rfl ?_
      refine x_iinc (z := k + 1) rfl rfl (by omega) ⟨by omega, by omega⟩ rfl rfl ?_
      refine g_goto (tgt := 4) rfl (by decide) ?_
      exact ih (by omega) _ (by omega) (by rw [q_s1 (by omega)]; omega)
    · refine g_iconst rfl ⟨by decide, by decide⟩ ?_
      refine g_goto (tgt := 26) rfl (by decide) ?_
      refine x_iadd (z := s + 1) rfl (by omega) ⟨by omega, by omega⟩ ?_
      refine g_istore_n rfl rfl rfl ?_
      refine x_iinc (z := k + 1) rfl rfl (by omega) ⟨by omega, by omega⟩ rfl rfl ?_
      refine g_goto (tgt := 4) rfl (by decide) ?_
      exact ih (by omega) _ (by omega) (by rw [q_s1 (by omega)]; omega)
set_option maxHeartbeats 4000000 in
set_option maxRecDepth 100000 in
theorem s_tracedM {G : tp_G} {μ : tp_M} (hG : tp_Gf G = true) {ck : Int} {f : Int → Int} {n : Int} {A B Y H : Int → Int} {E D U T : Int} (hw : tp_Cw f) (hW : r_W f n A B Y H) (hT : m_T n A B Y E D U T μ) (hMc : tp_Mc ck f μ) : tp_k G mX12_tracedMany [tR (some 201)] μ (fun r μ' => r = some (tI (q_s (fun j => q_tr f (A j)) n)) ∧ μ' = μ) := by
  refine tp_ok_of mX12_tracedMany_ok rfl (Nat.le_refl _) ?_
  have hw0 := hw.1
  have hn0 := hW.1
  refine g_iconst rfl ⟨by decide, by decide⟩ ?_
  refine g_istore_n rfl rfl rfl ?_
  refine g_iconst rfl ⟨by decide, by decide⟩ ?_
  refine g_istore_n rfl rfl rfl ?_
  exact l_tracedM hG hw hW hT hMc 0 (by omega) 0 (by omega) rfl
theorem q_lp_end {A : Int → Int} {n k : Int} (h : n ≤ k) (h2 : k ≤ max n 1 ∧ 1 ≤ k ∧ 0 ≤ n) : q_s (fun j => q_lp A j) n = q_s (fun j => q_lp A j) k := by
  rcases (show n = k ∨ (n = 0 ∧ k = 1) by omega) with rfl | ⟨rfl, rfl⟩
  · rfl
  · show (0 : Int) = 0 + q_lp A 0
    unfold q_lp
    rw [if_neg (by omega)]
    rfl
set_option maxHeartbeats 4000000 in
set_option maxRecDepth 100000 in
theorem l_loops50 {G : tp_G} {μ : tp_M} (hG : tp_Gf G = true) {c : Nat} {f : Int → Int} {n : Int} {A B Y H : Int → Int} {E D U T : Int} (hc : tp_SH c = .inl 0) (hcl : c < 37) (hw : tp_Cw f) (hW : r_W f n A B Y H) (hT : c_T 50 n A B Y E D U T μ) (hCd : tp_Cd c f μ) (hco : μ.2 50 5 = some c) : ∀ k, k ≤ max n 1 → ∀ (s : Int), 1 ≤ k → s = q_s (fun j => q_lp A j) k → tp_g G mX7_loops 4 [some (tR (some 50)), some (tI s), some (tI k)] [] μ (fun r μ' => r = some (tI (q_s (fun j => q_lp A j) n)) ∧ μ' = μ) := by
  have hcn : c < 234 := by omega
  have hw0 := hw.1
  have hn0 := hW.1
  have hn6 := hT.1
  refine tp_ind _ ?_
  intro k hkN ih s h0 hs
  have hsb := q_s_B (F := (fun j => q_lp A j)) (k := k) (by omega) (fun j => q_lp_b A j)
  rw [← hs] at hsb
  refine g_iload_n rfl rfl ?_
  refine g_aload_n rfl rfl ?_
  refine x_geti (v := (μ.1 50 6)) rfl rfl (by decide) (Or.inl rfl) rfl ?_
  refine g_icmp_ge (tgt := 36) rfl (by decide) (fun h1 => ?_) (fun h1 => ?_)
  · refine g_iload_n rfl rfl ?_
    refine x_ireturn rfl rfl ?_
    exact ⟨by rw [hs, q_lp_end (n := n) (k := k) (by omega) (by omega)], rfl⟩
  · refine g_aload_n rfl rfl ?_
    refine g_iload_n rfl rfl ?_
    refine g_cV (as := [tI k]) (s_at50 hG hT (by omega) (by omega) (by omega)) rfl rfl mX7_at_ok rfl rfl rfl (by decide) rfl rfl rfl ?_
    rintro _ w9 ⟨rfl, hw9⟩ _
    have hw9 := hw9.symm
    subst hw9
    have hr1 := (hW.2.2.2 (k) (by omega) (by omega)).1.1
    refine g_aload_n rfl rfl ?_
    refine g_iload_n rfl rfl ?_
    refine g_iconst rfl ⟨by decide, by decide⟩ ?_
    refine x_isub (z := k - 1) rfl (by omega) ⟨by omega, by omega⟩ ?_
    refine g_cV (as := [tI (k - 1)]) (s_at50 hG hT (by omega) (by omega) (by omega)) rfl rfl mX7_at_ok rfl rfl rfl (by decide) rfl rfl rfl ?_
    rintro _ w9 ⟨rfl, hw9⟩ _
    have hw9 := hw9.symm
    subst hw9
    have hr2 := (hW.2.2.2 (k - 1) (by omega) (by omega)).1.1
    refine g_icmp_gt (tgt := 30) rfl (by decide) (fun h4 => ?_) (fun h4 => ?_)
    · refine x_iinc (z := k + 1) rfl rfl (by omega) ⟨by omega, by omega⟩ rfl rfl ?_
      refine g_goto (tgt := 4) rfl (by decide) ?_
      exact ih (by omega) _ (by omega) (by rw [q_s1 (by omega)]; (first | rw [show q_lp A k = 1 from if_pos (by omega)] | rw [show q_lp A k = 0 from if_neg (by omega)]); omega)
    · refine x_iinc (z := s + 1) rfl rfl (by omega) ⟨by omega, by omega⟩ rfl rfl ?_
      refine x_iinc (z := k + 1) rfl rfl (by omega) ⟨by omega, by omega⟩ rfl rfl ?_
      refine g_goto (tgt := 4) rfl (by decide) ?_
      exact ih (by omega) _ (by omega) (by rw [q_s1 (by omega)]; (first | rw [show q_lp A k = 1 from if_pos (by omega)] | rw [show q_lp A k = 0 from if_neg (by omega)]); omega)
set_option maxHeartbeats 4000000 in
set_option maxRecDepth 100000 in
theorem s_loops50 {G : tp_G} {μ : tp_M} (hG : tp_Gf G = true) {c : Nat} {f : Int → Int} {n : Int} {A B Y H : Int → Int} {E D U T : Int} (hc : tp_SH c = .inl 0) (hcl : c < 37) (hw : tp_Cw f) (hW : r_W f n A B Y H) (hT : c_T 50 n A B Y E D U T μ) (hCd : tp_Cd c f μ) (hco : μ.2 50 5 = some c) : tp_k G mX7_loops [tR (some 50)] μ (fun r μ' => r = some (tI (q_s (fun j => q_lp A j) n)) ∧ μ' = μ) := by
  refine tp_ok_of mX7_loops_ok rfl (Nat.le_refl _) ?_
  have hcn : c < 234 := by omega
  have hw0 := hw.1
  have hn0 := hW.1
  have hn6 := hT.1
  refine g_iconst rfl ⟨by decide, by decide⟩ ?_
  refine g_istore_n rfl rfl rfl ?_
  refine g_iconst rfl ⟨by decide, by decide⟩ ?_
  refine g_istore_n rfl rfl rfl ?_
  exact l_loops50 hG hc hcl hw hW hT hCd hco 1 (by omega) 0 (by omega) (by show (0 : Int) = 0 + q_lp A 0; unfold q_lp; rw [if_neg (by omega)]; rfl)
set_option maxHeartbeats 4000000 in
set_option maxRecDepth 100000 in
theorem l_loopsM {G : tp_G} {μ : tp_M} (hG : tp_Gf G = true) {ck : Int} {f : Int → Int} {n : Int} {A B Y H : Int → Int} {E D U T : Int} (hw : tp_Cw f) (hW : r_W f n A B Y H) (hT : m_T n A B Y E D U T μ) (hMc : tp_Mc ck f μ) : ∀ k, k ≤ max n 1 → ∀ (s : Int), 1 ≤ k → s = q_s (fun j => q_lp A j) k → tp_g G mX12_loops 4 [some (tR (some 201)), some (tI s), some (tI k)] [] μ (fun r μ' => r = some (tI (q_s (fun j => q_lp A j) n)) ∧ μ' = μ) := by
  have hw0 := hw.1
  have hn0 := hW.1
  have hn6 := hT.1
  refine tp_ind _ ?_
  intro k hkN ih s h0 hs
  have hsb := q_s_B (F := (fun j => q_lp A j)) (k := k) (by omega) (fun j => q_lp_b A j)
  rw [← hs] at hsb
  refine g_iload_n rfl rfl ?_
  refine g_aload_n rfl rfl ?_
  refine x_geti (v := (μ.1 201 27)) rfl rfl (by decide) (Or.inl rfl) rfl ?_
  refine g_icmp_ge (tgt := 43) rfl (by decide) (fun h1 => ?_) (fun h1 => ?_)
  · refine g_iload_n rfl rfl ?_
    refine x_ireturn rfl rfl ?_
    exact ⟨by rw [hs, q_lp_end (n := n) (k := k) (by omega) (by omega)], rfl⟩
  · refine g_iload_n rfl rfl ?_
    refine g_aload_n rfl rfl ?_
    refine x_getF (r := 212) hG rfl rfl (by decide) (Or.inr ⟨_, rfl⟩) rfl ?_
    refine g_iload_n rfl rfl ?_
    refine x_iald (v := (μ.1 212 k)) rfl rfl (by decide) (by omega) (by omega) rfl ?_
    refine g_aload_n rfl rfl ?_
    refine x_getF (r := 212) hG rfl rfl (by decide) (Or.inr ⟨_, rfl⟩) rfl ?_
    refine g_iload_n rfl rfl ?_
    refine g_iconst rfl ⟨by decide, by decide⟩ ?_
    refine x_isub (z := k - 1) rfl (by omega) ⟨by omega, by omega⟩ ?_
    refine x_iald (v := (μ.1 212 (k - 1))) rfl rfl (by decide) (by omega) (by omega) rfl ?_
    refine g_icmp_gt (tgt := 34) rfl (by decide) (fun h2 => ?_) (fun h2 => ?_)
    · refine g_iconst rfl ⟨by decide, by decide⟩ ?_
      refine x_iadd (z := s) rfl (by omega) ⟨by omega, by omega⟩ ?_
      refine g_istore_n rfl rfl rfl ?_
      refine x_iinc (z := k + 1) rfl rfl (by omega) ⟨by omega, by omega⟩ rfl rfl ?_
      refine g_goto (tgt := 4) rfl (by decide) ?_
      exact ih (by omega) _ (by omega) (by rw [q_s1 (by omega)]; have e1 := hT.2.1 k (by omega) (by omega); have e2 := hT.2.1 (k - 1) (by omega) (by omega); (first | rw [show q_lp A k = 1 from if_pos (by omega)] | rw [show q_lp A k = 0 from if_neg (by omega)]); omega)
    · refine g_iconst rfl ⟨by decide, by decide⟩ ?_
      refine g_goto (tgt := 35) rfl (by decide) ?_
      refine x_iadd (z := s + 1) rfl (by omega) ⟨by omega, by omega⟩ ?_
      refine g_istore_n rfl rfl rfl ?_
      refine x_iinc (z := k + 1) rfl rfl (by omega) ⟨by omega, by omega⟩ rfl rfl ?_
      refine g_goto (tgt := 4) rfl (by decide) ?_
      exact ih (by omega) _ (by omega) (by rw [q_s1 (by omega)]; have e1 := hT.2.1 k (by omega) (by omega); have e2 := hT.2.1 (k - 1) (by omega) (by omega); (first | rw [show q_lp A k = 1 from if_pos (by omega)] | rw [show q_lp A k = 0 from if_neg (by omega)]); omega)
set_option maxHeartbeats 4000000 in
set_option maxRecDepth 100000 in
theorem s_loopsM {G : tp_G} {μ : tp_M} (hG : tp_Gf G = true) {ck : Int} {f : Int → Int} {n : Int} {A B Y H : Int → Int} {E D U T : Int} (hw : tp_Cw f) (hW : r_W f n A B Y H) (hT : m_T n A B Y E D U T μ) (hMc : tp_Mc ck f μ) : tp_k G mX12_loops [tR (some 201)] μ (fun r μ' => r = some (tI (q_s (fun j => q_lp A j) n)) ∧ μ' = μ) := by
  refine tp_ok_of mX12_loops_ok rfl (Nat.le_refl _) ?_
  have hw0 := hw.1
  have hn0 := hW.1
  have hn6 := hT.1
  refine g_iconst rfl ⟨by decide, by decide⟩ ?_
  refine g_istore_n rfl rfl rfl ?_
  refine g_iconst rfl ⟨by decide, by decide⟩ ?_
  refine g_istore_n rfl rfl rfl ?_
  exact l_loopsM hG hw hW hT hMc 1 (by omega) 0 (by omega) (by show (0 : Int) = 0 + q_lp A 0; unfold q_lp; rw [if_neg (by omega)]; rfl)
set_option maxHeartbeats 4000000 in
set_option maxRecDepth 100000 in
theorem l_visM {G : tp_G} {μ : tp_M} (hG : tp_Gf G = true) {ck : Int} {f : Int → Int} {n : Int} {A B Y H : Int → Int} {E D U T : Int} (hw : tp_Cw f) (hW : r_W f n A B Y H) {a : Int} (hT : m_T n A B Y E D U T μ) (hMc : tp_Mc ck f μ) : ∀ k, k ≤ n → ∀ (s : Int), 0 ≤ k → s = q_s (fun j => q_is A a j) k → tp_g G mX12_visitsOf 4 [some (tR (some 201)), some (tI a), some (tI s), some (tI k)] [] μ (fun r μ' => r = some (tI (q_s (fun j => q_is A a j) n)) ∧ μ' = μ) := by
  have hw0 := hw.1
  have hn0 := hW.1
  have hn6 := hT.1
  refine tp_ind _ ?_
  intro k hkN ih s h0 hs
  have hsb := q_s_B (F := (fun j => q_is A a j)) (k := k) (by omega) (fun j => q_is_b A a j)
  rw [← hs] at hsb
  refine g_iload_n rfl rfl ?_
  refine g_aload_n rfl rfl ?_
  refine x_geti (v := (μ.1 201 27)) rfl rfl (by decide) (Or.inl rfl) rfl ?_
  refine g_icmp_ge (tgt := 36) rfl (by decide) (fun h1 => ?_) (fun h1 => ?_)
  · refine g_iload_n rfl rfl ?_
    refine x_ireturn rfl rfl ?_
    exact ⟨by rw [show n = k by omega, ← hs], rfl⟩
  · refine g_iload_n rfl rfl ?_
    refine g_aload_n rfl rfl ?_
    refine x_getF (r := 212) hG rfl rfl (by decide) (Or.inr ⟨_, rfl⟩) rfl ?_
    refine g_iload_n rfl rfl ?_
    refine x_iald (v := (μ.1 212 k)) rfl rfl (by decide) (by omega) (by omega) rfl ?_
    refine g_iload_n rfl rfl ?_
    refine g_icmp_ne (tgt := 27) rfl (by decide) (fun h2 => ?_) (fun h2 => ?_)
    · refine g_iconst rfl ⟨by decide, by decide⟩ ?_
      refine x_iadd (z := s) rfl (by omega) ⟨by omega, by omega⟩ ?_
      refine g_istore_n rfl rfl rfl ?_
      refine x_iinc (z := k + 1) rfl rfl (by omega) ⟨by omega, by omega⟩ rfl rfl ?_
      refine g_goto (tgt := 4) rfl (by decide) ?_
      exact ih (by omega) _ (by omega) (by rw [q_s1 (by omega)]; have e1 := hT.2.1 k (by omega) (by omega); (first | rw [show q_is A a k = 1 from if_pos (by omega)] | rw [show q_is A a k = 0 from if_neg (by omega)]); omega)
    · refine g_iconst rfl ⟨by decide, by decide⟩ ?_
      refine g_goto (tgt := 28) rfl (by decide) ?_
      refine x_iadd (z := s + 1) rfl (by omega) ⟨by omega, by omega⟩ ?_
      refine g_istore_n rfl rfl rfl ?_
      refine x_iinc (z := k + 1) rfl rfl (by omega) ⟨by omega, by omega⟩ rfl rfl ?_
      refine g_goto (tgt := 4) rfl (by decide) ?_
      exact ih (by omega) _ (by omega) (by rw [q_s1 (by omega)]; have e1 := hT.2.1 k (by omega) (by omega); (first | rw [show q_is A a k = 1 from if_pos (by omega)] | rw [show q_is A a k = 0 from if_neg (by omega)]); omega)
set_option maxHeartbeats 4000000 in
set_option maxRecDepth 100000 in
theorem s_visM {G : tp_G} {μ : tp_M} (hG : tp_Gf G = true) {ck : Int} {f : Int → Int} {n : Int} {A B Y H : Int → Int} {E D U T : Int} (hw : tp_Cw f) (hW : r_W f n A B Y H) {a : Int} (hT : m_T n A B Y E D U T μ) (hMc : tp_Mc ck f μ) : tp_k G mX12_visitsOf [tR (some 201), tI a] μ (fun r μ' => r = some (tI (q_s (fun j => q_is A a j) n)) ∧ μ' = μ) := by
  refine tp_ok_of mX12_visitsOf_ok rfl (Nat.le_refl _) ?_
  have hw0 := hw.1
  have hn0 := hW.1
  refine g_iconst rfl ⟨by decide, by decide⟩ ?_
  refine g_istore_n rfl rfl rfl ?_
  refine g_iconst rfl ⟨by decide, by decide⟩ ?_
  refine g_istore_n rfl rfl rfl ?_
  exact l_visM hG hw hW hT hMc 0 (by omega) 0 (by omega) rfl
/-- only one cell has changed -/
def q_f1 (p : Nat) (μ μ' : tp_M) : Prop := (∀ c, c ≠ p → μ'.1 c = μ.1 c) ∧ μ'.2 = μ.2
theorem q_f1_pi {p : Nat} {μ μ' : tp_M} {j v : Int} (h : q_f1 p μ μ') : q_f1 p μ (tp_pi μ' p j v) := ⟨fun c hc => (tp_pi_ne hc).trans (h.1 c hc), h.2⟩
theorem q_f1_kp {p : Nat} {μ μ1 μ' : tp_M} (hp : ¬ tp_tl p) (h0 : tp_kp μ μ1) (h : q_f1 p μ1 μ') : tp_kp μ μ' := fun k hk => (h.1 k (fun e => hp (e ▸ hk))).trans (h0 k hk)
set_option maxHeartbeats 4000000 in
set_option maxRecDepth 100000 in
theorem l_vis2 {G : tp_G} (hG : tp_Gf G = true) {c : Nat} {f : Int → Int} {n : Int} {A B Y H : Int → Int} {E D U T : Int} (hc : tp_SH c = .inl 0) (hcl : c < 37) (hw : tp_Cw f) (hW : r_W f n A B Y H) {μ0 : tp_M} (hT0 : c_T 50 n A B Y E D U T μ0) (hCd0 : tp_Cd c f μ0) (hco0 : μ0.2 50 5 = some c) : ∀ k, k ≤ n → ∀ (μ : tp_M) (x : Option tp_V), 0 ≤ k → (∀ a, 0 ≤ a → a < 40 → μ.1 83 a = q_s (fun j => q_is A a j) k) → q_f1 83 μ0 μ → tp_g G mX7_visitsInto 20 [some (tR (some 50)), some (tR (some 83)), some (tI k), x] [] μ (fun r μ' => r = none ∧ (∀ a, 0 ≤ a → a < 40 → μ'.1 83 a = q_s (fun j => q_is A a j) n) ∧ q_f1 83 μ0 μ') := by
  have hcn : c < 234 := by omega
  have hw0 := hw.1
  have hn0 := hW.1
  refine tp_ind _ ?_
  intro k hkN ih μ x h0 hz hF
  have hTv : c_T 50 n A B Y E D U T μ := c_T_fr (fun c9 z1 z2 => hF.1 c9 (by omega)) hT0
  have hn6 := hTv.1
  refine g_iload_n rfl rfl ?_
  refine g_aload_n rfl rfl ?_
  refine x_geti (v := (μ.1 50 6)) rfl rfl (by decide) (Or.inl rfl) rfl ?_
  refine g_icmp_ge (tgt := 57) rfl (by decide) (fun h1 => ?_) (fun h1 => ?_)
  · refine x_return rfl rfl ?_
    exact ⟨rfl, fun a h1 h2 => by rw [show n = k by omega]; exact hz a h1 h2, hF⟩
  · refine g_aload_n rfl rfl ?_
    refine g_iload_n rfl rfl ?_
    refine g_cV (as := [tI k]) (s_at50 hG hTv (by omega) (by omega) (by omega)) rfl rfl mX7_at_ok rfl rfl rfl (by decide) rfl rfl rfl ?_
    rintro _ w9 ⟨rfl, hw9⟩ _
    have hw9 := hw9.symm
    subst hw9
    have hr1 := (hW.2.2.2 (k) (by omega) (by omega)).1.1
    refine g_istore_n rfl rfl rfl ?_
    refine g_iload_n rfl rfl ?_
    refine g_if_lt (tgt := 51) rfl (by decide) (fun hx => absurd hx (by omega)) (fun _ => ?_)
    refine g_iload_n rfl rfl ?_
    refine g_aload_n rfl rfl ?_
    refine g_alen (t0 := 0) rfl rfl rfl (by decide) ⟨by decide, by decide⟩ ?_
    refine g_icmp_ge (tgt := 51) rfl (by decide) (fun hx => absurd hx (by omega)) (fun _ => ?_)
    refine g_aload_n rfl rfl ?_
    refine g_iload_n rfl rfl ?_
    have hwb := q_s_B (F := fun j => q_is A (A k) j) (k := k) (by omega) (fun j => q_is_b A (A k) j)
    rw [← hz (A k) (by omega) (by omega)] at hwb
    refine g_dup2 rfl ?_
    refine x_iald (v := (μ.1 83 (A k))) rfl rfl (by decide) (by omega) (by omega) rfl ?_
    refine g_iconst rfl ⟨by decide, by decide⟩ ?_
    refine x_iadd (z := (μ.1 83 (A k)) + 1) rfl (by omega) ⟨by omega, by omega⟩ ?_
    refine g_iast rfl rfl (by decide) (by omega) (by omega) ?_
    refine x_iinc (z := k + 1) rfl rfl (by omega) ⟨by omega, by omega⟩ rfl rfl ?_
    refine g_goto (tgt := 20) rfl (by decide) ?_
    exact ih (by omega) _ _ (by omega) (fun a h1 h2 => by
        rw [tp_pi1, q_s1 (by omega)]
        by_cases ha : a = A k
        · rw [if_pos ⟨rfl, ha⟩, show q_is A a k = 1 from if_pos ha.symm, ← hz a h1 h2, ha]
        · rw [if_neg (fun q => ha q.2), show q_is A a k = 0 from if_neg (fun q => ha q.symm), ← hz a h1 h2]; omega) (q_f1_pi hF)
set_option maxHeartbeats 4000000 in
set_option maxRecDepth 100000 in
theorem l_vis1 {G : tp_G} (hG : tp_Gf G = true) {c : Nat} {f : Int → Int} {n : Int} {A B Y H : Int → Int} {E D U T : Int} (hc : tp_SH c = .inl 0) (hcl : c < 37) (hw : tp_Cw f) (hW : r_W f n A B Y H) {μ0 : tp_M} (hT0 : c_T 50 n A B Y E D U T μ0) (hCd0 : tp_Cd c f μ0) (hco0 : μ0.2 50 5 = some c) : ∀ k, k ≤ 40 → ∀ (μ : tp_M), 0 ≤ k → (∀ a, 0 ≤ a → a < k → μ.1 83 a = 0) → q_f1 83 μ0 μ → tp_g G mX7_visitsInto 2 [some (tR (some 50)), some (tR (some 83)), some (tI k), none] [] μ (fun r μ' => r = none ∧ (∀ a, 0 ≤ a → a < 40 → μ'.1 83 a = q_s (fun j => q_is A a j) n) ∧ q_f1 83 μ0 μ') := by
  have hcn : c < 234 := by omega
  have hw0 := hw.1
  have hn0 := hW.1
  refine tp_ind _ ?_
  intro k hkN ih μ h0 hz hF
  refine g_iload_n rfl rfl ?_
  refine g_aload_n rfl rfl ?_
  refine g_alen (t0 := 0) rfl rfl rfl (by decide) ⟨by decide, by decide⟩ ?_
  refine g_icmp_ge (tgt := 18) rfl (by decide) (fun h1 => ?_) (fun h1 => ?_)
  · refine g_iconst rfl ⟨by decide, by decide⟩ ?_
    refine g_istore_n rfl rfl rfl ?_
    exact l_vis2 hG hc hcl hw hW hT0 hCd0 hco0 0 (by omega) _ _ (by omega) (fun a h1 h2 => by rw [q_s0]; exact hz a h1 (by omega)) hF
  · refine g_aload_n rfl rfl ?_
    refine g_iload_n rfl rfl ?_
    refine g_iconst rfl ⟨by decide, by decide⟩ ?_
    refine g_iast rfl rfl (by decide) (by omega) (by omega) ?_
    refine x_iinc (z := k + 1) rfl rfl (by omega) ⟨by omega, by omega⟩ rfl rfl ?_
    refine g_goto (tgt := 2) rfl (by decide) ?_
    exact ih (by omega) _ (by omega) (fun a h1 h2 => by rw [tp_pi1]; split; rfl; exact hz a h1 (by omega)) (q_f1_pi hF)
set_option maxHeartbeats 4000000 in
set_option maxRecDepth 100000 in
theorem s_visits {G : tp_G} {μ : tp_M} (hG : tp_Gf G = true) {c : Nat} {f : Int → Int} {n : Int} {A B Y H : Int → Int} {E D U T : Int} (hc : tp_SH c = .inl 0) (hcl : c < 37) (hw : tp_Cw f) (hW : r_W f n A B Y H) (hT : c_T 50 n A B Y E D U T μ) (hCd : tp_Cd c f μ) (hco : μ.2 50 5 = some c) : tp_k G mX7_visitsInto [tR (some 50), tR (some 83)] μ (fun r μ' => r = none ∧ (∀ a, 0 ≤ a → a < 40 → μ'.1 83 a = q_s (fun j => q_is A a j) n) ∧ q_f1 83 μ μ') := by
  refine tp_ok_of mX7_visitsInto_ok rfl (Nat.le_refl _) ?_
  have hcn : c < 234 := by omega
  have hw0 := hw.1
  have hn0 := hW.1
  refine g_iconst rfl ⟨by decide, by decide⟩ ?_
  refine g_istore_n rfl rfl rfl ?_
  exact l_vis1 hG hc hcl hw hW hT hCd hco 0 (by omega) _ (by omega) (fun a h1 h2 => absurd h2 (by omega)) ⟨fun _ _ => rfl, rfl⟩
