theorem q_S_upd {F F' : Int → Int} {h : Int} : ∀ n : Nat, (∀ j, 0 ≤ j → j < (n : Int) → j ≠ h → F' j = F j) → 0 ≤ h → h < (n : Int) → q_S F' n = q_S F n + (F' h - F h) := by
  intro n
  induction n with
  | zero => intro _ a b; omega
  | succ n ih =>
    intro hj a b
    show q_S F' n + F' n = q_S F n + F n + (F' h - F h)
    by_cases e : h = (n : Int)
    · rw [q_S_c n (F := F') (F' := F) (fun j g1 g2 => hj j g1 (by omega) (by omega)), e]
      omega
    · rw [ih (fun j g1 g2 g3 => hj j g1 (by omega) g3) a (by omega), hj n (by omega) (by omega) (fun q => e q.symm)]
      omega
theorem q_s_upd {F F' : Int → Int} {h n : Int} (hj : ∀ j, 0 ≤ j → j < n → j ≠ h → F' j = F j) (h0 : 0 ≤ h) (h1 : h < n) : q_s F' n = q_s F n + (F' h - F h) := q_S_upd n.toNat (fun j a b c => hj j a (by omega) c) h0 (by omega)
theorem q_S_le {F F' : Int → Int} : ∀ n : Nat, (∀ j, 0 ≤ j → j < (n : Int) → F j ≤ F' j) → q_S F n ≤ q_S F' n := by
  intro n
  induction n with
  | zero => intro _; exact Int.le_refl 0
  | succ n ih =>
    intro h
    have h1 := ih (fun j a b => h j a (by omega))
    have h2 := h n (by omega) (by omega)
    show q_S F n + F n ≤ q_S F' n + F' n
    omega
theorem q_s_le {F F' : Int → Int} {n : Int} (h : ∀ j, 0 ≤ j → j < n → F j ≤ F' j) : q_s F n ≤ q_s F' n := q_S_le n.toNat (fun j a b => h j a (by omega))
theorem q_s_lt {F F' : Int → Int} {n h : Int} (hh : ∀ j, 0 ≤ j → j < n → F j ≤ F' j) (h0 : 0 ≤ h) (h1 : h < n) (hs : F h < F' h) : q_s F n < q_s F' n := by
  have e := q_s_upd (F := F) (F' := fun j => if j = h then F' h else F j) (h := h) (n := n) (fun j _ _ q => if_neg q) h0 h1
  have l := q_s_le (F := fun j => if j = h then F' h else F j) (F' := F') (n := n) (fun j a b => by
    show (if j = h then F' h else F j) ≤ F' j
    by_cases q : j = h
    · rw [if_pos q, q]; exact Int.le_refl _
    · rw [if_neg q]; exact hh j a b)
  rw [if_pos rfl] at e
  omega
theorem q_S_ext {F : Int → Int} {m : Nat} : ∀ n : Nat, (∀ j, (m : Int) ≤ j → j < ((m + n : Nat) : Int) → F j = 0) → q_S F (m + n) = q_S F m := by
  intro n
  induction n with
  | zero => intro _; rfl
  | succ n ih =>
    intro h
    show q_S F (m + n) + F ((m + n : Nat) : Int) = _
    rw [ih (fun j a b => h j a (by omega)), h ((m + n : Nat) : Int) (by omega) (by omega)]
    omega
theorem q_s_ext {F : Int → Int} {m n : Int} (hm : 0 ≤ m) (hn : m ≤ n) (h : ∀ j, m ≤ j → j < n → F j = 0) : q_s F n = q_s F m := by
  have e := q_S_ext (F := F) (m := m.toNat) (n.toNat - m.toNat) (fun j a b => h j (by omega) (by omega))
  rw [show m.toNat + (n.toNat - m.toNat) = n.toNat by omega] at e
  exact e
/-- b is hotter than a -/
def q_ho (V : Int → Int) (b a : Int) : Int := if V a < V b ∨ (b < a ∧ V b = V a) then 1 else 0
theorem q_ho_b (V : Int → Int) (b a : Int) : 0 ≤ q_ho V b a ∧ q_ho V b a ≤ 1 := by unfold q_ho; split <;> omega
theorem q_ho_1 {V : Int → Int} {b a : Int} (h : V a < V b ∨ (b < a ∧ V b = V a)) : q_ho V b a = 1 := if_pos h
theorem q_ho_0 {V : Int → Int} {b a : Int} (h : ¬ (V a < V b ∨ (b < a ∧ V b = V a))) : q_ho V b a = 0 := if_neg h
def q_rk (V : Int → Int) (a : Int) : Int := q_s (fun b => q_ho V b a) 40
def q_hm (W : Int → Int) (v : Int) : Prop := (v = -1 ∧ ∀ a, 0 ≤ a → a < 40 → W a ≤ 0) ∨ ((0 ≤ v ∧ v < 40) ∧ 0 < W v ∧ (∀ a, 0 ≤ a → a < 40 → W a ≤ W v) ∧ ∀ a, 0 ≤ a → a < v → W a < W v)
def q_hi (V W : Int → Int) (i : Int) : Prop := (∀ b, 0 ≤ b → b < 40 → W b = V b ∨ (W b = 0 ∧ 0 < V b)) ∧ q_s (fun b => if W b = V b then 0 else 1) 40 = i ∧ ∀ z b, 0 ≤ z → z < 40 → 0 ≤ b → b < 40 → W z ≠ V z → W b = V b → (V b < V z ∨ (z < b ∧ V z = V b))
def q_hot (V : Int → Int) (k v : Int) : Prop := (v = -1 ∧ ∀ a, 0 ≤ a → a < 40 → 0 < V a → q_rk V a ≠ k) ∨ ((0 ≤ v ∧ v < 40) ∧ 0 < V v ∧ q_rk V v = k)
/-- the hottest of what is left has as many ahead as were taken -/
theorem q_hi_rk {V W : Int → Int} {i v : Int} (h : q_hi V W i) (h0 : 0 ≤ v) (h1 : v < 40) (hp : 0 < W v) (hm : ∀ a, 0 ≤ a → a < 40 → W a ≤ W v) (hl : ∀ a, 0 ≤ a → a < v → W a < W v) : W v = V v ∧ q_rk V v = i := by
  have e : W v = V v := by rcases h.1 v h0 h1 with q | q <;> omega
  refine ⟨e, ?_⟩
  rw [← h.2.1]
  unfold q_rk
  refine q_s_c (fun b b0 b1 => ?_)
  show q_ho V b v = if W b = V b then 0 else 1
  by_cases q : W b = V b
  · rw [if_pos q]
    have m1 := hm b b0 b1
    refine q_ho_0 (fun z => ?_)
    rcases z with z | z
    · omega
    · have := hl b b0 z.1
      omega
  · rw [if_neg q]
    exact q_ho_1 (h.2.2 b v b0 b1 h0 h1 q e)
theorem q_hi_up {V W W' : Int → Int} {i v : Int} (h : q_hi V W i) (h0 : 0 ≤ v) (h1 : v < 40) (hp : 0 < W v) (hm : ∀ a, 0 ≤ a → a < 40 → W a ≤ W v) (hl : ∀ a, 0 ≤ a → a < v → W a < W v) (hu : W' v = 0) (hn : ∀ a, a ≠ v → W' a = W a) : q_hi V W' (i + 1) := by
  have e := (q_hi_rk h h0 h1 hp hm hl).1
  refine ⟨fun b b0 b1 => ?_, ?_, fun z b z0 z1 b0 b1 hz hb => ?_⟩
  · by_cases q : b = v
    · rw [q]; right; omega
    · rw [hn b q]; exact h.1 b b0 b1
  · rw [q_s_upd (F := fun b => if W b = V b then 0 else 1) (F' := fun b => if W' b = V b then 0 else 1) (h := v) (fun j _ _ q => by
      show (if W' j = V j then (0 : Int) else 1) = if W j = V j then 0 else 1
      rw [hn j q]) h0 h1, h.2.1]
    show i + ((if W' v = V v then (0 : Int) else 1) - if W v = V v then 0 else 1) = i + 1
    rw [if_neg (by omega), if_pos e]
    omega
  · have bv : b ≠ v := fun q => by rw [q] at hb; omega
    rw [hn b bv] at hb
    by_cases q : z = v
    · rw [q]
      have m1 := hm b b0 b1
      rcases Int.lt_trichotomy b v with t | t | t
      · have := hl b b0 t; omega
      · exact absurd t bv
      · omega
    · rw [hn z q] at hz
      exact h.2.2 z b z0 z1 b0 b1 hz hb
/-- if nothing is left, no one has as many ahead -/
theorem q_hi_no {V W : Int → Int} {i k : Int} (h : q_hi V W i) (hz : ∀ a, 0 ≤ a → a < 40 → W a ≤ 0) (hk : i ≤ k) : ∀ a, 0 ≤ a → a < 40 → 0 < V a → q_rk V a ≠ k := by
  intro a a0 a1 hp he
  have z := hz a a0 a1
  have ne : W a ≠ V a := by omega
  have l : q_rk V a < q_s (fun b => if W b = V b then 0 else 1) 40 := by
    refine q_s_lt (h := a) (fun b b0 b1 => ?_) a0 a1 ?_
    · show q_ho V b a ≤ if W b = V b then 0 else 1
      by_cases q : W b = V b
      · rw [if_pos q, q_ho_0 (fun t => ?_)]
        · exact Int.le_refl 0
        · have := h.2.2 a b a0 a1 b0 b1 ne q
          omega
      · rw [if_neg q]; exact (q_ho_b V b a).2
    · show q_ho V a a < if W a = V a then 0 else 1
      rw [if_neg ne, q_ho_0 (by omega)]
      decide
  rw [h.2.1] at l
  omega
theorem q_rk_lt {V : Int → Int} {a b : Int} (b0 : 0 ≤ b) (b1 : b < 40) (h : V a < V b ∨ (b < a ∧ V b = V a)) : q_rk V b < q_rk V a := by
  refine q_s_lt (h := b) (fun j j0 j1 => ?_) b0 b1 ?_
  · show q_ho V j b ≤ q_ho V j a
    by_cases q : V b < V j ∨ (j < b ∧ V j = V b)
    · rw [q_ho_1 q, q_ho_1 (by omega)]; exact Int.le_refl 1
    · rw [q_ho_0 q]; exact (q_ho_b V j a).1
  · show q_ho V b b < q_ho V b a
    rw [q_ho_0 (by omega), q_ho_1 h]
    decide
theorem q_rk_b {V : Int → Int} {a : Int} (a0 : 0 ≤ a) (a1 : a < 40) : 0 ≤ q_rk V a ∧ q_rk V a < 40 := by
  have h1 := q_s_B (F := fun b => q_ho V b a) (k := 40) (by omega) (fun b => q_ho_b V b a)
  have h2 : q_rk V a < q_s (fun _ => 1) 40 := q_s_lt (h := a) (fun j _ _ => (q_ho_b V j a).2) a0 a1 (by show q_ho V a a < 1; rw [q_ho_0 (by omega)]; decide)
  have h3 := q_s_B (F := fun _ => 1) (k := 40) (by omega) (fun _ => by omega)
  exact ⟨h1.1, by omega⟩
theorem q_hot_u {V : Int → Int} {k v v' : Int} (h : q_hot V k v) (h' : q_hot V k v') : v = v' := by
  rcases h with ⟨a1, a2⟩ | ⟨a1, a2, a3⟩ <;> rcases h' with ⟨b1, b2⟩ | ⟨b1, b2, b3⟩
  · omega
  · exact absurd b3 (a2 v' b1.1 b1.2 b2)
  · exact absurd a3 (b2 v a1.1 a1.2 a2)
  · rcases Int.lt_trichotomy v v' with q | q | q
    · by_cases t : V v < V v'
      · have := q_rk_lt (V := V) (a := v) (b := v') b1.1 b1.2 (by omega); omega
      · have := q_rk_lt (V := V) (a := v') (b := v) a1.1 a1.2 (by omega); omega
    · exact q
    · by_cases t : V v' < V v
      · have := q_rk_lt (V := V) (a := v') (b := v) a1.1 a1.2 (by omega); omega
      · have := q_rk_lt (V := V) (a := v) (b := v') b1.1 b1.2 (by omega); omega
set_option maxHeartbeats 4000000 in
set_option maxRecDepth 100000 in
theorem l_hottest {G : tp_G} {μ : tp_M} (hG : tp_Gf G = true) : ∀ k, k ≤ 40 → ∀ (b m : Int), 0 ≤ k → ((b = -1 ∧ m = 0 ∧ ∀ a, 0 ≤ a → a < k → μ.1 83 a ≤ 0) ∨ ((0 ≤ b ∧ b < k) ∧ m = μ.1 83 b ∧ 0 < m ∧ (∀ a, 0 ≤ a → a < k → μ.1 83 a ≤ m) ∧ ∀ a, 0 ≤ a → a < b → μ.1 83 a < m)) → tp_g G mX11_hottest 6 [some (tR (some 0)), some (tI b), some (tI m), some (tI k)] [] μ (fun r μ' => ∃ v, r = some (tI v) ∧ q_hm (μ.1 83) v ∧ μ' = μ) := by
  refine tp_ind _ ?_
  intro k hkN ih b m h0 hI
  refine g_iload_n rfl rfl ?_
  refine g_bipush rfl ⟨by decide, by decide⟩ (by decide) ?_
  refine g_icmp_ge (tgt := 37) rfl (by decide) (fun h1 => ?_) (fun h1 => ?_)
  · refine g_iload_n rfl rfl ?_
    refine x_ireturn rfl rfl ?_
    have hk4 : k = 40 := by omega
    subst hk4
    refine ⟨_, rfl, ?_, rfl⟩
    rcases hI with ⟨q1, q2, q3⟩ | ⟨q1, q2, q3, q4, q5⟩
    · exact Or.inl ⟨q1, q3⟩
    · rw [q2] at q3 q4 q5
      exact Or.inr ⟨q1, q3, q4, q5⟩
  · refine g_aload_n rfl rfl ?_
    refine x_getF (r := 83) hG rfl rfl (by decide) (Or.inr ⟨_, rfl⟩) rfl ?_
    refine g_iload_n rfl rfl ?_
    refine x_iald (v := (μ.1 83 k)) rfl rfl (by decide) (by omega) (by omega) rfl ?_
    refine g_iload_n rfl rfl ?_
    refine g_icmp_le (tgt := 31) rfl (by decide) (fun h2 => ?_) (fun h2 => ?_)
    · refine x_iinc (z := k + 1) rfl rfl (by omega) ⟨by omega, by omega⟩ rfl rfl ?_
      refine g_goto (tgt := 6) rfl (by decide) ?_
      refine ih (by omega) _ _ (by omega) ?_
      rcases hI with ⟨q1, q2, q3⟩ | ⟨q1, q2, q3, q4, q5⟩
      · exact Or.inl ⟨q1, q2, fun a g1 g2 => by rcases (show a < k ∨ a = k by omega) with t | t; exact q3 a g1 t; rw [t]; omega⟩
      · exact Or.inr ⟨⟨q1.1, by omega⟩, q2, q3, fun a g1 g2 => by rcases (show a < k ∨ a = k by omega) with t | t; exact q4 a g1 t; rw [t]; omega, q5⟩
    · refine g_aload_n rfl rfl ?_
      refine x_getF (r := 83) hG rfl rfl (by decide) (Or.inr ⟨_, rfl⟩) rfl ?_
      refine g_iload_n rfl rfl ?_
      refine x_iald (v := (μ.1 83 k)) rfl rfl (by decide) (by omega) (by omega) rfl ?_
      refine g_istore_n rfl rfl rfl ?_
      refine g_iload_n rfl rfl ?_
      refine g_istore_n rfl rfl rfl ?_
      refine x_iinc (z := k + 1) rfl rfl (by omega) ⟨by omega, by omega⟩ rfl rfl ?_
      refine g_goto (tgt := 6) rfl (by decide) ?_
      refine ih (by omega) _ _ (by omega) (Or.inr ⟨⟨by omega, by omega⟩, rfl, ?_, fun a g1 g2 => ?_, fun a g1 g2 => ?_⟩)
      · rcases hI with q | q <;> omega
      · rcases (show a < k ∨ a = k by omega) with t | t
        · rcases hI with ⟨q1, q2, q3⟩ | ⟨q1, q2, q3, q4, q5⟩
          · have := q3 a g1 t; omega
          · have := q4 a g1 t; omega
        · rw [t]; exact Int.le_refl _
      · rcases hI with ⟨q1, q2, q3⟩ | ⟨q1, q2, q3, q4, q5⟩
        · have := q3 a g1 g2; omega
        · have := q4 a g1 g2; omega
set_option maxHeartbeats 4000000 in
set_option maxRecDepth 100000 in
theorem s_hottest {G : tp_G} {μ : tp_M} (hG : tp_Gf G = true) : tp_k G mX11_hottest [tR (some 0)] μ (fun r μ' => ∃ v, r = some (tI v) ∧ q_hm (μ.1 83) v ∧ μ' = μ) := by
  refine tp_ok_of mX11_hottest_ok rfl (Nat.le_refl _) ?_
  refine g_iconst rfl ⟨by decide, by decide⟩ ?_
  refine g_istore_n rfl rfl rfl ?_
  refine g_iconst rfl ⟨by decide, by decide⟩ ?_
  refine g_istore_n rfl rfl rfl ?_
  refine g_iconst rfl ⟨by decide, by decide⟩ ?_
  refine g_istore_n rfl rfl rfl ?_
  exact l_hottest hG 0 (by omega) _ _ (by omega) (Or.inl ⟨rfl, rfl, fun a g1 g2 => absurd g2 (by omega)⟩)
set_option maxHeartbeats 4000000 in
set_option maxRecDepth 100000 in
theorem l_hot {G : tp_G} (hG : tp_Gf G = true) {μ0 : tp_M} {V : Int → Int} {q : Int} (hq : q < 40) {x1 x2 : Option tp_V} : ∀ k, k ≤ q → ∀ (μ : tp_M) (x : Option tp_V), 0 ≤ k → q_hi V (μ.1 83) k → q_f1 83 μ0 μ → tp_g G mX11_hot 35 [some (tR (some 0)), x1, x2, some (tI q), some (tI k), x] [] μ (fun r μ' => ∃ v, r = some (tI v) ∧ q_hot V q v ∧ q_f1 83 μ0 μ') := by
  refine tp_ind _ ?_
  intro k hkN ih μ x h0 hI hF
  refine g_iload rfl rfl ?_
  refine g_iload_n rfl rfl ?_
  refine g_icmp_ge (tgt := 69) rfl (by decide) (fun h1 => ?_) (fun h1 => ?_)
  · refine g_aload_n rfl rfl ?_
    refine g_cV (as := []) (s_hottest hG) rfl rfl mX11_hottest_ok rfl rfl rfl (by decide) rfl rfl rfl ?_
    rintro _ w9 ⟨hv, rfl, hqm, hw9⟩ _
    have hw9 := hw9.symm
    subst hw9
    have hvb : -1 ≤ hv ∧ hv < 40 := by rcases hqm with q | q <;> omega
    refine x_ireturn rfl rfl ?_
    rcases hqm with ⟨q1, q2⟩ | ⟨q1, q2, q3, q4⟩
    · exact ⟨_, rfl, Or.inl ⟨q1, q_hi_no hI q2 hkN⟩, hF⟩
    · obtain ⟨e1, e2⟩ := q_hi_rk hI q1.1 q1.2 q2 q3 q4
      exact ⟨_, rfl, Or.inr ⟨q1, by omega, by omega⟩, hF⟩
  · refine g_aload_n rfl rfl ?_
    refine g_cV (as := []) (s_hottest hG) rfl rfl mX11_hottest_ok rfl rfl rfl (by decide) rfl rfl rfl ?_
    rintro _ w9 ⟨hv, rfl, hqm, hw9⟩ _
    have hw9 := hw9.symm
    subst hw9
    have hvb : -1 ≤ hv ∧ hv < 40 := by rcases hqm with q | q <;> omega
    refine g_istore rfl rfl rfl ?_
    refine g_iload rfl rfl ?_
    refine g_iconst rfl ⟨by decide, by decide⟩ ?_
    refine g_icmp_ne (tgt := 55) rfl (by decide) (fun h2 => ?_) (fun h2 => ?_)
    · refine g_aload_n rfl rfl ?_
      refine x_getF (r := 83) hG rfl rfl (by decide) (Or.inr ⟨_, rfl⟩) rfl ?_
      refine g_iload rfl rfl ?_
      refine g_iconst rfl ⟨by decide, by decide⟩ ?_
      refine g_iast rfl rfl (by decide) (by omega) (by omega) ?_
      refine x_iinc (z := k + 1) rfl rfl (by omega) ⟨by omega, by omega⟩ rfl rfl ?_
      refine g_goto (tgt := 35) rfl (by decide) ?_
      rcases hqm with ⟨q1, _⟩ | ⟨q1, q2, q3, q4⟩
      · omega
      · exact ih (by omega) _ _ (by omega) (q_hi_up hI q1.1 q1.2 q2 q3 q4 tp_pi_at (fun a9 z9 => tp_pi_ix z9)) (q_f1_pi hF)
    · refine g_iconst rfl ⟨by decide, by decide⟩ ?_
      refine x_ireturn rfl rfl ?_
      rcases hqm with ⟨q1, q2⟩ | ⟨q1, _⟩
      · exact ⟨_, rfl, Or.inl ⟨rfl, q_hi_no hI q2 hkN⟩, hF⟩
      · omega
set_option maxHeartbeats 4000000 in
set_option maxRecDepth 100000 in
theorem l_hotter {G : tp_G} {μ : tp_M} (hG : tp_Gf G = true) {ck : Int} {f : Int → Int} {n : Int} {A B Y H : Int → Int} {E D U T : Int} (hw : tp_Cw f) (hW : r_W f n A B Y H) {a : Int} (hT : m_T n A B Y E D U T μ) (hMc : tp_Mc ck f μ) : ∀ k, k ≤ f 0 → ∀ (s : Int), 0 ≤ k → s = q_s (fun j => q_ho (fun a => q_s (fun j => q_is A a j) n) j a) k → tp_g G mX12_hotter 4 [some (tR (some 201)), some (tI a), some (tI s), some (tI k)] [] μ (fun r μ' => r = some (tI (q_s (fun j => q_ho (fun a => q_s (fun j => q_is A a j) n) j a) (f 0))) ∧ μ' = μ) := by
  have hw0 := hw.1
  have hn0 := hW.1
  have hall := hMc.2.2.1
  refine tp_ind _ ?_
  intro k hkN ih s h0 hs
  have hsb := q_s_B (F := (fun j => q_ho (fun a => q_s (fun j => q_is A a j) n) j a)) (k := k) (by omega) (fun j => q_ho_b (fun a => q_s (fun j => q_is A a j) n) j a)
  rw [← hs] at hsb
  refine g_iload_n rfl rfl ?_
  refine g_aload_n rfl rfl ?_
  refine x_geti (v := (μ.1 201 26)) rfl rfl (by decide) (Or.inl rfl) rfl ?_
  refine g_icmp_ge (tgt := 57) rfl (by decide) (fun h1 => ?_) (fun h1 => ?_)
  · refine g_iload_n rfl rfl ?_
    refine x_ireturn rfl rfl ?_
    exact ⟨by rw [show f 0 = k by omega, ← hs], rfl⟩
  · refine g_iload_n rfl rfl ?_
    refine g_aload_n rfl rfl ?_
    refine g_iload_n rfl rfl ?_
    refine g_cV (as := [tI k]) (s_visM hG hw hW hT hMc) rfl rfl mX12_visitsOf_ok rfl rfl rfl (by decide) rfl rfl rfl ?_
    rintro _ w9 ⟨rfl, hw9⟩ _
    have hw9 := hw9.symm
    subst hw9
    refine g_aload_n rfl rfl ?_
    refine g_iload_n rfl rfl ?_
    refine g_cV (as := [tI a]) (s_visM hG hw hW hT hMc) rfl rfl mX12_visitsOf_ok rfl rfl rfl (by decide) rfl rfl rfl ?_
    rintro _ w9 ⟨rfl, hw9⟩ _
    have hw9 := hw9.symm
    subst hw9
    refine g_icmp_gt (tgt := 44) rfl (by decide) (fun h2 => ?_) (fun h2 => ?_)
    · refine g_iconst rfl ⟨by decide, by decide⟩ ?_
      refine g_goto (tgt := 49) rfl (by decide) ?_
      refine x_iadd (z := s + 1) rfl (by omega) ⟨by omega, by omega⟩ ?_
      refine g_istore_n rfl rfl rfl ?_
      refine x_iinc (z := k + 1) rfl rfl (by omega) ⟨by omega, by omega⟩ rfl rfl ?_
      refine g_goto (tgt := 4) rfl (by decide) ?_
      exact ih (by omega) _ (by omega) (by rw [q_s1 (by omega)]; (first | rw [show q_ho (fun a => q_s (fun j => q_is A a j) n) k a = 1 from q_ho_1 (by show q_s (fun j => q_is A a j) n < q_s (fun j => q_is A k j) n ∨ (k < a ∧ q_s (fun j => q_is A k j) n = q_s (fun j => q_is A a j) n); omega)] | rw [show q_ho (fun a => q_s (fun j => q_is A a j) n) k a = 0 from q_ho_0 (by show ¬ (q_s (fun j => q_is A a j) n < q_s (fun j => q_is A k j) n ∨ (k < a ∧ q_s (fun j => q_is A k j) n = q_s (fun j => q_is A a j) n)); omega)]); omega)
    · refine g_iload_n rfl rfl ?_
      refine g_iload_n rfl rfl ?_
      refine g_icmp_ge (tgt := 48) rfl (by decide) (fun h3 => ?_) (fun h3 => ?_)
      · refine g_iconst rfl ⟨by decide, by decide⟩ ?_
        refine x_iadd (z := s) rfl (by omega) ⟨by omega, by omega⟩ ?_
        refine g_istore_n rfl rfl rfl ?_
        refine x_iinc (z := k + 1) rfl rfl (by omega) ⟨by omega, by omega⟩ rfl rfl ?_
        refine g_goto (tgt := 4) rfl (by decide) ?_
        exact ih (by omega) _ (by omega) (by rw [q_s1 (by omega)]; (first | rw [show q_ho (fun a => q_s (fun j => q_is A a j) n) k a = 1 from q_ho_1 (by show q_s (fun j => q_is A a j) n < q_s (fun j => q_is A k j) n ∨ (k < a ∧ q_s (fun j => q_is A k j) n = q_s (fun j => q_is A a j) n); omega)] | rw [show q_ho (fun a => q_s (fun j => q_is A a j) n) k a = 0 from q_ho_0 (by show ¬ (q_s (fun j => q_is A a j) n < q_s (fun j => q_is A k j) n ∨ (k < a ∧ q_s (fun j => q_is A k j) n = q_s (fun j => q_is A a j) n)); omega)]); omega)
      · refine g_aload_n rfl rfl ?_
        refine g_iload_n rfl rfl ?_
        refine g_cV (as := [tI k]) (s_visM hG hw hW hT hMc) rfl rfl mX12_visitsOf_ok rfl rfl rfl (by decide) rfl rfl rfl ?_
        rintro _ w9 ⟨rfl, hw9⟩ _
        have hw9 := hw9.symm
        subst hw9
        refine g_aload_n rfl rfl ?_
        refine g_iload_n rfl rfl ?_
        refine g_cV (as := [tI a]) (s_visM hG hw hW hT hMc) rfl rfl mX12_visitsOf_ok rfl rfl rfl (by decide) rfl rfl rfl ?_
        rintro _ w9 ⟨rfl, hw9⟩ _
        have hw9 := hw9.symm
        subst hw9
        refine g_icmp_ne (tgt := 48) rfl (by decide) (fun h4 => ?_) (fun h4 => ?_)
        · refine g_iconst rfl ⟨by decide, by decide⟩ ?_
          refine x_iadd (z := s) rfl (by omega) ⟨by omega, by omega⟩ ?_
          refine g_istore_n rfl rfl rfl ?_
          refine x_iinc (z := k + 1) rfl rfl (by omega) ⟨by omega, by omega⟩ rfl rfl ?_
          refine g_goto (tgt := 4) rfl (by decide) ?_
          exact ih (by omega) _ (by omega) (by rw [q_s1 (by omega)]; (first | rw [show q_ho (fun a => q_s (fun j => q_is A a j) n) k a = 1 from q_ho_1 (by show q_s (fun j => q_is A a j) n < q_s (fun j => q_is A k j) n ∨ (k < a ∧ q_s (fun j => q_is A k j) n = q_s (fun j => q_is A a j) n); omega)] | rw [show q_ho (fun a => q_s (fun j => q_is A a j) n) k a = 0 from q_ho_0 (by show ¬ (q_s (fun j => q_is A a j) n < q_s (fun j => q_is A k j) n ∨ (k < a ∧ q_s (fun j => q_is A k j) n = q_s (fun j => q_is A a j) n)); omega)]); omega)
        · refine g_iconst rfl ⟨by decide, by decide⟩ ?_
          refine g_goto (tgt := 49) rfl (by decide) ?_
          refine x_iadd (z := s + 1) rfl (by omega) ⟨by omega, by omega⟩ ?_
          refine g_istore_n rfl rfl rfl ?_
          refine x_iinc (z := k + 1) rfl rfl (by omega) ⟨by omega, by omega⟩ rfl rfl ?_
          refine g_goto (tgt := 4) rfl (by decide) ?_
          exact ih (by omega) _ (by omega) (by rw [q_s1 (by omega)]; (first | rw [show q_ho (fun a => q_s (fun j => q_is A a j) n) k a = 1 from q_ho_1 (by show q_s (fun j => q_is A a j) n < q_s (fun j => q_is A k j) n ∨ (k < a ∧ q_s (fun j => q_is A k j) n = q_s (fun j => q_is A a j) n); omega)] | rw [show q_ho (fun a => q_s (fun j => q_is A a j) n) k a = 0 from q_ho_0 (by show ¬ (q_s (fun j => q_is A a j) n < q_s (fun j => q_is A k j) n ∨ (k < a ∧ q_s (fun j => q_is A k j) n = q_s (fun j => q_is A a j) n)); omega)]); omega)
set_option maxHeartbeats 4000000 in
set_option maxRecDepth 100000 in
theorem s_hotter {G : tp_G} {μ : tp_M} (hG : tp_Gf G = true) {ck : Int} {f : Int → Int} {n : Int} {A B Y H : Int → Int} {E D U T : Int} (hw : tp_Cw f) (hW : r_W f n A B Y H) {a : Int} (hT : m_T n A B Y E D U T μ) (hMc : tp_Mc ck f μ) : tp_k G mX12_hotter [tR (some 201), tI a] μ (fun r μ' => r = some (tI (q_s (fun j => q_ho (fun a => q_s (fun j => q_is A a j) n) j a) (f 0))) ∧ μ' = μ) := by
  refine tp_ok_of mX12_hotter_ok rfl (Nat.le_refl _) ?_
  have hw0 := hw.1
  have hn0 := hW.1
  refine g_iconst rfl ⟨by decide, by decide⟩ ?_
  refine g_istore_n rfl rfl rfl ?_
  refine g_iconst rfl ⟨by decide, by decide⟩ ?_
  refine g_istore_n rfl rfl rfl ?_
  exact l_hotter hG hw hW hT hMc 0 (by omega) 0 (by omega) rfl
theorem q_vis0 {f : Int → Int} {n : Int} {A B Y H : Int → Int} (hW : r_W f n A B Y H) {a : Int} (ha : f 0 ≤ a) : q_s (fun j => q_is A a j) n = 0 := by
  have e : q_s (fun j => q_is A a j) n = q_s (fun j => q_is A a j) 0 := q_s_ext (by omega) hW.1.1 (fun j h0 h1 => if_neg (fun q => by have := (hW.2.2.2 j h0 h1).1.1; omega))
  rw [e]; rfl
theorem q_rk_f {f : Int → Int} {n : Int} {A B Y H : Int → Int} (hw : tp_Cw f) (hW : r_W f n A B Y H) {a : Int} (ha : 0 < q_s (fun j => q_is A a j) n) : q_s (fun j => q_ho (fun a => q_s (fun j => q_is A a j) n) j a) (f 0) = q_rk (fun a => q_s (fun j => q_is A a j) n) a := by
  have hw0 := hw.1
  refine (q_s_ext (by omega) (by omega) (fun j h0 h1 => ?_)).symm
  have z := q_vis0 hW h0
  exact q_ho_0 (by show ¬ (_ < q_s (fun i => q_is A j i) n ∨ (_ ∧ q_s (fun i => q_is A j i) n = q_s (fun i => q_is A a i) n)); omega)
set_option maxHeartbeats 4000000 in
set_option maxRecDepth 100000 in
theorem l_hotM {G : tp_G} {μ : tp_M} (hG : tp_Gf G = true) {ck : Int} {f : Int → Int} {n : Int} {A B Y H : Int → Int} {E D U T : Int} (hw : tp_Cw f) (hW : r_W f n A B Y H) {q : Int} {x1 x2 : Option tp_V} (hT : m_T n A B Y E D U T μ) (hMc : tp_Mc ck f μ) : ∀ k, k ≤ f 0 → 0 ≤ k → (∀ a, 0 ≤ a → a < k → 0 < (fun a => q_s (fun j => q_is A a j) n) a → q_rk (fun a => q_s (fun j => q_is A a j) n) a ≠ q) → tp_g G mX12_hot 19 [some (tR (some 201)), x1, x2, some (tI q), some (tI k)] [] μ (fun r μ' => ∃ v, r = some (tI v) ∧ q_hot (fun a => q_s (fun j => q_is A a j) n) q v ∧ μ' = μ) := by
  have hw0 := hw.1
  have hn0 := hW.1
  have hall := hMc.2.2.1
  refine tp_ind _ ?_
  intro k hkN ih h0 hz
  refine g_iload rfl rfl ?_
  refine g_aload_n rfl rfl ?_
  refine x_geti (v := (μ.1 201 26)) rfl rfl (by decide) (Or.inl rfl) rfl ?_
  refine g_icmp_ge (tgt := 56) rfl (by decide) (fun h1 => ?_) (fun h1 => ?_)
  · refine g_iconst rfl ⟨by decide, by decide⟩ ?_
    refine x_ireturn rfl rfl ?_
    exact ⟨_, rfl, Or.inl ⟨rfl, fun a g1 g2 g3 => hz a g1 (by have t := q_vis0 hW (a := a); have g4 : 0 < q_s (fun j => q_is A a j) n := g3; omega) g3⟩, rfl⟩
  · refine g_aload_n rfl rfl ?_
    refine g_iload rfl rfl ?_
    refine g_cV (as := [tI k]) (s_visM hG hw hW hT hMc) rfl rfl mX12_visitsOf_ok rfl rfl rfl (by decide) rfl rfl rfl ?_
    rintro _ w9 ⟨rfl, hw9⟩ _
    have hw9 := hw9.symm
    subst hw9
    refine g_if_le (tgt := 50) rfl (by decide) (fun h2 => ?_) (fun h2 => ?_)
    · refine x_iinc (z := k + 1) rfl rfl (by omega) ⟨by omega, by omega⟩ rfl rfl ?_
      refine g_goto (tgt := 19) rfl (by decide) ?_
      exact ih (by omega) (by omega) (fun a g1 g2 g3 => by rcases (show a < k ∨ a = k by omega) with t | t; exact hz a g1 t g3; (rw [t] at g3 ⊢; have g4 : 0 < q_s (fun j => q_is A k j) n := g3; rw [← q_rk_f hw hW g4]; omega))
    · refine g_aload_n rfl rfl ?_
      refine g_iload rfl rfl ?_
      refine g_cV (as := [tI k]) (s_hotter hG hw hW hT hMc) rfl rfl mX12_hotter_ok rfl rfl rfl (by decide) rfl rfl rfl ?_
      rintro _ w9 ⟨rfl, hw9⟩ _
      have hw9 := hw9.symm
      subst hw9
      refine g_iload_n rfl rfl ?_
      refine g_icmp_ne (tgt := 50) rfl (by decide) (fun h3 => ?_) (fun h3 => ?_)
      · refine x_iinc (z := k + 1) rfl rfl (by omega) ⟨by omega, by omega⟩ rfl rfl ?_
        refine g_goto (tgt := 19) rfl (by decide) ?_
        exact ih (by omega) (by omega) (fun a g1 g2 g3 => by rcases (show a < k ∨ a = k by omega) with t | t; exact hz a g1 t g3; (rw [t] at g3 ⊢; have g4 : 0 < q_s (fun j => q_is A k j) n := g3; rw [← q_rk_f hw hW g4]; omega))
      · refine g_iload rfl rfl ?_
        refine x_ireturn rfl rfl ?_
        exact ⟨_, rfl, Or.inr ⟨⟨by omega, by omega⟩, by show 0 < q_s (fun j => q_is A k j) n; omega, by rw [← q_rk_f hw hW (by omega)]; omega⟩, rfl⟩
set_option maxHeartbeats 4000000 in
set_option maxRecDepth 100000 in
theorem p_hot {G : tp_G} (hG : tp_Gf G = true) {a d k : Int} : tp_pair G mX11_hot mX12_hot [tI a, tI d, tI k] := by
  intro μ hR
  have hm0 := tp_R_many hR 0 (by decide) (by decide)
  have hm1 := tp_R_many hR 1 (by decide) (by decide)
  by_cases hab : ((a < 0 ∨ μ.1 5 0 ≤ a) ∨ (d < 0 ∨ μ.1 5 1 ≤ d))
  · obtain ⟨hX, hM⟩ := tp_layo hG hR hab
    refine tp_ok_of mX11_hot_ok rfl (Nat.le_refl _) ?_
    refine g_iload_n rfl rfl ?_
    refine g_if_lt (tgt := 19) rfl (by decide) (fun h1 => ?_) (fun h1 => ?_)
    · refine g_iconst rfl ⟨by decide, by decide⟩ ?_
      refine x_ireturn rfl rfl ?_
      refine ⟨_, rfl, ?_⟩
      refine tp_ok_of mX12_hot_ok rfl (Nat.le_refl _) ?_
      refine g_aload_n rfl rfl ?_
      refine g_iconst rfl ⟨by decide, by decide⟩ ?_
      refine g_puti rfl rfl (by decide) rfl rfl ?_
      refine g_aload_n rfl rfl ?_
      refine g_iload_n rfl rfl ?_
      refine g_iload_n rfl rfl ?_
      refine g_cV (as := [tI a, tI d]) (hM _ (tp_kp_pi (by decide) tp_kp_rf)) rfl rfl mX12_lay_ok rfl rfl rfl (by decide) rfl rfl rfl ?_
      rintro _ w2 ⟨rfl, hGm⟩ _
      have hkp2 : tp_kp μ w2 := m_G_kp (tp_kp_pi (by decide) tp_kp_rf) hGm
      refine g_if_ne (tgt := 16) rfl (by decide) (fun hx => absurd hx (by omega)) (fun _ => ?_)
      refine g_iconst rfl ⟨by decide, by decide⟩ ?_
      refine x_ireturn rfl rfl ?_
      exact ⟨rfl, tp_R_kp hR hkp2⟩
    · refine g_iload_n rfl rfl ?_
      refine g_bipush rfl ⟨by decide, by decide⟩ (by decide) ?_
      refine g_icmp_ge (tgt := 19) rfl (by decide) (fun h2 => ?_) (fun h2 => ?_)
      · refine g_iconst rfl ⟨by decide, by decide⟩ ?_
        refine x_ireturn rfl rfl ?_
        refine ⟨_, rfl, ?_⟩
        refine tp_ok_of mX12_hot_ok rfl (Nat.le_refl _) ?_
        refine g_aload_n rfl rfl ?_
        refine g_iconst rfl ⟨by decide, by decide⟩ ?_
        refine g_puti rfl rfl (by decide) rfl rfl ?_
        refine g_aload_n rfl rfl ?_
        refine g_iload_n rfl rfl ?_
        refine g_iload_n rfl rfl ?_
        refine g_cV (as := [tI a, tI d]) (hM _ (tp_kp_pi (by decide) tp_kp_rf)) rfl rfl mX12_lay_ok rfl rfl rfl (by decide) rfl rfl rfl ?_
        rintro _ w2 ⟨rfl, hGm⟩ _
        have hkp2 : tp_kp μ w2 := m_G_kp (tp_kp_pi (by decide) tp_kp_rf) hGm
        refine g_if_ne (tgt := 16) rfl (by decide) (fun hx => absurd hx (by omega)) (fun _ => ?_)
        refine g_iconst rfl ⟨by decide, by decide⟩ ?_
        refine x_ireturn rfl rfl ?_
        exact ⟨rfl, tp_R_kp hR hkp2⟩
      · refine g_aload_n rfl rfl ?_
        refine g_iload_n rfl rfl ?_
        refine g_iload_n rfl rfl ?_
        refine g_cV (as := [tI a, tI d]) (hX) rfl rfl mX11_follow_ok rfl rfl rfl (by decide) rfl rfl rfl ?_
        rintro _ w9 ⟨rfl, hw9⟩ _
        have hw9 := hw9.symm
        subst hw9
        refine g_if_ne (tgt := 21) rfl (by decide) (fun hx => absurd hx (by omega)) (fun _ => ?_)
        refine g_iconst rfl ⟨by decide, by decide⟩ ?_
        refine x_ireturn rfl rfl ?_
        refine ⟨_, rfl, ?_⟩
        refine tp_ok_of mX12_hot_ok rfl (Nat.le_refl _) ?_
        refine g_aload_n rfl rfl ?_
        refine g_iconst rfl ⟨by decide, by decide⟩ ?_
        refine g_puti rfl rfl (by decide) rfl rfl ?_
        refine g_aload_n rfl rfl ?_
        refine g_iload_n rfl rfl ?_
        refine g_iload_n rfl rfl ?_
        refine g_cV (as := [tI a, tI d]) (hM _ (tp_kp_pi (by decide) tp_kp_rf)) rfl rfl mX12_lay_ok rfl rfl rfl (by decide) rfl rfl rfl ?_
        rintro _ w2 ⟨rfl, hGm⟩ _
        have hkp2 : tp_kp μ w2 := m_G_kp (tp_kp_pi (by decide) tp_kp_rf) hGm
        refine g_if_ne (tgt := 16) rfl (by decide) (fun hx => absurd hx (by omega)) (fun _ => ?_)
        refine g_iconst rfl ⟨by decide, by decide⟩ ?_
        refine x_ireturn rfl rfl ?_
        exact ⟨rfl, tp_R_kp hR hkp2⟩
  · obtain ⟨a, rfl⟩ : ∃ a9 : Nat, a = (a9 : Int) := ⟨a.toNat, by omega⟩
    obtain ⟨d, rfl⟩ : ∃ d9 : Nat, d = (d9 : Int) := ⟨d.toNat, by omega⟩
    obtain ⟨n, A, B, Y, H, E, D, U, T, hW, hw, hCd0, hX, hM⟩ := tp_lay hG hR (k := a) (d := d) (by omega) (by omega) (by omega) (by omega)
    generalize tp_cf μ (a : Int) = f at hW hw hCd0 hX hM
    obtain ⟨c, hcE⟩ : ∃ c, c = 6 + 5 * a := ⟨_, rfl⟩
    rw [← hcE] at hCd0 hX
    have hc : tp_SH c = .inl 0 := by rcases (show a = 0 ∨ a = 1 by omega) with q | q <;> (subst q; subst hcE; rfl)
    have hcl : c < 37 := by omega
    have hcn : c < 234 := by omega
    have hw0 := hw.1
    have hn0 := hW.1
    refine tp_ok_of mX11_hot_ok rfl (Nat.le_refl _) ?_
    refine g_iload_n rfl rfl ?_
    refine g_if_lt (tgt := 19) rfl (by decide) (fun h1 => ?_) (fun h1 => ?_)
    · refine g_iconst rfl ⟨by decide, by decide⟩ ?_
      refine x_ireturn rfl rfl ?_
      refine ⟨_, rfl, ?_⟩
      refine tp_ok_of mX12_hot_ok rfl (Nat.le_refl _) ?_
      refine g_aload_n rfl rfl ?_
      refine g_iconst rfl ⟨by decide, by decide⟩ ?_
      refine g_puti rfl rfl (by decide) rfl rfl ?_
      refine g_aload_n rfl rfl ?_
      refine g_iload_n rfl rfl ?_
      refine g_iload_n rfl rfl ?_
      refine g_cV (as := [tI (a : Int), tI (d : Int)]) (hM _ (tp_kp_pi (by decide) tp_kp_rf)) rfl rfl mX12_lay_ok rfl rfl rfl (by decide) rfl rfl rfl ?_
      rintro _ w2 ⟨rfl, hTm, hMc, hGm, hdr, hdm⟩ _
      have hkp2 : tp_kp μ w2 := m_G_kp (tp_kp_pi (by decide) tp_kp_rf) hGm
      have hm6 := hTm.1
      have hall := hMc.2.2.1
      refine g_if_ne (tgt := 16) rfl (by decide) (fun _ => ?_) (fun hx => absurd hx (by omega))
      refine g_iconst rfl ⟨by decide, by decide⟩ ?_
      refine g_istore rfl rfl rfl ?_
      refine tp_conseq (fun r9 μ8 q8 => ?_) (l_hotM hG hw hW hTm hMc 0 (by omega) (by omega) (fun a g1 g2 g3 => absurd g2 (by omega)))
      obtain ⟨v2, rfl, hq2, e8⟩ := q8
      have e8 := e8.symm
      subst e8
      exact ⟨by rw [q_hot_u hq2 (Or.inl ⟨rfl, fun a g1 g2 g3 => by have := q_rk_b (V := (fun a => q_s (fun j => q_is A a j) n)) g1 g2; omega⟩)], tp_R_kp hR hkp2⟩
    · refine g_iload_n rfl rfl ?_
      refine g_bipush rfl ⟨by decide, by decide⟩ (by decide) ?_
      refine g_icmp_ge (tgt := 19) rfl (by decide) (fun h2 => ?_) (fun h2 => ?_)
      · refine g_iconst rfl ⟨by decide, by decide⟩ ?_
        refine x_ireturn rfl rfl ?_
        refine ⟨_, rfl, ?_⟩
        refine tp_ok_of mX12_hot_ok rfl (Nat.le_refl _) ?_
        refine g_aload_n rfl rfl ?_
        refine g_iconst rfl ⟨by decide, by decide⟩ ?_
        refine g_puti rfl rfl (by decide) rfl rfl ?_
        refine g_aload_n rfl rfl ?_
        refine g_iload_n rfl rfl ?_
        refine g_iload_n rfl rfl ?_
        refine g_cV (as := [tI (a : Int), tI (d : Int)]) (hM _ (tp_kp_pi (by decide) tp_kp_rf)) rfl rfl mX12_lay_ok rfl rfl rfl (by decide) rfl rfl rfl ?_
        rintro _ w2 ⟨rfl, hTm, hMc, hGm, hdr, hdm⟩ _
        have hkp2 : tp_kp μ w2 := m_G_kp (tp_kp_pi (by decide) tp_kp_rf) hGm
        have hm6 := hTm.1
        have hall := hMc.2.2.1
        refine g_if_ne (tgt := 16) rfl (by decide) (fun _ => ?_) (fun hx => absurd hx (by omega))
        refine g_iconst rfl ⟨by decide, by decide⟩ ?_
        refine g_istore rfl rfl rfl ?_
        refine tp_conseq (fun r9 μ8 q8 => ?_) (l_hotM hG hw hW hTm hMc 0 (by omega) (by omega) (fun a g1 g2 g3 => absurd g2 (by omega)))
        obtain ⟨v2, rfl, hq2, e8⟩ := q8
        have e8 := e8.symm
        subst e8
        exact ⟨by rw [q_hot_u hq2 (Or.inl ⟨rfl, fun a g1 g2 g3 => by have := q_rk_b (V := (fun a => q_s (fun j => q_is A a j) n)) g1 g2; omega⟩)], tp_R_kp hR hkp2⟩
      · refine g_aload_n rfl rfl ?_
        refine g_iload_n rfl rfl ?_
        refine g_iload_n rfl rfl ?_
        refine g_cV (as := [tI (a : Int), tI (d : Int)]) (hX) rfl rfl mX11_follow_ok rfl rfl rfl (by decide) rfl rfl rfl ?_
        rintro _ w1 ⟨rfl, hT, hco, hfr⟩ _
        have hCd : tp_Cd c f w1 := tp_Cd_fr hcl (fun k9 z9 => hfr k9 (by omega)) hCd0
        have hkp1 : tp_kp μ w1 := fun k9 z9 => hfr k9 (by unfold tp_tl at z9; omega)
        have hn6 := hT.1
        refine g_if_ne (tgt := 21) rfl (by decide) (fun _ => ?_) (fun hx => absurd hx (by omega))
        refine g_aload_n rfl rfl ?_
        refine x_getF (r := 50) hG rfl rfl (by decide) (Or.inl ⟨_, rfl⟩) rfl ?_
        refine g_aload_n rfl rfl ?_
        refine x_getF (r := 83) hG rfl rfl (by decide) (Or.inr ⟨_, rfl⟩) rfl ?_
        refine g_cV (as := [tR (some 83)]) (s_visits hG hc hcl hw hW hT hCd hco) rfl rfl mX7_visitsInto_ok rfl rfl rfl (by decide) rfl rfl rfl ?_
        rintro _ w3 ⟨rfl, hv, hf1⟩ _
        refine g_iconst rfl ⟨by decide, by decide⟩ ?_
        refine g_istore rfl rfl rfl ?_
        refine tp_conseq (fun r9 μ9 q9 => ?_) (l_hot (V := (fun a => q_s (fun j => q_is A a j) n)) hG (by omega) 0 (by omega) _ _ (by omega) ⟨fun b g1 g2 => Or.inl (hv b g1 g2), ?_, fun z b z0 z1 b0 b1 hz hb => absurd (hv z z0 z1) hz⟩ q_f1_rf)
        · obtain ⟨v, rfl, hq, hf9⟩ := q9
          have hkp3 : tp_kp μ w3 := q_f1_kp (by unfold tp_tl; omega) hkp1 hf1
          have hkp9 : tp_kp μ μ9 := q_f1_kp (by unfold tp_tl; omega) hkp3 hf9
          refine ⟨_, rfl, ?_⟩
          refine tp_ok_of mX12_hot_ok rfl (Nat.le_refl _) ?_
          refine g_aload_n rfl rfl ?_
          refine g_iconst rfl ⟨by decide, by decide⟩ ?_
          refine g_puti rfl rfl (by decide) rfl rfl ?_
          refine g_aload_n rfl rfl ?_
          refine g_iload_n rfl rfl ?_
          refine g_iload_n rfl rfl ?_
          refine g_cV (as := [tI (a : Int), tI (d : Int)]) (hM _ (tp_kp_pi (by decide) hkp9)) rfl rfl mX12_lay_ok rfl rfl rfl (by decide) rfl rfl rfl ?_
          rintro _ w2 ⟨rfl, hTm, hMc, hGm, hdr, hdm⟩ _
          have hkp2 : tp_kp μ w2 := m_G_kp (tp_kp_pi (by decide) hkp9) hGm
          have hm6 := hTm.1
          have hall := hMc.2.2.1
          refine g_if_ne (tgt := 16) rfl (by decide) (fun _ => ?_) (fun hx => absurd hx (by omega))
          refine g_iconst rfl ⟨by decide, by decide⟩ ?_
          refine g_istore rfl rfl rfl ?_
          refine tp_conseq (fun r9 μ8 q8 => ?_) (l_hotM hG hw hW hTm hMc 0 (by omega) (by omega) (fun a g1 g2 g3 => absurd g2 (by omega)))
          obtain ⟨v2, rfl, hq2, e8⟩ := q8
          have e8 := e8.symm
          subst e8
          exact ⟨by rw [q_hot_u hq2 hq], tp_R_kp hR hkp2⟩
        · refine (q_s_ext (m := 0) (by omega) (by omega) (fun b g1 g2 => if_pos (hv b g1 g2))).trans rfl
