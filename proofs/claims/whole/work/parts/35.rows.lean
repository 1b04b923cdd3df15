/-! loops by a bound; sums -/
theorem tp_ind {P : Int → Prop} (N : Int) (h : ∀ k, k ≤ N → (k < N → P (k + 1)) → P k) : ∀ k, k ≤ N → P k := by
  intro k hk
  have H : ∀ m : Nat, ∀ k, k ≤ N → (N - k).toNat = m → P k := by
    intro m
    induction m with
    | zero => intro k hk hm; exact h k hk (fun q => by omega)
    | succ m ih => intro k hk hm; exact h k hk (fun q => ih (k + 1) (by omega) (by omega))
  exact H _ k hk rfl
def q_S (F : Int → Int) : Nat → Int
  | 0 => 0
  | n + 1 => q_S F n + F n
def q_s (F : Int → Int) (k : Int) : Int := q_S F k.toNat
theorem q_s0 {F : Int → Int} : q_s F 0 = 0 := rfl
theorem q_s1 {F : Int → Int} {k : Int} (h : 0 ≤ k) : q_s F (k + 1) = q_s F k + F k := by
  unfold q_s
  rw [show (k + 1).toNat = k.toNat + 1 by omega]
  show q_S F k.toNat + F (k.toNat : Int) = _
  rw [show ((k.toNat : Nat) : Int) = k by omega]
theorem q_S_c {F F' : Int → Int} : ∀ n : Nat, (∀ j, 0 ≤ j → j < (n : Int) → F j = F' j) → q_S F n = q_S F' n := by
  intro n
  induction n with
  | zero => intro _; rfl
  | succ n ih =>
    intro h
    show q_S F n + F n = q_S F' n + F' n
    rw [ih (fun j a b => h j a (by omega)), h n (by omega) (by omega)]
theorem q_s_c {F F' : Int → Int} {k : Int} (h : ∀ j, 0 ≤ j → j < k → F j = F' j) : q_s F k = q_s F' k := q_S_c k.toNat (fun j a b => h j a (by omega))
theorem q_S_b {F : Int → Int} : ∀ n : Nat, (∀ j, 0 ≤ j → j < (n : Int) → 0 ≤ F j ∧ F j ≤ 1) → 0 ≤ q_S F n ∧ q_S F n ≤ n := by
  intro n
  induction n with
  | zero => intro _; exact ⟨Int.le_refl 0, Int.le_refl 0⟩
  | succ n ih =>
    intro h
    have h1 := ih (fun j a b => h j a (by omega))
    have h2 := h n (by omega) (by omega)
    show 0 ≤ q_S F n + F n ∧ q_S F n + F n ≤ ((n + 1 : Nat) : Int)
    omega
theorem q_s_b {F : Int → Int} {k : Int} (hk : 0 ≤ k) (h : ∀ j, 0 ≤ j → j < k → 0 ≤ F j ∧ F j ≤ 1) : 0 ≤ q_s F k ∧ q_s F k ≤ k := by
  have := q_S_b k.toNat (fun j a b => h j a (by omega))
  unfold q_s
  omega
/-! a code in its cells, whatever else the memory holds -/
def tp_Cd (c : Nat) (f : Int → Int) (μ : tp_M) : Prop := μ.1 c 4 = f 0 ∧ (∀ i, 0 ≤ i → i < f 0 → μ.1 (c + 1) i = f (9 + i)) ∧ (∀ i, 0 ≤ i → i < f 0 → μ.1 (c + 2) i = f (49 + i)) ∧ (∀ i, 0 ≤ i → i < f 0 → μ.1 (c + 3) i = f (89 + i)) ∧ (∀ i, 0 ≤ i → i < 8 → μ.1 (c + 4) i = f (1 + i))
theorem tp_Cd_fr {c : Nat} {f : Int → Int} {μ μ' : tp_M} (hc : c < 37) (h : ∀ k, k < 41 → μ'.1 k = μ.1 k) (q : tp_Cd c f μ) : tp_Cd c f μ' := by
  unfold tp_Cd
  rw [h c (by omega), h (c + 1) (by omega), h (c + 2) (by omega), h (c + 3) (by omega), h (c + 4) (by omega)]
  exact q
theorem tp_Cd_pi {c : Nat} {f : Int → Int} {μ : tp_M} {p : Nat} {j v : Int} (hc : c < 37) (hp : 41 ≤ p) (q : tp_Cd c f μ) : tp_Cd c f (tp_pi μ p j v) := tp_Cd_fr hc (fun k hk => tp_pi_ne (by omega)) q
theorem tp_Cd_pr {c : Nat} {f : Int → Int} {μ : tp_M} {p : Nat} {j : Int} {r : Option Nat} (q : tp_Cd c f μ) : tp_Cd c f (tp_pr μ p j r) := q
theorem tp_Cd_R {μ : tp_M} (h : tp_R μ) {k : Nat} (hk : k < 2) (h1 : (k : Int) < μ.1 5 0) : tp_Cd (6 + 5 * k) (tp_cf μ k) μ ∧ tp_Cw (tp_cf μ k) := by
  obtain ⟨a1, a2, a3, a4⟩ := tp_R_code h k hk h1
  refine ⟨⟨a1, fun i g1 g2 => ?_, fun i g1 g2 => ?_, fun i g1 g2 => ?_, fun i g1 g2 => ?_⟩, a4⟩
  · rw [show 6 + 5 * k + 1 = 7 + 5 * k by omega]; exact (a2 i g1 g2).1
  · rw [show 6 + 5 * k + 2 = 8 + 5 * k by omega]; exact (a2 i g1 g2).2.1
  · rw [show 6 + 5 * k + 3 = 9 + 5 * k by omega]; exact (a2 i g1 g2).2.2
  · rw [show 6 + 5 * k + 4 = 10 + 5 * k by omega]; exact a3 i g1 g2
/-! a run as rows -/
def r_A (f : Int → Int) (ch : r_H) (s0 : Int) (j : Int) : Int := (r_at f ch s0 j.toNat).1
def r_B (f : Int → Int) (ch : r_H) (s0 : Int) (j : Int) : Int := r_to f ch (r_at f ch s0 j.toNat)
def r_Y (f : Int → Int) (ch : r_H) (s0 : Int) (j : Int) : Int := r_yes f ch (r_at f ch s0 j.toNat)
def r_Dh (f : Int → Int) (ch : r_H) (s0 : Int) (j : Int) : Int := (r_at f ch s0 j.toNat).2.1
/-- what a step of a code may be: address, where it goes, taken -/
def r_w1 (f : Int → Int) (a b y : Int) : Prop := (0 ≤ a ∧ a < f 0) ∧ (b = -1 ∨ (0 ≤ b ∧ b ≤ 40)) ∧ (y = 0 ∨ y = 1) ∧ (f (9 + a) = 0 → b = a + 1) ∧ (f (9 + a) = 1 → (b = -1 ∧ y = 0) ∨ (y = 1 ∧ b = f (49 + a)) ∨ (y = 0 ∧ b = a + 1)) ∧ (f (9 + a) = 2 → b = f (49 + a)) ∧ (f (9 + a) = 3 → b = -1 ∨ b = f (49 + a)) ∧ (f (9 + a) = 6 → b = -1) ∧ (f (9 + a) ≠ 1 → y = 0)
/-- n steps of the code f: addresses, where each goes, which are taken, how many calls are open -/
def r_W (f : Int → Int) (n : Int) (A B Y H : Int → Int) : Prop := (0 ≤ n ∧ n ≤ 200) ∧ A 0 = 0 ∧ H 0 = 0 ∧ ∀ j, 0 ≤ j → j < n → r_w1 f (A j) (B j) (Y j) ∧ (0 ≤ H j ∧ H j ≤ 9) ∧ (j + 1 < n → B j = A (j + 1) ∧ (f (9 + A j) = 3 → H j < 9 ∧ H (j + 1) = H j + 1) ∧ (f (9 + A j) = 4 → 0 < H j ∧ H (j + 1) = H j - 1) ∧ (f (9 + A j) ≠ 3 → f (9 + A j) ≠ 4 → H (j + 1) = H j))
def c_T (p : Nat) (n : Int) (A B Y : Int → Int) (E D U T : Int) (μ : tp_M) : Prop := μ.1 p 6 = n ∧ (∀ j, 0 ≤ j → j < n → μ.1 (p + 1) j = A j) ∧ (∀ j, 0 ≤ j → j < n → μ.1 (p + 2) j = B j) ∧ (∀ j, 0 ≤ j → j < n → μ.1 (p + 3) j = Y j) ∧ μ.1 p 11 = E ∧ μ.1 p 12 = D ∧ μ.1 p 13 = U ∧ μ.1 p 14 = T
theorem c_T_fr {p : Nat} {n : Int} {A B Y : Int → Int} {E D U T : Int} {μ μ' : tp_M} (h : ∀ k, p ≤ k → k ≤ p + 3 → μ'.1 k = μ.1 k) (q : c_T p n A B Y E D U T μ) : c_T p n A B Y E D U T μ' := by
  unfold c_T
  rw [h p (by omega) (by omega), h (p + 1) (by omega) (by omega), h (p + 2) (by omega) (by omega), h (p + 3) (by omega) (by omega)]
  exact q
theorem c_T_pi {p : Nat} {n : Int} {A B Y : Int → Int} {E D U T : Int} {μ : tp_M} {c : Nat} {j v : Int} (hc : c < p ∨ p + 3 < c) (q : c_T p n A B Y E D U T μ) : c_T p n A B Y E D U T (tp_pi μ c j v) := c_T_fr (fun k h1 h2 => tp_pi_ne (by omega)) q
theorem c_T_pr {p : Nat} {n : Int} {A B Y : Int → Int} {E D U T : Int} {μ : tp_M} {c : Nat} {j : Int} {r : Option Nat} (q : c_T p n A B Y E D U T μ) : c_T p n A B Y E D U T (tp_pr μ c j r) := q
theorem r_en199 {f : Int → Int} {ch : r_H} {c : r_C} : r_en f ch c 199 ≠ 0 := by
  unfold r_en
  split
  · unfold r_ek
    split
    · decide
    · split <;> decide
  · split <;> decide
theorem r_N_ex (f : Int → Int) (ch : r_H) (s0 : Int) : ∃ n, n ≤ 200 ∧ r_N f ch s0 n := by
  have H : ∀ m, (∀ k, k < m → r_go f ch s0 k) ∨ ∃ n, n < m ∧ r_N f ch s0 n := by
    intro m
    induction m with
    | zero => exact Or.inl (fun k hk => absurd hk (Nat.not_lt_zero k))
    | succ m ih =>
      rcases ih with h | ⟨n, h1, h2⟩
      · by_cases hg : r_go f ch s0 m
        · exact Or.inl (fun k hk => by rcases Nat.lt_succ_iff_lt_or_eq.mp hk with h9 | h9; exact h k h9; rw [h9]; exact hg)
        · exact Or.inr ⟨m, Nat.lt_succ_self m, h, hg⟩
      · exact Or.inr ⟨n, by omega, h2⟩
  rcases H 201 with h | ⟨n, h1, h2⟩
  · exact absurd (show r_en f ch (r_at f ch s0 199) 199 = 0 from (h 200 (by omega)).2) r_en199
  · exact ⟨n, by omega, h2⟩
theorem r_w1_of {f : Int → Int} {ch : r_H} {c : r_C} (hw : tp_Cw f) (ho : r_ok f c) (hs1 : r_cv ch c true = -1 ∨ r_cv ch c true = 100 ∨ r_cv ch c true = 101) (hs0 : r_cv ch c false = -1 ∨ (0 ≤ r_cv ch c false ∧ r_cv ch c false ≤ 39)) : r_w1 f c.1 (r_to f ch c) (r_yes f ch c) := by
  have ha := ho.1
  have hd := ho.2.1
  have hf := hw.2.1 _ ha.1 ha.2
  have hk := hf.1
  have ht := hf.2.2.1
  have h0 := hw.1
  unfold r_w1 r_to r_yes
  rcases (show f (9 + c.1) = 0 ∨ f (9 + c.1) = 1 ∨ f (9 + c.1) = 2 ∨ f (9 + c.1) = 3 ∨ f (9 + c.1) = 4 ∨ f (9 + c.1) = 5 ∨ f (9 + c.1) = 6 by omega) with k | k | k | k | k | k | k
  · simp [k]; omega
  · have t := ht (by omega)
    rcases hs1 with v | v | v <;> simp [k, v] <;> omega
  · have t := ht (by omega)
    simp [k]; omega
  · have t := ht (by omega)
    by_cases q : c.2.1 = 9
    · simp [k, q]; omega
    · simp [k, q]; omega
  · by_cases q : c.2.1 = 0
    · simp [k, q]; omega
    · have := ho.2.2.1 (c.2.1 - 1) (by omega) (by omega)
      simp [k, q]; omega
  · rcases hs0 with v | v
    · simp [k, v]; omega
    · simp [k]; omega
  · simp [k]; omega
theorem r_W_of {f : Int → Int} {ch : r_H} {s0 : Int} {n : Nat} (hw : tp_Cw f) (hs : r_src ch) (hn : n ≤ 200) (h : r_N f ch s0 n) : r_W f n (r_A f ch s0) (r_B f ch s0) (r_Y f ch s0) (r_Dh f ch s0) := by
  refine ⟨⟨by omega, by omega⟩, rfl, rfl, fun j h0 h1 => ?_⟩
  obtain ⟨k, rfl⟩ : ∃ k : Nat, j = (k : Int) := ⟨j.toNat, by omega⟩
  have hg := h.1 k (by omega)
  have ho := r_all_ok hw hs k hg
  have hso := hs _ (r_at f ch s0 k).2.2.2.2 ho.2.2.2
  refine ⟨r_w1_of hw ho hso.1 hso.2, ho.2.1, fun h2 => ?_⟩
  have e1 : ((k : Int) + 1).toNat = k + 1 := by omega
  have hg2 := h.1 (k + 1) (by omega)
  have hen : r_en f ch (r_at f ch s0 k) k = 0 := hg2.2
  have hto : r_to f ch (r_at f ch s0 k) ≠ -1 := fun q => by
    unfold r_en at hen
    rw [if_pos q] at hen
    unfold r_ek at hen
    split at hen
    · omega
    · split at hen <;> omega
  have hd := ho.2.1
  have e2 : r_Dh f ch s0 ((k : Int) + 1) = (r_nx f ch (r_at f ch s0 k)).2.1 := by unfold r_Dh; rw [e1]; rfl
  have e3 : r_Dh f ch s0 (k : Int) = (r_at f ch s0 k).2.1 := rfl
  have e4 : r_A f ch s0 (k : Int) = (r_at f ch s0 k).1 := rfl
  rw [e2, e3, e4]
  refine ⟨?_, fun h3 => ?_, fun h4 => ?_, fun n3 n4 => ?_⟩
  · show r_to f ch (r_at f ch s0 k) = (r_at f ch s0 ((k : Int) + 1).toNat).1
    rw [e1]
    rfl
  · have hq : (r_at f ch s0 k).2.1 ≠ 9 := fun q => hto (by simp [r_to, h3, q])
    exact ⟨by omega, by simp [r_nx, h3, hq]⟩
  · have hq : (r_at f ch s0 k).2.1 ≠ 0 := fun q => hto (by simp [r_to, h4, q])
    exact ⟨by omega, by simp [r_nx, h4, hq]⟩
  · simp [r_nx, n3, n4]
theorem c_T_of {f : Int → Int} {ch : r_H} {s0 : Int} {p n : Nat} {μ : tp_M} (h : r_R f ch s0 p n μ) : c_T p n (r_A f ch s0) (r_B f ch s0) (r_Y f ch s0) (r_E f ch s0 n) (r_dp f ch s0 n) ((r_at f ch s0 n).2.2.2.1) (r_rt f ch s0 n) μ := by
  obtain ⟨h1, h2, h3, h4, h5, h6, h7, h8⟩ := h
  have hx : ∀ j : Int, 0 ≤ j → j < (n : Int) → ∃ k : Nat, j = (k : Int) ∧ k < n := fun j a b => ⟨j.toNat, by omega, by omega⟩
  refine ⟨h3, fun j a b => ?_, fun j a b => ?_, fun j a b => ?_, h5, h6, h7, h8⟩
  · obtain ⟨k, rfl, hk⟩ := hx j a b; exact (h4 k hk).1
  · obtain ⟨k, rfl, hk⟩ := hx j a b; exact (h4 k hk).2.1
  · obtain ⟨k, rfl, hk⟩ := hx j a b; exact (h4 k hk).2.2
/-! a drive uses no seed -/
theorem r_at_s {f g : Int → Int} {s : Int} : ∀ k : Nat, r_at f (r_dr g) s k = ((r_at f (r_dr g) 0 k).1, (r_at f (r_dr g) 0 k).2.1, (r_at f (r_dr g) 0 k).2.2.1, (r_at f (r_dr g) 0 k).2.2.2.1, s) := by
  intro k
  induction k with
  | zero => rfl
  | succ k ih =>
    show r_nx f (r_dr g) (r_at f (r_dr g) s k) = _
    rw [ih]
    show _ = ((r_nx f (r_dr g) (r_at f (r_dr g) 0 k)).1, (r_nx f (r_dr g) (r_at f (r_dr g) 0 k)).2.1, (r_nx f (r_dr g) (r_at f (r_dr g) 0 k)).2.2.1, (r_nx f (r_dr g) (r_at f (r_dr g) 0 k)).2.2.2.1, s)
    refine Prod.ext rfl (Prod.ext rfl (Prod.ext rfl (Prod.ext rfl ?_)))
    show (if _ then s else if _ then s else s) = s
    split
    · rfl
    · split <;> rfl
theorem r_en_s {f g : Int → Int} {s : Int} (k : Nat) : r_en f (r_dr g) (r_at f (r_dr g) s k) k = r_en f (r_dr g) (r_at f (r_dr g) 0 k) k := by rw [r_at_s]; rfl
theorem r_go_s {f g : Int → Int} {s : Int} : ∀ k : Nat, r_go f (r_dr g) s k ↔ r_go f (r_dr g) 0 k := by
  intro k
  induction k with
  | zero => exact Iff.rfl
  | succ k ih => exact and_congr ih (by rw [r_en_s])
theorem r_N_s {f g : Int → Int} {s : Int} {n : Nat} : r_N f (r_dr g) s n ↔ r_N f (r_dr g) 0 n := and_congr (forall_congr' fun k => imp_congr_right fun _ => r_go_s k) (not_congr (r_go_s n))
theorem r_E_s {f g : Int → Int} {s : Int} (n : Nat) : r_E f (r_dr g) s n = r_E f (r_dr g) 0 n := by
  cases n with
  | zero => rfl
  | succ n => exact r_en_s n
theorem r_dp_s {f g : Int → Int} {s : Int} : ∀ n : Nat, r_dp f (r_dr g) s n = r_dp f (r_dr g) 0 n := by
  intro n
  induction n with
  | zero => rfl
  | succ n ih => unfold r_dp; rw [ih, r_at_s n]
theorem r_rt_s {f g : Int → Int} {s : Int} : ∀ n : Nat, r_rt f (r_dr g) s n = r_rt f (r_dr g) 0 n := by
  intro n
  induction n with
  | zero => rfl
  | succ n ih => unfold r_rt; rw [ih, r_at_s n]
theorem r_A_s {f g : Int → Int} {s : Int} : r_A f (r_dr g) s = r_A f (r_dr g) 0 := by funext j; unfold r_A; rw [r_at_s]
theorem r_B_s {f g : Int → Int} {s : Int} : r_B f (r_dr g) s = r_B f (r_dr g) 0 := by funext j; unfold r_B; rw [r_at_s]; rfl
theorem r_Y_s {f g : Int → Int} {s : Int} : r_Y f (r_dr g) s = r_Y f (r_dr g) 0 := by funext j; unfold r_Y; rw [r_at_s]; rfl
theorem r_U_s {f g : Int → Int} {s : Int} (n : Nat) : (r_at f (r_dr g) s n).2.2.2.1 = (r_at f (r_dr g) 0 n).2.2.2.1 := by rw [r_at_s]

theorem r_Hc_dr50 {G : tp_G} (hG : tp_Gf G = true) {d : Nat} {g : Int → Int} {μ0 : tp_M} (hd : tp_SH d = .inl 6) (hdn : d < 39) (hdr : μ0.2 50 7 = some d) (hg0 : μ0.1 d 2 = g 0) (hgv : ∀ i, 0 ≤ i → i < g 0 → μ0.1 (d + 1) i = g (1 + i)) (hgw : tp_Dw g) (hln : g 0 ≤ (tp_ln (d + 1) : Int)) : r_Hc G (r_dr g) 50 μ0 := by
  intro μ a dp us sd stk hF hM hu hu2 b
  have h1 : μ.2 50 7 = some d := by rw [hF.2.2]; exact hdr
  have h2 : μ.1 d 2 = g 0 := by rw [hF.1 d (by omega)]; exact hg0
  have h3 : ∀ i, 0 ≤ i → i < g 0 → μ.1 (d + 1) i = g (1 + i) := by rw [hF.1 (d + 1) (by omega)]; exact hgv
  have e13 : μ.1 50 13 = us := hM.2.2.1
  have e8 : μ.1 50 8 = sd := hM.2.2.2
  have e : tp_pi μ 50 8 sd = μ := by rw [← e8]; exact tp_pi_self
  subst e13
  cases b with
  | true =>
    have q := s_cho50_1 (s := sd) hG hd hdn h1 h2 h3 hgw hln (by omega) (by omega)
    show tp_k G mX7_chosen [tR (some 50), tI 1] μ (fun r μ' => r = some (tI (r_dr g (μ.1 50 13) sd true).1) ∧ μ' = tp_cho (tp_pi μ 50 8 sd) 50 (r_dr g (μ.1 50 13) sd true).1)
    rw [e]
    exact q
  | false =>
    have q := s_cho50_0 (s := sd) hG hd hdn h1 h2 h3 hgw hln (by omega) (by omega)
    show tp_k G mX7_chosen [tR (some 50), tI 0] μ (fun r μ' => r = some (tI (r_dr g (μ.1 50 13) sd false).1) ∧ μ' = tp_cho (tp_pi μ 50 8 sd) 50 (r_dr g (μ.1 50 13) sd false).1)
    rw [e]
    exact q
set_option maxHeartbeats 4000000 in
set_option maxRecDepth 100000 in
theorem s_go50 {G : tp_G} {μ : tp_M} (hG : tp_Gf G = true) {c : Nat} {f : Int → Int} {ch : r_H} (hc : tp_SH c = .inl 0) (hcl : c < 37) (hcode : μ.2 50 5 = some c) (hcd : tp_Cd c f μ) (hw : tp_Cw f) (hsrc : r_src ch) (HC : r_Hc G ch 50 μ) : tp_k G mX7_go [tR (some 50)] μ (fun r μ' => r = none ∧ (∃ n, r_R f ch (μ.1 50 8) 50 n μ') ∧ r_F 50 μ μ') := by
  refine tp_ok_of mX7_go_ok rfl (Nat.le_refl _) ?_
  refine g_aload_n rfl rfl ?_
  refine g_iconst rfl ⟨by decide, by decide⟩ ?_
  refine g_puti rfl rfl (by decide) rfl rfl ?_
  refine g_aload_n rfl rfl ?_
  refine g_iconst rfl ⟨by decide, by decide⟩ ?_
  refine g_puti rfl rfl (by decide) rfl rfl ?_
  refine g_aload_n rfl rfl ?_
  refine g_iconst rfl ⟨by decide, by decide⟩ ?_
  refine g_puti rfl rfl (by decide) rfl rfl ?_
  refine g_aload_n rfl rfl ?_
  refine g_iconst rfl ⟨by decide, by decide⟩ ?_
  refine g_puti rfl rfl (by decide) rfl rfl ?_
  refine g_aload_n rfl rfl ?_
  refine g_iconst rfl ⟨by decide, by decide⟩ ?_
  refine g_puti rfl rfl (by decide) rfl rfl ?_
  refine g_aload_n rfl rfl ?_
  refine g_iconst rfl ⟨by decide, by decide⟩ ?_
  refine g_puti rfl rfl (by decide) rfl rfl ?_
  refine g_iconst rfl ⟨by decide, by decide⟩ ?_
  refine g_istore_n rfl rfl rfl ?_
  refine g_iconst rfl ⟨by decide, by decide⟩ ?_
  refine g_istore_n rfl rfl rfl ?_
  have hJ0 : r_J f ch (μ.1 50 8) 50 μ 0 (tp_pi (tp_pi (tp_pi (tp_pi (tp_pi (tp_pi μ 50 6 0) 50 10 0) 50 12 0) 50 13 0) 50 14 0) 50 11 3) := ⟨fun j hj => absurd hj (Nat.not_lt_zero j), fun j hj => by omega, ⟨rfl, fun i g1 g2 => absurd g2 (by show ¬ i < 0; omega), rfl, rfl⟩, rfl, fun j hj => absurd hj (Nat.not_lt_zero j), rfl, rfl, rfl, ⟨fun c' h9 => by rw [tp_pi_ne (by omega), tp_pi_ne (by omega), tp_pi_ne (by omega), tp_pi_ne (by omega), tp_pi_ne (by omega), tp_pi_ne (by omega)], rfl, rfl⟩⟩
  exact l_go50 hG hc hcl hcode hcd.1 hcd.2.1 hcd.2.2.1 hw hsrc HC 200 0 (by omega) _ hJ0
theorem r_Hc_dr56 {G : tp_G} (hG : tp_Gf G = true) {d : Nat} {g : Int → Int} {μ0 : tp_M} (hd : tp_SH d = .inl 6) (hdn : d < 39) (hdr : μ0.2 56 7 = some d) (hg0 : μ0.1 d 2 = g 0) (hgv : ∀ i, 0 ≤ i → i < g 0 → μ0.1 (d + 1) i = g (1 + i)) (hgw : tp_Dw g) (hln : g 0 ≤ (tp_ln (d + 1) : Int)) : r_Hc G (r_dr g) 56 μ0 := by
  intro μ a dp us sd stk hF hM hu hu2 b
  have h1 : μ.2 56 7 = some d := by rw [hF.2.2]; exact hdr
  have h2 : μ.1 d 2 = g 0 := by rw [hF.1 d (by omega)]; exact hg0
  have h3 : ∀ i, 0 ≤ i → i < g 0 → μ.1 (d + 1) i = g (1 + i) := by rw [hF.1 (d + 1) (by omega)]; exact hgv
  have e13 : μ.1 56 13 = us := hM.2.2.1
  have e8 : μ.1 56 8 = sd := hM.2.2.2
  have e : tp_pi μ 56 8 sd = μ := by rw [← e8]; exact tp_pi_self
  subst e13
  cases b with
  | true =>
    have q := s_cho56_1 (s := sd) hG hd hdn h1 h2 h3 hgw hln (by omega) (by omega)
    show tp_k G mX7_chosen [tR (some 56), tI 1] μ (fun r μ' => r = some (tI (r_dr g (μ.1 56 13) sd true).1) ∧ μ' = tp_cho (tp_pi μ 56 8 sd) 56 (r_dr g (μ.1 56 13) sd true).1)
    rw [e]
    exact q
  | false =>
    have q := s_cho56_0 (s := sd) hG hd hdn h1 h2 h3 hgw hln (by omega) (by omega)
    show tp_k G mX7_chosen [tR (some 56), tI 0] μ (fun r μ' => r = some (tI (r_dr g (μ.1 56 13) sd false).1) ∧ μ' = tp_cho (tp_pi μ 56 8 sd) 56 (r_dr g (μ.1 56 13) sd false).1)
    rw [e]
    exact q
set_option maxHeartbeats 4000000 in
set_option maxRecDepth 100000 in
theorem s_go56 {G : tp_G} {μ : tp_M} (hG : tp_Gf G = true) {c : Nat} {f : Int → Int} {ch : r_H} (hc : tp_SH c = .inl 0) (hcl : c < 37) (hcode : μ.2 56 5 = some c) (hcd : tp_Cd c f μ) (hw : tp_Cw f) (hsrc : r_src ch) (HC : r_Hc G ch 56 μ) : tp_k G mX7_go [tR (some 56)] μ (fun r μ' => r = none ∧ (∃ n, r_R f ch (μ.1 56 8) 56 n μ') ∧ r_F 56 μ μ') := by
  refine tp_ok_of mX7_go_ok rfl (Nat.le_refl _) ?_
  refine g_aload_n rfl rfl ?_
  refine g_iconst rfl ⟨by decide, by decide⟩ ?_
  refine g_puti rfl rfl (by decide) rfl rfl ?_
  refine g_aload_n rfl rfl ?_
  refine g_iconst rfl ⟨by decide, by decide⟩ ?_
  refine g_puti rfl rfl (by decide) rfl rfl ?_
  refine g_aload_n rfl rfl ?_
  refine g_iconst rfl ⟨by decide, by decide⟩ ?_
  refine g_puti rfl rfl (by decide) rfl rfl ?_
  refine g_aload_n rfl rfl ?_
  refine g_iconst rfl ⟨by decide, by decide⟩ ?_
  refine g_puti rfl rfl (by decide) rfl rfl ?_
  refine g_aload_n rfl rfl ?_
  refine g_iconst rfl ⟨by decide, by decide⟩ ?_
  refine g_puti rfl rfl (by decide) rfl rfl ?_
  refine g_aload_n rfl rfl ?_
  refine g_iconst rfl ⟨by decide, by decide⟩ ?_
  refine g_puti rfl rfl (by decide) rfl rfl ?_
  refine g_iconst rfl ⟨by decide, by decide⟩ ?_
  refine g_istore_n rfl rfl rfl ?_
  refine g_iconst rfl ⟨by decide, by decide⟩ ?_
  refine g_istore_n rfl rfl rfl ?_
  have hJ0 : r_J f ch (μ.1 56 8) 56 μ 0 (tp_pi (tp_pi (tp_pi (tp_pi (tp_pi (tp_pi μ 56 6 0) 56 10 0) 56 12 0) 56 13 0) 56 14 0) 56 11 3) := ⟨fun j hj => absurd hj (Nat.not_lt_zero j), fun j hj => by omega, ⟨rfl, fun i g1 g2 => absurd g2 (by show ¬ i < 0; omega), rfl, rfl⟩, rfl, fun j hj => absurd hj (Nat.not_lt_zero j), rfl, rfl, rfl, ⟨fun c' h9 => by rw [tp_pi_ne (by omega), tp_pi_ne (by omega), tp_pi_ne (by omega), tp_pi_ne (by omega), tp_pi_ne (by omega), tp_pi_ne (by omega)], rfl, rfl⟩⟩
  exact l_go56 hG hc hcl hcode hcd.1 hcd.2.1 hcd.2.2.1 hw hsrc HC 200 0 (by omega) _ hJ0
/-- the class's run of a code by a drive -/
def c_D (f g : Int → Int) (p n : Nat) (μ : tp_M) : Prop := c_T p n (r_A f (r_dr g) 0) (r_B f (r_dr g) 0) (r_Y f (r_dr g) 0) (r_E f (r_dr g) 0 n) (r_dp f (r_dr g) 0 n) ((r_at f (r_dr g) 0 n).2.2.2.1) (r_rt f (r_dr g) 0 n) μ
theorem c_D_of {f g : Int → Int} {s : Int} {p n m : Nat} {μ : tp_M} (hn : r_N f (r_dr g) 0 n) (h : r_R f (r_dr g) s p m μ) : c_D f g p n μ := by
  have hm : m = n := r_N_uniq (r_N_s.mp h.1) hn
  subst hm
  have q := c_T_of h
  rw [r_A_s, r_B_s, r_Y_s, r_E_s, r_dp_s, r_U_s, r_rt_s] at q
  exact q
set_option maxHeartbeats 4000000 in
set_option maxRecDepth 100000 in
theorem s_follow00 {G : tp_G} {μ : tp_M} (hG : tp_Gf G = true) (hR : tp_R μ) (hk1 : 0 < μ.1 5 0) (hd1 : 0 < μ.1 5 1) {f g : Int → Int} (ef : f = tp_cf μ 0) (eg : g = tp_df μ 0) {n : Nat} (hn : r_N f (r_dr g) 0 n) : tp_k G mX11_follow [tR (some 0), tI 0, tI 0] μ (fun r μ' => r = some (tI 1) ∧ c_D f g 50 n μ' ∧ μ'.2 50 5 = some 6 ∧ (∀ c', (c' < 50 ∨ 54 < c') → μ'.1 c' = μ.1 c')) := by
  have hC : tp_Cd 6 f μ ∧ tp_Cw f := by rw [ef]; exact tp_Cd_R hR (k := 0) (by decide) hk1
  have hD : μ.1 22 2 = g 0 ∧ (∀ i, 0 ≤ i → i < g 0 → μ.1 23 i = g (1 + i)) ∧ tp_Dw g := by rw [eg]; exact tp_R_drive hR 0 (by decide) hd1
  refine tp_ok_of mX11_follow_ok rfl (Nat.le_refl _) ?_
  refine g_aload_n rfl rfl ?_
  refine x_getF (r := 1) hG rfl rfl (by decide) (Or.inl ⟨_, rfl⟩) rfl ?_
  refine g_iload_n rfl rfl ?_
  refine g_cV (as := [tI 0]) (s_codeOf0 hG hk1) rfl rfl mX9_codeOf_ok rfl rfl rfl (by decide) rfl rfl rfl ?_
  rintro _ w9 ⟨rfl, hw9⟩ _
  have hw9 := hw9.symm
  subst hw9
  refine g_astore_n rfl rfl rfl ?_
  refine g_aload_n rfl rfl ?_
  refine x_getF (r := 1) hG rfl rfl (by decide) (Or.inl ⟨_, rfl⟩) rfl ?_
  refine g_iconst rfl ⟨by decide, by decide⟩ ?_
  refine g_iload_n rfl rfl ?_
  refine g_cV (as := [tI 1, tI 0]) (s_rowOf10 hG hd1) rfl rfl mX9_rowOf_ok rfl rfl rfl (by decide) rfl rfl rfl ?_
  rintro _ w9 ⟨rfl, hw9⟩ _
  have hw9 := hw9.symm
  subst hw9
  refine g_astore rfl rfl rfl ?_
  refine g_aload_n rfl rfl ?_
  refine g_ifnull (tgt := 29) rfl (by decide) (fun hx => by cases hx) (fun _ _ => ?_)
  refine g_aload rfl rfl ?_
  refine g_ifnonnull (tgt := 31) rfl (by decide) (fun _ _ => ?_) (fun hx => by cases hx)
  refine g_aload_n rfl rfl ?_
  refine x_getF (r := 50) hG rfl rfl (by decide) (Or.inl ⟨_, rfl⟩) rfl ?_
  refine g_aload_n rfl rfl ?_
  refine g_aload rfl rfl ?_
  refine g_iV (as := [tR (some 6), tR (some 22)]) mX7_driveBy_ok rfl rfl rfl rfl rfl rfl (by decide) rfl rfl rfl ?_
  refine g_aload_n rfl rfl ?_
  refine g_aload_n rfl rfl ?_
  refine x_putr rfl rfl (by decide) rfl (Or.inl ⟨_, rfl⟩) rfl ?_
  refine g_aload_n rfl rfl ?_
  refine g_aload_n rfl rfl ?_
  refine x_putr rfl rfl (by decide) rfl (Or.inl ⟨_, rfl⟩) rfl ?_
  refine x_return rfl rfl ?_
  intro _
  refine g_aload_n rfl rfl ?_
  refine x_getF (r := 50) hG rfl rfl (by decide) (Or.inl ⟨_, rfl⟩) rfl ?_
  refine g_cV (as := []) (s_go50 (c := 6) (f := f) (ch := r_dr g) hG rfl (by decide) rfl hC.1 hC.2 (r_src_dr hD.2.2) (r_Hc_dr50 hG (d := 22) rfl (by decide) rfl hD.1 hD.2.1 hD.2.2 (by show _ ≤ ((60 : Nat) : Int); have := hD.2.2.1; omega))) rfl rfl mX7_go_ok rfl rfl rfl (by decide) rfl rfl rfl ?_
  rintro _ w1 ⟨rfl, ⟨m, hr⟩, hF⟩ _
  refine g_iconst rfl ⟨by decide, by decide⟩ ?_
  refine x_zreturn rfl rfl (Or.inr rfl) ?_
  exact ⟨rfl, c_D_of hn hr, by rw [hF.2.2]; rfl, fun c' h9 => hF.1 c' h9⟩
set_option maxHeartbeats 4000000 in
set_option maxRecDepth 100000 in
theorem s_follow01 {G : tp_G} {μ : tp_M} (hG : tp_Gf G = true) (hR : tp_R μ) (hk1 : 0 < μ.1 5 0) (hd1 : 1 < μ.1 5 1) {f g : Int → Int} (ef : f = tp_cf μ 0) (eg : g = tp_df μ 1) {n : Nat} (hn : r_N f (r_dr g) 0 n) : tp_k G mX11_follow [tR (some 0), tI 0, tI 1] μ (fun r μ' => r = some (tI 1) ∧ c_D f g 50 n μ' ∧ μ'.2 50 5 = some 6 ∧ (∀ c', (c' < 50 ∨ 54 < c') → μ'.1 c' = μ.1 c')) := by
  have hC : tp_Cd 6 f μ ∧ tp_Cw f := by rw [ef]; exact tp_Cd_R hR (k := 0) (by decide) hk1
  have hD : μ.1 25 2 = g 0 ∧ (∀ i, 0 ≤ i → i < g 0 → μ.1 26 i = g (1 + i)) ∧ tp_Dw g := by rw [eg]; exact tp_R_drive hR 1 (by decide) hd1
  refine tp_ok_of mX11_follow_ok rfl (Nat.le_refl _) ?_
  refine g_aload_n rfl rfl ?_
  refine x_getF (r := 1) hG rfl rfl (by decide) (Or.inl ⟨_, rfl⟩) rfl ?_
  refine g_iload_n rfl rfl ?_
  refine g_cV (as := [tI 0]) (s_codeOf0 hG hk1) rfl rfl mX9_codeOf_ok rfl rfl rfl (by decide) rfl rfl rfl ?_
  rintro _ w9 ⟨rfl, hw9⟩ _
  have hw9 := hw9.symm
  subst hw9
  refine g_astore_n rfl rfl rfl ?_
  refine g_aload_n rfl rfl ?_
  refine x_getF (r := 1) hG rfl rfl (by decide) (Or.inl ⟨_, rfl⟩) rfl ?_
  refine g_iconst rfl ⟨by decide, by decide⟩ ?_
  refine g_iload_n rfl rfl ?_
  refine g_cV (as := [tI 1, tI 1]) (s_rowOf11 hG hd1) rfl rfl mX9_rowOf_ok rfl rfl rfl (by decide) rfl rfl rfl ?_
  rintro _ w9 ⟨rfl, hw9⟩ _
  have hw9 := hw9.symm
  subst hw9
  refine g_astore rfl rfl rfl ?_
  refine g_aload_n rfl rfl ?_
  refine g_ifnull (tgt := 29) rfl (by decide) (fun hx => by cases hx) (fun _ _ => ?_)
  refine g_aload rfl rfl ?_
  refine g_ifnonnull (tgt := 31) rfl (by decide) (fun _ _ => ?_) (fun hx => by cases hx)
  refine g_aload_n rfl rfl ?_
  refine x_getF (r := 50) hG rfl rfl (by decide) (Or.inl ⟨_, rfl⟩) rfl ?_
  refine g_aload_n rfl rfl ?_
  refine g_aload rfl rfl ?_
  refine g_iV (as := [tR (some 6), tR (some 25)]) mX7_driveBy_ok rfl rfl rfl rfl rfl rfl (by decide) rfl rfl rfl ?_
  refine g_aload_n rfl rfl ?_
  refine g_aload_n rfl rfl ?_
  refine x_putr rfl rfl (by decide) rfl (Or.inl ⟨_, rfl⟩) rfl ?_
  refine g_aload_n rfl rfl ?_
  refine g_aload_n rfl rfl ?_
  refine x_putr rfl rfl (by decide) rfl (Or.inl ⟨_, rfl⟩) rfl ?_
  refine x_return rfl rfl ?_
  intro _
  refine g_aload_n rfl rfl ?_
  refine x_getF (r := 50) hG rfl rfl (by decide) (Or.inl ⟨_, rfl⟩) rfl ?_
  refine g_cV (as := []) (s_go50 (c := 6) (f := f) (ch := r_dr g) hG rfl (by decide) rfl hC.1 hC.2 (r_src_dr hD.2.2) (r_Hc_dr50 hG (d := 25) rfl (by decide) rfl hD.1 hD.2.1 hD.2.2 (by show _ ≤ ((60 : Nat) : Int); have := hD.2.2.1; omega))) rfl rfl mX7_go_ok rfl rfl rfl (by decide) rfl rfl rfl ?_
  rintro _ w1 ⟨rfl, ⟨m, hr⟩, hF⟩ _
  refine g_iconst rfl ⟨by decide, by decide⟩ ?_
  refine x_zreturn rfl rfl (Or.inr rfl) ?_
  exact ⟨rfl, c_D_of hn hr, by rw [hF.2.2]; rfl, fun c' h9 => hF.1 c' h9⟩
set_option maxHeartbeats 4000000 in
set_option maxRecDepth 100000 in
theorem s_follow10 {G : tp_G} {μ : tp_M} (hG : tp_Gf G = true) (hR : tp_R μ) (hk1 : 1 < μ.1 5 0) (hd1 : 0 < μ.1 5 1) {f g : Int → Int} (ef : f = tp_cf μ 1) (eg : g = tp_df μ 0) {n : Nat} (hn : r_N f (r_dr g) 0 n) : tp_k G mX11_follow [tR (some 0), tI 1, tI 0] μ (fun r μ' => r = some (tI 1) ∧ c_D f g 50 n μ' ∧ μ'.2 50 5 = some 11 ∧ (∀ c', (c' < 50 ∨ 54 < c') → μ'.1 c' = μ.1 c')) := by
  have hC : tp_Cd 11 f μ ∧ tp_Cw f := by rw [ef]; exact tp_Cd_R hR (k := 1) (by decide) hk1
  have hD : μ.1 22 2 = g 0 ∧ (∀ i, 0 ≤ i → i < g 0 → μ.1 23 i = g (1 + i)) ∧ tp_Dw g := by rw [eg]; exact tp_R_drive hR 0 (by decide) hd1
  refine tp_ok_of mX11_follow_ok rfl (Nat.le_refl _) ?_
  refine g_aload_n rfl rfl ?_
  refine x_getF (r := 1) hG rfl rfl (by decide) (Or.inl ⟨_, rfl⟩) rfl ?_
  refine g_iload_n rfl rfl ?_
  refine g_cV (as := [tI 1]) (s_codeOf1 hG hk1) rfl rfl mX9_codeOf_ok rfl rfl rfl (by decide) rfl rfl rfl ?_
  rintro _ w9 ⟨rfl, hw9⟩ _
  have hw9 := hw9.symm
  subst hw9
  refine g_astore_n rfl rfl rfl ?_
  refine g_aload_n rfl rfl ?_
  refine x_getF (r := 1) hG rfl rfl (by decide) (Or.inl ⟨_, rfl⟩) rfl ?_
  refine g_iconst rfl ⟨by decide, by decide⟩ ?_
  refine g_iload_n rfl rfl ?_
  refine g_cV (as := [tI 1, tI 0]) (s_rowOf10 hG hd1) rfl rfl mX9_rowOf_ok rfl rfl rfl (by decide) rfl rfl rfl ?_
  rintro _ w9 ⟨rfl, hw9⟩ _
  have hw9 := hw9.symm
  subst hw9
  refine g_astore rfl rfl rfl ?_
  refine g_aload_n rfl rfl ?_
  refine g_ifnull (tgt := 29) rfl (by decide) (fun hx => by cases hx) (fun _ _ => ?_)
  refine g_aload rfl rfl ?_
  refine g_ifnonnull (tgt := 31) rfl (by decide) (fun _ _ => ?_) (fun hx => by cases hx)
  refine g_aload_n rfl rfl ?_
  refine x_getF (r := 50) hG rfl rfl (by decide) (Or.inl ⟨_, rfl⟩) rfl ?_
  refine g_aload_n rfl rfl ?_
  refine g_aload rfl rfl ?_
  refine g_iV (as := [tR (some 11), tR (some 22)]) mX7_driveBy_ok rfl rfl rfl rfl rfl rfl (by decide) rfl rfl rfl ?_
  refine g_aload_n rfl rfl ?_
  refine g_aload_n rfl rfl ?_
  refine x_putr rfl rfl (by decide) rfl (Or.inl ⟨_, rfl⟩) rfl ?_
  refine g_aload_n rfl rfl ?_
  refine g_aload_n rfl rfl ?_
  refine x_putr rfl rfl (by decide) rfl (Or.inl ⟨_, rfl⟩) rfl ?_
  refine x_return rfl rfl ?_
  intro _
  refine g_aload_n rfl rfl ?_
  refine x_getF (r := 50) hG rfl rfl (by decide) (Or.inl ⟨_, rfl⟩) rfl ?_
  refine g_cV (as := []) (s_go50 (c := 11) (f := f) (ch := r_dr g) hG rfl (by decide) rfl hC.1 hC.2 (r_src_dr hD.2.2) (r_Hc_dr50 hG (d := 22) rfl (by decide) rfl hD.1 hD.2.1 hD.2.2 (by show _ ≤ ((60 : Nat) : Int); have := hD.2.2.1; omega))) rfl rfl mX7_go_ok rfl rfl rfl (by decide) rfl rfl rfl ?_
  rintro _ w1 ⟨rfl, ⟨m, hr⟩, hF⟩ _
  refine g_iconst rfl ⟨by decide, by decide⟩ ?_
  refine x_zreturn rfl rfl (Or.inr rfl) ?_
  exact ⟨rfl, c_D_of hn hr, by rw [hF.2.2]; rfl, fun c' h9 => hF.1 c' h9⟩
set_option maxHeartbeats 4000000 in
set_option maxRecDepth 100000 in
theorem s_follow11 {G : tp_G} {μ : tp_M} (hG : tp_Gf G = true) (hR : tp_R μ) (hk1 : 1 < μ.1 5 0) (hd1 : 1 < μ.1 5 1) {f g : Int → Int} (ef : f = tp_cf μ 1) (eg : g = tp_df μ 1) {n : Nat} (hn : r_N f (r_dr g) 0 n) : tp_k G mX11_follow [tR (some 0), tI 1, tI 1] μ (fun r μ' => r = some (tI 1) ∧ c_D f g 50 n μ' ∧ μ'.2 50 5 = some 11 ∧ (∀ c', (c' < 50 ∨ 54 < c') → μ'.1 c' = μ.1 c')) := by
  have hC : tp_Cd 11 f μ ∧ tp_Cw f := by rw [ef]; exact tp_Cd_R hR (k := 1) (by decide) hk1
  have hD : μ.1 25 2 = g 0 ∧ (∀ i, 0 ≤ i → i < g 0 → μ.1 26 i = g (1 + i)) ∧ tp_Dw g := by rw [eg]; exact tp_R_drive hR 1 (by decide) hd1
  refine tp_ok_of mX11_follow_ok rfl (Nat.le_refl _) ?_
  refine g_aload_n rfl rfl ?_
  refine x_getF (r := 1) hG rfl rfl (by decide) (Or.inl ⟨_, rfl⟩) rfl ?_
  refine g_iload_n rfl rfl ?_
  refine g_cV (as := [tI 1]) (s_codeOf1 hG hk1) rfl rfl mX9_codeOf_ok rfl rfl rfl (by decide) rfl rfl rfl ?_
  rintro _ w9 ⟨rfl, hw9⟩ _
  have hw9 := hw9.symm
  subst hw9
  refine g_astore_n rfl rfl rfl ?_
  refine g_aload_n rfl rfl ?_
  refine x_getF (r := 1) hG rfl rfl (by decide) (Or.inl ⟨_, rfl⟩) rfl ?_
  refine g_iconst rfl ⟨by decide, by decide⟩ ?_
  refine g_iload_n rfl rfl ?_
  refine g_cV (as := [tI 1, tI 1]) (s_rowOf11 hG hd1) rfl rfl mX9_rowOf_ok rfl rfl rfl (by decide) rfl rfl rfl ?_
  rintro _ w9 ⟨rfl, hw9⟩ _
  have hw9 := hw9.symm
  subst hw9
  refine g_astore rfl rfl rfl ?_
  refine g_aload_n rfl rfl ?_
  refine g_ifnull (tgt := 29) rfl (by decide) (fun hx => by cases hx) (fun _ _ => ?_)
  refine g_aload rfl rfl ?_
  refine g_ifnonnull (tgt := 31) rfl (by decide) (fun _ _ => ?_) (fun hx => by cases hx)
  refine g_aload_n rfl rfl ?_
  refine x_getF (r := 50) hG rfl rfl (by decide) (Or.inl ⟨_, rfl⟩) rfl ?_
  refine g_aload_n rfl rfl ?_
  refine g_aload rfl rfl ?_
  refine g_iV (as := [tR (some 11), tR (some 25)]) mX7_driveBy_ok rfl rfl rfl rfl rfl rfl (by decide) rfl rfl rfl ?_
  refine g_aload_n rfl rfl ?_
  refine g_aload_n rfl rfl ?_
  refine x_putr rfl rfl (by decide) rfl (Or.inl ⟨_, rfl⟩) rfl ?_
  refine g_aload_n rfl rfl ?_
  refine g_aload_n rfl rfl ?_
  refine x_putr rfl rfl (by decide) rfl (Or.inl ⟨_, rfl⟩) rfl ?_
  refine x_return rfl rfl ?_
  intro _
  refine g_aload_n rfl rfl ?_
  refine x_getF (r := 50) hG rfl rfl (by decide) (Or.inl ⟨_, rfl⟩) rfl ?_
  refine g_cV (as := []) (s_go50 (c := 11) (f := f) (ch := r_dr g) hG rfl (by decide) rfl hC.1 hC.2 (r_src_dr hD.2.2) (r_Hc_dr50 hG (d := 25) rfl (by decide) rfl hD.1 hD.2.1 hD.2.2 (by show _ ≤ ((60 : Nat) : Int); have := hD.2.2.1; omega))) rfl rfl mX7_go_ok rfl rfl rfl (by decide) rfl rfl rfl ?_
  rintro _ w1 ⟨rfl, ⟨m, hr⟩, hF⟩ _
  refine g_iconst rfl ⟨by decide, by decide⟩ ?_
  refine x_zreturn rfl rfl (Or.inr rfl) ?_
  exact ⟨rfl, c_D_of hn hr, by rw [hF.2.2]; rfl, fun c' h9 => hF.1 c' h9⟩
theorem s_follow {G : tp_G} {μ : tp_M} (hG : tp_Gf G = true) (hR : tp_R μ) {k d : Nat} (hk : k < 2) (hd : d < 2) (hk1 : (k : Int) < μ.1 5 0) (hd1 : (d : Int) < μ.1 5 1) {f g : Int → Int} (ef : f = tp_cf μ k) (eg : g = tp_df μ d) {n : Nat} (hn : r_N f (r_dr g) 0 n) : tp_k G mX11_follow [tR (some 0), tI k, tI d] μ (fun r μ' => r = some (tI 1) ∧ c_D f g 50 n μ' ∧ μ'.2 50 5 = some (6 + 5 * k) ∧ (∀ c', (c' < 50 ∨ 54 < c') → μ'.1 c' = μ.1 c')) := by
  rcases (show k = 0 ∨ k = 1 by omega) with rfl | rfl <;> rcases (show d = 0 ∨ d = 1 by omega) with rfl | rfl
  · exact s_follow00 hG hR hk1 hd1 ef eg hn
  · exact s_follow01 hG hR hk1 hd1 ef eg hn
  · exact s_follow10 hG hR hk1 hd1 ef eg hn
  · exact s_follow11 hG hR hk1 hd1 ef eg hn
set_option maxHeartbeats 4000000 in
set_option maxRecDepth 100000 in
theorem s_followo {G : tp_G} {μ : tp_M} (hG : tp_Gf G = true) {k d : Int} (h0 : 0 ≤ μ.1 5 0 ∧ μ.1 5 0 ≤ 2) (h1 : 0 ≤ μ.1 5 1 ∧ μ.1 5 1 ≤ 2) (h : (k < 0 ∨ μ.1 5 0 ≤ k) ∨ (d < 0 ∨ μ.1 5 1 ≤ d)) : tp_k G mX11_follow [tR (some 0), tI k, tI d] μ (fun r μ' => r = some (tI 0) ∧ μ' = μ) := by
  refine tp_ok_of mX11_follow_ok rfl (Nat.le_refl _) ?_
  rcases (show (k = 0 ∧ 0 < μ.1 5 0) ∨ (k = 1 ∧ 1 < μ.1 5 0) ∨ ((k < 0 ∨ μ.1 5 0 ≤ k) ∧ μ.1 5 0 ≤ 2) by omega) with ⟨rfl, hk⟩ | ⟨rfl, hk⟩ | hk <;> rcases (show (d = 0 ∧ 0 < μ.1 5 1) ∨ (d = 1 ∧ 1 < μ.1 5 1) ∨ ((d < 0 ∨ μ.1 5 1 ≤ d) ∧ μ.1 5 1 ≤ 2) by omega) with ⟨rfl, hd⟩ | ⟨rfl, hd⟩ | hd
  · omega
  · omega
  · refine g_aload_n rfl rfl ?_
    refine x_getF (r := 1) hG rfl rfl (by decide) (Or.inl ⟨_, rfl⟩) rfl ?_
    refine g_iload_n rfl rfl ?_
    refine g_cV (as := [tI 0]) (s_codeOf0 hG hk) rfl rfl mX9_codeOf_ok rfl rfl rfl (by decide) rfl rfl rfl ?_
    rintro _ w9 ⟨rfl, hw9⟩ _
    have hw9 := hw9.symm
    subst hw9
    refine g_astore_n rfl rfl rfl ?_
    refine g_aload_n rfl rfl ?_
    refine x_getF (r := 1) hG rfl rfl (by decide) (Or.inl ⟨_, rfl⟩) rfl ?_
    refine g_iconst rfl ⟨by decide, by decide⟩ ?_
    refine g_iload_n rfl rfl ?_
    refine g_cV (as := [tI 1, tI d]) (s_rowOf1o hG hd) rfl rfl mX9_rowOf_ok rfl rfl rfl (by decide) rfl rfl rfl ?_
    rintro _ w9 ⟨rfl, hw9⟩ _
    have hw9 := hw9.symm
    subst hw9
    refine g_astore rfl rfl rfl ?_
    refine g_aload_n rfl rfl ?_
    refine g_ifnull (tgt := 29) rfl (by decide) (fun hx => by cases hx) (fun _ _ => ?_)
    refine g_aload rfl rfl ?_
    refine g_ifnonnull (tgt := 31) rfl (by decide) (fun _ hx => by cases hx) (fun _ => ?_)
    refine g_iconst rfl ⟨by decide, by decide⟩ ?_
    refine x_zreturn rfl rfl (Or.inl rfl) ?_
    exact ⟨rfl, rfl⟩
  · omega
  · omega
  · refine g_aload_n rfl rfl ?_
    refine x_getF (r := 1) hG rfl rfl (by decide) (Or.inl ⟨_, rfl⟩) rfl ?_
    refine g_iload_n rfl rfl ?_
    refine g_cV (as := [tI 1]) (s_codeOf1 hG hk) rfl rfl mX9_codeOf_ok rfl rfl rfl (by decide) rfl rfl rfl ?_
    rintro _ w9 ⟨rfl, hw9⟩ _
    have hw9 := hw9.symm
    subst hw9
    refine g_astore_n rfl rfl rfl ?_
    refine g_aload_n rfl rfl ?_
    refine x_getF (r := 1) hG rfl rfl (by decide) (Or.inl ⟨_, rfl⟩) rfl ?_
    refine g_iconst rfl ⟨by decide, by decide⟩ ?_
    refine g_iload_n rfl rfl ?_
    refine g_cV (as := [tI 1, tI d]) (s_rowOf1o hG hd) rfl rfl mX9_rowOf_ok rfl rfl rfl (by decide) rfl rfl rfl ?_
    rintro _ w9 ⟨rfl, hw9⟩ _
    have hw9 := hw9.symm
    subst hw9
    refine g_astore rfl rfl rfl ?_
    refine g_aload_n rfl rfl ?_
    refine g_ifnull (tgt := 29) rfl (by decide) (fun hx => by cases hx) (fun _ _ => ?_)
    refine g_aload rfl rfl ?_
    refine g_ifnonnull (tgt := 31) rfl (by decide) (fun _ hx => by cases hx) (fun _ => ?_)
    refine g_iconst rfl ⟨by decide, by decide⟩ ?_
    refine x_zreturn rfl rfl (Or.inl rfl) ?_
    exact ⟨rfl, rfl⟩
  · refine g_aload_n rfl rfl ?_
    refine x_getF (r := 1) hG rfl rfl (by decide) (Or.inl ⟨_, rfl⟩) rfl ?_
    refine g_iload_n rfl rfl ?_
    refine g_cV (as := [tI k]) (s_codeOfo hG hk) rfl rfl mX9_codeOf_ok rfl rfl rfl (by decide) rfl rfl rfl ?_
    rintro _ w9 ⟨rfl, hw9⟩ _
    have hw9 := hw9.symm
    subst hw9
    refine g_astore_n rfl rfl rfl ?_
    refine g_aload_n rfl rfl ?_
    refine x_getF (r := 1) hG rfl rfl (by decide) (Or.inl ⟨_, rfl⟩) rfl ?_
    refine g_iconst rfl ⟨by decide, by decide⟩ ?_
    refine g_iload_n rfl rfl ?_
    refine g_cV (as := [tI 1, tI 0]) (s_rowOf10 hG hd) rfl rfl mX9_rowOf_ok rfl rfl rfl (by decide) rfl rfl rfl ?_
    rintro _ w9 ⟨rfl, hw9⟩ _
    have hw9 := hw9.symm
    subst hw9
    refine g_astore rfl rfl rfl ?_
    refine g_aload_n rfl rfl ?_
    refine g_ifnull (tgt := 29) rfl (by decide) (fun _ => ?_) (fun _ hx => by cases hx)
    refine g_iconst rfl ⟨by decide, by decide⟩ ?_
    refine x_zreturn rfl rfl (Or.inl rfl) ?_
    exact ⟨rfl, rfl⟩
  · refine g_aload_n rfl rfl ?_
    refine x_getF (r := 1) hG rfl rfl (by decide) (Or.inl ⟨_, rfl⟩) rfl ?_
    refine g_iload_n rfl rfl ?_
    refine g_cV (as := [tI k]) (s_codeOfo hG hk) rfl rfl mX9_codeOf_ok rfl rfl rfl (by decide) rfl rfl rfl ?_
    rintro _ w9 ⟨rfl, hw9⟩ _
    have hw9 := hw9.symm
    subst hw9
    refine g_astore_n rfl rfl rfl ?_
    refine g_aload_n rfl rfl ?_
    refine x_getF (r := 1) hG rfl rfl (by decide) (Or.inl ⟨_, rfl⟩) rfl ?_
    refine g_iconst rfl ⟨by decide, by decide⟩ ?_
    refine g_iload_n rfl rfl ?_
    refine g_cV (as := [tI 1, tI 1]) (s_rowOf11 hG hd) rfl rfl mX9_rowOf_ok rfl rfl rfl (by decide) rfl rfl rfl ?_
    rintro _ w9 ⟨rfl, hw9⟩ _
    have hw9 := hw9.symm
    subst hw9
    refine g_astore rfl rfl rfl ?_
    refine g_aload_n rfl rfl ?_
    refine g_ifnull (tgt := 29) rfl (by decide) (fun _ => ?_) (fun _ hx => by cases hx)
    refine g_iconst rfl ⟨by decide, by decide⟩ ?_
    refine x_zreturn rfl rfl (Or.inl rfl) ?_
    exact ⟨rfl, rfl⟩
  · refine g_aload_n rfl rfl ?_
    refine x_getF (r := 1) hG rfl rfl (by decide) (Or.inl ⟨_, rfl⟩) rfl ?_
    refine g_iload_n rfl rfl ?_
    refine g_cV (as := [tI k]) (s_codeOfo hG hk) rfl rfl mX9_codeOf_ok rfl rfl rfl (by decide) rfl rfl rfl ?_
    rintro _ w9 ⟨rfl, hw9⟩ _
    have hw9 := hw9.symm
    subst hw9
    refine g_astore_n rfl rfl rfl ?_
    refine g_aload_n rfl rfl ?_
    refine x_getF (r := 1) hG rfl rfl (by decide) (Or.inl ⟨_, rfl⟩) rfl ?_
    refine g_iconst rfl ⟨by decide, by decide⟩ ?_
    refine g_iload_n rfl rfl ?_
    refine g_cV (as := [tI 1, tI d]) (s_rowOf1o hG hd) rfl rfl mX9_rowOf_ok rfl rfl rfl (by decide) rfl rfl rfl ?_
    rintro _ w9 ⟨rfl, hw9⟩ _
    have hw9 := hw9.symm
    subst hw9
    refine g_astore rfl rfl rfl ?_
    refine g_aload_n rfl rfl ?_
    refine g_ifnull (tgt := 29) rfl (by decide) (fun _ => ?_) (fun _ hx => by cases hx)
    refine g_iconst rfl ⟨by decide, by decide⟩ ?_
    refine x_zreturn rfl rfl (Or.inl rfl) ?_
    exact ⟨rfl, rfl⟩
