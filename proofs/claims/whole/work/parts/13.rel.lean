/-! what is told, as the class and the reference hold it: the relation that every call keeps -/
/-- a code, in the reference's order: 0 size, 1 .. 8 rules, 9 + a kinds, 49 + a targets, 89 + a modes -/
def tp_Cw (f : Int → Int) : Prop := (0 ≤ f 0 ∧ f 0 ≤ 40) ∧ (∀ a, 0 ≤ a → a < f 0 → (0 ≤ f (9 + a) ∧ f (9 + a) ≤ 6) ∧ (f (89 + a) = 0 ∨ f (89 + a) = 1) ∧ ((1 ≤ f (9 + a) ∧ f (9 + a) ≤ 3 → 0 ≤ f (49 + a) ∧ f (49 + a) < f 0) ∧ (¬ (1 ≤ f (9 + a) ∧ f (9 + a) ≤ 3) → f (49 + a) = -1))) ∧
  ((1 ≤ f 1 ∧ f 1 ≤ 9) ∧ (0 ≤ f 2 ∧ f 2 ≤ 4) ∧ (2 ≤ f 3 ∧ f 3 ≤ 99) ∧ (0 ≤ f 4 ∧ f 4 ≤ 39) ∧ (0 ≤ f 5 ∧ f 5 ≤ 39) ∧ (0 ≤ f 6 ∧ f 6 ≤ 2) ∧ (3 ≤ f 7 ∧ f 7 ≤ 9) ∧ (1 ≤ f 8 ∧ f 8 ≤ 9))
/-- a code of the class (its cell and the four behind it) is the reference's -/
def tp_Co (A : Nat → Int → Int) (c : Nat) (f : Int → Int) : Prop := A c 4 = f 0 ∧ (∀ a, 0 ≤ a → a < f 0 → A (c + 1) a = f (9 + a) ∧ A (c + 2) a = f (49 + a) ∧ A (c + 3) a = f (89 + a)) ∧ (∀ i, 0 ≤ i → i < 8 → A (c + 4) i = f (1 + i)) ∧ tp_Cw f
def tp_Dw (f : Int → Int) : Prop := (0 ≤ f 0 ∧ f 0 ≤ 60) ∧ ∀ i, 0 ≤ i → i < f 0 → (0 ≤ f (1 + i) ∧ f (1 + i) ≤ 39) ∨ f (1 + i) = 100 ∨ f (1 + i) = 101
def tp_Dr (A : Nat → Int → Int) (c : Nat) (f : Int → Int) : Prop := A c 2 = f 0 ∧ (∀ i, 0 ≤ i → i < f 0 → A (c + 1) i = f (1 + i)) ∧ tp_Dw f
/-- a loss: the packets rising; the reference has a mark for each -/
def tp_Lo (A : Nat → Int → Int) (c : Nat) (f : Int → Int) : Prop := A c 2 = f 0 ∧ (0 ≤ f 0 ∧ f 0 ≤ 12) ∧ (∀ i j, 0 ≤ i → i < j → j < f 0 → A (c + 1) i < A (c + 1) j) ∧ (∀ i, 0 ≤ i → i < f 0 → 0 ≤ A (c + 1) i ∧ A (c + 1) i < 100 ∧ f (1 + A (c + 1) i) = 1) ∧ (∀ p, 0 ≤ p → p < 100 → f (1 + p) = 0 ∨ (f (1 + p) = 1 ∧ ∃ i, 0 ≤ i ∧ i < f 0 ∧ A (c + 1) i = p))
def tp_Lg (A : Nat → Int → Int) (c : Nat) (f : Int → Int) : Prop := A c 2 = f 0 ∧ (0 ≤ f 0 ∧ f 0 ≤ 8) ∧ ∀ i, 0 ≤ i → i < f 0 → A (c + 1) i = f (1 + 2 * i) ∧ A (c + 2) i = f (2 + 2 * i) ∧ (0 ≤ f (1 + 2 * i) ∧ f (1 + 2 * i) ≤ 39) ∧ (0 ≤ f (2 + 2 * i) ∧ f (2 + 2 * i) ≤ 99)
/-- all that is told: A the state's 39 cells, B the reference's nine rows, q which of its four -/
def tp_St (A B : Nat → Int → Int) (q : Int) : Prop :=
  ((0 ≤ A 0 1 ∧ A 0 1 ≤ 600) ∧ A 0 1 = B 1 q) ∧ (∀ j, 0 ≤ j → j < A 0 1 → A 1 j = B 0 (600 * q + j)) ∧ (A 0 2 = B 2 q ∧ A 0 3 = B 3 q) ∧ (∀ t, 0 ≤ t → t < 4 → A 4 t = B 4 (4 * q + t) ∧ 0 ≤ A 4 t ∧ A 4 t ≤ 2) ∧
  (∀ k : Nat, k < 2 → (k : Int) < A 4 0 → tp_Co A (5 + 5 * k) (fun i => B 5 (258 * q + 129 * k + i))) ∧
  (∀ k : Nat, k < 2 → (k : Int) < A 4 1 → tp_Dr A (21 + 3 * k) (fun i => B 6 (122 * q + 61 * k + i))) ∧
  (∀ k : Nat, k < 2 → (k : Int) < A 4 2 → tp_Lo A (27 + 3 * k) (fun i => B 7 (202 * q + 101 * k + i))) ∧
  (∀ k : Nat, k < 2 → (k : Int) < A 4 3 → tp_Lg A (33 + 3 * k) (fun i => B 8 (34 * q + 17 * k + i)))
def tp_cut (M : Nat → Int → Int) (s n : Nat) : Nat → Int → Int := fun i => if i < n then M (s + i) else fun _ => 0
def tp_R (μ : tp_M) : Prop := tp_St (tp_cut μ.1 1 39) (tp_cut μ.1 202 9) 0 ∧ ∀ i : Nat, i < 3 → μ.1 (84 + 39 * i) 4 = μ.1 233 (i : Int) ∧ (μ.1 233 (i : Int) = 1 → tp_St (tp_cut μ.1 (84 + 39 * i) 39) (tp_cut μ.1 202 9) (1 + (i : Int)))
/-- the cells that only the calls that tell something change -/
def tp_tl (k : Nat) : Prop := k < 41 ∨ (84 ≤ k ∧ k < 201) ∨ (202 ≤ k ∧ k < 211) ∨ k = 233
def tp_kp (μ μ' : tp_M) : Prop := ∀ k, tp_tl k → μ'.1 k = μ.1 k
theorem tp_kp_rf {μ : tp_M} : tp_kp μ μ := fun _ _ => rfl
theorem tp_kp_tr {μ μ1 μ2 : tp_M} (h1 : tp_kp μ μ1) (h2 : tp_kp μ1 μ2) : tp_kp μ μ2 := fun k h => (h2 k h).trans (h1 k h)
theorem tp_kp_pi {μ μ' : tp_M} {c : Nat} {j v : Int} (hc : 41 ≤ c ∧ ¬ (84 ≤ c ∧ c < 201) ∧ ¬ (202 ≤ c ∧ c < 211) ∧ c ≠ 233) (h : tp_kp μ μ') : tp_kp μ (tp_pi μ' c j v) := fun k hk => by
  rw [← h k hk]
  funext j'
  refine if_neg (fun z => ?_)
  have := z.1
  unfold tp_tl at hk
  omega
theorem tp_kp_pr {μ μ' : tp_M} {c : Nat} {j : Int} {r : Option Nat} (h : tp_kp μ μ') : tp_kp μ (tp_pr μ' c j r) := h
theorem tp_cut_eq {M M' : Nat → Int → Int} {s n : Nat} (h : ∀ k, s ≤ k → k < s + n → M' k = M k) : tp_cut M' s n = tp_cut M s n := by
  funext i
  unfold tp_cut
  by_cases hi : i < n
  · rw [if_pos hi, if_pos hi, h (s + i) (by omega) (by omega)]
  · rw [if_neg hi, if_neg hi]
theorem tp_R_kp {μ μ' : tp_M} (h : tp_R μ) (hk : tp_kp μ μ') : tp_R μ' := by
  have e2 : tp_cut μ'.1 202 9 = tp_cut μ.1 202 9 := tp_cut_eq (fun k h1 h2 => hk k (by unfold tp_tl; omega))
  refine ⟨?_, fun i hi => ?_⟩
  · rw [tp_cut_eq (M := μ.1) (M' := μ'.1) (s := 1) (n := 39) (fun k h1 h2 => hk k (by unfold tp_tl; omega)), e2]
    exact h.1
  · have e3 : tp_cut μ'.1 (84 + 39 * i) 39 = tp_cut μ.1 (84 + 39 * i) 39 := tp_cut_eq (fun k h1 h2 => hk k (by unfold tp_tl; omega))
    rw [e3, e2, hk 233 (by unfold tp_tl; omega), hk (84 + 39 * i) (by unfold tp_tl; omega)]
    exact h.2 i hi
/-! the parts of it that are asked for most, as the cells of the state that is told now -/
theorem tp_R_len {μ : tp_M} (h : tp_R μ) : 0 ≤ μ.1 1 1 ∧ μ.1 1 1 ≤ 600 ∧ μ.1 1 1 = μ.1 203 0 := ⟨h.1.1.1.1, h.1.1.1.2, h.1.1.2⟩
theorem tp_R_tape {μ : tp_M} (h : tp_R μ) (j : Int) (h0 : 0 ≤ j) (h1 : j < μ.1 1 1) : μ.1 2 j = μ.1 202 j := by
  have := h.1.2.1 j h0 h1
  rw [show (600 : Int) * 0 + j = j by omega] at this
  exact this
theorem tp_R_fault {μ : tp_M} (h : tp_R μ) : μ.1 1 2 = μ.1 204 0 ∧ μ.1 1 3 = μ.1 205 0 := h.1.2.2.1
theorem tp_R_many {μ : tp_M} (h : tp_R μ) (t : Int) (h0 : 0 ≤ t) (h1 : t < 4) : μ.1 5 t = μ.1 206 t ∧ 0 ≤ μ.1 5 t ∧ μ.1 5 t ≤ 2 := by
  have := h.1.2.2.2.1 t h0 h1
  rw [show (4 : Int) * 0 + t = t by omega] at this
  exact this
/-- the reference's row of a code, a drive, a loss, a log that is told now -/
def tp_cf (μ : tp_M) (k : Int) : Int → Int := fun i => μ.1 207 (129 * k + i)
def tp_df (μ : tp_M) (k : Int) : Int → Int := fun i => μ.1 208 (61 * k + i)
def tp_of (μ : tp_M) (k : Int) : Int → Int := fun i => μ.1 209 (101 * k + i)
def tp_gf (μ : tp_M) (k : Int) : Int → Int := fun i => μ.1 210 (17 * k + i)
theorem tp_R_code {μ : tp_M} (h : tp_R μ) (k : Nat) (hk : k < 2) (h1 : (k : Int) < μ.1 5 0) : μ.1 (6 + 5 * k) 4 = tp_cf μ k 0 ∧ (∀ a, 0 ≤ a → a < tp_cf μ k 0 → μ.1 (7 + 5 * k) a = tp_cf μ k (9 + a) ∧ μ.1 (8 + 5 * k) a = tp_cf μ k (49 + a) ∧ μ.1 (9 + 5 * k) a = tp_cf μ k (89 + a)) ∧ (∀ i, 0 ≤ i → i < 8 → μ.1 (10 + 5 * k) i = tp_cf μ k (1 + i)) ∧ tp_Cw (tp_cf μ k) := by
  have hs := h.1.2.2.2.2.1 k hk h1
  have e : (fun i => tp_cut μ.1 202 9 5 (258 * 0 + 129 * (k : Int) + i)) = tp_cf μ k := by
    funext i
    show μ.1 207 (258 * 0 + 129 * (k : Int) + i) = μ.1 207 (129 * k + i)
    exact congrArg (μ.1 207) (by omega)
  rw [e] at hs
  rcases (show k = 0 ∨ k = 1 by omega) with rfl | rfl <;> exact hs
theorem tp_R_drive {μ : tp_M} (h : tp_R μ) (k : Nat) (hk : k < 2) (h1 : (k : Int) < μ.1 5 1) : μ.1 (22 + 3 * k) 2 = tp_df μ k 0 ∧ (∀ i, 0 ≤ i → i < tp_df μ k 0 → μ.1 (23 + 3 * k) i = tp_df μ k (1 + i)) ∧ tp_Dw (tp_df μ k) := by
  have hs := h.1.2.2.2.2.2.1 k hk h1
  have e : (fun i => tp_cut μ.1 202 9 6 (122 * 0 + 61 * (k : Int) + i)) = tp_df μ k := by
    funext i
    show μ.1 208 (122 * 0 + 61 * (k : Int) + i) = μ.1 208 (61 * k + i)
    exact congrArg (μ.1 208) (by omega)
  rw [e] at hs
  rcases (show k = 0 ∨ k = 1 by omega) with rfl | rfl <;> exact hs
theorem tp_R_loss {μ : tp_M} (h : tp_R μ) (k : Nat) (hk : k < 2) (h1 : (k : Int) < μ.1 5 2) : tp_Lo μ.1 (28 + 3 * k) (tp_of μ k) := by
  have hs := h.1.2.2.2.2.2.2.1 k hk h1
  have e : (fun i => tp_cut μ.1 202 9 7 (202 * 0 + 101 * (k : Int) + i)) = tp_of μ k := by
    funext i
    show μ.1 209 (202 * 0 + 101 * (k : Int) + i) = μ.1 209 (101 * k + i)
    exact congrArg (μ.1 209) (by omega)
  rw [e] at hs
  rcases (show k = 0 ∨ k = 1 by omega) with rfl | rfl <;> exact hs
theorem tp_R_log {μ : tp_M} (h : tp_R μ) (k : Nat) (hk : k < 2) (h1 : (k : Int) < μ.1 5 3) : tp_Lg μ.1 (34 + 3 * k) (tp_gf μ k) := by
  have hs := h.1.2.2.2.2.2.2.2 k hk h1
  have e : (fun i => tp_cut μ.1 202 9 8 (34 * 0 + 17 * (k : Int) + i)) = tp_gf μ k := by
    funext i
    show μ.1 210 (34 * 0 + 17 * (k : Int) + i) = μ.1 210 (17 * k + i)
    exact congrArg (μ.1 210) (by omega)
  rw [e] at hs
  rcases (show k = 0 ∨ k = 1 by omega) with rfl | rfl <;> exact hs
/-- a method of the class and the reference's: the same answer, and what is told stays matched -/
def tp_pair (G : tp_G) (dx dm : tp_D) (as : List tp_V) : Prop := ∀ μ, tp_R μ → tp_k G dx (tR (some 0) :: as) μ (fun r μ1 => ∃ v, r = some (tI v) ∧ tp_k G dm (tR (some 201) :: as) μ1 (fun r2 μ2 => r2 = some (tI v) ∧ tp_R μ2))
