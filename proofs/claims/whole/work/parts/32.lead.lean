/-- what leadFrom changes in the run's cells (p the run, p + 3 taken, p + 4 the stack) -/
def r_L (f : Int → Int) (ch : r_H) (c : r_C) (k : Int) (p : Nat) (μ μ' : tp_M) : Prop :=
  μ'.1 p 10 = (r_nx f ch c).2.1 ∧ (∀ i, 0 ≤ i → i < (r_nx f ch c).2.1 → μ'.1 (p + 4) i = (r_nx f ch c).2.2.1 i) ∧ μ'.1 p 13 = (r_nx f ch c).2.2.2.1 ∧ μ'.1 p 8 = (r_nx f ch c).2.2.2.2 ∧
  (μ'.1 p 12 = if f (9 + c.1) = 3 ∧ c.2.1 ≠ 9 then max (μ.1 p 12) (c.2.1 + 1) else μ.1 p 12) ∧ (μ'.1 p 14 = if f (9 + c.1) = 4 ∧ c.2.1 ≠ 0 then μ.1 p 14 + 1 else μ.1 p 14) ∧
  (μ'.1 p 11 = if r_to f ch c = -1 then r_ek (f (9 + c.1)) else μ.1 p 11) ∧ (∀ j, j ≠ k → μ'.1 (p + 3) j = μ.1 (p + 3) j) ∧ (μ.1 (p + 3) k = 0 → μ'.1 (p + 3) k = r_yes f ch c) ∧
  (μ'.1 p 6 = μ.1 p 6 ∧ μ'.1 p 9 = μ.1 p 9) ∧ (∀ c', c' ≠ p → c' ≠ p + 3 → c' ≠ p + 4 → μ'.1 c' = μ.1 c') ∧ μ'.2 = μ.2
/-- the run's cells hold a configuration -/
def r_M (c : r_C) (p : Nat) (μ : tp_M) : Prop := μ.1 p 10 = c.2.1 ∧ (∀ i, 0 ≤ i → i < c.2.1 → μ.1 (p + 4) i = c.2.2.1 i) ∧ μ.1 p 13 = c.2.2.2.1 ∧ μ.1 p 8 = c.2.2.2.2
theorem tp_pi_self {μ : tp_M} {c : Nat} {j : Int} : tp_pi μ c j (μ.1 c j) = μ := by
  refine Prod.ext (funext fun k => funext fun i => ?_) rfl
  show (if k = c ∧ i = j then μ.1 c j else μ.1 k i) = μ.1 k i
  split
  · rename_i h; rw [h.1, h.2]
  · rfl
theorem tp_z1 : tp_z 1 = 1 := by decide
theorem tp_z0 : tp_z 0 = 0 := by decide
theorem rL_0 {f : Int → Int} {ch : r_H} {a dp us sd k : Int} {stk : Int → Int} {p : Nat} {μ : tp_M} (hm : r_M (a, dp, stk, us, sd) p μ) (hk : f (9 + a) = 0) (ha : 0 ≤ a) : r_to f ch (a, dp, stk, us, sd) = a + 1 ∧ r_L f ch (a, dp, stk, us, sd) k p μ μ := by
  obtain ⟨h1, h2, h3, h4⟩ := hm
  simp only at h1 h2 h3 h4
  have e1 : r_to f ch (a, dp, stk, us, sd) = a + 1 := by simp [r_to, hk]
  have n1 : (r_nx f ch (a, dp, stk, us, sd)).2.1 = dp := by simp [r_nx, hk]
  have n2 : (r_nx f ch (a, dp, stk, us, sd)).2.2.1 = stk := by simp [r_nx, hk]
  have n3 : (r_nx f ch (a, dp, stk, us, sd)).2.2.2.1 = us := by simp [r_nx, hk]
  have n4 : (r_nx f ch (a, dp, stk, us, sd)).2.2.2.2 = sd := by simp [r_nx, hk]
  have n5 : r_yes f ch (a, dp, stk, us, sd) = 0 := by simp [r_yes, hk]
  refine ⟨e1, ?_⟩
  unfold r_L
  rw [n1, n2, n3, n4, n5, e1]
  simp only [hk]
  refine ⟨?_, fun i g1 g2 => ?_, ?_, ?_, ?_, ?_, ?_, fun j hj => ?_, fun hz => ?_, ⟨?_, ?_⟩, fun c' c1 c2 c3 => ?_, ?_⟩
  · first | rfl | (simp [tp_pi1, tp_cho, h1, h3, h4]; done) | (simp [tp_pi1, h1, h3, h4]; omega) | omega
  · first | exact h2 i g1 g2 | (simp [tp_pi1, tp_cho]; exact h2 i g1 (by omega))
  · first | rfl | (simp [tp_pi1, tp_cho, h1, h3, h4]; done) | (simp [tp_pi1, h1, h3, h4]; omega) | omega
  · first | rfl | (simp [tp_pi1, tp_cho, h1, h3, h4]; done) | (simp [tp_pi1, h1, h3, h4]; omega) | omega
  · first | rfl | (simp [tp_pi1, tp_cho, h1, h3, h4]; done) | (simp [tp_pi1, h1, h3, h4]; omega) | omega
  · first | rfl | (simp [tp_pi1, tp_cho, h1, h3, h4]; done) | (simp [tp_pi1, h1, h3, h4]; omega) | omega
  · rw [if_neg (by omega)]
  · first | rfl | simp [tp_pi1, tp_cho, hj]
  · first | exact hz | (simp [tp_pi1, tp_cho, hz]; done)
  · first | rfl | (simp [tp_pi1, tp_cho, h1, h3, h4]; done) | (simp [tp_pi1, h1, h3, h4]; omega) | omega
  · first | rfl | (simp [tp_pi1, tp_cho, h1, h3, h4]; done) | (simp [tp_pi1, h1, h3, h4]; omega) | omega
  · first | trivial | rfl | (funext z; simp [tp_pi1, tp_cho, c1, c2, c3])
  · first | rfl | simp [tp_cho, tp_pi2]
theorem rL_2 {f : Int → Int} {ch : r_H} {a dp us sd k : Int} {stk : Int → Int} {p : Nat} {μ : tp_M} (hm : r_M (a, dp, stk, us, sd) p μ) (hk : f (9 + a) = 2) (ha : 0 ≤ f (49 + a)) : r_to f ch (a, dp, stk, us, sd) = f (49 + a) ∧ r_L f ch (a, dp, stk, us, sd) k p μ μ := by
  obtain ⟨h1, h2, h3, h4⟩ := hm
  simp only at h1 h2 h3 h4
  have e1 : r_to f ch (a, dp, stk, us, sd) = f (49 + a) := by simp [r_to, hk]
  have n1 : (r_nx f ch (a, dp, stk, us, sd)).2.1 = dp := by simp [r_nx, hk]
  have n2 : (r_nx f ch (a, dp, stk, us, sd)).2.2.1 = stk := by simp [r_nx, hk]
  have n3 : (r_nx f ch (a, dp, stk, us, sd)).2.2.2.1 = us := by simp [r_nx, hk]
  have n4 : (r_nx f ch (a, dp, stk, us, sd)).2.2.2.2 = sd := by simp [r_nx, hk]
  have n5 : r_yes f ch (a, dp, stk, us, sd) = 0 := by simp [r_yes, hk]
  refine ⟨e1, ?_⟩
  unfold r_L
  rw [n1, n2, n3, n4, n5, e1]
  simp only [hk]
  refine ⟨?_, fun i g1 g2 => ?_, ?_, ?_, ?_, ?_, ?_, fun j hj => ?_, fun hz => ?_, ⟨?_, ?_⟩, fun c' c1 c2 c3 => ?_, ?_⟩
  · first | rfl | (simp [tp_pi1, tp_cho, h1, h3, h4]; done) | (simp [tp_pi1, h1, h3, h4]; omega) | omega
  · first | exact h2 i g1 g2 | (simp [tp_pi1, tp_cho]; exact h2 i g1 (by omega))
  · first | rfl | (simp [tp_pi1, tp_cho, h1, h3, h4]; done) | (simp [tp_pi1, h1, h3, h4]; omega) | omega
  · first | rfl | (simp [tp_pi1, tp_cho, h1, h3, h4]; done) | (simp [tp_pi1, h1, h3, h4]; omega) | omega
  · first | rfl | (simp [tp_pi1, tp_cho, h1, h3, h4]; done) | (simp [tp_pi1, h1, h3, h4]; omega) | omega
  · first | rfl | (simp [tp_pi1, tp_cho, h1, h3, h4]; done) | (simp [tp_pi1, h1, h3, h4]; omega) | omega
  · rw [if_neg (by omega)]
  · first | rfl | simp [tp_pi1, tp_cho, hj]
  · first | exact hz | (simp [tp_pi1, tp_cho, hz]; done)
  · first | rfl | (simp [tp_pi1, tp_cho, h1, h3, h4]; done) | (simp [tp_pi1, h1, h3, h4]; omega) | omega
  · first | rfl | (simp [tp_pi1, tp_cho, h1, h3, h4]; done) | (simp [tp_pi1, h1, h3, h4]; omega) | omega
  · first | trivial | rfl | (funext z; simp [tp_pi1, tp_cho, c1, c2, c3])
  · first | rfl | simp [tp_cho, tp_pi2]
theorem rL_6 {f : Int → Int} {ch : r_H} {a dp us sd k : Int} {stk : Int → Int} {p : Nat} {μ : tp_M} (hm : r_M (a, dp, stk, us, sd) p μ) (hk : f (9 + a) = 6) : r_to f ch (a, dp, stk, us, sd) = -1 ∧ r_L f ch (a, dp, stk, us, sd) k p μ (tp_pi μ p 11 1) := by
  obtain ⟨h1, h2, h3, h4⟩ := hm
  simp only at h1 h2 h3 h4
  have e1 : r_to f ch (a, dp, stk, us, sd) = -1 := by simp [r_to, hk]
  have n1 : (r_nx f ch (a, dp, stk, us, sd)).2.1 = dp := by simp [r_nx, hk]
  have n2 : (r_nx f ch (a, dp, stk, us, sd)).2.2.1 = stk := by simp [r_nx, hk]
  have n3 : (r_nx f ch (a, dp, stk, us, sd)).2.2.2.1 = us := by simp [r_nx, hk]
  have n4 : (r_nx f ch (a, dp, stk, us, sd)).2.2.2.2 = sd := by simp [r_nx, hk]
  have n5 : r_yes f ch (a, dp, stk, us, sd) = 0 := by simp [r_yes, hk]
  refine ⟨e1, ?_⟩
  unfold r_L
  rw [n1, n2, n3, n4, n5, e1]
  simp only [hk]
  refine ⟨?_, fun i g1 g2 => ?_, ?_, ?_, ?_, ?_, ?_, fun j hj => ?_, fun hz => ?_, ⟨?_, ?_⟩, fun c' c1 c2 c3 => ?_, ?_⟩
  · first | rfl | (simp [tp_pi1, tp_cho, h1, h3, h4]; done) | (simp [tp_pi1, h1, h3, h4]; omega) | omega
  · first | exact h2 i g1 g2 | (simp [tp_pi1, tp_cho]; exact h2 i g1 (by omega))
  · first | rfl | (simp [tp_pi1, tp_cho, h1, h3, h4]; done) | (simp [tp_pi1, h1, h3, h4]; omega) | omega
  · first | rfl | (simp [tp_pi1, tp_cho, h1, h3, h4]; done) | (simp [tp_pi1, h1, h3, h4]; omega) | omega
  · first | rfl | (simp [tp_pi1, tp_cho, h1, h3, h4]; done) | (simp [tp_pi1, h1, h3, h4]; omega) | omega
  · first | rfl | (simp [tp_pi1, tp_cho, h1, h3, h4]; done) | (simp [tp_pi1, h1, h3, h4]; omega) | omega
  · simp [r_ek, tp_pi1, tp_cho]
  · first | rfl | simp [tp_pi1, tp_cho, hj]
  · first | exact hz | (simp [tp_pi1, tp_cho, hz]; done)
  · first | rfl | (simp [tp_pi1, tp_cho, h1, h3, h4]; done) | (simp [tp_pi1, h1, h3, h4]; omega) | omega
  · first | rfl | (simp [tp_pi1, tp_cho, h1, h3, h4]; done) | (simp [tp_pi1, h1, h3, h4]; omega) | omega
  · first | trivial | rfl | (funext z; simp [tp_pi1, tp_cho, c1, c2, c3])
  · first | rfl | simp [tp_cho, tp_pi2]
theorem rL_3f {f : Int → Int} {ch : r_H} {a dp us sd k : Int} {stk : Int → Int} {p : Nat} {μ : tp_M} (hm : r_M (a, dp, stk, us, sd) p μ) (hk : f (9 + a) = 3) (hd : dp = 9) : r_to f ch (a, dp, stk, us, sd) = -1 ∧ r_L f ch (a, dp, stk, us, sd) k p μ (tp_pi μ p 11 4) := by
  obtain ⟨h1, h2, h3, h4⟩ := hm
  simp only at h1 h2 h3 h4
  have e1 : r_to f ch (a, dp, stk, us, sd) = -1 := by simp [r_to, hk, hd]
  have n1 : (r_nx f ch (a, dp, stk, us, sd)).2.1 = dp := by simp [r_nx, hk, hd]
  have n2 : (r_nx f ch (a, dp, stk, us, sd)).2.2.1 = stk := by simp [r_nx, hk, hd]
  have n3 : (r_nx f ch (a, dp, stk, us, sd)).2.2.2.1 = us := by simp [r_nx, hk, hd]
  have n4 : (r_nx f ch (a, dp, stk, us, sd)).2.2.2.2 = sd := by simp [r_nx, hk, hd]
  have n5 : r_yes f ch (a, dp, stk, us, sd) = 0 := by simp [r_yes, hk, hd]
  refine ⟨e1, ?_⟩
  unfold r_L
  rw [n1, n2, n3, n4, n5, e1]
  simp only [hk]
  refine ⟨?_, fun i g1 g2 => ?_, ?_, ?_, ?_, ?_, ?_, fun j hj => ?_, fun hz => ?_, ⟨?_, ?_⟩, fun c' c1 c2 c3 => ?_, ?_⟩
  · first | rfl | (simp [tp_pi1, tp_cho, h1, h3, h4, hd]; done) | (simp [tp_pi1, h1, h3, h4, hd]; omega) | omega
  · first | exact h2 i g1 g2 | (simp [tp_pi1, tp_cho, hd]; exact h2 i g1 (by omega))
  · first | rfl | (simp [tp_pi1, tp_cho, h1, h3, h4, hd]; done) | (simp [tp_pi1, h1, h3, h4, hd]; omega) | omega
  · first | rfl | (simp [tp_pi1, tp_cho, h1, h3, h4, hd]; done) | (simp [tp_pi1, h1, h3, h4, hd]; omega) | omega
  · first | rfl | (simp [tp_pi1, tp_cho, h1, h3, h4, hd]; done) | (simp [tp_pi1, h1, h3, h4, hd]; omega) | omega
  · first | rfl | (simp [tp_pi1, tp_cho, h1, h3, h4, hd]; done) | (simp [tp_pi1, h1, h3, h4, hd]; omega) | omega
  · simp [r_ek, tp_pi1, tp_cho, hd]
  · first | rfl | simp [tp_pi1, tp_cho, hj, hd]
  · first | exact hz | (simp [tp_pi1, tp_cho, hz, hd]; done)
  · first | rfl | (simp [tp_pi1, tp_cho, h1, h3, h4, hd]; done) | (simp [tp_pi1, h1, h3, h4, hd]; omega) | omega
  · first | rfl | (simp [tp_pi1, tp_cho, h1, h3, h4, hd]; done) | (simp [tp_pi1, h1, h3, h4, hd]; omega) | omega
  · first | trivial | rfl | (funext z; simp [tp_pi1, tp_cho, c1, c2, c3, hd])
  · first | rfl | simp [tp_cho, tp_pi2, hd]
theorem rL_4f {f : Int → Int} {ch : r_H} {a dp us sd k : Int} {stk : Int → Int} {p : Nat} {μ : tp_M} (hm : r_M (a, dp, stk, us, sd) p μ) (hk : f (9 + a) = 4) (hd : dp = 0) : r_to f ch (a, dp, stk, us, sd) = -1 ∧ r_L f ch (a, dp, stk, us, sd) k p μ (tp_pi μ p 11 4) := by
  obtain ⟨h1, h2, h3, h4⟩ := hm
  simp only at h1 h2 h3 h4
  have e1 : r_to f ch (a, dp, stk, us, sd) = -1 := by simp [r_to, hk, hd]
  have n1 : (r_nx f ch (a, dp, stk, us, sd)).2.1 = dp := by simp [r_nx, hk, hd]
  have n2 : (r_nx f ch (a, dp, stk, us, sd)).2.2.1 = stk := by simp [r_nx, hk, hd]
  have n3 : (r_nx f ch (a, dp, stk, us, sd)).2.2.2.1 = us := by simp [r_nx, hk, hd]
  have n4 : (r_nx f ch (a, dp, stk, us, sd)).2.2.2.2 = sd := by simp [r_nx, hk, hd]
  have n5 : r_yes f ch (a, dp, stk, us, sd) = 0 := by simp [r_yes, hk, hd]
  refine ⟨e1, ?_⟩
  unfold r_L
  rw [n1, n2, n3, n4, n5, e1]
  simp only [hk]
  refine ⟨?_, fun i g1 g2 => ?_, ?_, ?_, ?_, ?_, ?_, fun j hj => ?_, fun hz => ?_, ⟨?_, ?_⟩, fun c' c1 c2 c3 => ?_, ?_⟩
  · first | rfl | (simp [tp_pi1, tp_cho, h1, h3, h4, hd]; done) | (simp [tp_pi1, h1, h3, h4, hd]; omega) | omega
  · first | exact h2 i g1 g2 | (simp [tp_pi1, tp_cho, hd]; exact h2 i g1 (by omega))
  · first | rfl | (simp [tp_pi1, tp_cho, h1, h3, h4, hd]; done) | (simp [tp_pi1, h1, h3, h4, hd]; omega) | omega
  · first | rfl | (simp [tp_pi1, tp_cho, h1, h3, h4, hd]; done) | (simp [tp_pi1, h1, h3, h4, hd]; omega) | omega
  · first | rfl | (simp [tp_pi1, tp_cho, h1, h3, h4, hd]; done) | (simp [tp_pi1, h1, h3, h4, hd]; omega) | omega
  · first | rfl | (simp [tp_pi1, tp_cho, h1, h3, h4, hd]; done) | (simp [tp_pi1, h1, h3, h4, hd]; omega) | omega
  · simp [r_ek, tp_pi1, tp_cho, hd]
  · first | rfl | simp [tp_pi1, tp_cho, hj, hd]
  · first | exact hz | (simp [tp_pi1, tp_cho, hz, hd]; done)
  · first | rfl | (simp [tp_pi1, tp_cho, h1, h3, h4, hd]; done) | (simp [tp_pi1, h1, h3, h4, hd]; omega) | omega
  · first | rfl | (simp [tp_pi1, tp_cho, h1, h3, h4, hd]; done) | (simp [tp_pi1, h1, h3, h4, hd]; omega) | omega
  · first | trivial | rfl | (funext z; simp [tp_pi1, tp_cho, c1, c2, c3, hd])
  · first | rfl | simp [tp_cho, tp_pi2, hd]
theorem rL_3 {f : Int → Int} {ch : r_H} {a dp us sd k : Int} {stk : Int → Int} {p : Nat} {μ : tp_M} (hm : r_M (a, dp, stk, us, sd) p μ) (hk : f (9 + a) = 3) (hd : dp ≠ 9) (ha : 0 ≤ f (49 + a)) : r_to f ch (a, dp, stk, us, sd) = f (49 + a) ∧ r_L f ch (a, dp, stk, us, sd) k p μ (tp_pi (tp_pi (tp_pi μ (p + 4) dp (a + 1)) p 10 (dp + 1)) p 12 (max (μ.1 p 12) (dp + 1))) := by
  obtain ⟨h1, h2, h3, h4⟩ := hm
  simp only at h1 h2 h3 h4
  have e1 : r_to f ch (a, dp, stk, us, sd) = f (49 + a) := by simp [r_to, hk, hd]
  have n1 : (r_nx f ch (a, dp, stk, us, sd)).2.1 = dp + 1 := by simp [r_nx, hk, hd]
  have n2 : (r_nx f ch (a, dp, stk, us, sd)).2.2.1 = (fun i => if i = dp then a + 1 else stk i) := by simp [r_nx, hk, hd]
  have n3 : (r_nx f ch (a, dp, stk, us, sd)).2.2.2.1 = us := by simp [r_nx, hk, hd]
  have n4 : (r_nx f ch (a, dp, stk, us, sd)).2.2.2.2 = sd := by simp [r_nx, hk, hd]
  have n5 : r_yes f ch (a, dp, stk, us, sd) = 0 := by simp [r_yes, hk, hd]
  refine ⟨e1, ?_⟩
  unfold r_L
  rw [n1, n2, n3, n4, n5, e1]
  simp only [hk]
  refine ⟨?_, fun i g1 g2 => ?_, ?_, ?_, ?_, ?_, ?_, fun j hj => ?_, fun hz => ?_, ⟨?_, ?_⟩, fun c' c1 c2 c3 => ?_, ?_⟩
  · first | rfl | (simp [tp_pi1, tp_cho, h1, h3, h4, hd]; done) | (simp [tp_pi1, h1, h3, h4, hd]; omega) | omega
  · by_cases hi : i = dp
    · simp [tp_pi1, hi]
    · simp [tp_pi1, hi]; exact h2 i g1 (by omega)
  · first | rfl | (simp [tp_pi1, tp_cho, h1, h3, h4, hd]; done) | (simp [tp_pi1, h1, h3, h4, hd]; omega) | omega
  · first | rfl | (simp [tp_pi1, tp_cho, h1, h3, h4, hd]; done) | (simp [tp_pi1, h1, h3, h4, hd]; omega) | omega
  · first | rfl | (simp [tp_pi1, tp_cho, h1, h3, h4, hd]; done) | (simp [tp_pi1, h1, h3, h4, hd]; omega) | omega
  · first | rfl | (simp [tp_pi1, tp_cho, h1, h3, h4, hd]; done) | (simp [tp_pi1, h1, h3, h4, hd]; omega) | omega
  · rw [if_neg (by omega)]; simp [tp_pi1]
  · first | rfl | simp [tp_pi1, tp_cho, hj, hd]
  · first | exact hz | (simp [tp_pi1, tp_cho, hz, hd]; done)
  · first | rfl | (simp [tp_pi1, tp_cho, h1, h3, h4, hd]; done) | (simp [tp_pi1, h1, h3, h4, hd]; omega) | omega
  · first | rfl | (simp [tp_pi1, tp_cho, h1, h3, h4, hd]; done) | (simp [tp_pi1, h1, h3, h4, hd]; omega) | omega
  · first | trivial | rfl | (funext z; simp [tp_pi1, tp_cho, c1, c2, c3, hd])
  · first | rfl | simp [tp_cho, tp_pi2, hd]
theorem rL_4 {f : Int → Int} {ch : r_H} {a dp us sd k : Int} {stk : Int → Int} {p : Nat} {μ : tp_M} (hm : r_M (a, dp, stk, us, sd) p μ) (hk : f (9 + a) = 4) (hd : dp ≠ 0) (ha : stk (dp - 1) ≠ -1) : r_to f ch (a, dp, stk, us, sd) = stk (dp - 1) ∧ r_L f ch (a, dp, stk, us, sd) k p μ (tp_pi (tp_pi μ p 10 (dp - 1)) p 14 (μ.1 p 14 + 1)) := by
  obtain ⟨h1, h2, h3, h4⟩ := hm
  simp only at h1 h2 h3 h4
  have e1 : r_to f ch (a, dp, stk, us, sd) = stk (dp - 1) := by simp [r_to, hk, hd]
  have n1 : (r_nx f ch (a, dp, stk, us, sd)).2.1 = dp - 1 := by simp [r_nx, hk, hd]
  have n2 : (r_nx f ch (a, dp, stk, us, sd)).2.2.1 = stk := by simp [r_nx, hk, hd]
  have n3 : (r_nx f ch (a, dp, stk, us, sd)).2.2.2.1 = us := by simp [r_nx, hk, hd]
  have n4 : (r_nx f ch (a, dp, stk, us, sd)).2.2.2.2 = sd := by simp [r_nx, hk, hd]
  have n5 : r_yes f ch (a, dp, stk, us, sd) = 0 := by simp [r_yes, hk, hd]
  refine ⟨e1, ?_⟩
  unfold r_L
  rw [n1, n2, n3, n4, n5, e1]
  simp only [hk]
  refine ⟨?_, fun i g1 g2 => ?_, ?_, ?_, ?_, ?_, ?_, fun j hj => ?_, fun hz => ?_, ⟨?_, ?_⟩, fun c' c1 c2 c3 => ?_, ?_⟩
  · first | rfl | (simp [tp_pi1, tp_cho, h1, h3, h4, hd]; done) | (simp [tp_pi1, h1, h3, h4, hd]; omega) | omega
  · first | exact h2 i g1 g2 | (simp [tp_pi1, tp_cho, hd]; exact h2 i g1 (by omega))
  · first | rfl | (simp [tp_pi1, tp_cho, h1, h3, h4, hd]; done) | (simp [tp_pi1, h1, h3, h4, hd]; omega) | omega
  · first | rfl | (simp [tp_pi1, tp_cho, h1, h3, h4, hd]; done) | (simp [tp_pi1, h1, h3, h4, hd]; omega) | omega
  · first | rfl | (simp [tp_pi1, tp_cho, h1, h3, h4, hd]; done) | (simp [tp_pi1, h1, h3, h4, hd]; omega) | omega
  · first | rfl | (simp [tp_pi1, tp_cho, h1, h3, h4, hd]; done) | (simp [tp_pi1, h1, h3, h4, hd]; omega) | omega
  · rw [if_neg ha]; simp [tp_pi1]
  · first | rfl | simp [tp_pi1, tp_cho, hj, hd]
  · first | exact hz | (simp [tp_pi1, tp_cho, hz, hd]; done)
  · first | rfl | (simp [tp_pi1, tp_cho, h1, h3, h4, hd]; done) | (simp [tp_pi1, h1, h3, h4, hd]; omega) | omega
  · first | rfl | (simp [tp_pi1, tp_cho, h1, h3, h4, hd]; done) | (simp [tp_pi1, h1, h3, h4, hd]; omega) | omega
  · first | trivial | rfl | (funext z; simp [tp_pi1, tp_cho, c1, c2, c3, hd])
  · first | rfl | simp [tp_cho, tp_pi2, hd]
theorem rL_1n {f : Int → Int} {ch : r_H} {a dp us sd k : Int} {stk : Int → Int} {p : Nat} {μ : tp_M} (hm : r_M (a, dp, stk, us, sd) p μ) (hk : f (9 + a) = 1) (hv : r_cv ch (a, dp, stk, us, sd) true = -1) : r_to f ch (a, dp, stk, us, sd) = -1 ∧ r_L f ch (a, dp, stk, us, sd) k p μ (tp_cho (tp_pi μ p 8 (r_cs ch (a, dp, stk, us, sd) true)) p (-1)) := by
  obtain ⟨h1, h2, h3, h4⟩ := hm
  simp only at h1 h2 h3 h4
  have e1 : r_to f ch (a, dp, stk, us, sd) = -1 := by simp [r_to, hk, hv]
  have n1 : (r_nx f ch (a, dp, stk, us, sd)).2.1 = dp := by simp [r_nx, hk, hv]
  have n2 : (r_nx f ch (a, dp, stk, us, sd)).2.2.1 = stk := by simp [r_nx, hk, hv]
  have n3 : (r_nx f ch (a, dp, stk, us, sd)).2.2.2.1 = us := by simp [r_nx, hk, hv]
  have n4 : (r_nx f ch (a, dp, stk, us, sd)).2.2.2.2 = r_cs ch (a, dp, stk, us, sd) true := by simp [r_nx, hk, hv]
  have n5 : r_yes f ch (a, dp, stk, us, sd) = 0 := by simp [r_yes, hk, hv]
  refine ⟨e1, ?_⟩
  unfold r_L
  rw [n1, n2, n3, n4, n5, e1]
  simp only [hk]
  refine ⟨?_, fun i g1 g2 => ?_, ?_, ?_, ?_, ?_, ?_, fun j hj => ?_, fun hz => ?_, ⟨?_, ?_⟩, fun c' c1 c2 c3 => ?_, ?_⟩
  · first | rfl | (simp [tp_pi1, tp_cho, h1, h3, h4]; done) | (simp [tp_pi1, h1, h3, h4]; omega) | omega
  · first | exact h2 i g1 g2 | (simp [tp_pi1, tp_cho]; exact h2 i g1 (by omega))
  · first | rfl | (simp [tp_pi1, tp_cho, h1, h3, h4]; done) | (simp [tp_pi1, h1, h3, h4]; omega) | omega
  · first | rfl | (simp [tp_pi1, tp_cho, h1, h3, h4]; done) | (simp [tp_pi1, h1, h3, h4]; omega) | omega
  · first | rfl | (simp [tp_pi1, tp_cho, h1, h3, h4]; done) | (simp [tp_pi1, h1, h3, h4]; omega) | omega
  · first | rfl | (simp [tp_pi1, tp_cho, h1, h3, h4]; done) | (simp [tp_pi1, h1, h3, h4]; omega) | omega
  · simp [r_ek, tp_pi1, tp_cho]
  · first | rfl | simp [tp_pi1, tp_cho, hj]
  · first | exact hz | (simp [tp_pi1, tp_cho, hz]; done)
  · first | rfl | (simp [tp_pi1, tp_cho, h1, h3, h4]; done) | (simp [tp_pi1, h1, h3, h4]; omega) | omega
  · first | rfl | (simp [tp_pi1, tp_cho, h1, h3, h4]; done) | (simp [tp_pi1, h1, h3, h4]; omega) | omega
  · first | trivial | rfl | (funext z; simp [tp_pi1, tp_cho, c1, c2, c3])
  · first | rfl | simp [tp_cho, tp_pi2]
theorem rL_1o {f : Int → Int} {ch : r_H} {a dp us sd k : Int} {stk : Int → Int} {p : Nat} {μ : tp_M} (hm : r_M (a, dp, stk, us, sd) p μ) (hk : f (9 + a) = 1) (hv : r_cv ch (a, dp, stk, us, sd) true = 100) (ha : 0 ≤ a) (ht : 0 ≤ f (49 + a)) : r_to f ch (a, dp, stk, us, sd) = a + 1 ∧ r_L f ch (a, dp, stk, us, sd) k p μ (tp_pi (tp_cho (tp_pi μ p 8 (r_cs ch (a, dp, stk, us, sd) true)) p 100) (p + 3) k (tp_z 0)) := by
  obtain ⟨h1, h2, h3, h4⟩ := hm
  simp only at h1 h2 h3 h4
  have e1 : r_to f ch (a, dp, stk, us, sd) = a + 1 := by simp [r_to, hk, hv]
  have n1 : (r_nx f ch (a, dp, stk, us, sd)).2.1 = dp := by simp [r_nx, hk, hv]
  have n2 : (r_nx f ch (a, dp, stk, us, sd)).2.2.1 = stk := by simp [r_nx, hk, hv]
  have n3 : (r_nx f ch (a, dp, stk, us, sd)).2.2.2.1 = us + 1 := by simp [r_nx, hk, hv]
  have n4 : (r_nx f ch (a, dp, stk, us, sd)).2.2.2.2 = r_cs ch (a, dp, stk, us, sd) true := by simp [r_nx, hk, hv]
  have n5 : r_yes f ch (a, dp, stk, us, sd) = 0 := by simp [r_yes, hk, hv]
  refine ⟨e1, ?_⟩
  unfold r_L
  rw [n1, n2, n3, n4, n5, e1]
  simp only [hk]
  refine ⟨?_, fun i g1 g2 => ?_, ?_, ?_, ?_, ?_, ?_, fun j hj => ?_, fun hz => ?_, ⟨?_, ?_⟩, fun c' c1 c2 c3 => ?_, ?_⟩
  · first | rfl | (simp [tp_pi1, tp_cho, h1, h3, h4, tp_z1, tp_z0]; done) | (simp [tp_pi1, h1, h3, h4, tp_z1, tp_z0]; omega) | omega
  · first | exact h2 i g1 g2 | (simp [tp_pi1, tp_cho, tp_z1, tp_z0]; exact h2 i g1 (by omega))
  · first | rfl | (simp [tp_pi1, tp_cho, h1, h3, h4, tp_z1, tp_z0]; done) | (simp [tp_pi1, h1, h3, h4, tp_z1, tp_z0]; omega) | omega
  · first | rfl | (simp [tp_pi1, tp_cho, h1, h3, h4, tp_z1, tp_z0]; done) | (simp [tp_pi1, h1, h3, h4, tp_z1, tp_z0]; omega) | omega
  · first | rfl | (simp [tp_pi1, tp_cho, h1, h3, h4, tp_z1, tp_z0]; done) | (simp [tp_pi1, h1, h3, h4, tp_z1, tp_z0]; omega) | omega
  · first | rfl | (simp [tp_pi1, tp_cho, h1, h3, h4, tp_z1, tp_z0]; done) | (simp [tp_pi1, h1, h3, h4, tp_z1, tp_z0]; omega) | omega
  · rw [if_neg (by omega)]; simp [tp_pi1, tp_cho]
  · first | rfl | simp [tp_pi1, tp_cho, hj, tp_z1, tp_z0]
  · first | exact hz | (simp [tp_pi1, tp_cho, hz, tp_z1, tp_z0]; done)
  · first | rfl | (simp [tp_pi1, tp_cho, h1, h3, h4, tp_z1, tp_z0]; done) | (simp [tp_pi1, h1, h3, h4, tp_z1, tp_z0]; omega) | omega
  · first | rfl | (simp [tp_pi1, tp_cho, h1, h3, h4, tp_z1, tp_z0]; done) | (simp [tp_pi1, h1, h3, h4, tp_z1, tp_z0]; omega) | omega
  · first | trivial | rfl | (funext z; simp [tp_pi1, tp_cho, c1, c2, c3, tp_z1, tp_z0])
  · first | rfl | simp [tp_cho, tp_pi2, tp_z1, tp_z0]
theorem rL_1y {f : Int → Int} {ch : r_H} {a dp us sd k : Int} {stk : Int → Int} {p : Nat} {μ : tp_M} (hm : r_M (a, dp, stk, us, sd) p μ) (hk : f (9 + a) = 1) (hv : r_cv ch (a, dp, stk, us, sd) true = 101) (ha : 0 ≤ a) (ht : 0 ≤ f (49 + a)) : r_to f ch (a, dp, stk, us, sd) = f (49 + a) ∧ r_L f ch (a, dp, stk, us, sd) k p μ (tp_pi (tp_cho (tp_pi μ p 8 (r_cs ch (a, dp, stk, us, sd) true)) p 101) (p + 3) k (tp_z 1)) := by
  obtain ⟨h1, h2, h3, h4⟩ := hm
  simp only at h1 h2 h3 h4
  have e1 : r_to f ch (a, dp, stk, us, sd) = f (49 + a) := by simp [r_to, hk, hv]
  have n1 : (r_nx f ch (a, dp, stk, us, sd)).2.1 = dp := by simp [r_nx, hk, hv]
  have n2 : (r_nx f ch (a, dp, stk, us, sd)).2.2.1 = stk := by simp [r_nx, hk, hv]
  have n3 : (r_nx f ch (a, dp, stk, us, sd)).2.2.2.1 = us + 1 := by simp [r_nx, hk, hv]
  have n4 : (r_nx f ch (a, dp, stk, us, sd)).2.2.2.2 = r_cs ch (a, dp, stk, us, sd) true := by simp [r_nx, hk, hv]
  have n5 : r_yes f ch (a, dp, stk, us, sd) = 1 := by simp [r_yes, hk, hv]
  refine ⟨e1, ?_⟩
  unfold r_L
  rw [n1, n2, n3, n4, n5, e1]
  simp only [hk]
  refine ⟨?_, fun i g1 g2 => ?_, ?_, ?_, ?_, ?_, ?_, fun j hj => ?_, fun hz => ?_, ⟨?_, ?_⟩, fun c' c1 c2 c3 => ?_, ?_⟩
  · first | rfl | (simp [tp_pi1, tp_cho, h1, h3, h4, tp_z1, tp_z0]; done) | (simp [tp_pi1, h1, h3, h4, tp_z1, tp_z0]; omega) | omega
  · first | exact h2 i g1 g2 | (simp [tp_pi1, tp_cho, tp_z1, tp_z0]; exact h2 i g1 (by omega))
  · first | rfl | (simp [tp_pi1, tp_cho, h1, h3, h4, tp_z1, tp_z0]; done) | (simp [tp_pi1, h1, h3, h4, tp_z1, tp_z0]; omega) | omega
  · first | rfl | (simp [tp_pi1, tp_cho, h1, h3, h4, tp_z1, tp_z0]; done) | (simp [tp_pi1, h1, h3, h4, tp_z1, tp_z0]; omega) | omega
  · first | rfl | (simp [tp_pi1, tp_cho, h1, h3, h4, tp_z1, tp_z0]; done) | (simp [tp_pi1, h1, h3, h4, tp_z1, tp_z0]; omega) | omega
  · first | rfl | (simp [tp_pi1, tp_cho, h1, h3, h4, tp_z1, tp_z0]; done) | (simp [tp_pi1, h1, h3, h4, tp_z1, tp_z0]; omega) | omega
  · rw [if_neg (by omega)]; simp [tp_pi1, tp_cho]
  · first | rfl | simp [tp_pi1, tp_cho, hj, tp_z1, tp_z0]
  · first | exact hz | (simp [tp_pi1, tp_cho, hz, tp_z1, tp_z0]; done)
  · first | rfl | (simp [tp_pi1, tp_cho, h1, h3, h4, tp_z1, tp_z0]; done) | (simp [tp_pi1, h1, h3, h4, tp_z1, tp_z0]; omega) | omega
  · first | rfl | (simp [tp_pi1, tp_cho, h1, h3, h4, tp_z1, tp_z0]; done) | (simp [tp_pi1, h1, h3, h4, tp_z1, tp_z0]; omega) | omega
  · first | trivial | rfl | (funext z; simp [tp_pi1, tp_cho, c1, c2, c3, tp_z1, tp_z0])
  · first | rfl | simp [tp_cho, tp_pi2, tp_z1, tp_z0]
theorem rL_5n {f : Int → Int} {ch : r_H} {a dp us sd k : Int} {stk : Int → Int} {p : Nat} {μ : tp_M} (hm : r_M (a, dp, stk, us, sd) p μ) (hk : f (9 + a) = 5) (hv : r_cv ch (a, dp, stk, us, sd) false = -1) : r_to f ch (a, dp, stk, us, sd) = -1 ∧ r_L f ch (a, dp, stk, us, sd) k p μ (tp_cho (tp_pi μ p 8 (r_cs ch (a, dp, stk, us, sd) false)) p (-1)) := by
  obtain ⟨h1, h2, h3, h4⟩ := hm
  simp only at h1 h2 h3 h4
  have e1 : r_to f ch (a, dp, stk, us, sd) = -1 := by simp [r_to, hk, hv]
  have n1 : (r_nx f ch (a, dp, stk, us, sd)).2.1 = dp := by simp [r_nx, hk, hv]
  have n2 : (r_nx f ch (a, dp, stk, us, sd)).2.2.1 = stk := by simp [r_nx, hk, hv]
  have n3 : (r_nx f ch (a, dp, stk, us, sd)).2.2.2.1 = us := by simp [r_nx, hk, hv]
  have n4 : (r_nx f ch (a, dp, stk, us, sd)).2.2.2.2 = r_cs ch (a, dp, stk, us, sd) false := by simp [r_nx, hk, hv]
  have n5 : r_yes f ch (a, dp, stk, us, sd) = 0 := by simp [r_yes, hk, hv]
  refine ⟨e1, ?_⟩
  unfold r_L
  rw [n1, n2, n3, n4, n5, e1]
  simp only [hk]
  refine ⟨?_, fun i g1 g2 => ?_, ?_, ?_, ?_, ?_, ?_, fun j hj => ?_, fun hz => ?_, ⟨?_, ?_⟩, fun c' c1 c2 c3 => ?_, ?_⟩
  · first | rfl | (simp [tp_pi1, tp_cho, h1, h3, h4]; done) | (simp [tp_pi1, h1, h3, h4]; omega) | omega
  · first | exact h2 i g1 g2 | (simp [tp_pi1, tp_cho]; exact h2 i g1 (by omega))
  · first | rfl | (simp [tp_pi1, tp_cho, h1, h3, h4]; done) | (simp [tp_pi1, h1, h3, h4]; omega) | omega
  · first | rfl | (simp [tp_pi1, tp_cho, h1, h3, h4]; done) | (simp [tp_pi1, h1, h3, h4]; omega) | omega
  · first | rfl | (simp [tp_pi1, tp_cho, h1, h3, h4]; done) | (simp [tp_pi1, h1, h3, h4]; omega) | omega
  · first | rfl | (simp [tp_pi1, tp_cho, h1, h3, h4]; done) | (simp [tp_pi1, h1, h3, h4]; omega) | omega
  · simp [r_ek, tp_pi1, tp_cho]
  · first | rfl | simp [tp_pi1, tp_cho, hj]
  · first | exact hz | (simp [tp_pi1, tp_cho, hz]; done)
  · first | rfl | (simp [tp_pi1, tp_cho, h1, h3, h4]; done) | (simp [tp_pi1, h1, h3, h4]; omega) | omega
  · first | rfl | (simp [tp_pi1, tp_cho, h1, h3, h4]; done) | (simp [tp_pi1, h1, h3, h4]; omega) | omega
  · first | trivial | rfl | (funext z; simp [tp_pi1, tp_cho, c1, c2, c3])
  · first | rfl | simp [tp_cho, tp_pi2]
theorem rL_5 {f : Int → Int} {ch : r_H} {a dp us sd k : Int} {stk : Int → Int} {p : Nat} {μ : tp_M} (hm : r_M (a, dp, stk, us, sd) p μ) (hk : f (9 + a) = 5) (hv : 0 ≤ r_cv ch (a, dp, stk, us, sd) false) : r_to f ch (a, dp, stk, us, sd) = r_cv ch (a, dp, stk, us, sd) false ∧ r_L f ch (a, dp, stk, us, sd) k p μ (tp_cho (tp_pi μ p 8 (r_cs ch (a, dp, stk, us, sd) false)) p (r_cv ch (a, dp, stk, us, sd) false)) := by
  obtain ⟨h1, h2, h3, h4⟩ := hm
  simp only at h1 h2 h3 h4
  have e1 : r_to f ch (a, dp, stk, us, sd) = r_cv ch (a, dp, stk, us, sd) false := by simp [r_to, hk, (show r_cv ch (a, dp, stk, us, sd) false ≠ -1 by omega)]
  have n1 : (r_nx f ch (a, dp, stk, us, sd)).2.1 = dp := by simp [r_nx, hk, (show r_cv ch (a, dp, stk, us, sd) false ≠ -1 by omega)]
  have n2 : (r_nx f ch (a, dp, stk, us, sd)).2.2.1 = stk := by simp [r_nx, hk, (show r_cv ch (a, dp, stk, us, sd) false ≠ -1 by omega)]
  have n3 : (r_nx f ch (a, dp, stk, us, sd)).2.2.2.1 = us + 1 := by simp [r_nx, hk, (show r_cv ch (a, dp, stk, us, sd) false ≠ -1 by omega)]
  have n4 : (r_nx f ch (a, dp, stk, us, sd)).2.2.2.2 = r_cs ch (a, dp, stk, us, sd) false := by simp [r_nx, hk, (show r_cv ch (a, dp, stk, us, sd) false ≠ -1 by omega)]
  have n5 : r_yes f ch (a, dp, stk, us, sd) = 0 := by simp [r_yes, hk, (show r_cv ch (a, dp, stk, us, sd) false ≠ -1 by omega)]
  refine ⟨e1, ?_⟩
  unfold r_L
  rw [n1, n2, n3, n4, n5, e1]
  simp only [hk]
  refine ⟨?_, fun i g1 g2 => ?_, ?_, ?_, ?_, ?_, ?_, fun j hj => ?_, fun hz => ?_, ⟨?_, ?_⟩, fun c' c1 c2 c3 => ?_, ?_⟩
  · first | rfl | (simp [tp_pi1, tp_cho, h1, h3, h4, (show r_cv ch (a, dp, stk, us, sd) false ≠ -1 by omega)]; done) | (simp [tp_pi1, h1, h3, h4, (show r_cv ch (a, dp, stk, us, sd) false ≠ -1 by omega)]; omega) | omega
  · first | exact h2 i g1 g2 | (simp [tp_pi1, tp_cho, (show r_cv ch (a, dp, stk, us, sd) false ≠ -1 by omega)]; exact h2 i g1 (by omega))
  · first | rfl | (simp [tp_pi1, tp_cho, h1, h3, h4, (show r_cv ch (a, dp, stk, us, sd) false ≠ -1 by omega)]; done) | (simp [tp_pi1, h1, h3, h4, (show r_cv ch (a, dp, stk, us, sd) false ≠ -1 by omega)]; omega) | omega
  · first | rfl | (simp [tp_pi1, tp_cho, h1, h3, h4, (show r_cv ch (a, dp, stk, us, sd) false ≠ -1 by omega)]; done) | (simp [tp_pi1, h1, h3, h4, (show r_cv ch (a, dp, stk, us, sd) false ≠ -1 by omega)]; omega) | omega
  · first | rfl | (simp [tp_pi1, tp_cho, h1, h3, h4, (show r_cv ch (a, dp, stk, us, sd) false ≠ -1 by omega)]; done) | (simp [tp_pi1, h1, h3, h4, (show r_cv ch (a, dp, stk, us, sd) false ≠ -1 by omega)]; omega) | omega
  · first | rfl | (simp [tp_pi1, tp_cho, h1, h3, h4, (show r_cv ch (a, dp, stk, us, sd) false ≠ -1 by omega)]; done) | (simp [tp_pi1, h1, h3, h4, (show r_cv ch (a, dp, stk, us, sd) false ≠ -1 by omega)]; omega) | omega
  · rw [if_neg (by omega)]; simp [tp_pi1, tp_cho, (show r_cv ch (a, dp, stk, us, sd) false ≠ -1 by omega)]
  · first | rfl | simp [tp_pi1, tp_cho, hj, (show r_cv ch (a, dp, stk, us, sd) false ≠ -1 by omega)]
  · first | exact hz | (simp [tp_pi1, tp_cho, hz, (show r_cv ch (a, dp, stk, us, sd) false ≠ -1 by omega)]; done)
  · first | rfl | (simp [tp_pi1, tp_cho, h1, h3, h4, (show r_cv ch (a, dp, stk, us, sd) false ≠ -1 by omega)]; done) | (simp [tp_pi1, h1, h3, h4, (show r_cv ch (a, dp, stk, us, sd) false ≠ -1 by omega)]; omega) | omega
  · first | rfl | (simp [tp_pi1, tp_cho, h1, h3, h4, (show r_cv ch (a, dp, stk, us, sd) false ≠ -1 by omega)]; done) | (simp [tp_pi1, h1, h3, h4, (show r_cv ch (a, dp, stk, us, sd) false ≠ -1 by omega)]; omega) | omega
  · first | trivial | rfl | (funext z; simp [tp_pi1, tp_cho, c1, c2, c3, (show r_cv ch (a, dp, stk, us, sd) false ≠ -1 by omega)])
  · first | rfl | simp [tp_cho, tp_pi2, (show r_cv ch (a, dp, stk, us, sd) false ≠ -1 by omega)]
