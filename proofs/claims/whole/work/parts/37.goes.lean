theorem nL_0 {f : Int → Int} {ch : r_H} {a dp us sd k : Int} {stk : Int → Int} {μ : tp_M} (hm : m_M (a, dp, stk, us, sd) μ) (hk : f (9 + a) = 0) : r_to f ch (a, dp, stk, us, sd) = a + 1 ∧ m_L f ch (a, dp, stk, us, sd) k μ μ := by
  obtain ⟨h1, h2, h3, h4⟩ := hm
  simp only at h1 h2 h3 h4
  have e1 : r_to f ch (a, dp, stk, us, sd) = a + 1 := by simp [r_to, hk]
  have n1 : (r_nx f ch (a, dp, stk, us, sd)).2.1 = dp := by simp [r_nx, hk]
  have n2 : (r_nx f ch (a, dp, stk, us, sd)).2.2.1 = stk := by simp [r_nx, hk]
  have n3 : (r_nx f ch (a, dp, stk, us, sd)).2.2.2.1 = us := by simp [r_nx, hk]
  have n4 : (r_nx f ch (a, dp, stk, us, sd)).2.2.2.2 = sd := by simp [r_nx, hk]
  have n5 : r_yes f ch (a, dp, stk, us, sd) = 0 := by simp [r_yes, hk]
  refine ⟨e1, ?_⟩
  unfold m_L
  rw [n1, n2, n3, n4, n5]
  simp only [hk]
  refine ⟨?_, fun i g1 g2 => ?_, ?_, ?_, ?_, ?_, fun j hj => ?_, fun hz => ?_, fun j j1 j2 => ?_, fun c' c1 c2 c3 => ?_, ?_⟩
  · first | rfl | (simp [tp_pi1, m_cho, h1, h3, h4]; done) | (simp [tp_pi1, h1, h3, h4]; omega) | omega
  · first | exact h2 i g1 g2 | (simp [tp_pi1, m_cho]; exact h2 i g1 (by omega))
  · first | rfl | (simp [tp_pi1, m_cho, h1, h3, h4]; done) | (simp [tp_pi1, h1, h3, h4]; omega) | omega
  · first | rfl | (simp [tp_pi1, m_cho, h1, h3, h4]; done) | (simp [tp_pi1, h1, h3, h4]; omega) | omega
  · first | rfl | (simp [tp_pi1, m_cho, h1, h3, h4]; done) | (simp [tp_pi1, h1, h3, h4]; omega) | omega
  · first | rfl | (simp [tp_pi1, m_cho, h1, h3, h4]; done) | (simp [tp_pi1, h1, h3, h4]; omega) | omega
  · first | rfl | simp [tp_pi1, m_cho, hj]
  · first | exact hz | (simp [tp_pi1, m_cho, hz]; done)
  · first | rfl | trivial | (simp [tp_pi1, m_cho]; done) | (simp [tp_pi1, m_cho]; omega)
  · first | trivial | rfl | (funext z; simp [tp_pi1, m_cho, c1, c2, c3])
  · first | rfl | simp [m_cho, tp_pi2]
theorem nL_2 {f : Int → Int} {ch : r_H} {a dp us sd k : Int} {stk : Int → Int} {μ : tp_M} (hm : m_M (a, dp, stk, us, sd) μ) (hk : f (9 + a) = 2) : r_to f ch (a, dp, stk, us, sd) = f (49 + a) ∧ m_L f ch (a, dp, stk, us, sd) k μ μ := by
  obtain ⟨h1, h2, h3, h4⟩ := hm
  simp only at h1 h2 h3 h4
  have e1 : r_to f ch (a, dp, stk, us, sd) = f (49 + a) := by simp [r_to, hk]
  have n1 : (r_nx f ch (a, dp, stk, us, sd)).2.1 = dp := by simp [r_nx, hk]
  have n2 : (r_nx f ch (a, dp, stk, us, sd)).2.2.1 = stk := by simp [r_nx, hk]
  have n3 : (r_nx f ch (a, dp, stk, us, sd)).2.2.2.1 = us := by simp [r_nx, hk]
  have n4 : (r_nx f ch (a, dp, stk, us, sd)).2.2.2.2 = sd := by simp [r_nx, hk]
  have n5 : r_yes f ch (a, dp, stk, us, sd) = 0 := by simp [r_yes, hk]
  refine ⟨e1, ?_⟩
  unfold m_L
  rw [n1, n2, n3, n4, n5]
  simp only [hk]
  refine ⟨?_, fun i g1 g2 => ?_, ?_, ?_, ?_, ?_, fun j hj => ?_, fun hz => ?_, fun j j1 j2 => ?_, fun c' c1 c2 c3 => ?_, ?_⟩
  · first | rfl | (simp [tp_pi1, m_cho, h1, h3, h4]; done) | (simp [tp_pi1, h1, h3, h4]; omega) | omega
  · first | exact h2 i g1 g2 | (simp [tp_pi1, m_cho]; exact h2 i g1 (by omega))
  · first | rfl | (simp [tp_pi1, m_cho, h1, h3, h4]; done) | (simp [tp_pi1, h1, h3, h4]; omega) | omega
  · first | rfl | (simp [tp_pi1, m_cho, h1, h3, h4]; done) | (simp [tp_pi1, h1, h3, h4]; omega) | omega
  · first | rfl | (simp [tp_pi1, m_cho, h1, h3, h4]; done) | (simp [tp_pi1, h1, h3, h4]; omega) | omega
  · first | rfl | (simp [tp_pi1, m_cho, h1, h3, h4]; done) | (simp [tp_pi1, h1, h3, h4]; omega) | omega
  · first | rfl | simp [tp_pi1, m_cho, hj]
  · first | exact hz | (simp [tp_pi1, m_cho, hz]; done)
  · first | rfl | trivial | (simp [tp_pi1, m_cho]; done) | (simp [tp_pi1, m_cho]; omega)
  · first | trivial | rfl | (funext z; simp [tp_pi1, m_cho, c1, c2, c3])
  · first | rfl | simp [m_cho, tp_pi2]
theorem nL_6 {f : Int → Int} {ch : r_H} {a dp us sd k : Int} {stk : Int → Int} {μ : tp_M} (hm : m_M (a, dp, stk, us, sd) μ) (hk : f (9 + a) = 6) : r_to f ch (a, dp, stk, us, sd) = -1 ∧ m_L f ch (a, dp, stk, us, sd) k μ μ := by
  obtain ⟨h1, h2, h3, h4⟩ := hm
  simp only at h1 h2 h3 h4
  have e1 : r_to f ch (a, dp, stk, us, sd) = -1 := by simp [r_to, hk]
  have n1 : (r_nx f ch (a, dp, stk, us, sd)).2.1 = dp := by simp [r_nx, hk]
  have n2 : (r_nx f ch (a, dp, stk, us, sd)).2.2.1 = stk := by simp [r_nx, hk]
  have n3 : (r_nx f ch (a, dp, stk, us, sd)).2.2.2.1 = us := by simp [r_nx, hk]
  have n4 : (r_nx f ch (a, dp, stk, us, sd)).2.2.2.2 = sd := by simp [r_nx, hk]
  have n5 : r_yes f ch (a, dp, stk, us, sd) = 0 := by simp [r_yes, hk]
  refine ⟨e1, ?_⟩
  unfold m_L
  rw [n1, n2, n3, n4, n5]
  simp only [hk]
  refine ⟨?_, fun i g1 g2 => ?_, ?_, ?_, ?_, ?_, fun j hj => ?_, fun hz => ?_, fun j j1 j2 => ?_, fun c' c1 c2 c3 => ?_, ?_⟩
  · first | rfl | (simp [tp_pi1, m_cho, h1, h3, h4]; done) | (simp [tp_pi1, h1, h3, h4]; omega) | omega
  · first | exact h2 i g1 g2 | (simp [tp_pi1, m_cho]; exact h2 i g1 (by omega))
  · first | rfl | (simp [tp_pi1, m_cho, h1, h3, h4]; done) | (simp [tp_pi1, h1, h3, h4]; omega) | omega
  · first | rfl | (simp [tp_pi1, m_cho, h1, h3, h4]; done) | (simp [tp_pi1, h1, h3, h4]; omega) | omega
  · first | rfl | (simp [tp_pi1, m_cho, h1, h3, h4]; done) | (simp [tp_pi1, h1, h3, h4]; omega) | omega
  · first | rfl | (simp [tp_pi1, m_cho, h1, h3, h4]; done) | (simp [tp_pi1, h1, h3, h4]; omega) | omega
  · first | rfl | simp [tp_pi1, m_cho, hj]
  · first | exact hz | (simp [tp_pi1, m_cho, hz]; done)
  · first | rfl | trivial | (simp [tp_pi1, m_cho]; done) | (simp [tp_pi1, m_cho]; omega)
  · first | trivial | rfl | (funext z; simp [tp_pi1, m_cho, c1, c2, c3])
  · first | rfl | simp [m_cho, tp_pi2]
theorem nL_3f {f : Int → Int} {ch : r_H} {a dp us sd k : Int} {stk : Int → Int} {μ : tp_M} (hm : m_M (a, dp, stk, us, sd) μ) (hk : f (9 + a) = 3) (hd : dp = 9) : r_to f ch (a, dp, stk, us, sd) = -1 ∧ m_L f ch (a, dp, stk, us, sd) k μ μ := by
  obtain ⟨h1, h2, h3, h4⟩ := hm
  simp only at h1 h2 h3 h4
  have e1 : r_to f ch (a, dp, stk, us, sd) = -1 := by simp [r_to, hk, hd]
  have n1 : (r_nx f ch (a, dp, stk, us, sd)).2.1 = dp := by simp [r_nx, hk, hd]
  have n2 : (r_nx f ch (a, dp, stk, us, sd)).2.2.1 = stk := by simp [r_nx, hk, hd]
  have n3 : (r_nx f ch (a, dp, stk, us, sd)).2.2.2.1 = us := by simp [r_nx, hk, hd]
  have n4 : (r_nx f ch (a, dp, stk, us, sd)).2.2.2.2 = sd := by simp [r_nx, hk, hd]
  have n5 : r_yes f ch (a, dp, stk, us, sd) = 0 := by simp [r_yes, hk, hd]
  refine ⟨e1, ?_⟩
  unfold m_L
  rw [n1, n2, n3, n4, n5]
  simp only [hk]
  refine ⟨?_, fun i g1 g2 => ?_, ?_, ?_, ?_, ?_, fun j hj => ?_, fun hz => ?_, fun j j1 j2 => ?_, fun c' c1 c2 c3 => ?_, ?_⟩
  · first | rfl | (simp [tp_pi1, m_cho, h1, h3, h4, hd]; done) | (simp [tp_pi1, h1, h3, h4, hd]; omega) | omega
  · first | exact h2 i g1 g2 | (simp [tp_pi1, m_cho, hd]; exact h2 i g1 (by omega))
  · first | rfl | (simp [tp_pi1, m_cho, h1, h3, h4, hd]; done) | (simp [tp_pi1, h1, h3, h4, hd]; omega) | omega
  · first | rfl | (simp [tp_pi1, m_cho, h1, h3, h4, hd]; done) | (simp [tp_pi1, h1, h3, h4, hd]; omega) | omega
  · first | rfl | (simp [tp_pi1, m_cho, h1, h3, h4, hd]; done) | (simp [tp_pi1, h1, h3, h4, hd]; omega) | omega
  · first | rfl | (simp [tp_pi1, m_cho, h1, h3, h4, hd]; done) | (simp [tp_pi1, h1, h3, h4, hd]; omega) | omega
  · first | rfl | simp [tp_pi1, m_cho, hj, hd]
  · first | exact hz | (simp [tp_pi1, m_cho, hz, hd]; done)
  · first | rfl | trivial | (simp [tp_pi1, m_cho, hd]; done) | (simp [tp_pi1, m_cho, hd]; omega)
  · first | trivial | rfl | (funext z; simp [tp_pi1, m_cho, c1, c2, c3, hd])
  · first | rfl | simp [m_cho, tp_pi2, hd]
theorem nL_4f {f : Int → Int} {ch : r_H} {a dp us sd k : Int} {stk : Int → Int} {μ : tp_M} (hm : m_M (a, dp, stk, us, sd) μ) (hk : f (9 + a) = 4) (hd : dp = 0) : r_to f ch (a, dp, stk, us, sd) = -1 ∧ m_L f ch (a, dp, stk, us, sd) k μ μ := by
  obtain ⟨h1, h2, h3, h4⟩ := hm
  simp only at h1 h2 h3 h4
  have e1 : r_to f ch (a, dp, stk, us, sd) = -1 := by simp [r_to, hk, hd]
  have n1 : (r_nx f ch (a, dp, stk, us, sd)).2.1 = dp := by simp [r_nx, hk, hd]
  have n2 : (r_nx f ch (a, dp, stk, us, sd)).2.2.1 = stk := by simp [r_nx, hk, hd]
  have n3 : (r_nx f ch (a, dp, stk, us, sd)).2.2.2.1 = us := by simp [r_nx, hk, hd]
  have n4 : (r_nx f ch (a, dp, stk, us, sd)).2.2.2.2 = sd := by simp [r_nx, hk, hd]
  have n5 : r_yes f ch (a, dp, stk, us, sd) = 0 := by simp [r_yes, hk, hd]
  refine ⟨e1, ?_⟩
  unfold m_L
  rw [n1, n2, n3, n4, n5]
  simp only [hk]
  refine ⟨?_, fun i g1 g2 => ?_, ?_, ?_, ?_, ?_, fun j hj => ?_, fun hz => ?_, fun j j1 j2 => ?_, fun c' c1 c2 c3 => ?_, ?_⟩
  · first | rfl | (simp [tp_pi1, m_cho, h1, h3, h4, hd]; done) | (simp [tp_pi1, h1, h3, h4, hd]; omega) | omega
  · first | exact h2 i g1 g2 | (simp [tp_pi1, m_cho, hd]; exact h2 i g1 (by omega))
  · first | rfl | (simp [tp_pi1, m_cho, h1, h3, h4, hd]; done) | (simp [tp_pi1, h1, h3, h4, hd]; omega) | omega
  · first | rfl | (simp [tp_pi1, m_cho, h1, h3, h4, hd]; done) | (simp [tp_pi1, h1, h3, h4, hd]; omega) | omega
  · first | rfl | (simp [tp_pi1, m_cho, h1, h3, h4, hd]; done) | (simp [tp_pi1, h1, h3, h4, hd]; omega) | omega
  · first | rfl | (simp [tp_pi1, m_cho, h1, h3, h4, hd]; done) | (simp [tp_pi1, h1, h3, h4, hd]; omega) | omega
  · first | rfl | simp [tp_pi1, m_cho, hj, hd]
  · first | exact hz | (simp [tp_pi1, m_cho, hz, hd]; done)
  · first | rfl | trivial | (simp [tp_pi1, m_cho, hd]; done) | (simp [tp_pi1, m_cho, hd]; omega)
  · first | trivial | rfl | (funext z; simp [tp_pi1, m_cho, c1, c2, c3, hd])
  · first | rfl | simp [m_cho, tp_pi2, hd]
theorem nL_3 {f : Int → Int} {ch : r_H} {a dp us sd k : Int} {stk : Int → Int} {μ : tp_M} (hm : m_M (a, dp, stk, us, sd) μ) (hk : f (9 + a) = 3) (hd : dp ≠ 9) : r_to f ch (a, dp, stk, us, sd) = f (49 + a) ∧ m_L f ch (a, dp, stk, us, sd) k μ (tp_pi (tp_pi (tp_pi μ 215 dp (a + 1)) 201 29 (dp + 1)) 201 30 (max (μ.1 201 30) (dp + 1))) := by
  obtain ⟨h1, h2, h3, h4⟩ := hm
  simp only at h1 h2 h3 h4
  have e1 : r_to f ch (a, dp, stk, us, sd) = f (49 + a) := by simp [r_to, hk, hd]
  have n1 : (r_nx f ch (a, dp, stk, us, sd)).2.1 = dp + 1 := by simp [r_nx, hk, hd]
  have n2 : (r_nx f ch (a, dp, stk, us, sd)).2.2.1 = (fun i => if i = dp then a + 1 else stk i) := by simp [r_nx, hk, hd]
  have n3 : (r_nx f ch (a, dp, stk, us, sd)).2.2.2.1 = us := by simp [r_nx, hk, hd]
  have n4 : (r_nx f ch (a, dp, stk, us, sd)).2.2.2.2 = sd := by simp [r_nx, hk, hd]
  have n5 : r_yes f ch (a, dp, stk, us, sd) = 0 := by simp [r_yes, hk, hd]
  refine ⟨e1, ?_⟩
  unfold m_L
  rw [n1, n2, n3, n4, n5]
  simp only [hk]
  refine ⟨?_, fun i g1 g2 => ?_, ?_, ?_, ?_, ?_, fun j hj => ?_, fun hz => ?_, fun j j1 j2 => ?_, fun c' c1 c2 c3 => ?_, ?_⟩
  · first | rfl | (simp [tp_pi1, m_cho, h1, h3, h4, hd]; done) | (simp [tp_pi1, h1, h3, h4, hd]; omega) | omega
  · by_cases hi : i = dp
    · simp [tp_pi1, hi]
    · simp [tp_pi1, hi]; exact h2 i g1 (by omega)
  · first | rfl | (simp [tp_pi1, m_cho, h1, h3, h4, hd]; done) | (simp [tp_pi1, h1, h3, h4, hd]; omega) | omega
  · first | rfl | (simp [tp_pi1, m_cho, h1, h3, h4, hd]; done) | (simp [tp_pi1, h1, h3, h4, hd]; omega) | omega
  · first | rfl | (simp [tp_pi1, m_cho, h1, h3, h4, hd]; done) | (simp [tp_pi1, h1, h3, h4, hd]; omega) | omega
  · first | rfl | (simp [tp_pi1, m_cho, h1, h3, h4, hd]; done) | (simp [tp_pi1, h1, h3, h4, hd]; omega) | omega
  · first | rfl | simp [tp_pi1, m_cho, hj, hd]
  · first | exact hz | (simp [tp_pi1, m_cho, hz, hd]; done)
  · first | rfl | trivial | (simp [tp_pi1, m_cho, hd]; done) | (simp [tp_pi1, m_cho, hd]; omega)
  · first | trivial | rfl | (funext z; simp [tp_pi1, m_cho, c1, c2, c3, hd])
  · first | rfl | simp [m_cho, tp_pi2, hd]
theorem nL_4 {f : Int → Int} {ch : r_H} {a dp us sd k : Int} {stk : Int → Int} {μ : tp_M} (hm : m_M (a, dp, stk, us, sd) μ) (hk : f (9 + a) = 4) (hd : dp ≠ 0) : r_to f ch (a, dp, stk, us, sd) = stk (dp - 1) ∧ m_L f ch (a, dp, stk, us, sd) k μ (tp_pi (tp_pi μ 201 29 (dp - 1)) 201 32 (μ.1 201 32 + 1)) := by
  obtain ⟨h1, h2, h3, h4⟩ := hm
  simp only at h1 h2 h3 h4
  have e1 : r_to f ch (a, dp, stk, us, sd) = stk (dp - 1) := by simp [r_to, hk, hd]
  have n1 : (r_nx f ch (a, dp, stk, us, sd)).2.1 = dp - 1 := by simp [r_nx, hk, hd]
  have n2 : (r_nx f ch (a, dp, stk, us, sd)).2.2.1 = stk := by simp [r_nx, hk, hd]
  have n3 : (r_nx f ch (a, dp, stk, us, sd)).2.2.2.1 = us := by simp [r_nx, hk, hd]
  have n4 : (r_nx f ch (a, dp, stk, us, sd)).2.2.2.2 = sd := by simp [r_nx, hk, hd]
  have n5 : r_yes f ch (a, dp, stk, us, sd) = 0 := by simp [r_yes, hk, hd]
  refine ⟨e1, ?_⟩
  unfold m_L
  rw [n1, n2, n3, n4, n5]
  simp only [hk]
  refine ⟨?_, fun i g1 g2 => ?_, ?_, ?_, ?_, ?_, fun j hj => ?_, fun hz => ?_, fun j j1 j2 => ?_, fun c' c1 c2 c3 => ?_, ?_⟩
  · first | rfl | (simp [tp_pi1, m_cho, h1, h3, h4, hd]; done) | (simp [tp_pi1, h1, h3, h4, hd]; omega) | omega
  · first | exact h2 i g1 g2 | (simp [tp_pi1, m_cho, hd]; exact h2 i g1 (by omega))
  · first | rfl | (simp [tp_pi1, m_cho, h1, h3, h4, hd]; done) | (simp [tp_pi1, h1, h3, h4, hd]; omega) | omega
  · first | rfl | (simp [tp_pi1, m_cho, h1, h3, h4, hd]; done) | (simp [tp_pi1, h1, h3, h4, hd]; omega) | omega
  · first | rfl | (simp [tp_pi1, m_cho, h1, h3, h4, hd]; done) | (simp [tp_pi1, h1, h3, h4, hd]; omega) | omega
  · first | rfl | (simp [tp_pi1, m_cho, h1, h3, h4, hd]; done) | (simp [tp_pi1, h1, h3, h4, hd]; omega) | omega
  · first | rfl | simp [tp_pi1, m_cho, hj, hd]
  · first | exact hz | (simp [tp_pi1, m_cho, hz, hd]; done)
  · first | rfl | trivial | (simp [tp_pi1, m_cho, hd]; done) | (simp [tp_pi1, m_cho, hd]; omega)
  · first | trivial | rfl | (funext z; simp [tp_pi1, m_cho, c1, c2, c3, hd])
  · first | rfl | simp [m_cho, tp_pi2, hd]
theorem nL_1n {f : Int → Int} {ch : r_H} {a dp us sd k : Int} {stk : Int → Int} {μ : tp_M} (hm : m_M (a, dp, stk, us, sd) μ) (hk : f (9 + a) = 1) (hv : r_cv ch (a, dp, stk, us, sd) true = -1) : r_to f ch (a, dp, stk, us, sd) = -1 ∧ m_L f ch (a, dp, stk, us, sd) k μ (tp_pi (m_cho (tp_pi μ 201 38 (r_cs ch (a, dp, stk, us, sd) true)) (-1)) 214 k (tp_z 0)) := by
  obtain ⟨h1, h2, h3, h4⟩ := hm
  simp only at h1 h2 h3 h4
  have e1 : r_to f ch (a, dp, stk, us, sd) = -1 := by simp [r_to, hk, hv]
  have n1 : (r_nx f ch (a, dp, stk, us, sd)).2.1 = dp := by simp [r_nx, hk, hv]
  have n2 : (r_nx f ch (a, dp, stk, us, sd)).2.2.1 = stk := by simp [r_nx, hk, hv]
  have n3 : (r_nx f ch (a, dp, stk, us, sd)).2.2.2.1 = us := by simp [r_nx, hk, hv]
  have n4 : (r_nx f ch (a, dp, stk, us, sd)).2.2.2.2 = r_cs ch (a, dp, stk, us, sd) true := by simp [r_nx, hk, hv]
  have n5 : r_yes f ch (a, dp, stk, us, sd) = 0 := by simp [r_yes, hk, hv]
  refine ⟨e1, ?_⟩
  unfold m_L
  rw [n1, n2, n3, n4, n5]
  simp only [hk]
  refine ⟨?_, fun i g1 g2 => ?_, ?_, ?_, ?_, ?_, fun j hj => ?_, fun hz => ?_, fun j j1 j2 => ?_, fun c' c1 c2 c3 => ?_, ?_⟩
  · first | rfl | (simp [tp_pi1, m_cho, h1, h3, h4, tp_z1, tp_z0]; done) | (simp [tp_pi1, h1, h3, h4, tp_z1, tp_z0]; omega) | omega
  · first | exact h2 i g1 g2 | (simp [tp_pi1, m_cho, tp_z1, tp_z0]; exact h2 i g1 (by omega))
  · first | rfl | (simp [tp_pi1, m_cho, h1, h3, h4, tp_z1, tp_z0]; done) | (simp [tp_pi1, h1, h3, h4, tp_z1, tp_z0]; omega) | omega
  · first | rfl | (simp [tp_pi1, m_cho, h1, h3, h4, tp_z1, tp_z0]; done) | (simp [tp_pi1, h1, h3, h4, tp_z1, tp_z0]; omega) | omega
  · first | rfl | (simp [tp_pi1, m_cho, h1, h3, h4, tp_z1, tp_z0]; done) | (simp [tp_pi1, h1, h3, h4, tp_z1, tp_z0]; omega) | omega
  · first | rfl | (simp [tp_pi1, m_cho, h1, h3, h4, tp_z1, tp_z0]; done) | (simp [tp_pi1, h1, h3, h4, tp_z1, tp_z0]; omega) | omega
  · first | rfl | simp [tp_pi1, m_cho, hj, tp_z1, tp_z0]
  · first | exact hz | (simp [tp_pi1, m_cho, hz, tp_z1, tp_z0]; done)
  · first | rfl | trivial | (simp [tp_pi1, m_cho, tp_z1, tp_z0]; done) | (simp [tp_pi1, m_cho, tp_z1, tp_z0]; omega)
  · first | trivial | rfl | (funext z; simp [tp_pi1, m_cho, c1, c2, c3, tp_z1, tp_z0])
  · first | rfl | simp [m_cho, tp_pi2, tp_z1, tp_z0]
theorem nL_1o {f : Int → Int} {ch : r_H} {a dp us sd k : Int} {stk : Int → Int} {μ : tp_M} (hm : m_M (a, dp, stk, us, sd) μ) (hk : f (9 + a) = 1) (hv : r_cv ch (a, dp, stk, us, sd) true = 100) : r_to f ch (a, dp, stk, us, sd) = a + 1 ∧ m_L f ch (a, dp, stk, us, sd) k μ (tp_pi (m_cho (tp_pi μ 201 38 (r_cs ch (a, dp, stk, us, sd) true)) 100) 214 k (tp_z 0)) := by
  obtain ⟨h1, h2, h3, h4⟩ := hm
  simp only at h1 h2 h3 h4
  have e1 : r_to f ch (a, dp, stk, us, sd) = a + 1 := by simp [r_to, hk, hv]
  have n1 : (r_nx f ch (a, dp, stk, us, sd)).2.1 = dp := by simp [r_nx, hk, hv]
  have n2 : (r_nx f ch (a, dp, stk, us, sd)).2.2.1 = stk := by simp [r_nx, hk, hv]
  have n3 : (r_nx f ch (a, dp, stk, us, sd)).2.2.2.1 = us + 1 := by simp [r_nx, hk, hv]
  have n4 : (r_nx f ch (a, dp, stk, us, sd)).2.2.2.2 = r_cs ch (a, dp, stk, us, sd) true := by simp [r_nx, hk, hv]
  have n5 : r_yes f ch (a, dp, stk, us, sd) = 0 := by simp [r_yes, hk, hv]
  refine ⟨e1, ?_⟩
  unfold m_L
  rw [n1, n2, n3, n4, n5]
  simp only [hk]
  refine ⟨?_, fun i g1 g2 => ?_, ?_, ?_, ?_, ?_, fun j hj => ?_, fun hz => ?_, fun j j1 j2 => ?_, fun c' c1 c2 c3 => ?_, ?_⟩
  · first | rfl | (simp [tp_pi1, m_cho, h1, h3, h4, tp_z1, tp_z0]; done) | (simp [tp_pi1, h1, h3, h4, tp_z1, tp_z0]; omega) | omega
  · first | exact h2 i g1 g2 | (simp [tp_pi1, m_cho, tp_z1, tp_z0]; exact h2 i g1 (by omega))
  · first | rfl | (simp [tp_pi1, m_cho, h1, h3, h4, tp_z1, tp_z0]; done) | (simp [tp_pi1, h1, h3, h4, tp_z1, tp_z0]; omega) | omega
  · first | rfl | (simp [tp_pi1, m_cho, h1, h3, h4, tp_z1, tp_z0]; done) | (simp [tp_pi1, h1, h3, h4, tp_z1, tp_z0]; omega) | omega
  · first | rfl | (simp [tp_pi1, m_cho, h1, h3, h4, tp_z1, tp_z0]; done) | (simp [tp_pi1, h1, h3, h4, tp_z1, tp_z0]; omega) | omega
  · first | rfl | (simp [tp_pi1, m_cho, h1, h3, h4, tp_z1, tp_z0]; done) | (simp [tp_pi1, h1, h3, h4, tp_z1, tp_z0]; omega) | omega
  · first | rfl | simp [tp_pi1, m_cho, hj, tp_z1, tp_z0]
  · first | exact hz | (simp [tp_pi1, m_cho, hz, tp_z1, tp_z0]; done)
  · first | rfl | trivial | (simp [tp_pi1, m_cho, tp_z1, tp_z0]; done) | (simp [tp_pi1, m_cho, tp_z1, tp_z0]; omega)
  · first | trivial | rfl | (funext z; simp [tp_pi1, m_cho, c1, c2, c3, tp_z1, tp_z0])
  · first | rfl | simp [m_cho, tp_pi2, tp_z1, tp_z0]
theorem nL_1y {f : Int → Int} {ch : r_H} {a dp us sd k : Int} {stk : Int → Int} {μ : tp_M} (hm : m_M (a, dp, stk, us, sd) μ) (hk : f (9 + a) = 1) (hv : r_cv ch (a, dp, stk, us, sd) true = 101) : r_to f ch (a, dp, stk, us, sd) = f (49 + a) ∧ m_L f ch (a, dp, stk, us, sd) k μ (tp_pi (m_cho (tp_pi μ 201 38 (r_cs ch (a, dp, stk, us, sd) true)) 101) 214 k (tp_z 1)) := by
  obtain ⟨h1, h2, h3, h4⟩ := hm
  simp only at h1 h2 h3 h4
  have e1 : r_to f ch (a, dp, stk, us, sd) = f (49 + a) := by simp [r_to, hk, hv]
  have n1 : (r_nx f ch (a, dp, stk, us, sd)).2.1 = dp := by simp [r_nx, hk, hv]
  have n2 : (r_nx f ch (a, dp, stk, us, sd)).2.2.1 = stk := by simp [r_nx, hk, hv]
  have n3 : (r_nx f ch (a, dp, stk, us, sd)).2.2.2.1 = us + 1 := by simp [r_nx, hk, hv]
  have n4 : (r_nx f ch (a, dp, stk, us, sd)).2.2.2.2 = r_cs ch (a, dp, stk, us, sd) true := by simp [r_nx, hk, hv]
  have n5 : r_yes f ch (a, dp, stk, us, sd) = 1 := by simp [r_yes, hk, hv]
  refine ⟨e1, ?_⟩
  unfold m_L
  rw [n1, n2, n3, n4, n5]
  simp only [hk]
  refine ⟨?_, fun i g1 g2 => ?_, ?_, ?_, ?_, ?_, fun j hj => ?_, fun hz => ?_, fun j j1 j2 => ?_, fun c' c1 c2 c3 => ?_, ?_⟩
  · first | rfl | (simp [tp_pi1, m_cho, h1, h3, h4, tp_z1, tp_z0]; done) | (simp [tp_pi1, h1, h3, h4, tp_z1, tp_z0]; omega) | omega
  · first | exact h2 i g1 g2 | (simp [tp_pi1, m_cho, tp_z1, tp_z0]; exact h2 i g1 (by omega))
  · first | rfl | (simp [tp_pi1, m_cho, h1, h3, h4, tp_z1, tp_z0]; done) | (simp [tp_pi1, h1, h3, h4, tp_z1, tp_z0]; omega) | omega
  · first | rfl | (simp [tp_pi1, m_cho, h1, h3, h4, tp_z1, tp_z0]; done) | (simp [tp_pi1, h1, h3, h4, tp_z1, tp_z0]; omega) | omega
  · first | rfl | (simp [tp_pi1, m_cho, h1, h3, h4, tp_z1, tp_z0]; done) | (simp [tp_pi1, h1, h3, h4, tp_z1, tp_z0]; omega) | omega
  · first | rfl | (simp [tp_pi1, m_cho, h1, h3, h4, tp_z1, tp_z0]; done) | (simp [tp_pi1, h1, h3, h4, tp_z1, tp_z0]; omega) | omega
  · first | rfl | simp [tp_pi1, m_cho, hj, tp_z1, tp_z0]
  · first | exact hz | (simp [tp_pi1, m_cho, hz, tp_z1, tp_z0]; done)
  · first | rfl | trivial | (simp [tp_pi1, m_cho, tp_z1, tp_z0]; done) | (simp [tp_pi1, m_cho, tp_z1, tp_z0]; omega)
  · first | trivial | rfl | (funext z; simp [tp_pi1, m_cho, c1, c2, c3, tp_z1, tp_z0])
  · first | rfl | simp [m_cho, tp_pi2, tp_z1, tp_z0]
theorem nL_5n {f : Int → Int} {ch : r_H} {a dp us sd k : Int} {stk : Int → Int} {μ : tp_M} (hm : m_M (a, dp, stk, us, sd) μ) (hk : f (9 + a) = 5) (hv : r_cv ch (a, dp, stk, us, sd) false = -1) : r_to f ch (a, dp, stk, us, sd) = -1 ∧ m_L f ch (a, dp, stk, us, sd) k μ (m_cho (tp_pi μ 201 38 (r_cs ch (a, dp, stk, us, sd) false)) (-1)) := by
  obtain ⟨h1, h2, h3, h4⟩ := hm
  simp only at h1 h2 h3 h4
  have e1 : r_to f ch (a, dp, stk, us, sd) = -1 := by simp [r_to, hk, hv]
  have n1 : (r_nx f ch (a, dp, stk, us, sd)).2.1 = dp := by simp [r_nx, hk, hv]
  have n2 : (r_nx f ch (a, dp, stk, us, sd)).2.2.1 = stk := by simp [r_nx, hk, hv]
  have n3 : (r_nx f ch (a, dp, stk, us, sd)).2.2.2.1 = us := by simp [r_nx, hk, hv]
  have n4 : (r_nx f ch (a, dp, stk, us, sd)).2.2.2.2 = r_cs ch (a, dp, stk, us, sd) false := by simp [r_nx, hk, hv]
  have n5 : r_yes f ch (a, dp, stk, us, sd) = 0 := by simp [r_yes, hk, hv]
  refine ⟨e1, ?_⟩
  unfold m_L
  rw [n1, n2, n3, n4, n5]
  simp only [hk]
  refine ⟨?_, fun i g1 g2 => ?_, ?_, ?_, ?_, ?_, fun j hj => ?_, fun hz => ?_, fun j j1 j2 => ?_, fun c' c1 c2 c3 => ?_, ?_⟩
  · first | rfl | (simp [tp_pi1, m_cho, h1, h3, h4]; done) | (simp [tp_pi1, h1, h3, h4]; omega) | omega
  · first | exact h2 i g1 g2 | (simp [tp_pi1, m_cho]; exact h2 i g1 (by omega))
  · first | rfl | (simp [tp_pi1, m_cho, h1, h3, h4]; done) | (simp [tp_pi1, h1, h3, h4]; omega) | omega
  · first | rfl | (simp [tp_pi1, m_cho, h1, h3, h4]; done) | (simp [tp_pi1, h1, h3, h4]; omega) | omega
  · first | rfl | (simp [tp_pi1, m_cho, h1, h3, h4]; done) | (simp [tp_pi1, h1, h3, h4]; omega) | omega
  · first | rfl | (simp [tp_pi1, m_cho, h1, h3, h4]; done) | (simp [tp_pi1, h1, h3, h4]; omega) | omega
  · first | rfl | simp [tp_pi1, m_cho, hj]
  · first | exact hz | (simp [tp_pi1, m_cho, hz]; done)
  · first | rfl | trivial | (simp [tp_pi1, m_cho]; done) | (simp [tp_pi1, m_cho]; omega)
  · first | trivial | rfl | (funext z; simp [tp_pi1, m_cho, c1, c2, c3])
  · first | rfl | simp [m_cho, tp_pi2]
theorem nL_5 {f : Int → Int} {ch : r_H} {a dp us sd k : Int} {stk : Int → Int} {μ : tp_M} (hm : m_M (a, dp, stk, us, sd) μ) (hk : f (9 + a) = 5) (hv : 0 ≤ r_cv ch (a, dp, stk, us, sd) false) : r_to f ch (a, dp, stk, us, sd) = r_cv ch (a, dp, stk, us, sd) false ∧ m_L f ch (a, dp, stk, us, sd) k μ (m_cho (tp_pi μ 201 38 (r_cs ch (a, dp, stk, us, sd) false)) (r_cv ch (a, dp, stk, us, sd) false)) := by
  obtain ⟨h1, h2, h3, h4⟩ := hm
  simp only at h1 h2 h3 h4
  have e1 : r_to f ch (a, dp, stk, us, sd) = r_cv ch (a, dp, stk, us, sd) false := by simp [r_to, hk, (show r_cv ch (a, dp, stk, us, sd) false ≠ -1 by omega)]
  have n1 : (r_nx f ch (a, dp, stk, us, sd)).2.1 = dp := by simp [r_nx, hk, (show r_cv ch (a, dp, stk, us, sd) false ≠ -1 by omega)]
  have n2 : (r_nx f ch (a, dp, stk, us, sd)).2.2.1 = stk := by simp [r_nx, hk, (show r_cv ch (a, dp, stk, us, sd) false ≠ -1 by omega)]
  have n3 : (r_nx f ch (a, dp, stk, us, sd)).2.2.2.1 = us + 1 := by simp [r_nx, hk, (show r_cv ch (a, dp, stk, us, sd) false ≠ -1 by omega)]
  have n4 : (r_nx f ch (a, dp, stk, us, sd)).2.2.2.2 = r_cs ch (a, dp, stk, us, sd) false := by simp [r_nx, hk, (show r_cv ch (a, dp, stk, us, sd) false ≠ -1 by omega)]
  have n5 : r_yes f ch (a, dp, stk, us, sd) = 0 := by simp [r_yes, hk, (show r_cv ch (a, dp, stk, us, sd) false ≠ -1 by omega)]
  refine ⟨e1, ?_⟩
  unfold m_L
  rw [n1, n2, n3, n4, n5]
  simp only [hk]
  refine ⟨?_, fun i g1 g2 => ?_, ?_, ?_, ?_, ?_, fun j hj => ?_, fun hz => ?_, fun j j1 j2 => ?_, fun c' c1 c2 c3 => ?_, ?_⟩
  · first | rfl | (simp [tp_pi1, m_cho, h1, h3, h4, (show r_cv ch (a, dp, stk, us, sd) false ≠ -1 by omega)]; done) | (simp [tp_pi1, h1, h3, h4, (show r_cv ch (a, dp, stk, us, sd) false ≠ -1 by omega)]; omega) | omega
  · first | exact h2 i g1 g2 | (simp [tp_pi1, m_cho, (show r_cv ch (a, dp, stk, us, sd) false ≠ -1 by omega)]; exact h2 i g1 (by omega))
  · first | rfl | (simp [tp_pi1, m_cho, h1, h3, h4, (show r_cv ch (a, dp, stk, us, sd) false ≠ -1 by omega)]; done) | (simp [tp_pi1, h1, h3, h4, (show r_cv ch (a, dp, stk, us, sd) false ≠ -1 by omega)]; omega) | omega
  · first | rfl | (simp [tp_pi1, m_cho, h1, h3, h4, (show r_cv ch (a, dp, stk, us, sd) false ≠ -1 by omega)]; done) | (simp [tp_pi1, h1, h3, h4, (show r_cv ch (a, dp, stk, us, sd) false ≠ -1 by omega)]; omega) | omega
  · first | rfl | (simp [tp_pi1, m_cho, h1, h3, h4, (show r_cv ch (a, dp, stk, us, sd) false ≠ -1 by omega)]; done) | (simp [tp_pi1, h1, h3, h4, (show r_cv ch (a, dp, stk, us, sd) false ≠ -1 by omega)]; omega) | omega
  · first | rfl | (simp [tp_pi1, m_cho, h1, h3, h4, (show r_cv ch (a, dp, stk, us, sd) false ≠ -1 by omega)]; done) | (simp [tp_pi1, h1, h3, h4, (show r_cv ch (a, dp, stk, us, sd) false ≠ -1 by omega)]; omega) | omega
  · first | rfl | simp [tp_pi1, m_cho, hj, (show r_cv ch (a, dp, stk, us, sd) false ≠ -1 by omega)]
  · first | exact hz | (simp [tp_pi1, m_cho, hz, (show r_cv ch (a, dp, stk, us, sd) false ≠ -1 by omega)]; done)
  · first | rfl | trivial | (simp [tp_pi1, m_cho, (show r_cv ch (a, dp, stk, us, sd) false ≠ -1 by omega)]; done) | (simp [tp_pi1, m_cho, (show r_cv ch (a, dp, stk, us, sd) false ≠ -1 by omega)]; omega)
  · first | trivial | rfl | (funext z; simp [tp_pi1, m_cho, c1, c2, c3, (show r_cv ch (a, dp, stk, us, sd) false ≠ -1 by omega)])
  · first | rfl | simp [m_cho, tp_pi2, (show r_cv ch (a, dp, stk, us, sd) false ≠ -1 by omega)]
/-- the chooser of the reference answers as ch does -/
def m_Hc (G : tp_G) (ch : r_H) (μ0 : tp_M) : Prop := ∀ (μ : tp_M) (a dp us sd : Int) (stk : Int → Int), m_F μ0 μ → m_M (a, dp, stk, us, sd) μ → 0 ≤ us → us < 1000 → ∀ b : Bool, tp_k G mX12_choose [tR (some 201), tI (if b = true then 1 else 0)] μ (fun r μ' => r = some (tI (r_cv ch (a, dp, stk, us, sd) b)) ∧ μ' = m_cho (tp_pi μ 201 38 (r_cs ch (a, dp, stk, us, sd) b)) (r_cv ch (a, dp, stk, us, sd) b))
set_option maxHeartbeats 4000000 in
set_option maxRecDepth 100000 in
theorem s_goesFrom {G : tp_G} {μ : tp_M} (hG : tp_Gf G = true) {ck : Int} {f : Int → Int} {ch : r_H} {a dp us sd k : Int} {stk : Int → Int} (hMc : tp_Mc ck f μ) (hw : tp_Cw f) (ha : 0 ≤ a ∧ a < f 0) (hm : m_M (a, dp, stk, us, sd) μ) (hdp : 0 ≤ dp ∧ dp ≤ 9) (hst : μ.1 201 27 = k) (hk : 0 ≤ k ∧ k < 200) (hret : 0 ≤ μ.1 201 32 ∧ μ.1 201 32 < 1000)
    (hs1 : r_cv ch (a, dp, stk, us, sd) true = -1 ∨ r_cv ch (a, dp, stk, us, sd) true = 100 ∨ r_cv ch (a, dp, stk, us, sd) true = 101) (hs0 : r_cv ch (a, dp, stk, us, sd) false = -1 ∨ (0 ≤ r_cv ch (a, dp, stk, us, sd) false ∧ r_cv ch (a, dp, stk, us, sd) false ≤ 39))
    (Hc1 : tp_k G mX12_choose [tR (some 201), tI 1] μ (fun r μ' => r = some (tI (r_cv ch (a, dp, stk, us, sd) true)) ∧ μ' = m_cho (tp_pi μ 201 38 (r_cs ch (a, dp, stk, us, sd) true)) (r_cv ch (a, dp, stk, us, sd) true)))
    (Hc0 : tp_k G mX12_choose [tR (some 201), tI 0] μ (fun r μ' => r = some (tI (r_cv ch (a, dp, stk, us, sd) false)) ∧ μ' = m_cho (tp_pi μ 201 38 (r_cs ch (a, dp, stk, us, sd) false)) (r_cv ch (a, dp, stk, us, sd) false))) : tp_k G mX12_goesFrom [tR (some 201), tI a] μ (fun r μ' => r = some (tI (r_to f ch (a, dp, stk, us, sd))) ∧ m_L f ch (a, dp, stk, us, sd) k μ μ') := by
  have hm2 := hm
  obtain ⟨m1, m2, m3, m4⟩ := hm2
  simp only at m1 m3 m4
  subst m1
  subst m3
  subst m4
  subst hst
  have hw0 := hw.1
  have hkr := (hw.2.1 a ha.1 ha.2).1
  refine tp_ok_of mX12_goesFrom_ok rfl (Nat.le_refl _) ?_
  refine g_aload_n rfl rfl ?_
  refine g_iload_n rfl rfl ?_
  refine g_cV (as := [tI a]) (s_kindM hG hMc (by omega) (by omega)) rfl rfl mX12_kindAt_ok rfl rfl rfl (by decide) rfl rfl rfl ?_
  rintro _ w9 ⟨rfl, hw9⟩ _
  have hw9 := hw9.symm
  subst hw9
  rcases (show (f (9 + a)) < 1 ∨ (f (9 + a)) = 1 ∨ (f (9 + a)) = 2 ∨ (f (9 + a)) = 3 ∨ (f (9 + a)) = 4 ∨ (f (9 + a)) = 5 ∨ (f (9 + a)) = 6 ∨ 6 < (f (9 + a)) by omega) with h1 | h1 | h1 | h1 | h1 | h1 | h1 | h1
  · refine g_swOut (tgt := 128) rfl (by omega) (by decide) ?_
    refine g_iload_n rfl rfl ?_
    refine g_iconst rfl ⟨by decide, by decide⟩ ?_
    refine x_iadd (z := a + 1) rfl (by omega) ⟨by omega, by omega⟩ ?_
    refine x_ireturn rfl rfl ?_
    obtain ⟨e1, e2⟩ := nL_0 (f := f) (ch := ch) (k := μ.1 201 27) hm (by omega)
    exact ⟨by rw [e1], e2⟩
  · refine g_swIn (off := 39) (tgt := 44) rfl (by omega) (by omega) (by rw [show ((f (9 + a)) - 1).toNat = 0 by omega]; rfl) (by decide) ?_
    refine g_aload_n rfl rfl ?_
    refine g_iconst rfl ⟨by decide, by decide⟩ ?_
    refine g_cV (as := [tI 1]) (Hc1) rfl rfl mX12_choose_ok rfl rfl rfl (by decide) rfl rfl rfl ?_
    rintro _ w9 ⟨rfl, hw9⟩ _
    rcases hs1 with hV | hV | hV
    · rw [hV]
      rw [hV] at hw9
      subst hw9
      change tp_go G _ _ _ _ (tp_pi μ 201 38 (r_cs ch (a, μ.1 201 29, stk, μ.1 201 31, μ.1 201 38) true)) 234 234 0 _
      refine g_istore_n rfl rfl rfl ?_
      refine g_aload_n rfl rfl ?_
      refine x_getF (r := 214) hG rfl rfl (by decide) (Or.inr ⟨_, rfl⟩) rfl ?_
      refine g_aload_n rfl rfl ?_
      refine x_geti (v := (μ.1 201 27)) rfl rfl (by decide) (Or.inl rfl) rfl ?_
      refine g_iload_n rfl rfl ?_
      refine g_bipush rfl ⟨by decide, by decide⟩ (by decide) ?_
      refine g_icmp_ne (tgt := 68) rfl (by decide) (fun _ => ?_) (fun hx => absurd hx (by omega))
      refine g_iconst rfl ⟨by decide, by decide⟩ ?_
      refine g_zast rfl rfl (by decide) (by omega) (by omega) ?_
      refine g_iload_n rfl rfl ?_
      refine g_iconst rfl ⟨by decide, by decide⟩ ?_
      refine g_icmp_ne (tgt := 79) rfl (by decide) (fun hx => absurd hx (by omega)) (fun _ => ?_)
      refine g_iconst rfl ⟨by decide, by decide⟩ ?_
      refine g_goto (tgt := 99) rfl (by decide) ?_
      refine x_ireturn rfl rfl ?_
      obtain ⟨e1, e2⟩ := nL_1n (f := f) (ch := ch) (k := μ.1 201 27) hm (by omega) hV
      exact ⟨by rw [e1], e2⟩
    · rw [hV]
      rw [hV] at hw9
      subst hw9
      change tp_go G _ _ _ _ (tp_pi (tp_pi μ 201 38 (r_cs ch (a, μ.1 201 29, stk, μ.1 201 31, μ.1 201 38) true)) 201 31 ((μ.1 201 31) + 1)) 234 234 0 _
      refine g_istore_n rfl rfl rfl ?_
      refine g_aload_n rfl rfl ?_
      refine x_getF (r := 214) hG rfl rfl (by decide) (Or.inr ⟨_, rfl⟩) rfl ?_
      refine g_aload_n rfl rfl ?_
      refine x_geti (v := (μ.1 201 27)) rfl rfl (by decide) (Or.inl rfl) rfl ?_
      refine g_iload_n rfl rfl ?_
      refine g_bipush rfl ⟨by decide, by decide⟩ (by decide) ?_
      refine g_icmp_ne (tgt := 68) rfl (by decide) (fun _ => ?_) (fun hx => absurd hx (by omega))
      refine g_iconst rfl ⟨by decide, by decide⟩ ?_
      refine g_zast rfl rfl (by decide) (by omega) (by omega) ?_
      refine g_iload_n rfl rfl ?_
      refine g_iconst rfl ⟨by decide, by decide⟩ ?_
      refine g_icmp_ne (tgt := 79) rfl (by decide) (fun _ => ?_) (fun hx => absurd hx (by omega))
      refine g_iload_n rfl rfl ?_
      refine g_bipush rfl ⟨by decide, by decide⟩ (by decide) ?_
      refine g_icmp_ne (tgt := 96) rfl (by decide) (fun _ => ?_) (fun hx => absurd hx (by omega))
      refine g_iload_n rfl rfl ?_
      refine g_iconst rfl ⟨by decide, by decide⟩ ?_
      refine x_iadd (z := a + 1) rfl (by omega) ⟨by omega, by omega⟩ ?_
      refine x_ireturn rfl rfl ?_
      obtain ⟨e1, e2⟩ := nL_1o (f := f) (ch := ch) (k := μ.1 201 27) hm (by omega) hV
      exact ⟨by rw [e1], e2⟩
    · rw [hV]
      rw [hV] at hw9
      subst hw9
      change tp_go G _ _ _ _ (tp_pi (tp_pi μ 201 38 (r_cs ch (a, μ.1 201 29, stk, μ.1 201 31, μ.1 201 38) true)) 201 31 ((μ.1 201 31) + 1)) 234 234 0 _
      refine g_istore_n rfl rfl rfl ?_
      refine g_aload_n rfl rfl ?_
      refine x_getF (r := 214) hG rfl rfl (by decide) (Or.inr ⟨_, rfl⟩) rfl ?_
      refine g_aload_n rfl rfl ?_
      refine x_geti (v := (μ.1 201 27)) rfl rfl (by decide) (Or.inl rfl) rfl ?_
      refine g_iload_n rfl rfl ?_
      refine g_bipush rfl ⟨by decide, by decide⟩ (by decide) ?_
      refine g_icmp_ne (tgt := 68) rfl (by decide) (fun hx => absurd hx (by omega)) (fun _ => ?_)
      refine g_iconst rfl ⟨by decide, by decide⟩ ?_
      refine g_goto (tgt := 69) rfl (by decide) ?_
      refine g_zast rfl rfl (by decide) (by omega) (by omega) ?_
      refine g_iload_n rfl rfl ?_
      refine g_iconst rfl ⟨by decide, by decide⟩ ?_
      refine g_icmp_ne (tgt := 79) rfl (by decide) (fun _ => ?_) (fun hx => absurd hx (by omega))
      refine g_iload_n rfl rfl ?_
      refine g_bipush rfl ⟨by decide, by decide⟩ (by decide) ?_
      refine g_icmp_ne (tgt := 96) rfl (by decide) (fun hx => absurd hx (by omega)) (fun _ => ?_)
      refine g_aload_n rfl rfl ?_
      refine g_bipush rfl ⟨by decide, by decide⟩ (by decide) ?_
      refine g_iload_n rfl rfl ?_
      refine x_iadd (z := a + 49) rfl (by omega) ⟨by omega, by omega⟩ ?_
      refine g_cV (as := [tI (a + 49)]) (s_of hG (tp_Mc_pi (by omega) (tp_Mc_pi (by omega) (tp_Mc_pi (by omega) hMc))) (by omega) (by omega)) rfl rfl mX12_of_ok rfl rfl rfl (by decide) rfl rfl rfl ?_
      rintro _ w9 ⟨rfl, hw9⟩ _
      have hw9 := hw9.symm
      subst hw9
      rw [show a + 49 = 49 + a by omega]
      refine g_goto (tgt := 99) rfl (by decide) ?_
      refine x_ireturn rfl rfl ?_
      obtain ⟨e1, e2⟩ := nL_1y (f := f) (ch := ch) (k := μ.1 201 27) hm (by omega) hV
      exact ⟨by rw [e1], e2⟩
  · refine g_swIn (off := 95) (tgt := 100) rfl (by omega) (by omega) (by rw [show ((f (9 + a)) - 1).toNat = 1 by omega]; rfl) (by decide) ?_
    refine g_aload_n rfl rfl ?_
    refine g_bipush rfl ⟨by decide, by decide⟩ (by decide) ?_
    refine g_iload_n rfl rfl ?_
    refine x_iadd (z := a + 49) rfl (by omega) ⟨by omega, by omega⟩ ?_
    refine g_cV (as := [tI (a + 49)]) (s_of hG hMc (by omega) (by omega)) rfl rfl mX12_of_ok rfl rfl rfl (by decide) rfl rfl rfl ?_
    rintro _ w9 ⟨rfl, hw9⟩ _
    have hw9 := hw9.symm
    subst hw9
    rw [show a + 49 = 49 + a by omega]
    refine x_ireturn rfl rfl ?_
    obtain ⟨e1, e2⟩ := nL_2 (f := f) (ch := ch) (k := μ.1 201 27) hm (by omega)
    exact ⟨by rw [e1], e2⟩
  · refine g_swIn (off := 104) (tgt := 109) rfl (by omega) (by omega) (by rw [show ((f (9 + a)) - 1).toNat = 2 by omega]; rfl) (by decide) ?_
    refine g_aload_n rfl rfl ?_
    refine g_iload_n rfl rfl ?_
    refine g_iV (as := [tI a]) mX12_calls_ok rfl rfl rfl rfl rfl rfl (by decide) rfl rfl rfl ?_
    refine g_aload_n rfl rfl ?_
    refine x_geti (v := (μ.1 201 29)) rfl rfl (by decide) (Or.inl rfl) rfl ?_
    refine g_bipush rfl ⟨by decide, by decide⟩ (by decide) ?_
    refine g_icmp_ne (tgt := 11) rfl (by decide) (fun h2 => ?_) (fun h2 => ?_)
    · refine g_aload_n rfl rfl ?_
      refine x_getF (r := 215) hG rfl rfl (by decide) (Or.inr ⟨_, rfl⟩) rfl ?_
      refine g_aload_n rfl rfl ?_
      refine x_geti (v := (μ.1 201 29)) rfl rfl (by decide) (Or.inl rfl) rfl ?_
      refine g_iload_n rfl rfl ?_
      refine g_iconst rfl ⟨by decide, by decide⟩ ?_
      refine x_iadd (z := a + 1) rfl (by omega) ⟨by omega, by omega⟩ ?_
      refine g_iast rfl rfl (by decide) (by omega) (by omega) ?_
      refine g_aload_n rfl rfl ?_
      refine g_dupr rfl ?_
      refine x_geti (v := (μ.1 201 29)) rfl rfl (by decide) (Or.inl rfl) rfl ?_
      refine g_iconst rfl ⟨by decide, by decide⟩ ?_
      refine x_iadd (z := (μ.1 201 29) + 1) rfl (by omega) ⟨by omega, by omega⟩ ?_
      refine g_puti rfl rfl (by decide) rfl rfl ?_
      refine g_aload_n rfl rfl ?_
      refine g_aload_n rfl rfl ?_
      refine x_geti (v := (μ.1 201 30)) rfl rfl (by decide) (Or.inl rfl) rfl ?_
      refine g_aload_n rfl rfl ?_
      refine x_geti (v := (μ.1 201 29) + 1) rfl rfl (by decide) (Or.inl rfl) rfl ?_
      refine g_cS (as := [tI (μ.1 201 30), tI ((μ.1 201 29) + 1)]) (s_greater hG) rfl rfl mX12_greater_ok rfl rfl rfl rfl ?_
      rintro _ w9 ⟨rfl, hw9⟩ _
      have hw9 := hw9.symm
      subst hw9
      refine g_puti rfl rfl (by decide) rfl rfl ?_
      refine g_aload_n rfl rfl ?_
      refine g_bipush rfl ⟨by decide, by decide⟩ (by decide) ?_
      refine g_iload_n rfl rfl ?_
      refine x_iadd (z := a + 49) rfl (by omega) ⟨by omega, by omega⟩ ?_
      refine g_cV (as := [tI (a + 49)]) (s_of hG (tp_Mc_pi (by omega) (tp_Mc_pi (by omega) (tp_Mc_pi (by omega) hMc))) (by omega) (by omega)) rfl rfl mX12_of_ok rfl rfl rfl (by decide) rfl rfl rfl ?_
      rintro _ w9 ⟨rfl, hw9⟩ _
      have hw9 := hw9.symm
      subst hw9
      rw [show a + 49 = 49 + a by omega]
      refine x_ireturn rfl rfl ?_
      intro _
      refine x_ireturn rfl rfl ?_
      obtain ⟨e1, e2⟩ := nL_3 (f := f) (ch := ch) (k := μ.1 201 27) hm (by omega) (by omega)
      exact ⟨by rw [e1], e2⟩
    · refine g_iconst rfl ⟨by decide, by decide⟩ ?_
      refine x_ireturn rfl rfl ?_
      intro _
      refine x_ireturn rfl rfl ?_
      obtain ⟨e1, e2⟩ := nL_3f (f := f) (ch := ch) (k := μ.1 201 27) hm (by omega) (by omega)
      exact ⟨by rw [e1], e2⟩
  · refine g_swIn (off := 110) (tgt := 115) rfl (by omega) (by omega) (by rw [show ((f (9 + a)) - 1).toNat = 3 by omega]; rfl) (by decide) ?_
    refine g_aload_n rfl rfl ?_
    refine g_iV (as := []) mX12_comesBack_ok rfl rfl rfl rfl rfl rfl (by decide) rfl rfl rfl ?_
    refine g_aload_n rfl rfl ?_
    refine x_geti (v := (μ.1 201 29)) rfl rfl (by decide) (Or.inl rfl) rfl ?_
    refine g_if_ne (tgt := 9) rfl (by decide) (fun h3 => ?_) (fun h3 => ?_)
    · refine g_aload_n rfl rfl ?_
      refine g_dupr rfl ?_
      refine x_geti (v := (μ.1 201 29)) rfl rfl (by decide) (Or.inl rfl) rfl ?_
      refine g_iconst rfl ⟨by decide, by decide⟩ ?_
      refine x_isub (z := (μ.1 201 29) - 1) rfl (by omega) ⟨by omega, by omega⟩ ?_
      refine g_puti rfl rfl (by decide) rfl rfl ?_
      refine g_aload_n rfl rfl ?_
      refine g_dupr rfl ?_
      refine x_geti (v := (μ.1 201 32)) rfl rfl (by decide) (Or.inl rfl) rfl ?_
      refine g_iconst rfl ⟨by decide, by decide⟩ ?_
      refine x_iadd (z := (μ.1 201 32) + 1) rfl (by omega) ⟨by omega, by omega⟩ ?_
      refine g_puti rfl rfl (by decide) rfl rfl ?_
      refine g_aload_n rfl rfl ?_
      refine x_getF (r := 215) hG rfl rfl (by decide) (Or.inr ⟨_, rfl⟩) rfl ?_
      refine g_aload_n rfl rfl ?_
      refine x_geti (v := (μ.1 201 29) - 1) rfl rfl (by decide) (Or.inl rfl) rfl ?_
      refine x_iald (v := (μ.1 215 ((μ.1 201 29) - 1))) rfl rfl (by decide) (by omega) (by omega) rfl ?_
      refine x_ireturn rfl rfl ?_
      intro _
      refine x_ireturn rfl rfl ?_
      obtain ⟨e1, e2⟩ := nL_4 (f := f) (ch := ch) (k := μ.1 201 27) hm (by omega) (by omega)
      exact ⟨by rw [e1]; exact congrArg (fun z => some (tI z)) (hm.2.1 (μ.1 201 29 - 1) (by omega) (by show μ.1 201 29 - 1 < μ.1 201 29; omega)), e2⟩
    · refine g_iconst rfl ⟨by decide, by decide⟩ ?_
      refine x_ireturn rfl rfl ?_
      intro _
      refine x_ireturn rfl rfl ?_
      obtain ⟨e1, e2⟩ := nL_4f (f := f) (ch := ch) (k := μ.1 201 27) hm (by omega) (by omega)
      exact ⟨by rw [e1], e2⟩
  · refine g_swIn (off := 115) (tgt := 120) rfl (by omega) (by omega) (by rw [show ((f (9 + a)) - 1).toNat = 4 by omega]; rfl) (by decide) ?_
    refine g_aload_n rfl rfl ?_
    refine g_iconst rfl ⟨by decide, by decide⟩ ?_
    refine g_cV (as := [tI 0]) (Hc0) rfl rfl mX12_choose_ok rfl rfl rfl (by decide) rfl rfl rfl ?_
    rintro _ w9 ⟨rfl, hw9⟩ _
    rcases hs0 with hV | hV
    · rw [hV]
      rw [hV] at hw9
      subst hw9
      change tp_go G _ _ _ _ (tp_pi μ 201 38 (r_cs ch (a, μ.1 201 29, stk, μ.1 201 31, μ.1 201 38) false)) 234 234 0 _
      refine x_ireturn rfl rfl ?_
      obtain ⟨e1, e2⟩ := nL_5n (f := f) (ch := ch) (k := μ.1 201 27) hm (by omega) hV
      exact ⟨by rw [e1], e2⟩
    · subst hw9
      refine x_ireturn rfl rfl ?_
      obtain ⟨e1, e2⟩ := nL_5 (f := f) (ch := ch) (k := μ.1 201 27) hm (by omega) hV.1
      exact ⟨by rw [e1], e2⟩
  · refine g_swIn (off := 121) (tgt := 126) rfl (by omega) (by omega) (by rw [show ((f (9 + a)) - 1).toNat = 5 by omega]; rfl) (by decide) ?_
    refine g_iconst rfl ⟨by decide, by decide⟩ ?_
    refine x_ireturn rfl rfl ?_
    obtain ⟨e1, e2⟩ := nL_6 (f := f) (ch := ch) (k := μ.1 201 27) hm (by omega)
    exact ⟨by rw [e1], e2⟩
  · omega
def m_E0 (f : Int → Int) (ch : r_H) (s0 : Int) : Nat → Int
  | 0 => if f 0 = 0 then 3 else 0
  | k + 1 => r_en f ch (r_at f ch s0 k) k
def m_T (n : Int) (A B Y : Int → Int) (E D U T : Int) (μ : tp_M) : Prop := μ.1 201 27 = n ∧ (∀ j, 0 ≤ j → j < n → μ.1 212 j = A j) ∧ (∀ j, 0 ≤ j → j < n → μ.1 213 j = B j) ∧ (∀ j, 0 ≤ j → j < n → μ.1 214 j = Y j) ∧ μ.1 201 28 = E ∧ μ.1 201 30 = D ∧ μ.1 201 31 = U ∧ μ.1 201 32 = T
def m_J (f : Int → Int) (ch : r_H) (s0 : Int) (μ0 : tp_M) (k : Nat) (μ : tp_M) : Prop :=
  (∀ j, j < k → r_go f ch s0 j) ∧ m_M (r_at f ch s0 k) μ ∧ μ.1 201 27 = (k : Int) ∧ (∀ j : Int, 0 ≤ j → j < (k : Int) → μ.1 212 j = r_A f ch s0 j ∧ μ.1 213 j = r_B f ch s0 j ∧ μ.1 214 j = r_Y f ch s0 j) ∧ μ.1 201 28 = m_E0 f ch s0 k ∧ μ.1 201 30 = r_dp f ch s0 k ∧ μ.1 201 32 = r_rt f ch s0 k ∧ m_F μ0 μ
theorem m_J_end {f : Int → Int} {ch : r_H} {s0 : Int} {μ0 μ : tp_M} {k : Nat} (hw : tp_Cw f) (h : m_J f ch s0 μ0 k μ) (he : μ.1 201 28 ≠ 0) : r_N f ch s0 k ∧ m_T k (r_A f ch s0) (r_B f ch s0) (r_Y f ch s0) (r_E f ch s0 k) (r_dp f ch s0 k) ((r_at f ch s0 k).2.2.2.1) (r_rt f ch s0 k) μ := by
  obtain ⟨h1, h2, h3, h4, h5, h6, h7, h8⟩ := h
  have e : ¬ r_go f ch s0 k ∧ r_E f ch s0 k = m_E0 f ch s0 k := by
    cases k with
    | zero =>
      have hz : f 0 = 0 := by
        by_cases q : f 0 = 0
        · exact q
        · exact absurd (h5.trans (if_neg q)) he
      exact ⟨fun q => by have q2 : 0 < f 0 := q; omega, (if_pos hz).symm⟩
    | succ k => exact ⟨fun q => he (h5.trans q.2), rfl⟩
  exact ⟨⟨h1, e.1⟩, h3, fun j a b => (h4 j a b).1, fun j a b => (h4 j a b).2.1, fun j a b => (h4 j a b).2.2, by rw [e.2]; exact h5, h6, h2.2.2.1, h7⟩
theorem m_J_go {f : Int → Int} {ch : r_H} {s0 : Int} {μ0 μ : tp_M} {k : Nat} (hw : tp_Cw f) (h : m_J f ch s0 μ0 k μ) (he : μ.1 201 28 = 0) : r_go f ch s0 k := by
  have h5 := h.2.2.2.2.1
  cases k with
  | zero =>
    have hw0 := hw.1
    have q : f 0 ≠ 0 := fun q => by rw [he] at h5; have h6 : (0 : Int) = if f 0 = 0 then 3 else 0 := h5; rw [if_pos q] at h6; omega
    show 0 < f 0
    omega
  | succ k => exact ⟨h.1 k (Nat.lt_succ_self k), by rw [he] at h5; exact h5.symm⟩
theorem m_J_row {f : Int → Int} {ch : r_H} {s0 : Int} {μ w1 : tp_M} {k : Nat} {v : Int} (h3 : μ.1 201 27 = (k : Int)) (hS : w1.1 201 27 = μ.1 201 27) (h4 : ∀ j : Int, 0 ≤ j → j < (k : Int) → μ.1 212 j = r_A f ch s0 j ∧ μ.1 213 j = r_B f ch s0 j ∧ μ.1 214 j = r_Y f ch s0 j) (hL : m_L f ch (r_at f ch s0 k) (μ.1 201 27) (tp_pi (tp_pi μ 212 (μ.1 201 27) (r_at f ch s0 k).1) 214 (μ.1 201 27) (tp_z 0)) w1) (j : Int) (g1 : 0 ≤ j) (g2 : j < ((k + 1 : Nat) : Int)) :
    (tp_pi (tp_pi (tp_pi w1 213 (w1.1 201 27) (r_to f ch (r_at f ch s0 k))) 201 27 (w1.1 201 27 + 1)) 201 28 v).1 212 j = r_A f ch s0 j ∧ (tp_pi (tp_pi (tp_pi w1 213 (w1.1 201 27) (r_to f ch (r_at f ch s0 k))) 201 27 (w1.1 201 27 + 1)) 201 28 v).1 213 j = r_B f ch s0 j ∧ (tp_pi (tp_pi (tp_pi w1 213 (w1.1 201 27) (r_to f ch (r_at f ch s0 k))) 201 27 (w1.1 201 27 + 1)) 201 28 v).1 214 j = r_Y f ch s0 j := by
  have c212 : w1.1 212 = _ := hL.2.2.2.2.2.2.2.2.2.1 212 (by omega) (by omega) (by omega)
  have c213 : w1.1 213 = _ := hL.2.2.2.2.2.2.2.2.2.1 213 (by omega) (by omega) (by omega)
  show w1.1 212 j = _ ∧ (tp_pi w1 213 (w1.1 201 27) (r_to f ch (r_at f ch s0 k))).1 213 j = _ ∧ w1.1 214 j = _
  rw [hS]
  by_cases hj : j = (k : Int)
  · have e : μ.1 201 27 = j := by omega
    have ek : j.toNat = k := by omega
    rw [e]
    rw [e] at c212 hL
    unfold r_A r_B r_Y
    rw [ek]
    refine ⟨?_, tp_pi_at, ?_⟩
    · rw [c212, tp_pi_ne (by omega), tp_pi_at]
    · exact hL.2.2.2.2.2.2.2.1 (tp_pi_at.trans tp_z0)
  · have e : j ≠ μ.1 201 27 := by omega
    have ho := h4 j g1 (by omega)
    refine ⟨?_, ?_, ?_⟩
    · rw [c212, tp_pi_ne (by omega), tp_pi_ix e]; exact ho.1
    · rw [tp_pi_ix e, c213, tp_pi_ne (by omega), tp_pi_ne (by omega)]; exact ho.2.1
    · refine (hL.2.2.2.2.2.2.1 j e).trans ?_
      rw [tp_pi_ix e, tp_pi_ne (by omega)]; exact ho.2.2
set_option maxHeartbeats 4000000 in
set_option maxRecDepth 100000 in
theorem l_runs {G : tp_G} (hG : tp_Gf G = true) {ck : Int} {f : Int → Int} {ch : r_H} {s0 : Int} {μ0 : tp_M} (hMc0 : tp_Mc ck f μ0) (hw : tp_Cw f) (hsrc : r_src ch) (HC : m_Hc G ch μ0) : ∀ (m k : Nat), k + m = 200 → ∀ (μ : tp_M) (x : Option tp_V), m_J f ch s0 μ0 k μ → tp_g G mX12_runs 43 [some (tR (some 201)), some (tI (r_at f ch s0 k).1), x] [] μ (fun r μ' => r = none ∧ (∃ n : Nat, n ≤ 200 ∧ r_N f ch s0 n ∧ m_T n (r_A f ch s0) (r_B f ch s0) (r_Y f ch s0) (r_E f ch s0 n) (r_dp f ch s0 n) ((r_at f ch s0 n).2.2.2.1) (r_rt f ch s0 n) μ') ∧ m_F μ0 μ') := by
  intro m
  have hw0 := hw.1
  induction m with
  | zero =>
    intro k hk μ x hJ
    have hk2 : k = 200 := by omega
    subst hk2
    have hF := hJ.2.2.2.2.2.2.2
    have he : μ.1 201 28 ≠ 0 := by rw [hJ.2.2.2.2.1]; exact r_en199
    obtain ⟨z1, z2⟩ := m_J_end hw hJ he
    refine g_aload_n rfl rfl ?_
    refine x_geti (v := (μ.1 201 28)) rfl rfl (by decide) (Or.inl rfl) rfl ?_
    refine g_if_ne (tgt := 148) rfl (by decide) (fun _ => ?_) (fun hx => absurd hx (by omega))
    refine x_return rfl rfl ?_
    exact ⟨rfl, ⟨200, by omega, z1, z2⟩, hF⟩
  | succ m ih =>
    intro k hk μ x hJ
    have hF := hJ.2.2.2.2.2.2.2
    have hst := hJ.2.2.1
    have hMc : tp_Mc ck f μ := tp_Mc_fr ⟨hF.2.1 24 (by omega) (by omega), hF.2.1 26 (by omega) (by omega)⟩ (hF.1 207 (by omega) (by omega)) hMc0
    refine g_aload_n rfl rfl ?_
    refine x_geti (v := (μ.1 201 28)) rfl rfl (by decide) (Or.inl rfl) rfl ?_
    refine g_if_ne (tgt := 148) rfl (by decide) (fun h1 => ?_) (fun h1 => ?_)
    · refine x_return rfl rfl ?_
      obtain ⟨z1, z2⟩ := m_J_end hw hJ (by omega)
      exact ⟨rfl, ⟨k, by omega, z1, z2⟩, hF⟩
    · have hgo := m_J_go hw hJ (by omega)
      have hok := r_all_ok hw hsrc k hgo
      have hok1 := hok.1
      have hok2 := hok.2.1
      have hkr := (hw.2.1 _ hok1.1 hok1.2).1
      have hsr := hsrc _ (r_at f ch s0 k).2.2.2.2 hok.2.2.2
      have hub := r_us_b (f := f) (ch := ch) (s0 := s0) k
      have hrb := r_rt_b (f := f) (ch := ch) (s0 := s0) k
      have hrt1 : 0 ≤ (tp_pi (tp_pi μ 212 (μ.1 201 27) (r_at f ch s0 k).1) 214 (μ.1 201 27) (tp_z 0)).1 201 32 ∧ (tp_pi (tp_pi μ 212 (μ.1 201 27) (r_at f ch s0 k).1) 214 (μ.1 201 27) (tp_z 0)).1 201 32 < 1000 := by
        show 0 ≤ μ.1 201 32 ∧ μ.1 201 32 < 1000
        rw [hJ.2.2.2.2.2.2.1]
        omega
      have HC1 := HC (tp_pi (tp_pi μ 212 (μ.1 201 27) (r_at f ch s0 k).1) 214 (μ.1 201 27) (tp_z 0)) (r_at f ch s0 k).1 (r_at f ch s0 k).2.1 (r_at f ch s0 k).2.2.2.1 (r_at f ch s0 k).2.2.2.2 (r_at f ch s0 k).2.2.1 ⟨fun c' c1 c2 => by
        rw [tp_pi_ne (by omega), tp_pi_ne (by omega)]
        exact hF.1 c' c1 c2, fun j j1 j2 => by
        rw [tp_pi_no (by omega), tp_pi_no (by omega)]
        exact hF.2.1 j j1 j2, hF.2.2⟩ ⟨hJ.2.1.1, hJ.2.1.2.1, hJ.2.1.2.2.1, hJ.2.1.2.2.2⟩ hub.1 (by omega)
      refine g_aload_n rfl rfl ?_
      refine x_getF (r := 212) hG rfl rfl (by decide) (Or.inr ⟨_, rfl⟩) rfl ?_
      refine g_aload_n rfl rfl ?_
      refine x_geti (v := (μ.1 201 27)) rfl rfl (by decide) (Or.inl rfl) rfl ?_
      refine g_iload_n rfl rfl ?_
      refine g_iast rfl rfl (by decide) (by omega) (by omega) ?_
      refine g_aload_n rfl rfl ?_
      refine x_getF (r := 214) hG rfl rfl (by decide) (Or.inr ⟨_, rfl⟩) rfl ?_
      refine g_aload_n rfl rfl ?_
      refine x_geti (v := (μ.1 201 27)) rfl rfl (by decide) (Or.inl rfl) rfl ?_
      refine g_iconst rfl ⟨by decide, by decide⟩ ?_
      refine g_zast rfl rfl (by decide) (by omega) (by omega) ?_
      refine g_aload_n rfl rfl ?_
      refine g_iload_n rfl rfl ?_
      refine g_cV (as := [tI ((r_at f ch s0 k).1)]) (s_goesFrom (μ := (tp_pi (tp_pi μ 212 (μ.1 201 27) (r_at f ch s0 k).1) 214 (μ.1 201 27) (tp_z 0))) (ck := ck) (f := f) (ch := ch) (dp := (r_at f ch s0 k).2.1) (stk := (r_at f ch s0 k).2.2.1) (us := (r_at f ch s0 k).2.2.2.1) (sd := (r_at f ch s0 k).2.2.2.2) (k := μ.1 201 27) hG (tp_Mc_pi (by omega) (tp_Mc_pi (by omega) hMc)) hw hok.1 ⟨hJ.2.1.1, hJ.2.1.2.1, hJ.2.1.2.2.1, hJ.2.1.2.2.2⟩ hok.2.1 rfl (by omega) hrt1 hsr.1 hsr.2 (HC1 true) (HC1 false)) rfl rfl mX12_goesFrom_ok rfl rfl rfl (by decide) rfl rfl rfl ?_
      rintro _ w1 ⟨rfl, hL⟩ _
      have hS : w1.1 201 27 = μ.1 201 27 := hL.2.2.2.2.2.2.2.2.1 27 (by omega) (by omega)
      have hMc1 : tp_Mc ck f w1 := tp_Mc_fr ⟨hL.2.2.2.2.2.2.2.2.1 24 (by omega) (by omega), hL.2.2.2.2.2.2.2.2.1 26 (by omega) (by omega)⟩ (hL.2.2.2.2.2.2.2.2.2.1 207 (by omega) (by omega) (by omega)) (tp_Mc_pi (by omega) (tp_Mc_pi (by omega) hMc))
      have hall := hMc1.2.2.1
      refine g_istore_n rfl rfl rfl ?_
      refine g_aload_n rfl rfl ?_
      refine x_getF (r := 213) hG rfl rfl (by decide) (Or.inr ⟨_, rfl⟩) rfl ?_
      refine g_aload_n rfl rfl ?_
      refine x_geti (v := (w1.1 201 27)) rfl rfl (by decide) (Or.inl rfl) rfl ?_
      refine g_iload_n rfl rfl ?_
      refine g_iast rfl rfl (by decide) (by omega) (by omega) ?_
      refine g_aload_n rfl rfl ?_
      refine g_dupr rfl ?_
      refine x_geti (v := (w1.1 201 27)) rfl rfl (by decide) (Or.inl rfl) rfl ?_
      refine g_iconst rfl ⟨by decide, by decide⟩ ?_
      refine x_iadd (z := (w1.1 201 27) + 1) rfl (by omega) ⟨by omega, by omega⟩ ?_
      refine g_puti rfl rfl (by decide) rfl rfl ?_
      refine g_aload_n rfl rfl ?_
      refine g_iload_n rfl rfl ?_
      refine g_iconst rfl ⟨by decide, by decide⟩ ?_
      refine g_icmp_ne (tgt := 113) rfl (by decide) (fun h2 => ?_) (fun h2 => ?_)
      · refine g_iload_n rfl rfl ?_
        refine g_aload_n rfl rfl ?_
        refine x_geti (v := (w1.1 201 26)) rfl rfl (by decide) (Or.inl rfl) rfl ?_
        refine g_icmp_lt (tgt := 125) rfl (by decide) (fun h3 => ?_) (fun h3 => ?_)
        · refine g_aload_n rfl rfl ?_
          refine x_geti (v := (w1.1 201 27) + 1) rfl rfl (by decide) (Or.inl rfl) rfl ?_
          refine g_sipush rfl ⟨by decide, by decide⟩ (by decide) ?_
          refine g_icmp_ne (tgt := 139) rfl (by decide) (fun h4 => ?_) (fun h4 => ?_)
          · refine g_iconst rfl ⟨by decide, by decide⟩ ?_
            refine g_puti rfl rfl (by decide) rfl rfl ?_
            refine g_iload_n rfl rfl ?_
            refine g_istore_n rfl rfl rfl ?_
            refine g_goto (tgt := 43) rfl (by decide) ?_
            have hen : r_en f ch (r_at f ch s0 k) k = 0 := by
              have hto9 : r_to f ch (r_at f ch s0 k) = r_to f ch ((r_at f ch s0 k).1, (r_at f ch s0 k).2.1, (r_at f ch s0 k).2.2.1, (r_at f ch s0 k).2.2.2.1, (r_at f ch s0 k).2.2.2.2) := rfl
              unfold r_en r_ek
              split <;> (try split) <;> (try split) <;> omega
            exact ih (k + 1) (by omega) _ _ ⟨fun j hj => by rcases Nat.lt_succ_iff_lt_or_eq.mp hj with h9 | h9; exact hJ.1 j h9; rw [h9]; exact hgo, ⟨hL.1, hL.2.1, hL.2.2.1, hL.2.2.2.1⟩, by show w1.1 201 27 + 1 = ((k + 1 : Nat) : Int); omega, fun j g1 g2 => m_J_row hJ.2.2.1 hS hJ.2.2.2.1 hL j g1 g2, hen.symm, by
                show w1.1 201 30 = r_dp f ch s0 (k + 1)
                rw [hL.2.2.2.2.1]
                show (if _ then max (μ.1 201 30) _ else μ.1 201 30) = _
                rw [hJ.2.2.2.2.2.1]
                rfl, by
                show w1.1 201 32 = r_rt f ch s0 (k + 1)
                rw [hL.2.2.2.2.2.1]
                show (if _ then μ.1 201 32 + 1 else μ.1 201 32) = _
                rw [hJ.2.2.2.2.2.2.1]
                rfl, ⟨fun c' c1 c2 => by
                rw [tp_pi_ne c1, tp_pi_ne c1, tp_pi_ne (by omega), hL.2.2.2.2.2.2.2.2.2.1 c' c1 (by omega) (by omega), tp_pi_ne (by omega), tp_pi_ne (by omega)]
                exact hF.1 c' c1 c2, fun j j1 j2 => by
                rw [tp_pi_no (by omega), tp_pi_no (by omega), tp_pi_no (by omega), hL.2.2.2.2.2.2.2.2.1 j (by omega) j2]
                exact hF.2.1 j j1 j2, by
                show w1.2 = _
                rw [hL.2.2.2.2.2.2.2.2.2.2]
                exact hF.2.2⟩⟩
          · refine g_iconst rfl ⟨by decide, by decide⟩ ?_
            refine g_goto (tgt := 140) rfl (by decide) ?_
            refine g_puti rfl rfl (by decide) rfl rfl ?_
            refine g_iload_n rfl rfl ?_
            refine g_istore_n rfl rfl rfl ?_
            refine g_goto (tgt := 43) rfl (by decide) ?_
            have hen : r_en f ch (r_at f ch s0 k) k = 5 := by
              have hto9 : r_to f ch (r_at f ch s0 k) = r_to f ch ((r_at f ch s0 k).1, (r_at f ch s0 k).2.1, (r_at f ch s0 k).2.2.1, (r_at f ch s0 k).2.2.2.1, (r_at f ch s0 k).2.2.2.2) := rfl
              unfold r_en r_ek
              split <;> (try split) <;> (try split) <;> omega
            exact ih (k + 1) (by omega) _ _ ⟨fun j hj => by rcases Nat.lt_succ_iff_lt_or_eq.mp hj with h9 | h9; exact hJ.1 j h9; rw [h9]; exact hgo, ⟨hL.1, hL.2.1, hL.2.2.1, hL.2.2.2.1⟩, by show w1.1 201 27 + 1 = ((k + 1 : Nat) : Int); omega, fun j g1 g2 => m_J_row hJ.2.2.1 hS hJ.2.2.2.1 hL j g1 g2, hen.symm, by
                show w1.1 201 30 = r_dp f ch s0 (k + 1)
                rw [hL.2.2.2.2.1]
                show (if _ then max (μ.1 201 30) _ else μ.1 201 30) = _
                rw [hJ.2.2.2.2.2.1]
                rfl, by
                show w1.1 201 32 = r_rt f ch s0 (k + 1)
                rw [hL.2.2.2.2.2.1]
                show (if _ then μ.1 201 32 + 1 else μ.1 201 32) = _
                rw [hJ.2.2.2.2.2.2.1]
                rfl, ⟨fun c' c1 c2 => by
                rw [tp_pi_ne c1, tp_pi_ne c1, tp_pi_ne (by omega), hL.2.2.2.2.2.2.2.2.2.1 c' c1 (by omega) (by omega), tp_pi_ne (by omega), tp_pi_ne (by omega)]
                exact hF.1 c' c1 c2, fun j j1 j2 => by
                rw [tp_pi_no (by omega), tp_pi_no (by omega), tp_pi_no (by omega), hL.2.2.2.2.2.2.2.2.1 j (by omega) j2]
                exact hF.2.1 j j1 j2, by
                show w1.2 = _
                rw [hL.2.2.2.2.2.2.2.2.2.2]
                exact hF.2.2⟩⟩
        · refine g_iconst rfl ⟨by decide, by decide⟩ ?_
          refine g_goto (tgt := 140) rfl (by decide) ?_
          refine g_puti rfl rfl (by decide) rfl rfl ?_
          refine g_iload_n rfl rfl ?_
          refine g_istore_n rfl rfl rfl ?_
          refine g_goto (tgt := 43) rfl (by decide) ?_
          have hen : r_en f ch (r_at f ch s0 k) k = 3 := by
            have hto9 : r_to f ch (r_at f ch s0 k) = r_to f ch ((r_at f ch s0 k).1, (r_at f ch s0 k).2.1, (r_at f ch s0 k).2.2.1, (r_at f ch s0 k).2.2.2.1, (r_at f ch s0 k).2.2.2.2) := rfl
            unfold r_en r_ek
            split <;> (try split) <;> (try split) <;> omega
          exact ih (k + 1) (by omega) _ _ ⟨fun j hj => by rcases Nat.lt_succ_iff_lt_or_eq.mp hj with h9 | h9; exact hJ.1 j h9; rw [h9]; exact hgo, ⟨hL.1, hL.2.1, hL.2.2.1, hL.2.2.2.1⟩, by show w1.1 201 27 + 1 = ((k + 1 : Nat) : Int); omega, fun j g1 g2 => m_J_row hJ.2.2.1 hS hJ.2.2.2.1 hL j g1 g2, hen.symm, by
              show w1.1 201 30 = r_dp f ch s0 (k + 1)
              rw [hL.2.2.2.2.1]
              show (if _ then max (μ.1 201 30) _ else μ.1 201 30) = _
              rw [hJ.2.2.2.2.2.1]
              rfl, by
              show w1.1 201 32 = r_rt f ch s0 (k + 1)
              rw [hL.2.2.2.2.2.1]
              show (if _ then μ.1 201 32 + 1 else μ.1 201 32) = _
              rw [hJ.2.2.2.2.2.2.1]
              rfl, ⟨fun c' c1 c2 => by
              rw [tp_pi_ne c1, tp_pi_ne c1, tp_pi_ne (by omega), hL.2.2.2.2.2.2.2.2.2.1 c' c1 (by omega) (by omega), tp_pi_ne (by omega), tp_pi_ne (by omega)]
              exact hF.1 c' c1 c2, fun j j1 j2 => by
              rw [tp_pi_no (by omega), tp_pi_no (by omega), tp_pi_no (by omega), hL.2.2.2.2.2.2.2.2.1 j (by omega) j2]
              exact hF.2.1 j j1 j2, by
              show w1.2 = _
              rw [hL.2.2.2.2.2.2.2.2.2.2]
              exact hF.2.2⟩⟩
      · refine g_aload_n rfl rfl ?_
        refine g_iload_n rfl rfl ?_
        refine g_cV (as := [tI ((r_at f ch s0 k).1)]) (s_kindM hG (tp_Mc_pi (by omega) (tp_Mc_pi (by omega) hMc1)) (by omega) (by omega)) rfl rfl mX12_kindAt_ok rfl rfl rfl (by decide) rfl rfl rfl ?_
        rintro _ w9 ⟨rfl, hw9⟩ _
        have hw9 := hw9.symm
        subst hw9
        refine g_iS (as := [tI (f (9 + ((r_at f ch s0 k).1)))]) mX12_endOf_ok rfl rfl rfl rfl rfl rfl rfl ?_
        refine g_iload_n rfl rfl ?_
        refine g_bipush rfl ⟨by decide, by decide⟩ (by decide) ?_
        refine g_icmp_ne (tgt := 10) rfl (by decide) (fun h5 => ?_) (fun h5 => ?_)
        · refine g_iload_n rfl rfl ?_
          refine g_iconst rfl ⟨by decide, by decide⟩ ?_
          refine g_icmp_eq (tgt := 20) rfl (by decide) (fun h6 => ?_) (fun h6 => ?_)
          · refine g_iconst rfl ⟨by decide, by decide⟩ ?_
            refine g_goto (tgt := 25) rfl (by decide) ?_
            refine x_ireturn rfl rfl ?_
            intro _
            refine g_goto (tgt := 140) rfl (by decide) ?_
            refine g_puti rfl rfl (by decide) rfl rfl ?_
            refine g_iload_n rfl rfl ?_
            refine g_istore_n rfl rfl rfl ?_
            refine g_goto (tgt := 43) rfl (by decide) ?_
            have hen : r_en f ch (r_at f ch s0 k) k = 4 := by
              have hto9 : r_to f ch (r_at f ch s0 k) = r_to f ch ((r_at f ch s0 k).1, (r_at f ch s0 k).2.1, (r_at f ch s0 k).2.2.1, (r_at f ch s0 k).2.2.2.1, (r_at f ch s0 k).2.2.2.2) := rfl
              unfold r_en r_ek
              split <;> (try split) <;> (try split) <;> omega
            exact ih (k + 1) (by omega) _ _ ⟨fun j hj => by rcases Nat.lt_succ_iff_lt_or_eq.mp hj with h9 | h9; exact hJ.1 j h9; rw [h9]; exact hgo, ⟨hL.1, hL.2.1, hL.2.2.1, hL.2.2.2.1⟩, by show w1.1 201 27 + 1 = ((k + 1 : Nat) : Int); omega, fun j g1 g2 => m_J_row hJ.2.2.1 hS hJ.2.2.2.1 hL j g1 g2, hen.symm, by
                show w1.1 201 30 = r_dp f ch s0 (k + 1)
                rw [hL.2.2.2.2.1]
                show (if _ then max (μ.1 201 30) _ else μ.1 201 30) = _
                rw [hJ.2.2.2.2.2.1]
                rfl, by
                show w1.1 201 32 = r_rt f ch s0 (k + 1)
                rw [hL.2.2.2.2.2.1]
                show (if _ then μ.1 201 32 + 1 else μ.1 201 32) = _
                rw [hJ.2.2.2.2.2.2.1]
                rfl, ⟨fun c' c1 c2 => by
                rw [tp_pi_ne c1, tp_pi_ne c1, tp_pi_ne (by omega), hL.2.2.2.2.2.2.2.2.2.1 c' c1 (by omega) (by omega), tp_pi_ne (by omega), tp_pi_ne (by omega)]
                exact hF.1 c' c1 c2, fun j j1 j2 => by
                rw [tp_pi_no (by omega), tp_pi_no (by omega), tp_pi_no (by omega), hL.2.2.2.2.2.2.2.2.1 j (by omega) j2]
                exact hF.2.1 j j1 j2, by
                show w1.2 = _
                rw [hL.2.2.2.2.2.2.2.2.2.2]
                exact hF.2.2⟩⟩
          · refine g_iload_n rfl rfl ?_
            refine g_iconst rfl ⟨by decide, by decide⟩ ?_
            refine g_icmp_ne (tgt := 24) rfl (by decide) (fun h7 => ?_) (fun h7 => ?_)
            · refine g_iconst rfl ⟨by decide, by decide⟩ ?_
              refine x_ireturn rfl rfl ?_
              intro _
              refine g_goto (tgt := 140) rfl (by decide) ?_
              refine g_puti rfl rfl (by decide) rfl rfl ?_
              refine g_iload_n rfl rfl ?_
              refine g_istore_n rfl rfl rfl ?_
              refine g_goto (tgt := 43) rfl (by decide) ?_
              have hen : r_en f ch (r_at f ch s0 k) k = 2 := by
                have hto9 : r_to f ch (r_at f ch s0 k) = r_to f ch ((r_at f ch s0 k).1, (r_at f ch s0 k).2.1, (r_at f ch s0 k).2.2.1, (r_at f ch s0 k).2.2.2.1, (r_at f ch s0 k).2.2.2.2) := rfl
                unfold r_en r_ek
                split <;> (try split) <;> (try split) <;> omega
              exact ih (k + 1) (by omega) _ _ ⟨fun j hj => by rcases Nat.lt_succ_iff_lt_or_eq.mp hj with h9 | h9; exact hJ.1 j h9; rw [h9]; exact hgo, ⟨hL.1, hL.2.1, hL.2.2.1, hL.2.2.2.1⟩, by show w1.1 201 27 + 1 = ((k + 1 : Nat) : Int); omega, fun j g1 g2 => m_J_row hJ.2.2.1 hS hJ.2.2.2.1 hL j g1 g2, hen.symm, by
                  show w1.1 201 30 = r_dp f ch s0 (k + 1)
                  rw [hL.2.2.2.2.1]
                  show (if _ then max (μ.1 201 30) _ else μ.1 201 30) = _
                  rw [hJ.2.2.2.2.2.1]
                  rfl, by
                  show w1.1 201 32 = r_rt f ch s0 (k + 1)
                  rw [hL.2.2.2.2.2.1]
                  show (if _ then μ.1 201 32 + 1 else μ.1 201 32) = _
                  rw [hJ.2.2.2.2.2.2.1]
                  rfl, ⟨fun c' c1 c2 => by
                  rw [tp_pi_ne c1, tp_pi_ne c1, tp_pi_ne (by omega), hL.2.2.2.2.2.2.2.2.2.1 c' c1 (by omega) (by omega), tp_pi_ne (by omega), tp_pi_ne (by omega)]
                  exact hF.1 c' c1 c2, fun j j1 j2 => by
                  rw [tp_pi_no (by omega), tp_pi_no (by omega), tp_pi_no (by omega), hL.2.2.2.2.2.2.2.2.1 j (by omega) j2]
                  exact hF.2.1 j j1 j2, by
                  show w1.2 = _
                  rw [hL.2.2.2.2.2.2.2.2.2.2]
                  exact hF.2.2⟩⟩
            · refine g_iconst rfl ⟨by decide, by decide⟩ ?_
              refine g_goto (tgt := 25) rfl (by decide) ?_
              refine x_ireturn rfl rfl ?_
              intro _
              refine g_goto (tgt := 140) rfl (by decide) ?_
              refine g_puti rfl rfl (by decide) rfl rfl ?_
              refine g_iload_n rfl rfl ?_
              refine g_istore_n rfl rfl rfl ?_
              refine g_goto (tgt := 43) rfl (by decide) ?_
              have hen : r_en f ch (r_at f ch s0 k) k = 4 := by
                have hto9 : r_to f ch (r_at f ch s0 k) = r_to f ch ((r_at f ch s0 k).1, (r_at f ch s0 k).2.1, (r_at f ch s0 k).2.2.1, (r_at f ch s0 k).2.2.2.1, (r_at f ch s0 k).2.2.2.2) := rfl
                unfold r_en r_ek
                split <;> (try split) <;> (try split) <;> omega
              exact ih (k + 1) (by omega) _ _ ⟨fun j hj => by rcases Nat.lt_succ_iff_lt_or_eq.mp hj with h9 | h9; exact hJ.1 j h9; rw [h9]; exact hgo, ⟨hL.1, hL.2.1, hL.2.2.1, hL.2.2.2.1⟩, by show w1.1 201 27 + 1 = ((k + 1 : Nat) : Int); omega, fun j g1 g2 => m_J_row hJ.2.2.1 hS hJ.2.2.2.1 hL j g1 g2, hen.symm, by
                  show w1.1 201 30 = r_dp f ch s0 (k + 1)
                  rw [hL.2.2.2.2.1]
                  show (if _ then max (μ.1 201 30) _ else μ.1 201 30) = _
                  rw [hJ.2.2.2.2.2.1]
                  rfl, by
                  show w1.1 201 32 = r_rt f ch s0 (k + 1)
                  rw [hL.2.2.2.2.2.1]
                  show (if _ then μ.1 201 32 + 1 else μ.1 201 32) = _
                  rw [hJ.2.2.2.2.2.2.1]
                  rfl, ⟨fun c' c1 c2 => by
                  rw [tp_pi_ne c1, tp_pi_ne c1, tp_pi_ne (by omega), hL.2.2.2.2.2.2.2.2.2.1 c' c1 (by omega) (by omega), tp_pi_ne (by omega), tp_pi_ne (by omega)]
                  exact hF.1 c' c1 c2, fun j j1 j2 => by
                  rw [tp_pi_no (by omega), tp_pi_no (by omega), tp_pi_no (by omega), hL.2.2.2.2.2.2.2.2.1 j (by omega) j2]
                  exact hF.2.1 j j1 j2, by
                  show w1.2 = _
                  rw [hL.2.2.2.2.2.2.2.2.2.2]
                  exact hF.2.2⟩⟩
        · refine g_iconst rfl ⟨by decide, by decide⟩ ?_
          refine g_goto (tgt := 25) rfl (by decide) ?_
          refine x_ireturn rfl rfl ?_
          intro _
          refine g_goto (tgt := 140) rfl (by decide) ?_
          refine g_puti rfl rfl (by decide) rfl rfl ?_
          refine g_iload_n rfl rfl ?_
          refine g_istore_n rfl rfl rfl ?_
          refine g_goto (tgt := 43) rfl (by decide) ?_
          have hen : r_en f ch (r_at f ch s0 k) k = 1 := by
            have hto9 : r_to f ch (r_at f ch s0 k) = r_to f ch ((r_at f ch s0 k).1, (r_at f ch s0 k).2.1, (r_at f ch s0 k).2.2.1, (r_at f ch s0 k).2.2.2.1, (r_at f ch s0 k).2.2.2.2) := rfl
            unfold r_en r_ek
            split <;> (try split) <;> (try split) <;> omega
          exact ih (k + 1) (by omega) _ _ ⟨fun j hj => by rcases Nat.lt_succ_iff_lt_or_eq.mp hj with h9 | h9; exact hJ.1 j h9; rw [h9]; exact hgo, ⟨hL.1, hL.2.1, hL.2.2.1, hL.2.2.2.1⟩, by show w1.1 201 27 + 1 = ((k + 1 : Nat) : Int); omega, fun j g1 g2 => m_J_row hJ.2.2.1 hS hJ.2.2.2.1 hL j g1 g2, hen.symm, by
              show w1.1 201 30 = r_dp f ch s0 (k + 1)
              rw [hL.2.2.2.2.1]
              show (if _ then max (μ.1 201 30) _ else μ.1 201 30) = _
              rw [hJ.2.2.2.2.2.1]
              rfl, by
              show w1.1 201 32 = r_rt f ch s0 (k + 1)
              rw [hL.2.2.2.2.2.1]
              show (if _ then μ.1 201 32 + 1 else μ.1 201 32) = _
              rw [hJ.2.2.2.2.2.2.1]
              rfl, ⟨fun c' c1 c2 => by
              rw [tp_pi_ne c1, tp_pi_ne c1, tp_pi_ne (by omega), hL.2.2.2.2.2.2.2.2.2.1 c' c1 (by omega) (by omega), tp_pi_ne (by omega), tp_pi_ne (by omega)]
              exact hF.1 c' c1 c2, fun j j1 j2 => by
              rw [tp_pi_no (by omega), tp_pi_no (by omega), tp_pi_no (by omega), hL.2.2.2.2.2.2.2.2.1 j (by omega) j2]
              exact hF.2.1 j j1 j2, by
              show w1.2 = _
              rw [hL.2.2.2.2.2.2.2.2.2.2]
              exact hF.2.2⟩⟩
set_option maxHeartbeats 4000000 in
set_option maxRecDepth 100000 in
theorem s_runs {G : tp_G} {μ : tp_M} (hG : tp_Gf G = true) {ck : Int} {f : Int → Int} {ch : r_H} (hMc : tp_Mc ck f μ) (hw : tp_Cw f) (hsrc : r_src ch) (HC : m_Hc G ch μ) : tp_k G mX12_runs [tR (some 201)] μ (fun r μ' => r = none ∧ (∃ n : Nat, n ≤ 200 ∧ r_N f ch (μ.1 201 38) n ∧ m_T n (r_A f ch (μ.1 201 38)) (r_B f ch (μ.1 201 38)) (r_Y f ch (μ.1 201 38)) (r_E f ch (μ.1 201 38) n) (r_dp f ch (μ.1 201 38) n) ((r_at f ch (μ.1 201 38) n).2.2.2.1) (r_rt f ch (μ.1 201 38) n) μ') ∧ m_F μ μ') := by
  have hall := hMc.2.2.1
  refine tp_ok_of mX12_runs_ok rfl (Nat.le_refl _) ?_
  refine g_aload_n rfl rfl ?_
  refine g_iconst rfl ⟨by decide, by decide⟩ ?_
  refine g_puti rfl rfl (by decide) rfl rfl ?_
  refine g_aload_n rfl rfl ?_
  refine g_iconst rfl ⟨by decide, by decide⟩ ?_
  refine g_puti rfl rfl (by decide) rfl rfl ?_
  refine g_aload_n rfl rfl ?_
  refine g_iconst rfl ⟨by decide, by decide⟩ ?_
  refine g_puti rfl rfl (by decide) rfl rfl ?_
  refine g_aload_n rfl rfl ?_
  refine g_iconst rfl ⟨by decide, by decide⟩ ?_
  refine g_puti rfl rfl (by decide) rfl rfl ?_
  refine g_aload_n rfl rfl ?_
  refine g_iconst rfl ⟨by decide, by decide⟩ ?_
  refine g_puti rfl rfl (by decide) rfl rfl ?_
  refine g_aload_n rfl rfl ?_
  refine g_aload_n rfl rfl ?_
  refine x_geti (v := (μ.1 201 26)) rfl rfl (by decide) (Or.inl rfl) rfl ?_
  refine g_if_ne (tgt := 37) rfl (by decide) (fun h1 => ?_) (fun h1 => ?_)
  · refine g_iconst rfl ⟨by decide, by decide⟩ ?_
    refine g_puti rfl rfl (by decide) rfl rfl ?_
    refine g_iconst rfl ⟨by decide, by decide⟩ ?_
    refine g_istore_n rfl rfl rfl ?_
    refine l_runs hG hMc hw hsrc HC 200 0 (by omega) _ _ ⟨fun j hj => absurd hj (Nat.not_lt_zero j), ⟨rfl, fun i g1 g2 => absurd g2 (by show ¬ i < 0; omega), rfl, rfl⟩, rfl, fun j g1 g2 => absurd g2 (by show ¬ j < ((0 : Nat) : Int); omega), ?_, rfl, rfl, ⟨fun c' c1 c2 => by rw [tp_pi_ne (by omega), tp_pi_ne (by omega), tp_pi_ne (by omega), tp_pi_ne (by omega), tp_pi_ne (by omega), tp_pi_ne (by omega)], fun j j1 j2 => by rw [tp_pi_no (by omega), tp_pi_no (by omega), tp_pi_no (by omega), tp_pi_no (by omega), tp_pi_no (by omega), tp_pi_no (by omega)], rfl⟩⟩
    show 0 = if f 0 = 0 then (3 : Int) else 0
    split <;> omega
  · refine g_iconst rfl ⟨by decide, by decide⟩ ?_
    refine g_goto (tgt := 38) rfl (by decide) ?_
    refine g_puti rfl rfl (by decide) rfl rfl ?_
    refine g_iconst rfl ⟨by decide, by decide⟩ ?_
    refine g_istore_n rfl rfl rfl ?_
    refine l_runs hG hMc hw hsrc HC 200 0 (by omega) _ _ ⟨fun j hj => absurd hj (Nat.not_lt_zero j), ⟨rfl, fun i g1 g2 => absurd g2 (by show ¬ i < 0; omega), rfl, rfl⟩, rfl, fun j g1 g2 => absurd g2 (by show ¬ j < ((0 : Nat) : Int); omega), ?_, rfl, rfl, ⟨fun c' c1 c2 => by rw [tp_pi_ne (by omega), tp_pi_ne (by omega), tp_pi_ne (by omega), tp_pi_ne (by omega), tp_pi_ne (by omega), tp_pi_ne (by omega)], fun j j1 j2 => by rw [tp_pi_no (by omega), tp_pi_no (by omega), tp_pi_no (by omega), tp_pi_no (by omega), tp_pi_no (by omega), tp_pi_no (by omega)], rfl⟩⟩
    show 3 = if f 0 = 0 then (3 : Int) else 0
    split <;> omega
