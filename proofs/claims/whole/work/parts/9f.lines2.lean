theorem t_cnt_E {so w s f p it i : Int} {r : Int × Int × (Int → Int)} (hw : ¬ (7 ≤ w ∧ w < 16)) (hf : f = 0 ∨ f = 2 ∨ f = 3) (hp : f ≠ 0 → 0 ≤ p ∧ p < i) (hs : 0 ≤ s) : ∃ f1 p1, t_cnt so w s (f, p, it, r) = (f1, p1, it + 1, r) ∧ (f1 = 0 ∨ f1 = 2 ∨ f1 = 3) ∧ (f1 = 0 → f = 0 ∧ it < t_mx so) ∧ (f1 ≠ 0 → 0 ≤ p1 ∧ (p1 < i ∨ p1 = s)) := by
  by_cases q : f = 0 ∧ t_mx so ≤ it
  · exact ⟨3, s, t_cnt_a hw q, by omega, fun z => by omega, fun _ => ⟨hs, Or.inr rfl⟩⟩
  · exact ⟨f, p, t_cnt_b hw q, hf, fun z => by omega, fun z => ⟨(hp z).1, Or.inl (hp z).2⟩⟩
theorem t_chk_E {w v s f p i : Int} {r : Int × Int × Int × (Int → Int)} (hf : f = 0 ∨ f = 2 ∨ f = 3) (hp : f ≠ 0 → 0 ≤ p ∧ p < i) (hs : 0 ≤ s) : ∃ f2 p2, t_chk w v s (f, p, r) = (f2, p2, r) ∧ (f2 = 0 ∨ f2 = 2 ∨ f2 = 3) ∧ (f2 = 0 → f = 0) ∧ (f2 ≠ 0 → 0 ≤ p2 ∧ (p2 < i ∨ p2 = s)) := by
  by_cases q : (v < t_lo w ∨ t_hi w < v) ∧ f = 0
  · exact ⟨2, s, t_chk_a q, by omega, fun z => by omega, fun _ => ⟨hs, Or.inr rfl⟩⟩
  · exact ⟨f, p, t_chk_b q, hf, fun z => z, fun z => ⟨(hp z).1, Or.inl (hp z).2⟩⟩
def t_OK (so : Int) (len i : Int) (res : (Int × Int) × t_S) : Prop := (res.1.1 = 0 ∨ res.1.1 = 1) ∧ (res.1.1 = 1 → i < res.1.2 ∧ res.1.2 ≤ len ∧ t_I so res.1.2 res.2)
theorem t_OK_0 {so len i x : Int} {st : t_S} : t_OK so len i ((0, x), st) := ⟨Or.inl rfl, fun z => absurd (show (0 : Int) = 1 from z) (by decide)⟩
theorem t_lnI_0 {T : Int → Int} {len i f p it m ft : Int} {D : Int → Int} (h0 : 0 ≤ i) (h1 : i ≤ len) (hI : t_I 0 i (f, p, it, m, ft, D)) (hwx : t_wx 0 T len i = 0) : t_OK 0 len i (t_ln 0 T len i (f, p, it, m, ft, D)) := by
  have hkk : t_k T len i = 1 := by
    by_cases q : t_k T len i = 1
    · exact q
    · unfold t_wx at hwx; rw [if_neg q] at hwx; omega
  have c0 := (t_k_1 h0 h1 hkk).1
  have cs := t_s_B (T := T) h1
  obtain ⟨i1, he1⟩ : ∃ x, t_e T len i = x := ⟨_, rfl⟩
  obtain ⟨i2, he2⟩ : ∃ x, t_e T len i1 = x := ⟨_, rfl⟩
  obtain ⟨i3, he3⟩ : ∃ x, t_e T len i2 = x := ⟨_, rfl⟩
  have b1 := t_e_B (T := T) (len := len) (i := i1) (by omega)
  have s1 := t_s_B (T := T) (len := len) (i := i1) (by omega)
  have b2 := t_e_B (T := T) (len := len) (i := i2) (by omega)
  have s2 := t_s_B (T := T) (len := len) (i := i2) (by omega)
  have b3 := t_e_B (T := T) (len := len) (i := i3) (by omega)
  have s3 := t_s_B (T := T) (len := len) (i := i3) (by omega)
  rw [t_ln_w hwx (by decide)]
  by_cases k1 : t_k T len i1 = 3
  · rw [t_l0_0y rfl he1 k1]
    obtain ⟨f1, p1, q1, q2, q3, q4⟩ := t_cnt_E (so := 0) (w := 0) (s := t_s T len i) (it := it) (r := (m, ft, D)) (by decide) hI.1 hI.2.2.2.2.2.2.1 (by omega)
    rw [q1]
    exact ⟨Or.inr rfl, fun _ => ⟨by show i < t_e T len i1; omega, by show t_e T len i1 ≤ len; omega, t_tk_a (by decide) (by show i < t_e T len i1; omega) hI q2 (fun z => q3 z) (fun z => by have := q4 z; show 0 ≤ p1 ∧ p1 < t_e T len i1; omega)⟩⟩
  · rw [t_l0_0n rfl he1 k1]; exact t_OK_0
theorem t_lnI_1 {T : Int → Int} {len i f p it m ft : Int} {D : Int → Int} (h0 : 0 ≤ i) (h1 : i ≤ len) (hI : t_I 0 i (f, p, it, m, ft, D)) (hwx : t_wx 0 T len i = 1) : t_OK 0 len i (t_ln 0 T len i (f, p, it, m, ft, D)) := by
  have hkk : t_k T len i = 1 := by
    by_cases q : t_k T len i = 1
    · exact q
    · unfold t_wx at hwx; rw [if_neg q] at hwx; omega
  have c0 := (t_k_1 h0 h1 hkk).1
  have cs := t_s_B (T := T) h1
  obtain ⟨i1, he1⟩ : ∃ x, t_e T len i = x := ⟨_, rfl⟩
  obtain ⟨i2, he2⟩ : ∃ x, t_e T len i1 = x := ⟨_, rfl⟩
  obtain ⟨i3, he3⟩ : ∃ x, t_e T len i2 = x := ⟨_, rfl⟩
  have b1 := t_e_B (T := T) (len := len) (i := i1) (by omega)
  have s1 := t_s_B (T := T) (len := len) (i := i1) (by omega)
  have b2 := t_e_B (T := T) (len := len) (i := i2) (by omega)
  have s2 := t_s_B (T := T) (len := len) (i := i2) (by omega)
  have b3 := t_e_B (T := T) (len := len) (i := i3) (by omega)
  have s3 := t_s_B (T := T) (len := len) (i := i3) (by omega)
  rw [t_ln_w hwx (by decide)]
  by_cases k1 : t_k T len i1 = 2
  · by_cases k2 : t_k T len i2 = 3
    · rw [t_l0_1y rfl he1 he2 k1 k2]
      obtain ⟨f1, p1, q1, q2, q3, q4⟩ := t_cnt_E (so := 0) (w := 1) (s := t_s T len i) (it := it) (r := (m, ft, D)) (by decide) hI.1 hI.2.2.2.2.2.2.1 (by omega)
      rw [q1]
      obtain ⟨f2, p2, u1, u2, u3, u4⟩ := t_chk_E (w := 1) (f := f1) (p := p1) (v := t_v T len i1) (s := t_s T len i1) (r := (it + 1, m, ft, D)) (i := i1) q2 (fun z => by have := q4 z; omega) (by omega)
      rw [u1]
      exact ⟨Or.inr rfl, fun _ => ⟨by show i < t_e T len i2; omega, by show t_e T len i2 ≤ len; omega, t_tk_a (by decide) (by show i < t_e T len i2; omega) hI u2 (fun z => q3 (u3 z)) (fun z => by have := u4 z; show 0 ≤ p2 ∧ p2 < t_e T len i2; omega)⟩⟩
    · rw [t_l0_1n rfl he1 he2 k1 k2]; exact t_OK_0
  · rw [t_l0_1a (by decide) he1 k1]; exact t_OK_0
theorem t_lnI_2 {T : Int → Int} {len i f p it m ft : Int} {D : Int → Int} (h0 : 0 ≤ i) (h1 : i ≤ len) (hI : t_I 0 i (f, p, it, m, ft, D)) (hwx : t_wx 0 T len i = 2) : t_OK 0 len i (t_ln 0 T len i (f, p, it, m, ft, D)) := by
  have hkk : t_k T len i = 1 := by
    by_cases q : t_k T len i = 1
    · exact q
    · unfold t_wx at hwx; rw [if_neg q] at hwx; omega
  have c0 := (t_k_1 h0 h1 hkk).1
  have cs := t_s_B (T := T) h1
  obtain ⟨i1, he1⟩ : ∃ x, t_e T len i = x := ⟨_, rfl⟩
  obtain ⟨i2, he2⟩ : ∃ x, t_e T len i1 = x := ⟨_, rfl⟩
  obtain ⟨i3, he3⟩ : ∃ x, t_e T len i2 = x := ⟨_, rfl⟩
  have b1 := t_e_B (T := T) (len := len) (i := i1) (by omega)
  have s1 := t_s_B (T := T) (len := len) (i := i1) (by omega)
  have b2 := t_e_B (T := T) (len := len) (i := i2) (by omega)
  have s2 := t_s_B (T := T) (len := len) (i := i2) (by omega)
  have b3 := t_e_B (T := T) (len := len) (i := i3) (by omega)
  have s3 := t_s_B (T := T) (len := len) (i := i3) (by omega)
  rw [t_ln_w hwx (by decide)]
  by_cases k1 : t_k T len i1 = 2
  · by_cases k2 : t_k T len i2 = 3
    · rw [t_l0_1y rfl he1 he2 k1 k2]
      obtain ⟨f1, p1, q1, q2, q3, q4⟩ := t_cnt_E (so := 0) (w := 2) (s := t_s T len i) (it := it) (r := (m, ft, D)) (by decide) hI.1 hI.2.2.2.2.2.2.1 (by omega)
      rw [q1]
      obtain ⟨f2, p2, u1, u2, u3, u4⟩ := t_chk_E (w := 2) (f := f1) (p := p1) (v := t_v T len i1) (s := t_s T len i1) (r := (it + 1, m, ft, D)) (i := i1) q2 (fun z => by have := q4 z; omega) (by omega)
      rw [u1]
      exact ⟨Or.inr rfl, fun _ => ⟨by show i < t_e T len i2; omega, by show t_e T len i2 ≤ len; omega, t_tk_a (by decide) (by show i < t_e T len i2; omega) hI u2 (fun z => q3 (u3 z)) (fun z => by have := u4 z; show 0 ≤ p2 ∧ p2 < t_e T len i2; omega)⟩⟩
    · rw [t_l0_1n rfl he1 he2 k1 k2]; exact t_OK_0
  · rw [t_l0_1a (by decide) he1 k1]; exact t_OK_0
theorem t_lnI_3 {T : Int → Int} {len i f p it m ft : Int} {D : Int → Int} (h0 : 0 ≤ i) (h1 : i ≤ len) (hI : t_I 0 i (f, p, it, m, ft, D)) (hwx : t_wx 0 T len i = 3) : t_OK 0 len i (t_ln 0 T len i (f, p, it, m, ft, D)) := by
  have hkk : t_k T len i = 1 := by
    by_cases q : t_k T len i = 1
    · exact q
    · unfold t_wx at hwx; rw [if_neg q] at hwx; omega
  have c0 := (t_k_1 h0 h1 hkk).1
  have cs := t_s_B (T := T) h1
  obtain ⟨i1, he1⟩ : ∃ x, t_e T len i = x := ⟨_, rfl⟩
  obtain ⟨i2, he2⟩ : ∃ x, t_e T len i1 = x := ⟨_, rfl⟩
  obtain ⟨i3, he3⟩ : ∃ x, t_e T len i2 = x := ⟨_, rfl⟩
  have b1 := t_e_B (T := T) (len := len) (i := i1) (by omega)
  have s1 := t_s_B (T := T) (len := len) (i := i1) (by omega)
  have b2 := t_e_B (T := T) (len := len) (i := i2) (by omega)
  have s2 := t_s_B (T := T) (len := len) (i := i2) (by omega)
  have b3 := t_e_B (T := T) (len := len) (i := i3) (by omega)
  have s3 := t_s_B (T := T) (len := len) (i := i3) (by omega)
  rw [t_ln_w hwx (by decide)]
  by_cases k1 : t_k T len i1 = 2
  · by_cases k2 : t_k T len i2 = 3
    · rw [t_l0_1y rfl he1 he2 k1 k2]
      obtain ⟨f1, p1, q1, q2, q3, q4⟩ := t_cnt_E (so := 0) (w := 3) (s := t_s T len i) (it := it) (r := (m, ft, D)) (by decide) hI.1 hI.2.2.2.2.2.2.1 (by omega)
      rw [q1]
      obtain ⟨f2, p2, u1, u2, u3, u4⟩ := t_chk_E (w := 3) (f := f1) (p := p1) (v := t_v T len i1) (s := t_s T len i1) (r := (it + 1, m, ft, D)) (i := i1) q2 (fun z => by have := q4 z; omega) (by omega)
      rw [u1]
      exact ⟨Or.inr rfl, fun _ => ⟨by show i < t_e T len i2; omega, by show t_e T len i2 ≤ len; omega, t_tk_a (by decide) (by show i < t_e T len i2; omega) hI u2 (fun z => q3 (u3 z)) (fun z => by have := u4 z; show 0 ≤ p2 ∧ p2 < t_e T len i2; omega)⟩⟩
    · rw [t_l0_1n rfl he1 he2 k1 k2]; exact t_OK_0
  · rw [t_l0_1a (by decide) he1 k1]; exact t_OK_0
theorem t_lnI_4 {T : Int → Int} {len i f p it m ft : Int} {D : Int → Int} (h0 : 0 ≤ i) (h1 : i ≤ len) (hI : t_I 0 i (f, p, it, m, ft, D)) (hwx : t_wx 0 T len i = 4) : t_OK 0 len i (t_ln 0 T len i (f, p, it, m, ft, D)) := by
  have hkk : t_k T len i = 1 := by
    by_cases q : t_k T len i = 1
    · exact q
    · unfold t_wx at hwx; rw [if_neg q] at hwx; omega
  have c0 := (t_k_1 h0 h1 hkk).1
  have cs := t_s_B (T := T) h1
  obtain ⟨i1, he1⟩ : ∃ x, t_e T len i = x := ⟨_, rfl⟩
  obtain ⟨i2, he2⟩ : ∃ x, t_e T len i1 = x := ⟨_, rfl⟩
  obtain ⟨i3, he3⟩ : ∃ x, t_e T len i2 = x := ⟨_, rfl⟩
  have b1 := t_e_B (T := T) (len := len) (i := i1) (by omega)
  have s1 := t_s_B (T := T) (len := len) (i := i1) (by omega)
  have b2 := t_e_B (T := T) (len := len) (i := i2) (by omega)
  have s2 := t_s_B (T := T) (len := len) (i := i2) (by omega)
  have b3 := t_e_B (T := T) (len := len) (i := i3) (by omega)
  have s3 := t_s_B (T := T) (len := len) (i := i3) (by omega)
  rw [t_ln_w hwx (by decide)]
  by_cases k1 : t_k T len i1 = 3
  · rw [t_l0_0y rfl he1 k1]
    obtain ⟨f1, p1, q1, q2, q3, q4⟩ := t_cnt_E (so := 0) (w := 4) (s := t_s T len i) (it := it) (r := (m, ft, D)) (by decide) hI.1 hI.2.2.2.2.2.2.1 (by omega)
    rw [q1]
    exact ⟨Or.inr rfl, fun _ => ⟨by show i < t_e T len i1; omega, by show t_e T len i1 ≤ len; omega, t_tk_a (by decide) (by show i < t_e T len i1; omega) hI q2 (fun z => q3 z) (fun z => by have := q4 z; show 0 ≤ p1 ∧ p1 < t_e T len i1; omega)⟩⟩
  · rw [t_l0_0n rfl he1 k1]; exact t_OK_0
theorem t_lnI_5 {T : Int → Int} {len i f p it m ft : Int} {D : Int → Int} (h0 : 0 ≤ i) (h1 : i ≤ len) (hI : t_I 0 i (f, p, it, m, ft, D)) (hwx : t_wx 0 T len i = 5) : t_OK 0 len i (t_ln 0 T len i (f, p, it, m, ft, D)) := by
  have hkk : t_k T len i = 1 := by
    by_cases q : t_k T len i = 1
    · exact q
    · unfold t_wx at hwx; rw [if_neg q] at hwx; omega
  have c0 := (t_k_1 h0 h1 hkk).1
  have cs := t_s_B (T := T) h1
  obtain ⟨i1, he1⟩ : ∃ x, t_e T len i = x := ⟨_, rfl⟩
  obtain ⟨i2, he2⟩ : ∃ x, t_e T len i1 = x := ⟨_, rfl⟩
  obtain ⟨i3, he3⟩ : ∃ x, t_e T len i2 = x := ⟨_, rfl⟩
  have b1 := t_e_B (T := T) (len := len) (i := i1) (by omega)
  have s1 := t_s_B (T := T) (len := len) (i := i1) (by omega)
  have b2 := t_e_B (T := T) (len := len) (i := i2) (by omega)
  have s2 := t_s_B (T := T) (len := len) (i := i2) (by omega)
  have b3 := t_e_B (T := T) (len := len) (i := i3) (by omega)
  have s3 := t_s_B (T := T) (len := len) (i := i3) (by omega)
  rw [t_ln_w hwx (by decide)]
  by_cases k1 : t_k T len i1 = 3
  · rw [t_l0_0y rfl he1 k1]
    obtain ⟨f1, p1, q1, q2, q3, q4⟩ := t_cnt_E (so := 0) (w := 5) (s := t_s T len i) (it := it) (r := (m, ft, D)) (by decide) hI.1 hI.2.2.2.2.2.2.1 (by omega)
    rw [q1]
    exact ⟨Or.inr rfl, fun _ => ⟨by show i < t_e T len i1; omega, by show t_e T len i1 ≤ len; omega, t_tk_a (by decide) (by show i < t_e T len i1; omega) hI q2 (fun z => q3 z) (fun z => by have := q4 z; show 0 ≤ p1 ∧ p1 < t_e T len i1; omega)⟩⟩
  · rw [t_l0_0n rfl he1 k1]; exact t_OK_0
theorem t_lnI_6 {T : Int → Int} {len i f p it m ft : Int} {D : Int → Int} (h0 : 0 ≤ i) (h1 : i ≤ len) (hI : t_I 0 i (f, p, it, m, ft, D)) (hwx : t_wx 0 T len i = 6) : t_OK 0 len i (t_ln 0 T len i (f, p, it, m, ft, D)) := by
  have hkk : t_k T len i = 1 := by
    by_cases q : t_k T len i = 1
    · exact q
    · unfold t_wx at hwx; rw [if_neg q] at hwx; omega
  have c0 := (t_k_1 h0 h1 hkk).1
  have cs := t_s_B (T := T) h1
  obtain ⟨i1, he1⟩ : ∃ x, t_e T len i = x := ⟨_, rfl⟩
  obtain ⟨i2, he2⟩ : ∃ x, t_e T len i1 = x := ⟨_, rfl⟩
  obtain ⟨i3, he3⟩ : ∃ x, t_e T len i2 = x := ⟨_, rfl⟩
  have b1 := t_e_B (T := T) (len := len) (i := i1) (by omega)
  have s1 := t_s_B (T := T) (len := len) (i := i1) (by omega)
  have b2 := t_e_B (T := T) (len := len) (i := i2) (by omega)
  have s2 := t_s_B (T := T) (len := len) (i := i2) (by omega)
  have b3 := t_e_B (T := T) (len := len) (i := i3) (by omega)
  have s3 := t_s_B (T := T) (len := len) (i := i3) (by omega)
  rw [t_ln_w hwx (by decide)]
  by_cases k1 : t_k T len i1 = 3
  · rw [t_l0_0y rfl he1 k1]
    obtain ⟨f1, p1, q1, q2, q3, q4⟩ := t_cnt_E (so := 0) (w := 6) (s := t_s T len i) (it := it) (r := (m, ft, D)) (by decide) hI.1 hI.2.2.2.2.2.2.1 (by omega)
    rw [q1]
    exact ⟨Or.inr rfl, fun _ => ⟨by show i < t_e T len i1; omega, by show t_e T len i1 ≤ len; omega, t_tk_a (by decide) (by show i < t_e T len i1; omega) hI q2 (fun z => q3 z) (fun z => by have := q4 z; show 0 ≤ p1 ∧ p1 < t_e T len i1; omega)⟩⟩
  · rw [t_l0_0n rfl he1 k1]; exact t_OK_0
theorem t_lnI_7 {T : Int → Int} {len i f p it m ft : Int} {D : Int → Int} (h0 : 0 ≤ i) (h1 : i ≤ len) (hI : t_I 0 i (f, p, it, m, ft, D)) (hwx : t_wx 0 T len i = 7) : t_OK 0 len i (t_ln 0 T len i (f, p, it, m, ft, D)) := by
  have hkk : t_k T len i = 1 := by
    by_cases q : t_k T len i = 1
    · exact q
    · unfold t_wx at hwx; rw [if_neg q] at hwx; omega
  have c0 := (t_k_1 h0 h1 hkk).1
  have cs := t_s_B (T := T) h1
  obtain ⟨i1, he1⟩ : ∃ x, t_e T len i = x := ⟨_, rfl⟩
  obtain ⟨i2, he2⟩ : ∃ x, t_e T len i1 = x := ⟨_, rfl⟩
  obtain ⟨i3, he3⟩ : ∃ x, t_e T len i2 = x := ⟨_, rfl⟩
  have b1 := t_e_B (T := T) (len := len) (i := i1) (by omega)
  have s1 := t_s_B (T := T) (len := len) (i := i1) (by omega)
  have b2 := t_e_B (T := T) (len := len) (i := i2) (by omega)
  have s2 := t_s_B (T := T) (len := len) (i := i2) (by omega)
  have b3 := t_e_B (T := T) (len := len) (i := i3) (by omega)
  have s3 := t_s_B (T := T) (len := len) (i := i3) (by omega)
  rw [t_ln_w hwx (by decide)]
  by_cases k1 : t_k T len i1 = 2
  · by_cases k2 : t_k T len i2 = 3
    · rw [t_l0_1y rfl he1 he2 k1 k2]
      obtain ⟨f1, p1, q1, q2, q3, q4⟩ : ∃ f1 p1, t_cnt 0 7 (t_s T len i) (f, p, it, m, ft, D) = (f1, p1, it, m, ft, D) ∧ (f1 = 0 ∨ f1 = 2 ∨ f1 = 3) ∧ (f1 = 0 → f = 0) ∧ (f1 ≠ 0 → 0 ≤ p1 ∧ (p1 < i ∨ p1 = t_s T len i)) := ⟨f, p, t_cnt_c (by decide), hI.1, fun z => z, fun z => ⟨(hI.2.2.2.2.2.2.1 z).1, Or.inl (hI.2.2.2.2.2.2.1 z).2⟩⟩
      rw [q1]
      obtain ⟨f2, p2, u1, u2, u3, u4⟩ := t_chk_E (w := 7) (f := f1) (p := p1) (v := t_v T len i1) (s := t_s T len i1) (r := (it, m, ft, D)) (i := i1) q2 (fun z => by have := q4 z; omega) (by omega)
      rw [u1]
      exact ⟨Or.inr rfl, fun _ => ⟨by show i < t_e T len i2; omega, by show t_e T len i2 ≤ len; omega, t_tk_r (by decide) (by show i < t_e T len i2; omega) hI u2 (fun z => q3 (u3 z)) (fun z => by have := u4 z; show 0 ≤ p2 ∧ p2 < t_e T len i2; omega)⟩⟩
    · rw [t_l0_1n rfl he1 he2 k1 k2]; exact t_OK_0
  · rw [t_l0_1a (by decide) he1 k1]; exact t_OK_0
theorem t_lnI_8 {T : Int → Int} {len i f p it m ft : Int} {D : Int → Int} (h0 : 0 ≤ i) (h1 : i ≤ len) (hI : t_I 0 i (f, p, it, m, ft, D)) (hwx : t_wx 0 T len i = 8) : t_OK 0 len i (t_ln 0 T len i (f, p, it, m, ft, D)) := by
  have hkk : t_k T len i = 1 := by
    by_cases q : t_k T len i = 1
    · exact q
    · unfold t_wx at hwx; rw [if_neg q] at hwx; omega
  have c0 := (t_k_1 h0 h1 hkk).1
  have cs := t_s_B (T := T) h1
  obtain ⟨i1, he1⟩ : ∃ x, t_e T len i = x := ⟨_, rfl⟩
  obtain ⟨i2, he2⟩ : ∃ x, t_e T len i1 = x := ⟨_, rfl⟩
  obtain ⟨i3, he3⟩ : ∃ x, t_e T len i2 = x := ⟨_, rfl⟩
  have b1 := t_e_B (T := T) (len := len) (i := i1) (by omega)
  have s1 := t_s_B (T := T) (len := len) (i := i1) (by omega)
  have b2 := t_e_B (T := T) (len := len) (i := i2) (by omega)
  have s2 := t_s_B (T := T) (len := len) (i := i2) (by omega)
  have b3 := t_e_B (T := T) (len := len) (i := i3) (by omega)
  have s3 := t_s_B (T := T) (len := len) (i := i3) (by omega)
  rw [t_ln_w hwx (by decide)]
  by_cases k1 : t_k T len i1 = 2
  · by_cases k2 : t_k T len i2 = 3
    · rw [t_l0_1y rfl he1 he2 k1 k2]
      obtain ⟨f1, p1, q1, q2, q3, q4⟩ : ∃ f1 p1, t_cnt 0 8 (t_s T len i) (f, p, it, m, ft, D) = (f1, p1, it, m, ft, D) ∧ (f1 = 0 ∨ f1 = 2 ∨ f1 = 3) ∧ (f1 = 0 → f = 0) ∧ (f1 ≠ 0 → 0 ≤ p1 ∧ (p1 < i ∨ p1 = t_s T len i)) := ⟨f, p, t_cnt_c (by decide), hI.1, fun z => z, fun z => ⟨(hI.2.2.2.2.2.2.1 z).1, Or.inl (hI.2.2.2.2.2.2.1 z).2⟩⟩
      rw [q1]
      obtain ⟨f2, p2, u1, u2, u3, u4⟩ := t_chk_E (w := 8) (f := f1) (p := p1) (v := t_v T len i1) (s := t_s T len i1) (r := (it, m, ft, D)) (i := i1) q2 (fun z => by have := q4 z; omega) (by omega)
      rw [u1]
      exact ⟨Or.inr rfl, fun _ => ⟨by show i < t_e T len i2; omega, by show t_e T len i2 ≤ len; omega, t_tk_r (by decide) (by show i < t_e T len i2; omega) hI u2 (fun z => q3 (u3 z)) (fun z => by have := u4 z; show 0 ≤ p2 ∧ p2 < t_e T len i2; omega)⟩⟩
    · rw [t_l0_1n rfl he1 he2 k1 k2]; exact t_OK_0
  · rw [t_l0_1a (by decide) he1 k1]; exact t_OK_0
theorem t_lnI_9 {T : Int → Int} {len i f p it m ft : Int} {D : Int → Int} (h0 : 0 ≤ i) (h1 : i ≤ len) (hI : t_I 0 i (f, p, it, m, ft, D)) (hwx : t_wx 0 T len i = 9) : t_OK 0 len i (t_ln 0 T len i (f, p, it, m, ft, D)) := by
  have hkk : t_k T len i = 1 := by
    by_cases q : t_k T len i = 1
    · exact q
    · unfold t_wx at hwx; rw [if_neg q] at hwx; omega
  have c0 := (t_k_1 h0 h1 hkk).1
  have cs := t_s_B (T := T) h1
  obtain ⟨i1, he1⟩ : ∃ x, t_e T len i = x := ⟨_, rfl⟩
  obtain ⟨i2, he2⟩ : ∃ x, t_e T len i1 = x := ⟨_, rfl⟩
  obtain ⟨i3, he3⟩ : ∃ x, t_e T len i2 = x := ⟨_, rfl⟩
  have b1 := t_e_B (T := T) (len := len) (i := i1) (by omega)
  have s1 := t_s_B (T := T) (len := len) (i := i1) (by omega)
  have b2 := t_e_B (T := T) (len := len) (i := i2) (by omega)
  have s2 := t_s_B (T := T) (len := len) (i := i2) (by omega)
  have b3 := t_e_B (T := T) (len := len) (i := i3) (by omega)
  have s3 := t_s_B (T := T) (len := len) (i := i3) (by omega)
  rw [t_ln_w hwx (by decide)]
  by_cases k1 : t_k T len i1 = 2
  · by_cases k2 : t_k T len i2 = 3
    · rw [t_l0_1y rfl he1 he2 k1 k2]
      obtain ⟨f1, p1, q1, q2, q3, q4⟩ : ∃ f1 p1, t_cnt 0 9 (t_s T len i) (f, p, it, m, ft, D) = (f1, p1, it, m, ft, D) ∧ (f1 = 0 ∨ f1 = 2 ∨ f1 = 3) ∧ (f1 = 0 → f = 0) ∧ (f1 ≠ 0 → 0 ≤ p1 ∧ (p1 < i ∨ p1 = t_s T len i)) := ⟨f, p, t_cnt_c (by decide), hI.1, fun z => z, fun z => ⟨(hI.2.2.2.2.2.2.1 z).1, Or.inl (hI.2.2.2.2.2.2.1 z).2⟩⟩
      rw [q1]
      obtain ⟨f2, p2, u1, u2, u3, u4⟩ := t_chk_E (w := 9) (f := f1) (p := p1) (v := t_v T len i1) (s := t_s T len i1) (r := (it, m, ft, D)) (i := i1) q2 (fun z => by have := q4 z; omega) (by omega)
      rw [u1]
      exact ⟨Or.inr rfl, fun _ => ⟨by show i < t_e T len i2; omega, by show t_e T len i2 ≤ len; omega, t_tk_r (by decide) (by show i < t_e T len i2; omega) hI u2 (fun z => q3 (u3 z)) (fun z => by have := u4 z; show 0 ≤ p2 ∧ p2 < t_e T len i2; omega)⟩⟩
    · rw [t_l0_1n rfl he1 he2 k1 k2]; exact t_OK_0
  · rw [t_l0_1a (by decide) he1 k1]; exact t_OK_0
theorem t_lnI_10 {T : Int → Int} {len i f p it m ft : Int} {D : Int → Int} (h0 : 0 ≤ i) (h1 : i ≤ len) (hI : t_I 0 i (f, p, it, m, ft, D)) (hwx : t_wx 0 T len i = 10) : t_OK 0 len i (t_ln 0 T len i (f, p, it, m, ft, D)) := by
  have hkk : t_k T len i = 1 := by
    by_cases q : t_k T len i = 1
    · exact q
    · unfold t_wx at hwx; rw [if_neg q] at hwx; omega
  have c0 := (t_k_1 h0 h1 hkk).1
  have cs := t_s_B (T := T) h1
  obtain ⟨i1, he1⟩ : ∃ x, t_e T len i = x := ⟨_, rfl⟩
  obtain ⟨i2, he2⟩ : ∃ x, t_e T len i1 = x := ⟨_, rfl⟩
  obtain ⟨i3, he3⟩ : ∃ x, t_e T len i2 = x := ⟨_, rfl⟩
  have b1 := t_e_B (T := T) (len := len) (i := i1) (by omega)
  have s1 := t_s_B (T := T) (len := len) (i := i1) (by omega)
  have b2 := t_e_B (T := T) (len := len) (i := i2) (by omega)
  have s2 := t_s_B (T := T) (len := len) (i := i2) (by omega)
  have b3 := t_e_B (T := T) (len := len) (i := i3) (by omega)
  have s3 := t_s_B (T := T) (len := len) (i := i3) (by omega)
  rw [t_ln_w hwx (by decide)]
  by_cases k1 : t_k T len i1 = 2
  · by_cases k2 : t_k T len i2 = 3
    · rw [t_l0_1y rfl he1 he2 k1 k2]
      obtain ⟨f1, p1, q1, q2, q3, q4⟩ : ∃ f1 p1, t_cnt 0 10 (t_s T len i) (f, p, it, m, ft, D) = (f1, p1, it, m, ft, D) ∧ (f1 = 0 ∨ f1 = 2 ∨ f1 = 3) ∧ (f1 = 0 → f = 0) ∧ (f1 ≠ 0 → 0 ≤ p1 ∧ (p1 < i ∨ p1 = t_s T len i)) := ⟨f, p, t_cnt_c (by decide), hI.1, fun z => z, fun z => ⟨(hI.2.2.2.2.2.2.1 z).1, Or.inl (hI.2.2.2.2.2.2.1 z).2⟩⟩
      rw [q1]
      obtain ⟨f2, p2, u1, u2, u3, u4⟩ := t_chk_E (w := 10) (f := f1) (p := p1) (v := t_v T len i1) (s := t_s T len i1) (r := (it, m, ft, D)) (i := i1) q2 (fun z => by have := q4 z; omega) (by omega)
      rw [u1]
      exact ⟨Or.inr rfl, fun _ => ⟨by show i < t_e T len i2; omega, by show t_e T len i2 ≤ len; omega, t_tk_r (by decide) (by show i < t_e T len i2; omega) hI u2 (fun z => q3 (u3 z)) (fun z => by have := u4 z; show 0 ≤ p2 ∧ p2 < t_e T len i2; omega)⟩⟩
    · rw [t_l0_1n rfl he1 he2 k1 k2]; exact t_OK_0
  · rw [t_l0_1a (by decide) he1 k1]; exact t_OK_0
theorem t_lnI_11 {T : Int → Int} {len i f p it m ft : Int} {D : Int → Int} (h0 : 0 ≤ i) (h1 : i ≤ len) (hI : t_I 0 i (f, p, it, m, ft, D)) (hwx : t_wx 0 T len i = 11) : t_OK 0 len i (t_ln 0 T len i (f, p, it, m, ft, D)) := by
  have hkk : t_k T len i = 1 := by
    by_cases q : t_k T len i = 1
    · exact q
    · unfold t_wx at hwx; rw [if_neg q] at hwx; omega
  have c0 := (t_k_1 h0 h1 hkk).1
  have cs := t_s_B (T := T) h1
  obtain ⟨i1, he1⟩ : ∃ x, t_e T len i = x := ⟨_, rfl⟩
  obtain ⟨i2, he2⟩ : ∃ x, t_e T len i1 = x := ⟨_, rfl⟩
  obtain ⟨i3, he3⟩ : ∃ x, t_e T len i2 = x := ⟨_, rfl⟩
  have b1 := t_e_B (T := T) (len := len) (i := i1) (by omega)
  have s1 := t_s_B (T := T) (len := len) (i := i1) (by omega)
  have b2 := t_e_B (T := T) (len := len) (i := i2) (by omega)
  have s2 := t_s_B (T := T) (len := len) (i := i2) (by omega)
  have b3 := t_e_B (T := T) (len := len) (i := i3) (by omega)
  have s3 := t_s_B (T := T) (len := len) (i := i3) (by omega)
  rw [t_ln_w hwx (by decide)]
  by_cases k1 : t_k T len i1 = 2
  · by_cases k2 : t_k T len i2 = 3
    · rw [t_l0_1y rfl he1 he2 k1 k2]
      obtain ⟨f1, p1, q1, q2, q3, q4⟩ : ∃ f1 p1, t_cnt 0 11 (t_s T len i) (f, p, it, m, ft, D) = (f1, p1, it, m, ft, D) ∧ (f1 = 0 ∨ f1 = 2 ∨ f1 = 3) ∧ (f1 = 0 → f = 0) ∧ (f1 ≠ 0 → 0 ≤ p1 ∧ (p1 < i ∨ p1 = t_s T len i)) := ⟨f, p, t_cnt_c (by decide), hI.1, fun z => z, fun z => ⟨(hI.2.2.2.2.2.2.1 z).1, Or.inl (hI.2.2.2.2.2.2.1 z).2⟩⟩
      rw [q1]
      obtain ⟨f2, p2, u1, u2, u3, u4⟩ := t_chk_E (w := 11) (f := f1) (p := p1) (v := t_v T len i1) (s := t_s T len i1) (r := (it, m, ft, D)) (i := i1) q2 (fun z => by have := q4 z; omega) (by omega)
      rw [u1]
      exact ⟨Or.inr rfl, fun _ => ⟨by show i < t_e T len i2; omega, by show t_e T len i2 ≤ len; omega, t_tk_r (by decide) (by show i < t_e T len i2; omega) hI u2 (fun z => q3 (u3 z)) (fun z => by have := u4 z; show 0 ≤ p2 ∧ p2 < t_e T len i2; omega)⟩⟩
    · rw [t_l0_1n rfl he1 he2 k1 k2]; exact t_OK_0
  · rw [t_l0_1a (by decide) he1 k1]; exact t_OK_0
theorem t_lnI_12 {T : Int → Int} {len i f p it m ft : Int} {D : Int → Int} (h0 : 0 ≤ i) (h1 : i ≤ len) (hI : t_I 0 i (f, p, it, m, ft, D)) (hwx : t_wx 0 T len i = 12) : t_OK 0 len i (t_ln 0 T len i (f, p, it, m, ft, D)) := by
  have hkk : t_k T len i = 1 := by
    by_cases q : t_k T len i = 1
    · exact q
    · unfold t_wx at hwx; rw [if_neg q] at hwx; omega
  have c0 := (t_k_1 h0 h1 hkk).1
  have cs := t_s_B (T := T) h1
  obtain ⟨i1, he1⟩ : ∃ x, t_e T len i = x := ⟨_, rfl⟩
  obtain ⟨i2, he2⟩ : ∃ x, t_e T len i1 = x := ⟨_, rfl⟩
  obtain ⟨i3, he3⟩ : ∃ x, t_e T len i2 = x := ⟨_, rfl⟩
  have b1 := t_e_B (T := T) (len := len) (i := i1) (by omega)
  have s1 := t_s_B (T := T) (len := len) (i := i1) (by omega)
  have b2 := t_e_B (T := T) (len := len) (i := i2) (by omega)
  have s2 := t_s_B (T := T) (len := len) (i := i2) (by omega)
  have b3 := t_e_B (T := T) (len := len) (i := i3) (by omega)
  have s3 := t_s_B (T := T) (len := len) (i := i3) (by omega)
  rw [t_ln_w hwx (by decide)]
  by_cases k1 : t_k T len i1 = 2
  · by_cases k2 : t_k T len i2 = 3
    · rw [t_l0_1y rfl he1 he2 k1 k2]
      obtain ⟨f1, p1, q1, q2, q3, q4⟩ : ∃ f1 p1, t_cnt 0 12 (t_s T len i) (f, p, it, m, ft, D) = (f1, p1, it, m, ft, D) ∧ (f1 = 0 ∨ f1 = 2 ∨ f1 = 3) ∧ (f1 = 0 → f = 0) ∧ (f1 ≠ 0 → 0 ≤ p1 ∧ (p1 < i ∨ p1 = t_s T len i)) := ⟨f, p, t_cnt_c (by decide), hI.1, fun z => z, fun z => ⟨(hI.2.2.2.2.2.2.1 z).1, Or.inl (hI.2.2.2.2.2.2.1 z).2⟩⟩
      rw [q1]
      obtain ⟨f2, p2, u1, u2, u3, u4⟩ := t_chk_E (w := 12) (f := f1) (p := p1) (v := t_v T len i1) (s := t_s T len i1) (r := (it, m, ft, D)) (i := i1) q2 (fun z => by have := q4 z; omega) (by omega)
      rw [u1]
      exact ⟨Or.inr rfl, fun _ => ⟨by show i < t_e T len i2; omega, by show t_e T len i2 ≤ len; omega, t_tk_r (by decide) (by show i < t_e T len i2; omega) hI u2 (fun z => q3 (u3 z)) (fun z => by have := u4 z; show 0 ≤ p2 ∧ p2 < t_e T len i2; omega)⟩⟩
    · rw [t_l0_1n rfl he1 he2 k1 k2]; exact t_OK_0
  · rw [t_l0_1a (by decide) he1 k1]; exact t_OK_0
theorem t_lnI_13 {T : Int → Int} {len i f p it m ft : Int} {D : Int → Int} (h0 : 0 ≤ i) (h1 : i ≤ len) (hI : t_I 0 i (f, p, it, m, ft, D)) (hwx : t_wx 0 T len i = 13) : t_OK 0 len i (t_ln 0 T len i (f, p, it, m, ft, D)) := by
  have hkk : t_k T len i = 1 := by
    by_cases q : t_k T len i = 1
    · exact q
    · unfold t_wx at hwx; rw [if_neg q] at hwx; omega
  have c0 := (t_k_1 h0 h1 hkk).1
  have cs := t_s_B (T := T) h1
  obtain ⟨i1, he1⟩ : ∃ x, t_e T len i = x := ⟨_, rfl⟩
  obtain ⟨i2, he2⟩ : ∃ x, t_e T len i1 = x := ⟨_, rfl⟩
  obtain ⟨i3, he3⟩ : ∃ x, t_e T len i2 = x := ⟨_, rfl⟩
  have b1 := t_e_B (T := T) (len := len) (i := i1) (by omega)
  have s1 := t_s_B (T := T) (len := len) (i := i1) (by omega)
  have b2 := t_e_B (T := T) (len := len) (i := i2) (by omega)
  have s2 := t_s_B (T := T) (len := len) (i := i2) (by omega)
  have b3 := t_e_B (T := T) (len := len) (i := i3) (by omega)
  have s3 := t_s_B (T := T) (len := len) (i := i3) (by omega)
  rw [t_ln_w hwx (by decide)]
  by_cases k1 : t_k T len i1 = 2
  · by_cases k2 : t_k T len i2 = 3
    · rw [t_l0_1y rfl he1 he2 k1 k2]
      obtain ⟨f1, p1, q1, q2, q3, q4⟩ : ∃ f1 p1, t_cnt 0 13 (t_s T len i) (f, p, it, m, ft, D) = (f1, p1, it, m, ft, D) ∧ (f1 = 0 ∨ f1 = 2 ∨ f1 = 3) ∧ (f1 = 0 → f = 0) ∧ (f1 ≠ 0 → 0 ≤ p1 ∧ (p1 < i ∨ p1 = t_s T len i)) := ⟨f, p, t_cnt_c (by decide), hI.1, fun z => z, fun z => ⟨(hI.2.2.2.2.2.2.1 z).1, Or.inl (hI.2.2.2.2.2.2.1 z).2⟩⟩
      rw [q1]
      obtain ⟨f2, p2, u1, u2, u3, u4⟩ := t_chk_E (w := 13) (f := f1) (p := p1) (v := t_v T len i1) (s := t_s T len i1) (r := (it, m, ft, D)) (i := i1) q2 (fun z => by have := q4 z; omega) (by omega)
      rw [u1]
      exact ⟨Or.inr rfl, fun _ => ⟨by show i < t_e T len i2; omega, by show t_e T len i2 ≤ len; omega, t_tk_r (by decide) (by show i < t_e T len i2; omega) hI u2 (fun z => q3 (u3 z)) (fun z => by have := u4 z; show 0 ≤ p2 ∧ p2 < t_e T len i2; omega)⟩⟩
    · rw [t_l0_1n rfl he1 he2 k1 k2]; exact t_OK_0
  · rw [t_l0_1a (by decide) he1 k1]; exact t_OK_0
theorem t_lnI_14 {T : Int → Int} {len i f p it m ft : Int} {D : Int → Int} (h0 : 0 ≤ i) (h1 : i ≤ len) (hI : t_I 0 i (f, p, it, m, ft, D)) (hwx : t_wx 0 T len i = 14) : t_OK 0 len i (t_ln 0 T len i (f, p, it, m, ft, D)) := by
  have hkk : t_k T len i = 1 := by
    by_cases q : t_k T len i = 1
    · exact q
    · unfold t_wx at hwx; rw [if_neg q] at hwx; omega
  have c0 := (t_k_1 h0 h1 hkk).1
  have cs := t_s_B (T := T) h1
  obtain ⟨i1, he1⟩ : ∃ x, t_e T len i = x := ⟨_, rfl⟩
  obtain ⟨i2, he2⟩ : ∃ x, t_e T len i1 = x := ⟨_, rfl⟩
  obtain ⟨i3, he3⟩ : ∃ x, t_e T len i2 = x := ⟨_, rfl⟩
  have b1 := t_e_B (T := T) (len := len) (i := i1) (by omega)
  have s1 := t_s_B (T := T) (len := len) (i := i1) (by omega)
  have b2 := t_e_B (T := T) (len := len) (i := i2) (by omega)
  have s2 := t_s_B (T := T) (len := len) (i := i2) (by omega)
  have b3 := t_e_B (T := T) (len := len) (i := i3) (by omega)
  have s3 := t_s_B (T := T) (len := len) (i := i3) (by omega)
  rw [t_ln_w hwx (by decide)]
  by_cases k1 : t_k T len i1 = 2
  · by_cases k2 : t_k T len i2 = 3
    · rw [t_l0_1y rfl he1 he2 k1 k2]
      obtain ⟨f1, p1, q1, q2, q3, q4⟩ : ∃ f1 p1, t_cnt 0 14 (t_s T len i) (f, p, it, m, ft, D) = (f1, p1, it, m, ft, D) ∧ (f1 = 0 ∨ f1 = 2 ∨ f1 = 3) ∧ (f1 = 0 → f = 0) ∧ (f1 ≠ 0 → 0 ≤ p1 ∧ (p1 < i ∨ p1 = t_s T len i)) := ⟨f, p, t_cnt_c (by decide), hI.1, fun z => z, fun z => ⟨(hI.2.2.2.2.2.2.1 z).1, Or.inl (hI.2.2.2.2.2.2.1 z).2⟩⟩
      rw [q1]
      obtain ⟨f2, p2, u1, u2, u3, u4⟩ := t_chk_E (w := 14) (f := f1) (p := p1) (v := t_v T len i1) (s := t_s T len i1) (r := (it, m, ft, D)) (i := i1) q2 (fun z => by have := q4 z; omega) (by omega)
      rw [u1]
      exact ⟨Or.inr rfl, fun _ => ⟨by show i < t_e T len i2; omega, by show t_e T len i2 ≤ len; omega, t_tk_r (by decide) (by show i < t_e T len i2; omega) hI u2 (fun z => q3 (u3 z)) (fun z => by have := u4 z; show 0 ≤ p2 ∧ p2 < t_e T len i2; omega)⟩⟩
    · rw [t_l0_1n rfl he1 he2 k1 k2]; exact t_OK_0
  · rw [t_l0_1a (by decide) he1 k1]; exact t_OK_0
theorem t_lnI_15 {T : Int → Int} {len i f p it m ft : Int} {D : Int → Int} (h0 : 0 ≤ i) (h1 : i ≤ len) (hI : t_I 0 i (f, p, it, m, ft, D)) (hwx : t_wx 0 T len i = 15) : t_OK 0 len i (t_ln 0 T len i (f, p, it, m, ft, D)) := by
  have hkk : t_k T len i = 1 := by
    by_cases q : t_k T len i = 1
    · exact q
    · unfold t_wx at hwx; rw [if_neg q] at hwx; omega
  have c0 := (t_k_1 h0 h1 hkk).1
  have cs := t_s_B (T := T) h1
  obtain ⟨i1, he1⟩ : ∃ x, t_e T len i = x := ⟨_, rfl⟩
  obtain ⟨i2, he2⟩ : ∃ x, t_e T len i1 = x := ⟨_, rfl⟩
  obtain ⟨i3, he3⟩ : ∃ x, t_e T len i2 = x := ⟨_, rfl⟩
  have b1 := t_e_B (T := T) (len := len) (i := i1) (by omega)
  have s1 := t_s_B (T := T) (len := len) (i := i1) (by omega)
  have b2 := t_e_B (T := T) (len := len) (i := i2) (by omega)
  have s2 := t_s_B (T := T) (len := len) (i := i2) (by omega)
  have b3 := t_e_B (T := T) (len := len) (i := i3) (by omega)
  have s3 := t_s_B (T := T) (len := len) (i := i3) (by omega)
  rw [t_ln_w hwx (by decide)]
  by_cases k1 : t_k T len i1 = 2
  · by_cases k2 : t_k T len i2 = 3
    · rw [t_l0_1y rfl he1 he2 k1 k2]
      obtain ⟨f1, p1, q1, q2, q3, q4⟩ : ∃ f1 p1, t_cnt 0 15 (t_s T len i) (f, p, it, m, ft, D) = (f1, p1, it, m, ft, D) ∧ (f1 = 0 ∨ f1 = 2 ∨ f1 = 3) ∧ (f1 = 0 → f = 0) ∧ (f1 ≠ 0 → 0 ≤ p1 ∧ (p1 < i ∨ p1 = t_s T len i)) := ⟨f, p, t_cnt_c (by decide), hI.1, fun z => z, fun z => ⟨(hI.2.2.2.2.2.2.1 z).1, Or.inl (hI.2.2.2.2.2.2.1 z).2⟩⟩
      rw [q1]
      obtain ⟨f2, p2, u1, u2, u3, u4⟩ := t_chk_E (w := 15) (f := f1) (p := p1) (v := t_v T len i1) (s := t_s T len i1) (r := (it, m, ft, D)) (i := i1) q2 (fun z => by have := q4 z; omega) (by omega)
      rw [u1]
      exact ⟨Or.inr rfl, fun _ => ⟨by show i < t_e T len i2; omega, by show t_e T len i2 ≤ len; omega, t_tk_r (by decide) (by show i < t_e T len i2; omega) hI u2 (fun z => q3 (u3 z)) (fun z => by have := u4 z; show 0 ≤ p2 ∧ p2 < t_e T len i2; omega)⟩⟩
    · rw [t_l0_1n rfl he1 he2 k1 k2]; exact t_OK_0
  · rw [t_l0_1a (by decide) he1 k1]; exact t_OK_0
theorem t_lnI_16 {T : Int → Int} {len i f p it m ft : Int} {D : Int → Int} (h0 : 0 ≤ i) (h1 : i ≤ len) (hI : t_I 1 i (f, p, it, m, ft, D)) (hwx : t_wx 1 T len i = 16) : t_OK 1 len i (t_ln 1 T len i (f, p, it, m, ft, D)) := by
  have hkk : t_k T len i = 1 := by
    by_cases q : t_k T len i = 1
    · exact q
    · unfold t_wx at hwx; rw [if_neg q] at hwx; omega
  have c0 := (t_k_1 h0 h1 hkk).1
  have cs := t_s_B (T := T) h1
  obtain ⟨i1, he1⟩ : ∃ x, t_e T len i = x := ⟨_, rfl⟩
  obtain ⟨i2, he2⟩ : ∃ x, t_e T len i1 = x := ⟨_, rfl⟩
  obtain ⟨i3, he3⟩ : ∃ x, t_e T len i2 = x := ⟨_, rfl⟩
  have b1 := t_e_B (T := T) (len := len) (i := i1) (by omega)
  have s1 := t_s_B (T := T) (len := len) (i := i1) (by omega)
  have b2 := t_e_B (T := T) (len := len) (i := i2) (by omega)
  have s2 := t_s_B (T := T) (len := len) (i := i2) (by omega)
  have b3 := t_e_B (T := T) (len := len) (i := i3) (by omega)
  have s3 := t_s_B (T := T) (len := len) (i := i3) (by omega)
  rw [t_ln_w hwx (by decide)]
  by_cases k1 : t_k T len i1 = 3
  · rw [t_l0_0y rfl he1 k1]
    obtain ⟨f1, p1, q1, q2, q3, q4⟩ := t_cnt_E (so := 1) (w := 16) (s := t_s T len i) (it := it) (r := (m, ft, D)) (by decide) hI.1 hI.2.2.2.2.2.2.1 (by omega)
    rw [q1]
    exact ⟨Or.inr rfl, fun _ => ⟨by show i < t_e T len i1; omega, by show t_e T len i1 ≤ len; omega, t_tk_d (by decide) (by show i < t_e T len i1; omega) hI q2 (fun z => q3 z) (fun z => by have := q4 z; show 0 ≤ p1 ∧ p1 < t_e T len i1; omega)⟩⟩
  · rw [t_l0_0n rfl he1 k1]; exact t_OK_0
theorem t_lnI_17 {T : Int → Int} {len i f p it m ft : Int} {D : Int → Int} (h0 : 0 ≤ i) (h1 : i ≤ len) (hI : t_I 1 i (f, p, it, m, ft, D)) (hwx : t_wx 1 T len i = 17) : t_OK 1 len i (t_ln 1 T len i (f, p, it, m, ft, D)) := by
  have hkk : t_k T len i = 1 := by
    by_cases q : t_k T len i = 1
    · exact q
    · unfold t_wx at hwx; rw [if_neg q] at hwx; omega
  have c0 := (t_k_1 h0 h1 hkk).1
  have cs := t_s_B (T := T) h1
  obtain ⟨i1, he1⟩ : ∃ x, t_e T len i = x := ⟨_, rfl⟩
  obtain ⟨i2, he2⟩ : ∃ x, t_e T len i1 = x := ⟨_, rfl⟩
  obtain ⟨i3, he3⟩ : ∃ x, t_e T len i2 = x := ⟨_, rfl⟩
  have b1 := t_e_B (T := T) (len := len) (i := i1) (by omega)
  have s1 := t_s_B (T := T) (len := len) (i := i1) (by omega)
  have b2 := t_e_B (T := T) (len := len) (i := i2) (by omega)
  have s2 := t_s_B (T := T) (len := len) (i := i2) (by omega)
  have b3 := t_e_B (T := T) (len := len) (i := i3) (by omega)
  have s3 := t_s_B (T := T) (len := len) (i := i3) (by omega)
  rw [t_ln_w hwx (by decide)]
  by_cases k1 : t_k T len i1 = 3
  · rw [t_l0_0y rfl he1 k1]
    obtain ⟨f1, p1, q1, q2, q3, q4⟩ := t_cnt_E (so := 1) (w := 17) (s := t_s T len i) (it := it) (r := (m, ft, D)) (by decide) hI.1 hI.2.2.2.2.2.2.1 (by omega)
    rw [q1]
    exact ⟨Or.inr rfl, fun _ => ⟨by show i < t_e T len i1; omega, by show t_e T len i1 ≤ len; omega, t_tk_d (by decide) (by show i < t_e T len i1; omega) hI q2 (fun z => q3 z) (fun z => by have := q4 z; show 0 ≤ p1 ∧ p1 < t_e T len i1; omega)⟩⟩
  · rw [t_l0_0n rfl he1 k1]; exact t_OK_0
theorem t_lnI_18 {T : Int → Int} {len i f p it m ft : Int} {D : Int → Int} (h0 : 0 ≤ i) (h1 : i ≤ len) (hI : t_I 1 i (f, p, it, m, ft, D)) (hwx : t_wx 1 T len i = 18) : t_OK 1 len i (t_ln 1 T len i (f, p, it, m, ft, D)) := by
  have hkk : t_k T len i = 1 := by
    by_cases q : t_k T len i = 1
    · exact q
    · unfold t_wx at hwx; rw [if_neg q] at hwx; omega
  have c0 := (t_k_1 h0 h1 hkk).1
  have cs := t_s_B (T := T) h1
  obtain ⟨i1, he1⟩ : ∃ x, t_e T len i = x := ⟨_, rfl⟩
  obtain ⟨i2, he2⟩ : ∃ x, t_e T len i1 = x := ⟨_, rfl⟩
  obtain ⟨i3, he3⟩ : ∃ x, t_e T len i2 = x := ⟨_, rfl⟩
  have b1 := t_e_B (T := T) (len := len) (i := i1) (by omega)
  have s1 := t_s_B (T := T) (len := len) (i := i1) (by omega)
  have b2 := t_e_B (T := T) (len := len) (i := i2) (by omega)
  have s2 := t_s_B (T := T) (len := len) (i := i2) (by omega)
  have b3 := t_e_B (T := T) (len := len) (i := i3) (by omega)
  have s3 := t_s_B (T := T) (len := len) (i := i3) (by omega)
  rw [t_ln_w hwx (by decide)]
  by_cases k1 : t_k T len i1 = 2
  · by_cases k2 : t_k T len i2 = 3
    · rw [t_l0_1y rfl he1 he2 k1 k2]
      obtain ⟨f1, p1, q1, q2, q3, q4⟩ := t_cnt_E (so := 1) (w := 18) (s := t_s T len i) (it := it) (r := (m, ft, D)) (by decide) hI.1 hI.2.2.2.2.2.2.1 (by omega)
      rw [q1]
      obtain ⟨f2, p2, u1, u2, u3, u4⟩ := t_chk_E (w := 18) (f := f1) (p := p1) (v := t_v T len i1) (s := t_s T len i1) (r := (it + 1, m, ft, D)) (i := i1) q2 (fun z => by have := q4 z; omega) (by omega)
      rw [u1]
      exact ⟨Or.inr rfl, fun _ => ⟨by show i < t_e T len i2; omega, by show t_e T len i2 ≤ len; omega, t_tk_d (by decide) (by show i < t_e T len i2; omega) hI u2 (fun z => q3 (u3 z)) (fun z => by have := u4 z; show 0 ≤ p2 ∧ p2 < t_e T len i2; omega)⟩⟩
    · rw [t_l0_1n rfl he1 he2 k1 k2]; exact t_OK_0
  · rw [t_l0_1a (by decide) he1 k1]; exact t_OK_0
theorem t_lnI_19 {T : Int → Int} {len i f p it m ft : Int} {D : Int → Int} (h0 : 0 ≤ i) (h1 : i ≤ len) (hI : t_I 2 i (f, p, it, m, ft, D)) (hwx : t_wx 2 T len i = 19) : t_OK 2 len i (t_ln 2 T len i (f, p, it, m, ft, D)) := by
  have hkk : t_k T len i = 1 := by
    by_cases q : t_k T len i = 1
    · exact q
    · unfold t_wx at hwx; rw [if_neg q] at hwx; omega
  have c0 := (t_k_1 h0 h1 hkk).1
  have cs := t_s_B (T := T) h1
  obtain ⟨i1, he1⟩ : ∃ x, t_e T len i = x := ⟨_, rfl⟩
  obtain ⟨i2, he2⟩ : ∃ x, t_e T len i1 = x := ⟨_, rfl⟩
  obtain ⟨i3, he3⟩ : ∃ x, t_e T len i2 = x := ⟨_, rfl⟩
  have b1 := t_e_B (T := T) (len := len) (i := i1) (by omega)
  have s1 := t_s_B (T := T) (len := len) (i := i1) (by omega)
  have b2 := t_e_B (T := T) (len := len) (i := i2) (by omega)
  have s2 := t_s_B (T := T) (len := len) (i := i2) (by omega)
  have b3 := t_e_B (T := T) (len := len) (i := i3) (by omega)
  have s3 := t_s_B (T := T) (len := len) (i := i3) (by omega)
  rw [t_ln_w hwx (by decide)]
  by_cases k1 : t_k T len i1 = 2
  · by_cases k2 : t_k T len i2 = 3
    · rw [t_l0_1y rfl he1 he2 k1 k2]
      obtain ⟨f1, p1, q1, q2, q3, q4⟩ := t_cnt_E (so := 2) (w := 19) (s := t_s T len i) (it := it) (r := (m, ft, D)) (by decide) hI.1 hI.2.2.2.2.2.2.1 (by omega)
      rw [q1]
      obtain ⟨f2, p2, u1, u2, u3, u4⟩ := t_chk_E (w := 19) (f := f1) (p := p1) (v := t_v T len i1) (s := t_s T len i1) (r := (it + 1, m, ft, D)) (i := i1) q2 (fun z => by have := q4 z; omega) (by omega)
      rw [u1]
      exact ⟨Or.inr rfl, fun _ => ⟨by show i < t_e T len i2; omega, by show t_e T len i2 ≤ len; omega, t_tk_l (by show i < t_e T len i2; omega) hI u2 (fun z => q3 (u3 z)) (fun z => by have := u4 z; show 0 ≤ p2 ∧ p2 < t_e T len i2; omega)⟩⟩
    · rw [t_l0_1n rfl he1 he2 k1 k2]; exact t_OK_0
  · rw [t_l0_1a (by decide) he1 k1]; exact t_OK_0
theorem t_lnI_20 {T : Int → Int} {len i f p it m ft : Int} {D : Int → Int} (h0 : 0 ≤ i) (h1 : i ≤ len) (hI : t_I 3 i (f, p, it, m, ft, D)) (hwx : t_wx 3 T len i = 20) : t_OK 3 len i (t_ln 3 T len i (f, p, it, m, ft, D)) := by
  have hkk : t_k T len i = 1 := by
    by_cases q : t_k T len i = 1
    · exact q
    · unfold t_wx at hwx; rw [if_neg q] at hwx; omega
  have c0 := (t_k_1 h0 h1 hkk).1
  have cs := t_s_B (T := T) h1
  obtain ⟨i1, he1⟩ : ∃ x, t_e T len i = x := ⟨_, rfl⟩
  obtain ⟨i2, he2⟩ : ∃ x, t_e T len i1 = x := ⟨_, rfl⟩
  obtain ⟨i3, he3⟩ : ∃ x, t_e T len i2 = x := ⟨_, rfl⟩
  have b1 := t_e_B (T := T) (len := len) (i := i1) (by omega)
  have s1 := t_s_B (T := T) (len := len) (i := i1) (by omega)
  have b2 := t_e_B (T := T) (len := len) (i := i2) (by omega)
  have s2 := t_s_B (T := T) (len := len) (i := i2) (by omega)
  have b3 := t_e_B (T := T) (len := len) (i := i3) (by omega)
  have s3 := t_s_B (T := T) (len := len) (i := i3) (by omega)
  rw [t_ln_w hwx (by decide)]
  by_cases k1 : t_k T len i1 = 2
  · by_cases k2 : t_k T len i2 = 2
    · by_cases k3 : t_k T len i3 = 3
      · rw [t_l0_2y rfl he1 he2 he3 k1 k2 k3]
        have hv2 := t_v_b k2
        obtain ⟨f1, p1, q1, q2, q3, q4⟩ := t_cnt_E (so := 3) (w := 20) (s := t_s T len i) (it := it) (r := (m, ft, D)) (by decide) hI.1 hI.2.2.2.2.2.2.1 (by omega)
        rw [q1]
        obtain ⟨f2, p2, u1, u2, u3, u4⟩ := t_chk_E (w := 20) (f := f1) (p := p1) (v := t_v T len i1) (s := t_s T len i1) (r := (it + 1, m, ft, D)) (i := i1) q2 (fun z => by have := q4 z; omega) (by omega)
        rw [u1]
        exact ⟨Or.inr rfl, fun _ => ⟨by show i < t_e T len i3; omega, by show t_e T len i3 ≤ len; omega, t_tk_s hv2 (by show i < t_e T len i3; omega) hI u2 (fun z => q3 (u3 z)) (fun z => by have := u4 z; show 0 ≤ p2 ∧ p2 < t_e T len i3; omega)⟩⟩
      · rw [t_l0_2n rfl he1 he2 he3 k1 k2 k3]; exact t_OK_0
    · rw [t_l0_2a rfl he1 he2 k1 k2]; exact t_OK_0
  · rw [t_l0_1a (by decide) he1 k1]; exact t_OK_0
theorem t_lnI0 {T : Int → Int} {len i : Int} {st : t_S} (h0 : 0 ≤ i) (h1 : i ≤ len) (hI : t_I 0 i st) : t_OK 0 len i (t_ln 0 T len i st) := by
  obtain ⟨f, p, it, m, ft, D⟩ := st
  have hx := t_wx_r (so := 0) (T := T) (len := len) (i := i) (by decide)
  rcases (show t_wx 0 T len i = -1 ∨ t_wx 0 T len i = 0 ∨ t_wx 0 T len i = 1 ∨ t_wx 0 T len i = 2 ∨ t_wx 0 T len i = 3 ∨ t_wx 0 T len i = 4 ∨ t_wx 0 T len i = 5 ∨ t_wx 0 T len i = 6 ∨ t_wx 0 T len i = 7 ∨ t_wx 0 T len i = 8 ∨ t_wx 0 T len i = 9 ∨ t_wx 0 T len i = 10 ∨ t_wx 0 T len i = 11 ∨ t_wx 0 T len i = 12 ∨ t_wx 0 T len i = 13 ∨ t_wx 0 T len i = 14 ∨ t_wx 0 T len i = 15 by omega) with hw | hw | hw | hw | hw | hw | hw | hw | hw | hw | hw | hw | hw | hw | hw | hw | hw
  · rw [t_ln_n hw]; exact t_OK_0
  · exact t_lnI_0 h0 h1 hI hw
  · exact t_lnI_1 h0 h1 hI hw
  · exact t_lnI_2 h0 h1 hI hw
  · exact t_lnI_3 h0 h1 hI hw
  · exact t_lnI_4 h0 h1 hI hw
  · exact t_lnI_5 h0 h1 hI hw
  · exact t_lnI_6 h0 h1 hI hw
  · exact t_lnI_7 h0 h1 hI hw
  · exact t_lnI_8 h0 h1 hI hw
  · exact t_lnI_9 h0 h1 hI hw
  · exact t_lnI_10 h0 h1 hI hw
  · exact t_lnI_11 h0 h1 hI hw
  · exact t_lnI_12 h0 h1 hI hw
  · exact t_lnI_13 h0 h1 hI hw
  · exact t_lnI_14 h0 h1 hI hw
  · exact t_lnI_15 h0 h1 hI hw
set_option maxHeartbeats 4000000 in
set_option maxRecDepth 100000 in
theorem s_rlS0 {G : tp_G} {μ : tp_M} (hG : tp_Gf G = true) {T : Int → Int} {len i : Int} {st : t_S} (hT : ∀ j, 0 ≤ T j ∧ T j ≤ 255) (h0 : 0 ≤ i) (h1 : i ≤ len) (hr : rs T len st.1 st.2.1 st.2.2.1 μ) (ht : tk9 T len i μ) (hcR : st.1 = 0 → μ.1 41 7 = st.2.2.2.1 ∧ t_cont 0 st.2.2.2.2.2 μ) (hI : t_I 0 i st) : tp_k G mX5_readLine [tR (some 41), tI 0] μ (fun r μ' => o_P 0 (t_ln 0 T len i st) μ r μ') := by
  obtain ⟨f, p, it, m, ft, D⟩ := st
  have hlen := hr.1.2.1
  have hx := t_wx_r (so := 0) (T := T) (len := len) (i := i) (by decide)
  have hit : 0 ≤ it ∧ it ≤ 600 := by have q : 0 ≤ it ∧ it ≤ i := hI.2.1; omega
  have hD0 : 0 ≤ D 0 ∧ D 0 ≤ it := (by have q : D 0 = min 40 it := hI.2.2.1 (by decide); omega)
  have hmx : f = 0 → it ≤ 40 := hI.2.2.2.2.1
  rcases (show t_wx 0 T len i = -1 ∨ t_wx 0 T len i = 0 ∨ t_wx 0 T len i = 1 ∨ t_wx 0 T len i = 2 ∨ t_wx 0 T len i = 3 ∨ t_wx 0 T len i = 4 ∨ t_wx 0 T len i = 5 ∨ t_wx 0 T len i = 6 ∨ t_wx 0 T len i = 7 ∨ t_wx 0 T len i = 8 ∨ t_wx 0 T len i = 9 ∨ t_wx 0 T len i = 10 ∨ t_wx 0 T len i = 11 ∨ t_wx 0 T len i = 12 ∨ t_wx 0 T len i = 13 ∨ t_wx 0 T len i = 14 ∨ t_wx 0 T len i = 15 by omega) with hw | hw | hw | hw | hw | hw | hw | hw | hw | hw | hw | hw | hw | hw | hw | hw | hw
  · have hwO : tp_k G mX5_wordOf [tR (some 41), tI 0] μ (fun r μ' => r = some (tI (-1)) ∧ μ' = μ) := by
      have q := s_wO0 hG hT hr.1 ht.2.2.1 ht.1 ht.2.1 (fun z => (t_k_1 h0 h1 z).1) (fun z => (t_k_1 h0 h1 z).2.1)
      rw [t_wx_o, hw] at q
      exact q
    refine tp_ok_of mX5_readLine_ok rfl (Nat.le_refl _) ?_
    refine g_aload_n rfl rfl ?_
    refine g_iload_n rfl rfl ?_
    refine g_cV (as := [tI 0]) (hwO) rfl rfl mX5_wordOf_ok rfl rfl rfl (by decide) rfl rfl rfl ?_
    rintro _ w9 ⟨rfl, hw9⟩ _
    have hw9 := hw9.symm
    subst hw9
    refine g_istore_n rfl rfl rfl ?_
    refine g_iload_n rfl rfl ?_
    refine g_iconst rfl ⟨by decide, by decide⟩ ?_
    refine g_icmp_ne (tgt := 13) rfl (by decide) (fun hx => absurd hx (by omega)) (fun _ => ?_)
    refine g_iconst rfl ⟨by decide, by decide⟩ ?_
    refine x_zreturn rfl rfl (Or.inl rfl) ?_
    rw [t_ln_n hw]
    exact ⟨rfl, fun _ => ht.2.2.1, fun z => absurd (show (0 : Int) = 1 from z) (by decide), o_F_rf⟩
  · exact s_rl0 hG hT h0 h1 hr ht hcR hit hD0 hw hmx
  · exact s_rl1 hG hT h0 h1 hr ht hcR hit hD0 hw hmx
  · exact s_rl2 hG hT h0 h1 hr ht hcR hit hD0 hw hmx
  · exact s_rl3 hG hT h0 h1 hr ht hcR hit hD0 hw hmx
  · exact s_rl4 hG hT h0 h1 hr ht hcR hit hD0 hw hmx
  · exact s_rl5 hG hT h0 h1 hr ht hcR hit hD0 hw hmx
  · exact s_rl6 hG hT h0 h1 hr ht hcR hit hD0 hw hmx
  · exact s_rl7 hG hT h0 h1 hr ht hcR hit hD0 hw hmx
  · exact s_rl8 hG hT h0 h1 hr ht hcR hit hD0 hw hmx
  · exact s_rl9 hG hT h0 h1 hr ht hcR hit hD0 hw hmx
  · exact s_rl10 hG hT h0 h1 hr ht hcR hit hD0 hw hmx
  · exact s_rl11 hG hT h0 h1 hr ht hcR hit hD0 hw hmx
  · exact s_rl12 hG hT h0 h1 hr ht hcR hit hD0 hw hmx
  · exact s_rl13 hG hT h0 h1 hr ht hcR hit hD0 hw hmx
  · exact s_rl14 hG hT h0 h1 hr ht hcR hit hD0 hw hmx
  · exact s_rl15 hG hT h0 h1 hr ht hcR hit hD0 hw hmx
theorem t_lnI1 {T : Int → Int} {len i : Int} {st : t_S} (h0 : 0 ≤ i) (h1 : i ≤ len) (hI : t_I 1 i st) : t_OK 1 len i (t_ln 1 T len i st) := by
  obtain ⟨f, p, it, m, ft, D⟩ := st
  have hx := t_wx_r (so := 1) (T := T) (len := len) (i := i) (by decide)
  rcases (show t_wx 1 T len i = -1 ∨ t_wx 1 T len i = 16 ∨ t_wx 1 T len i = 17 ∨ t_wx 1 T len i = 18 by omega) with hw | hw | hw | hw
  · rw [t_ln_n hw]; exact t_OK_0
  · exact t_lnI_16 h0 h1 hI hw
  · exact t_lnI_17 h0 h1 hI hw
  · exact t_lnI_18 h0 h1 hI hw
set_option maxHeartbeats 4000000 in
set_option maxRecDepth 100000 in
theorem s_rlS1 {G : tp_G} {μ : tp_M} (hG : tp_Gf G = true) {T : Int → Int} {len i : Int} {st : t_S} (hT : ∀ j, 0 ≤ T j ∧ T j ≤ 255) (h0 : 0 ≤ i) (h1 : i ≤ len) (hr : rs T len st.1 st.2.1 st.2.2.1 μ) (ht : tk9 T len i μ) (hcR : st.1 = 0 → μ.1 41 7 = st.2.2.2.1 ∧ t_cont 1 st.2.2.2.2.2 μ) (hI : t_I 1 i st) : tp_k G mX5_readLine [tR (some 41), tI 1] μ (fun r μ' => o_P 1 (t_ln 1 T len i st) μ r μ') := by
  obtain ⟨f, p, it, m, ft, D⟩ := st
  have hlen := hr.1.2.1
  have hx := t_wx_r (so := 1) (T := T) (len := len) (i := i) (by decide)
  have hit : 0 ≤ it ∧ it ≤ 600 := by have q : 0 ≤ it ∧ it ≤ i := hI.2.1; omega
  have hD0 : 0 ≤ D 0 ∧ D 0 ≤ it := (by have q : D 0 = min 60 it := hI.2.2.1 (by decide); omega)
  have hmx : f = 0 → it ≤ 60 := hI.2.2.2.2.1
  rcases (show t_wx 1 T len i = -1 ∨ t_wx 1 T len i = 16 ∨ t_wx 1 T len i = 17 ∨ t_wx 1 T len i = 18 by omega) with hw | hw | hw | hw
  · have hwO : tp_k G mX5_wordOf [tR (some 41), tI 1] μ (fun r μ' => r = some (tI (-1)) ∧ μ' = μ) := by
      have q := s_wO1 hG hT hr.1 ht.2.2.1 ht.1 ht.2.1 (fun z => (t_k_1 h0 h1 z).1) (fun z => (t_k_1 h0 h1 z).2.1)
      rw [t_wx_o, hw] at q
      exact q
    refine tp_ok_of mX5_readLine_ok rfl (Nat.le_refl _) ?_
    refine g_aload_n rfl rfl ?_
    refine g_iload_n rfl rfl ?_
    refine g_cV (as := [tI 1]) (hwO) rfl rfl mX5_wordOf_ok rfl rfl rfl (by decide) rfl rfl rfl ?_
    rintro _ w9 ⟨rfl, hw9⟩ _
    have hw9 := hw9.symm
    subst hw9
    refine g_istore_n rfl rfl rfl ?_
    refine g_iload_n rfl rfl ?_
    refine g_iconst rfl ⟨by decide, by decide⟩ ?_
    refine g_icmp_ne (tgt := 13) rfl (by decide) (fun hx => absurd hx (by omega)) (fun _ => ?_)
    refine g_iconst rfl ⟨by decide, by decide⟩ ?_
    refine x_zreturn rfl rfl (Or.inl rfl) ?_
    rw [t_ln_n hw]
    exact ⟨rfl, fun _ => ht.2.2.1, fun z => absurd (show (0 : Int) = 1 from z) (by decide), o_F_rf⟩
  · exact s_rl16 hG hT h0 h1 hr ht hcR hit hD0 hw hmx
  · exact s_rl17 hG hT h0 h1 hr ht hcR hit hD0 hw hmx
  · exact s_rl18 hG hT h0 h1 hr ht hcR hit hD0 hw hmx
theorem t_lnI2 {T : Int → Int} {len i : Int} {st : t_S} (h0 : 0 ≤ i) (h1 : i ≤ len) (hI : t_I 2 i st) : t_OK 2 len i (t_ln 2 T len i st) := by
  obtain ⟨f, p, it, m, ft, D⟩ := st
  have hx := t_wx_r (so := 2) (T := T) (len := len) (i := i) (by decide)
  rcases (show t_wx 2 T len i = -1 ∨ t_wx 2 T len i = 19 by omega) with hw | hw
  · rw [t_ln_n hw]; exact t_OK_0
  · exact t_lnI_19 h0 h1 hI hw
set_option maxHeartbeats 4000000 in
set_option maxRecDepth 100000 in
theorem s_rlS2 {G : tp_G} {μ : tp_M} (hG : tp_Gf G = true) {T : Int → Int} {len i : Int} {st : t_S} (hT : ∀ j, 0 ≤ T j ∧ T j ≤ 255) (h0 : 0 ≤ i) (h1 : i ≤ len) (hr : rs T len st.1 st.2.1 st.2.2.1 μ) (ht : tk9 T len i μ) (hcR : st.1 = 0 → μ.1 41 7 = st.2.2.2.1 ∧ t_cont 2 st.2.2.2.2.2 μ) (hI : t_I 2 i st) : tp_k G mX5_readLine [tR (some 41), tI 2] μ (fun r μ' => o_P 2 (t_ln 2 T len i st) μ r μ') := by
  obtain ⟨f, p, it, m, ft, D⟩ := st
  have hlen := hr.1.2.1
  have hx := t_wx_r (so := 2) (T := T) (len := len) (i := i) (by decide)
  have hit : 0 ≤ it ∧ it ≤ 600 := by have q : 0 ≤ it ∧ it ≤ i := hI.2.1; omega
  have hD0 : 0 ≤ D 0 ∧ D 0 ≤ it := hI.2.2.2.1 rfl
  have hmx : f = 0 → it ≤ 12 := hI.2.2.2.2.1
  rcases (show t_wx 2 T len i = -1 ∨ t_wx 2 T len i = 19 by omega) with hw | hw
  · have hwO : tp_k G mX5_wordOf [tR (some 41), tI 2] μ (fun r μ' => r = some (tI (-1)) ∧ μ' = μ) := by
      have q := s_wO2 hG hT hr.1 ht.2.2.1 ht.1 ht.2.1 (fun z => (t_k_1 h0 h1 z).1) (fun z => (t_k_1 h0 h1 z).2.1)
      rw [t_wx_o, hw] at q
      exact q
    refine tp_ok_of mX5_readLine_ok rfl (Nat.le_refl _) ?_
    refine g_aload_n rfl rfl ?_
    refine g_iload_n rfl rfl ?_
    refine g_cV (as := [tI 2]) (hwO) rfl rfl mX5_wordOf_ok rfl rfl rfl (by decide) rfl rfl rfl ?_
    rintro _ w9 ⟨rfl, hw9⟩ _
    have hw9 := hw9.symm
    subst hw9
    refine g_istore_n rfl rfl rfl ?_
    refine g_iload_n rfl rfl ?_
    refine g_iconst rfl ⟨by decide, by decide⟩ ?_
    refine g_icmp_ne (tgt := 13) rfl (by decide) (fun hx => absurd hx (by omega)) (fun _ => ?_)
    refine g_iconst rfl ⟨by decide, by decide⟩ ?_
    refine x_zreturn rfl rfl (Or.inl rfl) ?_
    rw [t_ln_n hw]
    exact ⟨rfl, fun _ => ht.2.2.1, fun z => absurd (show (0 : Int) = 1 from z) (by decide), o_F_rf⟩
  · exact s_rl19 hG hT h0 h1 hr ht hcR hit hD0 hw hmx
theorem t_lnI3 {T : Int → Int} {len i : Int} {st : t_S} (h0 : 0 ≤ i) (h1 : i ≤ len) (hI : t_I 3 i st) : t_OK 3 len i (t_ln 3 T len i st) := by
  obtain ⟨f, p, it, m, ft, D⟩ := st
  have hx := t_wx_r (so := 3) (T := T) (len := len) (i := i) (by decide)
  rcases (show t_wx 3 T len i = -1 ∨ t_wx 3 T len i = 20 by omega) with hw | hw
  · rw [t_ln_n hw]; exact t_OK_0
  · exact t_lnI_20 h0 h1 hI hw
set_option maxHeartbeats 4000000 in
set_option maxRecDepth 100000 in
theorem s_rlS3 {G : tp_G} {μ : tp_M} (hG : tp_Gf G = true) {T : Int → Int} {len i : Int} {st : t_S} (hT : ∀ j, 0 ≤ T j ∧ T j ≤ 255) (h0 : 0 ≤ i) (h1 : i ≤ len) (hr : rs T len st.1 st.2.1 st.2.2.1 μ) (ht : tk9 T len i μ) (hcR : st.1 = 0 → μ.1 41 7 = st.2.2.2.1 ∧ t_cont 3 st.2.2.2.2.2 μ) (hI : t_I 3 i st) : tp_k G mX5_readLine [tR (some 41), tI 3] μ (fun r μ' => o_P 3 (t_ln 3 T len i st) μ r μ') := by
  obtain ⟨f, p, it, m, ft, D⟩ := st
  have hlen := hr.1.2.1
  have hx := t_wx_r (so := 3) (T := T) (len := len) (i := i) (by decide)
  have hit : 0 ≤ it ∧ it ≤ 600 := by have q : 0 ≤ it ∧ it ≤ i := hI.2.1; omega
  have hD0 : 0 ≤ D 0 ∧ D 0 ≤ it := (by have q : D 0 = min 8 it := hI.2.2.1 (by decide); omega)
  have hmx : f = 0 → it ≤ 8 := hI.2.2.2.2.1
  rcases (show t_wx 3 T len i = -1 ∨ t_wx 3 T len i = 20 by omega) with hw | hw
  · have hwO : tp_k G mX5_wordOf [tR (some 41), tI 3] μ (fun r μ' => r = some (tI (-1)) ∧ μ' = μ) := by
      have q := s_wO3 hG hT hr.1 ht.2.2.1 ht.1 ht.2.1 (fun z => (t_k_1 h0 h1 z).1) (fun z => (t_k_1 h0 h1 z).2.1)
      rw [t_wx_o, hw] at q
      exact q
    refine tp_ok_of mX5_readLine_ok rfl (Nat.le_refl _) ?_
    refine g_aload_n rfl rfl ?_
    refine g_iload_n rfl rfl ?_
    refine g_cV (as := [tI 3]) (hwO) rfl rfl mX5_wordOf_ok rfl rfl rfl (by decide) rfl rfl rfl ?_
    rintro _ w9 ⟨rfl, hw9⟩ _
    have hw9 := hw9.symm
    subst hw9
    refine g_istore_n rfl rfl rfl ?_
    refine g_iload_n rfl rfl ?_
    refine g_iconst rfl ⟨by decide, by decide⟩ ?_
    refine g_icmp_ne (tgt := 13) rfl (by decide) (fun hx => absurd hx (by omega)) (fun _ => ?_)
    refine g_iconst rfl ⟨by decide, by decide⟩ ?_
    refine x_zreturn rfl rfl (Or.inl rfl) ?_
    rw [t_ln_n hw]
    exact ⟨rfl, fun _ => ht.2.2.1, fun z => absurd (show (0 : Int) = 1 from z) (by decide), o_F_rf⟩
  · exact s_rl20 hG hT h0 h1 hr ht hcR hit hD0 hw hmx
