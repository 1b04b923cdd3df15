/-! what a packet tells: the shadow by steps, events, straight steps -/
abbrev s_X : Type := Int × (Int → Int)
def s_psh (a dp : Int) (X : s_X) : s_X := if dp < X.1 + 1 then (X.1, fun j => if j + 1 = X.1 then a else X.2 (j + 1)) else (X.1 + 1, fun j => if j = X.1 then a else X.2 j)
def s_pp (X : s_X) : s_X := if 0 < X.1 then (X.1 - 1, X.2) else X
def s_top (X : s_X) : Int := if 0 < X.1 then X.2 (X.1 - 1) else -1
def s_eq (X X' : s_X) : Prop := X.1 = X'.1 ∧ ∀ i, 0 ≤ i → i < X.1 → X.2 i = X'.2 i
theorem s_eq_rf {X : s_X} : s_eq X X := ⟨rfl, fun _ _ _ => rfl⟩
theorem s_eq_tr {X X' X'' : s_X} (h : s_eq X X') (h' : s_eq X' X'') : s_eq X X'' := ⟨h.1.trans h'.1, fun i i0 i1 => (h.2 i i0 i1).trans (h'.2 i i0 (by rw [← h.1]; exact i1))⟩
theorem s_eq_sy {X X' : s_X} (h : s_eq X X') : s_eq X' X := ⟨h.1.symm, fun i i0 i1 => (h.2 i i0 (by rw [h.1]; exact i1)).symm⟩
theorem s_eq_psh {a dp : Int} {X X' : s_X} (h : s_eq X X') : s_eq (s_psh a dp X) (s_psh a dp X') := by
  unfold s_psh
  rw [← h.1]
  by_cases q : dp < X.1 + 1
  · rw [if_pos q, if_pos q]
    refine ⟨rfl, fun i i0 i1 => ?_⟩
    have i1 : i < X.1 := i1
    show (if i + 1 = X.1 then a else X.2 (i + 1)) = (if i + 1 = X.1 then a else X'.2 (i + 1))
    by_cases z : i + 1 = X.1
    · rw [if_pos z, if_pos z]
    · rw [if_neg z, if_neg z]; exact h.2 (i + 1) (by omega) (by omega)
  · rw [if_neg q, if_neg q]
    refine ⟨rfl, fun i i0 i1 => ?_⟩
    have i1 : i < X.1 + 1 := i1
    show (if i = X.1 then a else X.2 i) = (if i = X.1 then a else X'.2 i)
    by_cases z : i = X.1
    · rw [if_pos z, if_pos z]
    · rw [if_neg z, if_neg z]; exact h.2 i i0 (by omega)
theorem s_eq_pop {X X' : s_X} (h : s_eq X X') : s_eq (s_pp X) (s_pp X') := by
  unfold s_pp
  rw [← h.1]
  by_cases q : 0 < X.1
  · rw [if_pos q, if_pos q]
    exact ⟨rfl, fun i i0 i1 => h.2 i i0 (by have i1 : i < X.1 - 1 := i1; omega)⟩
  · rw [if_neg q, if_neg q]; exact h
theorem s_eq_top {X X' : s_X} (h : s_eq X X') : s_top X = s_top X' := by
  unfold s_top
  rw [← h.1]
  by_cases q : 0 < X.1
  · rw [if_pos q, if_pos q]; exact h.2 _ (by omega) (by omega)
  · rw [if_neg q, if_neg q]
def e_X (σ : tp_M) : s_X := (σ.1 0 10, σ.1 1)
theorem e_X_psh {a dp : Int} {σ : tp_M} : s_eq (e_X (e_psh a dp σ)) (s_psh a dp (e_X σ)) := by
  unfold e_psh s_psh
  by_cases q : dp < σ.1 0 10 + 1
  · rw [if_pos q, if_pos (show dp < (e_X σ).1 + 1 from q)]
    exact ⟨rfl, fun i i0 i1 => rfl⟩
  · rw [if_neg q, if_neg (show ¬ dp < (e_X σ).1 + 1 from q)]
    refine ⟨rfl, fun i i0 i1 => ?_⟩
    show (if 1 = 1 ∧ i = σ.1 0 10 then a else σ.1 1 i) = (if i = σ.1 0 10 then a else σ.1 1 i)
    by_cases z : i = σ.1 0 10
    · rw [if_pos ⟨rfl, z⟩, if_pos z]
    · rw [if_neg (fun t => z t.2), if_neg z]
theorem e_X_pop {σ : tp_M} : e_X (e_pop σ) = s_pp (e_X σ) := by
  unfold e_pop s_pp
  by_cases q : 0 < σ.1 0 10
  · rw [if_pos q, if_pos (show 0 < (e_X σ).1 from q)]; rfl
  · rw [if_neg q, if_neg (show ¬ 0 < (e_X σ).1 from q)]
theorem e_X_top {σ : tp_M} : e_top σ = s_top (e_X σ) := rfl
/-- the shadow behind a step, from that ahead of it -/
def s_stp (f A B : Int → Int) (dp j : Int) (X : s_X) : s_X := if f (9 + A j) = 3 then s_psh (A j + 1) dp X else if f (9 + A j) = 4 ∧ B j ≠ -1 then s_pp X else X
def s_sh (f A B : Int → Int) (dp s : Int) : Nat → s_X
  | 0 => (0, fun _ => 0)
  | t + 1 => s_stp f A B dp (s + t) (s_sh f A B dp s t)
/-- the shadow ahead of step j, with the sync at step s -/
def s_S (f A B : Int → Int) (dp s j : Int) : s_X := s_sh f A B dp s (j - s).toNat
theorem s_S_0 {f A B : Int → Int} {dp s : Int} : s_S f A B dp s s = (0, fun _ => 0) := by
  unfold s_S
  rw [show (s - s).toNat = 0 by omega]
  rfl
theorem s_S_s {f A B : Int → Int} {dp s j : Int} (h : s ≤ j) : s_S f A B dp s (j + 1) = s_stp f A B dp j (s_S f A B dp s j) := by
  unfold s_S
  rw [show (j + 1 - s).toNat = (j - s).toNat + 1 by omega]
  show s_stp f A B dp (s + ((j - s).toNat : Nat)) _ = _
  rw [show s + (((j - s).toNat : Nat) : Int) = j by omega]
theorem s_stp_eq {f A B : Int → Int} {dp j : Int} {X X' : s_X} (h : s_eq X X') : s_eq (s_stp f A B dp j X) (s_stp f A B dp j X') := by
  unfold s_stp
  by_cases q : f (9 + A j) = 3
  · rw [if_pos q, if_pos q]; exact s_eq_psh h
  · rw [if_neg q, if_neg q]
    by_cases z : f (9 + A j) = 4 ∧ B j ≠ -1
    · rw [if_pos z, if_pos z]; exact s_eq_pop h
    · rw [if_neg z, if_neg z]; exact h
/-- a step that a bit of a map tells -/
def s_ev (f A B : Int → Int) (dp s j : Int) : Int := if B j ≠ -1 ∧ (f (9 + A j) = 1 ∨ (f (9 + A j) = 4 ∧ s_top (s_S f A B dp s j) = B j)) then 1 else 0
theorem s_ev_b (f A B : Int → Int) (dp s j : Int) : 0 ≤ s_ev f A B dp s j ∧ s_ev f A B dp s j ≤ 1 := by unfold s_ev; split <;> omega
theorem s_ev_1 {f A B : Int → Int} {dp s j : Int} (h : B j ≠ -1 ∧ (f (9 + A j) = 1 ∨ (f (9 + A j) = 4 ∧ s_top (s_S f A B dp s j) = B j))) : s_ev f A B dp s j = 1 := if_pos h
theorem s_ev_0 {f A B : Int → Int} {dp s j : Int} (h : ¬ (B j ≠ -1 ∧ (f (9 + A j) = 1 ∨ (f (9 + A j) = 4 ∧ s_top (s_S f A B dp s j) = B j)))) : s_ev f A B dp s j = 0 := if_neg h
theorem s_ev_i {f A B : Int → Int} {dp s j : Int} (h : s_ev f A B dp s j = 1) : B j ≠ -1 ∧ (f (9 + A j) = 1 ∨ (f (9 + A j) = 4 ∧ s_top (s_S f A B dp s j) = B j)) := by
  unfold s_ev at h
  by_cases q : B j ≠ -1 ∧ (f (9 + A j) = 1 ∨ (f (9 + A j) = 4 ∧ s_top (s_S f A B dp s j) = B j))
  · exact q
  · rw [if_neg q] at h; omega
/-- a step that no packet has to tell, or the last one -/
def s_st (f A B : Int → Int) (j : Int) : Prop := B j = -1 ∨ f (9 + A j) = 0 ∨ f (9 + A j) = 2 ∨ f (9 + A j) = 3
/-- how many events there are ahead of step k -/
def s_n (f A B : Int → Int) (dp s k : Int) : Int := q_s (s_ev f A B dp s) k
theorem s_n_s {f A B : Int → Int} {dp s k : Int} (h : 0 ≤ k) : s_n f A B dp s (k + 1) = s_n f A B dp s k + s_ev f A B dp s k := q_s1 h
theorem s_n_m {f A B : Int → Int} {dp s j k : Int} (h0 : 0 ≤ j) (h : j ≤ k) : s_n f A B dp s j ≤ s_n f A B dp s k := q_s_mono (fun a => (s_ev_b f A B dp s a).1) h0 h
theorem s_S_ev {f A B : Int → Int} {dp s : Int} {m : Nat} : ∀ n : Nat, (∀ j, (m : Int) ≤ j → j < ((m + n : Nat) : Int) → s_ev f A B dp s j = 0) → q_S (s_ev f A B dp s) (m + n) = q_S (s_ev f A B dp s) m := fun n h => q_S_ext n h
theorem s_n_0 {f A B : Int → Int} {dp s j k : Int} (h0 : 0 ≤ j) (h : j ≤ k) (hz : ∀ i, j ≤ i → i < k → s_ev f A B dp s i = 0) : s_n f A B dp s k = s_n f A B dp s j := q_s_ext h0 h hz
/-- a straight step is no event -/
theorem s_st_ev {f A B : Int → Int} {dp s j : Int} (h : s_st f A B j) : s_ev f A B dp s j = 0 := s_ev_0 (fun z => by
  rcases h with q | q | q | q
  · exact z.1 q
  · rcases z.2 with t | t <;> omega
  · rcases z.2 with t | t <;> omega
  · rcases z.2 with t | t <;> omega)
/-! bits of a map -/
def b_ck (m M y : Nat) : Bool := decide (M < 2 ^ m → (0 ≤ tp_or M (tp_ishl y m) ∧ tp_or M (tp_ishl y m) < 2 ^ (m + 1)) ∧ tp_and (tp_ishr (tp_or M (tp_ishl y m)) m) 1 = y ∧ ∀ r : Fin 9, r.val < m → tp_and (tp_ishr (tp_or M (tp_ishl y m)) (r.val : Int)) 1 = tp_and (tp_ishr M (r.val : Int)) 1)
set_option maxRecDepth 100000 in
theorem b_all : ∀ m : Fin 9, ∀ M : Fin 256, ∀ y : Fin 2, b_ck m.val M.val y.val = true := by decide +kernel
theorem b_or {m M y : Int} (hm : 0 ≤ m ∧ m ≤ 8) (hM : 0 ≤ M ∧ M < 2 ^ m.toNat) (hy : y = 0 ∨ y = 1) : (0 ≤ tp_or M (tp_ishl y m) ∧ tp_or M (tp_ishl y m) < 2 ^ (m + 1).toNat) ∧ tp_and (tp_ishr (tp_or M (tp_ishl y m)) m) 1 = y ∧ ∀ r, 0 ≤ r → r < m → tp_and (tp_ishr (tp_or M (tp_ishl y m)) r) 1 = tp_and (tp_ishr M r) 1 := by
  obtain ⟨m, rfl⟩ : ∃ a : Nat, m = (a : Int) := ⟨m.toNat, by omega⟩
  obtain ⟨M, rfl⟩ : ∃ a : Nat, M = (a : Int) := ⟨M.toNat, by omega⟩
  obtain ⟨y, rfl⟩ : ∃ a : Nat, y = (a : Int) := ⟨y.toNat, by omega⟩
  have h2 : M < 2 ^ m := by
    have := hM.2
    rw [Int.toNat_natCast] at this
    exact_mod_cast this
  have h3 : (2 : Nat) ^ m ≤ 2 ^ 8 := Nat.pow_le_pow_right (by omega) (by omega)
  have e := b_all ⟨m, by omega⟩ ⟨M, by omega⟩ ⟨y, by omega⟩
  have e2 := of_decide_eq_true e h2
  refine ⟨⟨e2.1.1, ?_⟩, e2.2.1, fun r r0 r1 => ?_⟩
  · rw [show ((m : Int) + 1).toNat = m + 1 by omega]
    exact e2.1.2
  · obtain ⟨r, rfl⟩ : ∃ a : Nat, r = (a : Int) := ⟨r.toNat, by omega⟩
    exact e2.2.2 ⟨r, by omega⟩ (by show r < m; omega)
