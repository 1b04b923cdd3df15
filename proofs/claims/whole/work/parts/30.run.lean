/-! a run, as mathematics: f a code (the reference's order), ch where the choices come from -/
/-- address, depth, stack, used, seed -/
abbrev r_C : Type := Int × Int × (Int → Int) × Int × Int
/-- used, seed, for an if: the choice (-1: none), the seed behind it -/
abbrev r_H : Type := Int → Int → Bool → Int × Int
def r_dr (g : Int → Int) : r_H := fun u s b => (if u < g 0 ∧ (100 ≤ g (1 + u) ↔ b = true) then g (1 + u) else -1, s)
def r_sd (s : Int) : Int := tp_w (tp_w (s * 1103515245) + 12345)
def r_dw (n m : Int) : r_H := fun u s b => if u < m then (if b = true then 100 + tp_ushr (r_sd s) 16 % 2 else tp_ushr (r_sd s) 16 % n, r_sd s) else (-1, s)
def r_cv (ch : r_H) (c : r_C) (b : Bool) : Int := (ch c.2.2.2.1 c.2.2.2.2 b).1
def r_cs (ch : r_H) (c : r_C) (b : Bool) : Int := (ch c.2.2.2.1 c.2.2.2.2 b).2
/-- where a step goes to; -1: it ends the run by itself -/
def r_to (f : Int → Int) (ch : r_H) (c : r_C) : Int :=
  if f (9 + c.1) = 0 then c.1 + 1
  else if f (9 + c.1) = 1 then (if r_cv ch c true = -1 then -1 else if r_cv ch c true = 101 then f (49 + c.1) else c.1 + 1)
  else if f (9 + c.1) = 2 then f (49 + c.1)
  else if f (9 + c.1) = 3 then (if c.2.1 = 9 then -1 else f (49 + c.1))
  else if f (9 + c.1) = 4 then (if c.2.1 = 0 then -1 else c.2.2.1 (c.2.1 - 1))
  else if f (9 + c.1) = 5 then r_cv ch c false
  else -1
def r_yes (f : Int → Int) (ch : r_H) (c : r_C) : Int := if f (9 + c.1) = 1 ∧ r_cv ch c true = 101 then 1 else 0
def r_nx (f : Int → Int) (ch : r_H) (c : r_C) : r_C :=
  (r_to f ch c,
   if f (9 + c.1) = 3 ∧ c.2.1 ≠ 9 then c.2.1 + 1 else if f (9 + c.1) = 4 ∧ c.2.1 ≠ 0 then c.2.1 - 1 else c.2.1,
   if f (9 + c.1) = 3 ∧ c.2.1 ≠ 9 then (fun i => if i = c.2.1 then c.1 + 1 else c.2.2.1 i) else c.2.2.1,
   if f (9 + c.1) = 1 ∧ r_cv ch c true ≠ -1 ∨ f (9 + c.1) = 5 ∧ r_cv ch c false ≠ -1 then c.2.2.2.1 + 1 else c.2.2.2.1,
   if f (9 + c.1) = 1 then r_cs ch c true else if f (9 + c.1) = 5 then r_cs ch c false else c.2.2.2.2)
def r_at (f : Int → Int) (ch : r_H) (s0 : Int) : Nat → r_C
  | 0 => (0, 0, fun _ => 0, 0, s0)
  | k + 1 => r_nx f ch (r_at f ch s0 k)
/-- by what it ends at a step that goes nowhere -/
def r_ek (k : Int) : Int := if k = 6 then 1 else if k = 3 ∨ k = 4 then 4 else 2
def r_en (f : Int → Int) (ch : r_H) (c : r_C) (k : Nat) : Int := if r_to f ch c = -1 then r_ek (f (9 + c.1)) else if f 0 ≤ r_to f ch c then 3 else if k = 199 then 5 else 0
/-- there is a step k -/
def r_go (f : Int → Int) (ch : r_H) (s0 : Int) : Nat → Prop
  | 0 => 0 < f 0
  | k + 1 => r_go f ch s0 k ∧ r_en f ch (r_at f ch s0 k) k = 0
def r_dp (f : Int → Int) (ch : r_H) (s0 : Int) : Nat → Int
  | 0 => 0
  | k + 1 => if f (9 + (r_at f ch s0 k).1) = 3 ∧ (r_at f ch s0 k).2.1 ≠ 9 then max (r_dp f ch s0 k) ((r_at f ch s0 k).2.1 + 1) else r_dp f ch s0 k
def r_rt (f : Int → Int) (ch : r_H) (s0 : Int) : Nat → Int
  | 0 => 0
  | k + 1 => if f (9 + (r_at f ch s0 k).1) = 4 ∧ (r_at f ch s0 k).2.1 ≠ 0 then r_rt f ch s0 k + 1 else r_rt f ch s0 k
/-- N steps, no more -/
def r_N (f : Int → Int) (ch : r_H) (s0 : Int) (n : Nat) : Prop := (∀ k, k < n → r_go f ch s0 k) ∧ ¬ r_go f ch s0 n
/-- how a run of n steps ends -/
def r_E (f : Int → Int) (ch : r_H) (s0 : Int) : Nat → Int
  | 0 => 3
  | k + 1 => r_en f ch (r_at f ch s0 k) k
theorem r_N_uniq {f : Int → Int} {ch : r_H} {s0 : Int} {n m : Nat} (h1 : r_N f ch s0 n) (h2 : r_N f ch s0 m) : n = m := by
  rcases Nat.lt_trichotomy n m with h | h | h
  · exact absurd (h2.1 n h) h1.2
  · exact h
  · exact absurd (h1.1 m h) h2.2
/-- a source of choices that gives what is asked for -/
def r_Hok (ch : r_H) : Prop := ∀ u s, ((ch u s true).1 = -1 ∨ (ch u s true).1 = 100 ∨ (ch u s true).1 = 101) ∧ ((ch u s false).1 = -1 ∨ (0 ≤ (ch u s false).1 ∧ (ch u s false).1 ≤ 39)) ∧ ∀ b, tp_r32 s → tp_r32 (ch u s b).2
theorem r_dr_ok {g : Int → Int} (h : tp_Dw g) (u s : Int) (hu : 0 ≤ u) : ((r_dr g u s true).1 = -1 ∨ (r_dr g u s true).1 = 100 ∨ (r_dr g u s true).1 = 101) ∧ ((r_dr g u s false).1 = -1 ∨ (0 ≤ (r_dr g u s false).1 ∧ (r_dr g u s false).1 ≤ 39)) := by
  unfold r_dr
  refine ⟨?_, ?_⟩
  · show (if u < g 0 ∧ (100 ≤ g (1 + u) ↔ true = true) then g (1 + u) else -1) = -1 ∨ _
    by_cases hc : u < g 0 ∧ (100 ≤ g (1 + u) ↔ true = true)
    · have h2 := h.2 u hu hc.1
      have h3 := hc.2.mpr rfl
      simp only [if_pos hc]
      omega
    · exact Or.inl (if_neg hc)
  · show (if u < g 0 ∧ (100 ≤ g (1 + u) ↔ false = true) then g (1 + u) else -1) = -1 ∨ _
    by_cases hc : u < g 0 ∧ (100 ≤ g (1 + u) ↔ false = true)
    · have h2 := h.2 u hu hc.1
      have h3 : ¬ 100 ≤ g (1 + u) := fun q => by cases hc.2.mp q
      simp only [if_pos hc]
      omega
    · exact Or.inl (if_neg hc)
/-- what holds of every step that there is -/
def r_ok (f : Int → Int) (c : r_C) : Prop := (0 ≤ c.1 ∧ c.1 < f 0) ∧ (0 ≤ c.2.1 ∧ c.2.1 ≤ 9) ∧ (∀ i, 0 ≤ i → i < c.2.1 → 1 ≤ c.2.2.1 i ∧ c.2.2.1 i ≤ f 0) ∧ 0 ≤ c.2.2.2.1
theorem r_nx_ok {f : Int → Int} {ch : r_H} {c : r_C} {k : Nat} (hw : tp_Cw f) (h : r_ok f c) (hch : (r_cv ch c false = -1 ∨ (0 ≤ r_cv ch c false ∧ r_cv ch c false ≤ 39))) (he : r_en f ch c k = 0) : r_ok f (r_nx f ch c) := by
  obtain ⟨⟨h1, h2⟩, ⟨h3, h4⟩, h5, h6⟩ := h
  obtain ⟨⟨w1, w2⟩, w3⟩ := hw.2.1 c.1 h1 h2
  unfold r_en at he
  have hto : r_to f ch c ≠ -1 := fun q => by
    rw [if_pos q] at he
    unfold r_ek at he
    split at he
    · omega
    · split at he <;> omega
  rw [if_neg hto] at he
  have hlt : r_to f ch c < f 0 := by
    by_cases hq : f 0 ≤ r_to f ch c
    · rw [if_pos hq] at he; omega
    · omega
  have hge : 0 ≤ r_to f ch c := by
    unfold r_to at hto ⊢
    split
    · omega
    · rename_i k0
      rw [if_neg k0] at hto
      split
      · rename_i k1
        rw [if_pos k1] at hto
        split
        · rename_i q; rw [if_pos q] at hto; exact absurd rfl hto
        · split
          · exact (w3.2.1 (by omega)).1
          · omega
      · rename_i k1
        rw [if_neg k1] at hto
        split
        · exact (w3.2.1 (by omega)).1
        · rename_i k2
          rw [if_neg k2] at hto
          split
          · rename_i k3
            rw [if_pos k3] at hto
            split
            · rename_i q; rw [if_pos q] at hto; exact absurd rfl hto
            · exact (w3.2.1 (by omega)).1
          · rename_i k3
            rw [if_neg k3] at hto
            split
            · rename_i k4
              rw [if_pos k4] at hto
              split
              · rename_i q; rw [if_pos q] at hto; exact absurd rfl hto
              · have := (h5 (c.2.1 - 1) (by omega) (by omega)).1
                omega
            · rename_i k4
              rw [if_neg k4] at hto
              split
              · rename_i k5
                rw [if_pos k5] at hto
                omega
              · rename_i k5
                rw [if_neg k5] at hto
                exact absurd rfl hto
  refine ⟨⟨hge, hlt⟩, ?_, ?_, ?_⟩
  · show 0 ≤ (if f (9 + c.1) = 3 ∧ c.2.1 ≠ 9 then c.2.1 + 1 else if f (9 + c.1) = 4 ∧ c.2.1 ≠ 0 then c.2.1 - 1 else c.2.1) ∧ (if f (9 + c.1) = 3 ∧ c.2.1 ≠ 9 then c.2.1 + 1 else if f (9 + c.1) = 4 ∧ c.2.1 ≠ 0 then c.2.1 - 1 else c.2.1) ≤ 9
    split
    · omega
    · split <;> omega
  · show ∀ i, 0 ≤ i → i < (if f (9 + c.1) = 3 ∧ c.2.1 ≠ 9 then c.2.1 + 1 else if f (9 + c.1) = 4 ∧ c.2.1 ≠ 0 then c.2.1 - 1 else c.2.1) → 1 ≤ (if f (9 + c.1) = 3 ∧ c.2.1 ≠ 9 then (fun i => if i = c.2.1 then c.1 + 1 else c.2.2.1 i) else c.2.2.1) i ∧ (if f (9 + c.1) = 3 ∧ c.2.1 ≠ 9 then (fun i => if i = c.2.1 then c.1 + 1 else c.2.2.1 i) else c.2.2.1) i ≤ f 0
    intro i g1 g2
    by_cases hc : f (9 + c.1) = 3 ∧ c.2.1 ≠ 9
    · rw [if_pos hc] at g2 ⊢
      show 1 ≤ (if i = c.2.1 then c.1 + 1 else c.2.2.1 i) ∧ (if i = c.2.1 then c.1 + 1 else c.2.2.1 i) ≤ f 0
      by_cases hi : i = c.2.1
      · rw [if_pos hi]; omega
      · rw [if_neg hi]; exact h5 i g1 (by omega)
    · rw [if_neg hc] at g2 ⊢
      refine h5 i g1 ?_
      split at g2 <;> omega
  · show 0 ≤ (if f (9 + c.1) = 1 ∧ r_cv ch c true ≠ -1 ∨ f (9 + c.1) = 5 ∧ r_cv ch c false ≠ -1 then c.2.2.2.1 + 1 else c.2.2.2.1)
    split <;> omega
/-- sources of choices as the drives and the drawing give them: right wherever used is not negative -/
def r_src (ch : r_H) : Prop := ∀ u s, 0 ≤ u → ((ch u s true).1 = -1 ∨ (ch u s true).1 = 100 ∨ (ch u s true).1 = 101) ∧ ((ch u s false).1 = -1 ∨ (0 ≤ (ch u s false).1 ∧ (ch u s false).1 ≤ 39))
theorem r_src_dr {g : Int → Int} (h : tp_Dw g) : r_src (r_dr g) := fun u s hu => r_dr_ok h u s hu
theorem r_all_ok {f : Int → Int} {ch : r_H} {s0 : Int} (hw : tp_Cw f) (hs : r_src ch) : ∀ k, r_go f ch s0 k → r_ok f (r_at f ch s0 k) := by
  intro k
  induction k with
  | zero => intro h; exact ⟨⟨Int.le_refl 0, h⟩, ⟨Int.le_refl 0, (show (0 : Int) ≤ 9 by decide)⟩, fun i g1 g2 => absurd g2 (by show ¬ i < 0; omega), Int.le_refl 0⟩
  | succ k ih =>
    intro h
    have h1 := ih h.1
    exact r_nx_ok hw h1 ((hs _ _ h1.2.2.2).2) h.2
