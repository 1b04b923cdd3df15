/-! values and memory of the small machine: numbers are integers in range, references are numbers of cells (5000 and on: what was there before the law began) -/
abbrev tp_V : Type := Int ⊕ Int ⊕ Option Nat
abbrev tI (a : Int) : tp_V := Sum.inl a
abbrev tL (a : Int) : tp_V := Sum.inr (Sum.inl a)
abbrev tR (r : Option Nat) : tp_V := Sum.inr (Sum.inr r)
abbrev tp_M : Type := (Nat → Int → Int) × (Nat → Int → Option Nat)
/-- the launch; the first cell's address; the addresses of what was there; classes and slots; array classes; are the constructors through; the script -/
abbrev tp_G : Type := Launch × Nat × (Nat → Nat) × va_G × (FieldType → ClassId) × Bool × Nat × (Nat → Int)
abbrev tp_Gl (G : tp_G) : Launch := G.1
abbrev tp_Gb (G : tp_G) : Nat := G.2.1
abbrev tp_Gs (G : tp_G) : Nat → Nat := G.2.2.1
abbrev tp_GD (G : tp_G) : va_G := G.2.2.2.1
abbrev tp_Ga (G : tp_G) : FieldType → ClassId := G.2.2.2.2.1
abbrev tp_Gf (G : tp_G) : Bool := G.2.2.2.2.2.1
abbrev tp_GL (G : tp_G) : Nat := G.2.2.2.2.2.2.1
abbrev tp_Gx (G : tp_G) : Nat → Int := G.2.2.2.2.2.2.2
def tp_r32 (a : Int) : Prop := -2147483648 ≤ a ∧ a < 2147483648
def tp_r64 (a : Int) : Prop := -9223372036854775808 ≤ a ∧ a < 9223372036854775808
def tp_fit (v : tp_V) : Prop := match v with
  | .inl a => tp_r32 a
  | .inr (.inl a) => tp_r64 a
  | .inr (.inr _) => True
def tp_ad (G : tp_G) (k : Nat) : Nat := if k < 5000 then tp_Gb G + k else tp_Gs G (k - 5000)
def tp_v (G : tp_G) (v : tp_V) : Value := match v with
  | .inl a => .int (Int32.ofInt a)
  | .inr (.inl a) => .long (Int64.ofInt a)
  | .inr (.inr r) => va_rf (r.map (tp_ad G))
/-- 32 and 64 bits -/
def tp_w (a : Int) : Int := (Int32.ofInt a).toInt
def tp_W (a : Int) : Int := (Int64.ofInt a).toInt
theorem tp_w_id {a : Int} (h : tp_r32 a) : tp_w a = a := Int32.toInt_ofInt_of_le (by have := h.1; omega) (by have := h.2; omega)
theorem tp_W_id {a : Int} (h : tp_r64 a) : tp_W a = a := Int64.toInt_ofInt_of_le (by have := h.1; omega) (by have := h.2; omega)
theorem tp_w_r (x : Int32) : tp_r32 x.toInt := ⟨by have := Int32.le_toInt x; omega, by have := Int32.toInt_lt x; omega⟩
theorem tp_W_r (x : Int64) : tp_r64 x.toInt := ⟨by have := Int64.le_toInt x; omega, by have := Int64.toInt_lt x; omega⟩
theorem tp_w_o (a : Int) : Int32.ofInt (tp_w a) = Int32.ofInt a := Int32.ofInt_toInt _
theorem tp_W_o (a : Int) : Int64.ofInt (tp_W a) = Int64.ofInt a := Int64.ofInt_toInt _
theorem tp_t {a : Int} (h : tp_r32 a) : (Int32.ofInt a).toInt = a := tp_w_id h
theorem tp_T64 {a : Int} (h : tp_r64 a) : (Int64.ofInt a).toInt = a := tp_W_id h
theorem tp_lt {a b : Int} (ha : tp_r32 a) (hb : tp_r32 b) : Int32.ofInt a < Int32.ofInt b ↔ a < b := by rw [Int32.lt_iff_toInt_lt, tp_t ha, tp_t hb]
theorem tp_le {a b : Int} (ha : tp_r32 a) (hb : tp_r32 b) : Int32.ofInt a ≤ Int32.ofInt b ↔ a ≤ b := by rw [Int32.le_iff_toInt_le, tp_t ha, tp_t hb]
theorem tp_eq {a b : Int} (ha : tp_r32 a) (hb : tp_r32 b) : Int32.ofInt a = Int32.ofInt b ↔ a = b := by rw [← Int32.toInt_inj, tp_t ha, tp_t hb]
theorem tp_r0 : tp_r32 0 := ⟨by decide, by decide⟩
theorem tp_o0 : Int32.ofInt 0 = 0 := rfl
/-- the kinds of numbers that a slot holds -/
def tp_rng (ty : FieldType) (a : Int) : Prop := match ty with
  | .boolean => 0 ≤ a ∧ a ≤ 1
  | .byte => -128 ≤ a ∧ a ≤ 127
  | .long => tp_r64 a
  | _ => tp_r32 a
def tp_sty (k : Nat) (j : Int) : FieldType := match tp_SH k with
  | .inl ci => tp_ty ci j.toNat
  | .inr q => q.1
def tp_mok (μ : tp_M) : Prop := ∀ (k : Nat) (j : Int), tp_rng (tp_sty k j) (μ.1 k j)
def tp_pi (μ : tp_M) (k : Nat) (j v : Int) : tp_M := (fun k' j' => if k' = k ∧ j' = j then v else μ.1 k' j', μ.2)
def tp_pr (μ : tp_M) (k : Nat) (j : Int) (r : Option Nat) : tp_M := (μ.1, fun k' j' => if k' = k ∧ j' = j then r else μ.2 k' j')
def tp_rd (G : tp_G) (μ : tp_M) (k : Nat) (j : Int) : Option Nat := bif tp_Gf G then (match tp_RF k j with
  | some r => some r
  | none => μ.2 k j) else μ.2 k j
theorem tp_mok_pi {μ : tp_M} {k : Nat} {j v : Int} (h : tp_mok μ) (hv : tp_rng (tp_sty k j) v) : tp_mok (tp_pi μ k j v) := by
  intro k' j'
  show tp_rng (tp_sty k' j') (if k' = k ∧ j' = j then v else μ.1 k' j')
  by_cases hc : k' = k ∧ j' = j
  · rw [if_pos hc, hc.1, hc.2]
    exact hv
  · rw [if_neg hc]
    exact h k' j'
theorem tp_mok_pr {μ : tp_M} {k : Nat} {j : Int} {r : Option Nat} (h : tp_mok μ) : tp_mok (tp_pr μ k j r) := h
/-! the picture of the memory as the kit's list of cells -/
def tp_fv (G : tp_G) (μ : tp_M) (k j : Nat) (ty : FieldType) : Value := match ty with
  | .long => .long (Int64.ofInt (μ.1 k (j : Int)))
  | .object _ => va_rf ((tp_rd G μ k (j : Int)).map (tp_ad G))
  | .array _ => va_rf ((tp_rd G μ k (j : Int)).map (tp_ad G))
  | _ => .int (Int32.ofInt (μ.1 k (j : Int)))
def tp_fl (G : tp_G) (μ : tp_M) (k ci : Nat) : List Value := (List.range (tp_cn ci)).map (fun j => tp_fv G μ k j (tp_ty ci j))
def tp_ac (G : tp_G) (μ : tp_M) (k : Nat) (ty : FieldType) : (Nat → Int32) ⊕ (Nat → Int64) ⊕ (Nat → UInt32) ⊕ (Nat → UInt64) ⊕ (Nat → Option Nat) := match ty with
  | .long => .inr (.inl (fun j => Int64.ofInt (μ.1 k (j : Int))))
  | .object _ => .inr (.inr (.inr (.inr (fun j => (tp_rd G μ k (j : Int)).map (tp_ad G)))))
  | _ => .inl (fun j => Int32.ofInt (μ.1 k (j : Int)))
def tp_e (G : tp_G) (μ : tp_M) (k : Nat) : va_E := match tp_SH k with
  | .inl ci => .inr (ci, tp_fl G μ k ci)
  | .inr q => .inl (tp_Ga G q.1, q.2, tp_ac G μ k q.1)
def tp_ws (G : tp_G) (μ : tp_M) (n : Nat) : va_W := (List.range n).map (fun k => (tp_Gb G + k, tp_e G μ k))
def tp_A (G : tp_G) : Nat → Prop := fun q => tp_Gb G ≤ q
def tp_rep (G : tp_G) (μ : tp_M) (n : Nat) (H : Heap) : Prop := n ≤ 5000 ∧ va_P (tp_GD G) tp_cl (tp_ws G μ n) H
theorem tp_ws_at {G : tp_G} {μ : tp_M} {n k : Nat} (h : k < n) : (tp_ws G μ n)[k]? = some (tp_Gb G + k, tp_e G μ k) := by simp [tp_ws, h]
theorem tp_ws_obj {G : tp_G} {μ : tp_M} {n k ci : Nat} (h : k < n) (hc : tp_SH k = .inl ci) : (tp_ws G μ n)[k]? = some (tp_Gb G + k, .inr (ci, tp_fl G μ k ci)) := by
  rw [tp_ws_at h]; simp only [tp_e, hc]
theorem tp_ws_arr {G : tp_G} {μ : tp_M} {n k len : Nat} {ty : FieldType} (h : k < n) (hc : tp_SH k = .inr (ty, len)) : (tp_ws G μ n)[k]? = some (tp_Gb G + k, .inl (tp_Ga G ty, len, tp_ac G μ k ty)) := by
  rw [tp_ws_at h]; simp only [tp_e, hc]
theorem tp_fl_at {G : tp_G} {μ : tp_M} {k ci j : Nat} (h : j < tp_cn ci) : (tp_fl G μ k ci)[j]? = some (tp_fv G μ k j (tp_ty ci j)) := by simp [tp_fl, h]
theorem tp_map_set {α : Type} (n j : Nat) (f g : Nat → α) (hj : j < n) (h : ∀ i, i ≠ j → g i = f i) : ((List.range n).map f).set j (g j) = (List.range n).map g := by
  apply List.ext_getElem?
  intro i
  rw [List.getElem?_set]
  by_cases hi : j = i
  · subst hi
    simp [hj]
  · rw [if_neg hi]
    by_cases hl : i < n
    · simp [hl, h i (Ne.symm hi)]
    · simp [hl]
theorem tp_ws_set {G : tp_G} {μ μ' : tp_M} {n k : Nat} (hk : k < n) (h : ∀ i, i ≠ k → tp_e G μ' i = tp_e G μ i) : (tp_ws G μ n).set k (tp_Gb G + k, tp_e G μ' k) = tp_ws G μ' n :=
  tp_map_set n k (fun i => (tp_Gb G + i, tp_e G μ i)) (fun i => (tp_Gb G + i, tp_e G μ' i)) hk (fun i hi => by rw [h i hi])
theorem tp_e_congr {G : tp_G} {μ μ' : tp_M} {k : Nat} (h1 : ∀ j, μ'.1 k j = μ.1 k j) (h2 : ∀ j, μ'.2 k j = μ.2 k j) : tp_e G μ' k = tp_e G μ k := by
  simp only [tp_e, tp_fl, tp_fv, tp_ac, tp_rd, h1, h2]
theorem tp_e_pi {G : tp_G} {μ : tp_M} {k : Nat} {j v : Int} : ∀ i, i ≠ k → tp_e G (tp_pi μ k j v) i = tp_e G μ i := fun i hi =>
  tp_e_congr (fun j' => if_neg (fun q => hi q.1)) (fun _ => rfl)
theorem tp_e_pr {G : tp_G} {μ : tp_M} {k : Nat} {j : Int} {r : Option Nat} : ∀ i, i ≠ k → tp_e G (tp_pr μ k j r) i = tp_e G μ i := fun i hi =>
  tp_e_congr (fun _ => rfl) (fun j' => if_neg (fun q => hi q.1))
theorem tp_wsD {G : tp_G} {μ : tp_M} {n : Nat} : va_D (tp_A G) (tp_ws G μ n) := by
  refine ⟨fun i j p q hp hq he => ?_, fun k q hq => ?_⟩
  · have hi : i < n := by have := (List.getElem?_eq_some_iff.mp hp).1; simpa [tp_ws] using this
    have hj : j < n := by have := (List.getElem?_eq_some_iff.mp hq).1; simpa [tp_ws] using this
    rw [tp_ws_at hi] at hp
    rw [tp_ws_at hj] at hq
    cases hp
    cases hq
    simp only at he
    omega
  · have hk : k < n := by have := (List.getElem?_eq_some_iff.mp hq).1; simpa [tp_ws] using this
    rw [tp_ws_at hk] at hq
    cases hq
    exact Nat.le_add_right _ _
theorem tp_ref {G : tp_G} {k n : Nat} (h : k < n) (hn : n ≤ 5000) : tp_v G (tR (some k)) = .ref (tp_Gb G + k) := by
  show Value.ref (tp_ad G k) = _
  rw [tp_ad, if_pos (by omega)]
theorem tp_null {G : tp_G} : tp_v G (tR none) = .null := rfl
/-- objects: what a slot is by its type -/
theorem tp_fv_int {G : tp_G} {μ : tp_M} {k j : Nat} {ty : FieldType} (h : ty = .int ∨ ty = .boolean ∨ ty = .byte) : tp_fv G μ k j ty = tp_v G (tI (μ.1 k (j : Int))) := by
  rcases h with rfl | rfl | rfl <;> rfl
theorem tp_fv_long {G : tp_G} {μ : tp_M} {k j : Nat} : tp_fv G μ k j .long = tp_v G (tL (μ.1 k (j : Int))) := rfl
theorem tp_fv_ref {G : tp_G} {μ : tp_M} {k j : Nat} {ty : FieldType} (h : (∃ c, ty = .object c) ∨ ∃ t, ty = .array t) : tp_fv G μ k j ty = tp_v G (tR (tp_rd G μ k (j : Int))) := by
  rcases h with ⟨c, rfl⟩ | ⟨t, rfl⟩ <;> rfl
theorem tp_ij {i j : Nat} (h : i ≠ j) : ¬ ((i : Int) = (j : Int)) := fun q => h (by omega)
theorem tp_e_obj {G : tp_G} {μ : tp_M} {k ci : Nat} (hc : tp_SH k = .inl ci) : tp_e G μ k = .inr (ci, tp_fl G μ k ci) := by simp only [tp_e, hc]
theorem tp_e_arr {G : tp_G} {μ : tp_M} {k len : Nat} {ty : FieldType} (hc : tp_SH k = .inr (ty, len)) : tp_e G μ k = .inl (tp_Ga G ty, len, tp_ac G μ k ty) := by simp only [tp_e, hc]
/-- a field that is put -/
theorem tp_put_obj {G : tp_G} {μ μ' : tp_M} {n k ci j : Nat} (hk : k < n) (hc : tp_SH k = .inl ci) (hj : j < tp_cn ci) (h1 : ∀ i, i ≠ k → tp_e G μ' i = tp_e G μ i) (h2 : ∀ i, i ≠ j → tp_fv G μ' k i (tp_ty ci i) = tp_fv G μ k i (tp_ty ci i)) {v : Value} (hv : tp_fv G μ' k j (tp_ty ci j) = v) :
    (tp_ws G μ n).set k (tp_Gb G + k, .inr (ci, (tp_fl G μ k ci).set j v)) = tp_ws G μ' n := by
  have e1 : (tp_fl G μ k ci).set j v = tp_fl G μ' k ci := by
    rw [← hv]
    exact tp_map_set (tp_cn ci) j (fun i => tp_fv G μ k i (tp_ty ci i)) (fun i => tp_fv G μ' k i (tp_ty ci i)) hj h2
  rw [e1, ← tp_e_obj hc]
  exact tp_ws_set hk h1
theorem tp_put_arr {G : tp_G} {μ μ' : tp_M} {n k len : Nat} {ty : FieldType} (hk : k < n) (hc : tp_SH k = .inr (ty, len)) (h1 : ∀ i, i ≠ k → tp_e G μ' i = tp_e G μ i) {z : (Nat → Int32) ⊕ (Nat → Int64) ⊕ (Nat → UInt32) ⊕ (Nat → UInt64) ⊕ (Nat → Option Nat)} (hz : tp_ac G μ' k ty = z) :
    (tp_ws G μ n).set k (tp_Gb G + k, .inl (tp_Ga G ty, len, z)) = tp_ws G μ' n := by
  rw [← hz, ← tp_e_arr hc]
  exact tp_ws_set hk h1
theorem tp_fv_pi {G : tp_G} {μ : tp_M} {k j i : Nat} {v : Int} {ty : FieldType} (h : i ≠ j) : tp_fv G (tp_pi μ k (j : Int) v) k i ty = tp_fv G μ k i ty := by
  have e : (tp_pi μ k (j : Int) v).1 k (i : Int) = μ.1 k (i : Int) := if_neg (fun q => tp_ij h q.2)
  cases ty <;> simp only [tp_fv, e] <;> rfl
theorem tp_fv_pr {G : tp_G} {μ : tp_M} {k j i : Nat} {r : Option Nat} {ty : FieldType} (h : i ≠ j) : tp_fv G (tp_pr μ k (j : Int) r) k i ty = tp_fv G μ k i ty := by
  have e : (tp_pr μ k (j : Int) r).2 k (i : Int) = μ.2 k (i : Int) := if_neg (fun q => tp_ij h q.2)
  have e1 : (tp_pr μ k (j : Int) r).1 = μ.1 := rfl
  cases ty <;> simp only [tp_fv, tp_rd, e, e1]
theorem tp_pi_at {μ : tp_M} {k : Nat} {j v : Int} : (tp_pi μ k j v).1 k j = v := if_pos ⟨rfl, rfl⟩
theorem tp_pr_at {μ : tp_M} {k : Nat} {j : Int} {r : Option Nat} : (tp_pr μ k j r).2 k j = r := if_pos ⟨rfl, rfl⟩
