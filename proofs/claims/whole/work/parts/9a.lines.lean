/-! lines of texts, as mathematics -/
/-- fault, place, items, mode, greatest target, what is told (as the reference has it) -/
abbrev t_S : Type := Int × Int × Int × Int × Int × (Int → Int)
def t_mx (so : Int) : Int := if so = 0 then 40 else if so = 1 then 60 else if so = 2 then 12 else 8
def t_nl : List Int := [0, 1, 1, 1, 0, 0, 0, 1, 1, 1, 1, 1, 1, 1, 1, 1, 0, 0, 1, 1, 2]
def t_lol : List Int := [0, 0, 0, 0, 0, 0, 0, 0, 1, 0, 2, 0, 0, 0, 3, 1, 0, 0, 0, 0, 0]
def t_hil : List Int := [0, 39, 39, 39, 0, 0, 0, 1, 9, 4, 99, 39, 39, 2, 9, 9, 0, 0, 39, 99, 39]
def t_nn (w : Int) : Int := t_nl.getD w.toNat 0
def t_lo (w : Int) : Int := t_lol.getD w.toNat 0
def t_hi (w : Int) : Int := t_hil.getD w.toNat 0
def t_cnt (so w s : Int) (st : t_S) : t_S := if 7 ≤ w ∧ w < 16 then st else if st.1 = 0 ∧ t_mx so ≤ st.2.2.1 then (3, s, st.2.2.1 + 1, st.2.2.2) else (st.1, st.2.1, st.2.2.1 + 1, st.2.2.2)
def t_chk (w v s : Int) (st : t_S) : t_S := if (v < t_lo w ∨ t_hi w < v) ∧ st.1 = 0 then (2, s, st.2.2) else st
def t_cl (w v : Int) : Int := if v < t_lo w ∨ t_hi w < v then t_lo w else v
def t_D (w rd v2 m : Int) (D : Int → Int) : Int → Int :=
  if w < 7 then (if D 0 < 40 then v_u (v_u (v_u (v_u D (9 + D 0) w) (49 + D 0) rd) (89 + D 0) m) 0 (D 0 + 1) else D)
  else if w = 7 then D
  else if w < 16 then v_u D (w - 7) rd
  else if w < 19 then (if D 0 < 60 then v_u (v_u D 0 (D 0 + 1)) (D 0 + 1) rd else D)
  else if w = 19 then v_u (v_u D 0 (D 0 + (if D (1 + rd) = 0 then 1 else 0))) (1 + rd) 1
  else (if D 0 < 8 then v_u (v_u (v_u D (1 + 2 * D 0) rd) (2 + 2 * D 0) v2) 0 (D 0 + 1) else D)
/-- the number that a line tells: of those that tell none -1 (an instruction), 100 (no), 101 (yes) -/
def t_rw (w v1 : Int) : Int := if w = 0 ∨ (4 ≤ w ∧ w ≤ 6) then -1 else if w = 16 then 100 else if w = 17 then 101 else t_cl w v1
def t_tk (w v1 v2 : Int) (st : t_S) : t_S := (st.1, st.2.1, st.2.2.1, (if w = 7 then t_rw w v1 else st.2.2.2.1), (if 1 ≤ w ∧ w ≤ 3 then max st.2.2.2.2.1 (t_rw w v1) else st.2.2.2.2.1), t_D w (t_rw w v1) v2 st.2.2.2.1 st.2.2.2.2.2)
/-- which word a line begins with -/
def t_wx (so : Int) (T : Int → Int) (len i : Int) : Int := if t_k T len i = 1 then t_wi so (t_wv T (t_s T len i) (t_e T len i)) else -1
/-- a line that begins with a word: does it end well; where the next one is, or where it failed; what comes of it -/
def t_l0 (so w : Int) (T : Int → Int) (len i : Int) (st : t_S) : (Int × Int) × t_S :=
  if t_nn w = 0 then (if t_k T len (t_e T len i) = 3 then ((1, t_e T len (t_e T len i)), t_tk w 0 0 (t_cnt so w (t_s T len i) st)) else ((0, t_s T len (t_e T len i)), st))
  else if t_k T len (t_e T len i) ≠ 2 then ((0, t_s T len (t_e T len i)), st)
  else if t_nn w = 1 then (if t_k T len (t_e T len (t_e T len i)) = 3 then ((1, t_e T len (t_e T len (t_e T len i))), t_tk w (t_v T len (t_e T len i)) 0 (t_chk w (t_v T len (t_e T len i)) (t_s T len (t_e T len i)) (t_cnt so w (t_s T len i) st))) else ((0, t_s T len (t_e T len (t_e T len i))), st))
  else if t_k T len (t_e T len (t_e T len i)) ≠ 2 then ((0, t_s T len (t_e T len (t_e T len i))), st)
  else if t_k T len (t_e T len (t_e T len (t_e T len i))) = 3 then ((1, t_e T len (t_e T len (t_e T len (t_e T len i)))), t_tk w (t_v T len (t_e T len i)) (t_v T len (t_e T len (t_e T len i))) (t_chk w (t_v T len (t_e T len i)) (t_s T len (t_e T len i)) (t_cnt so w (t_s T len i) st))) else ((0, t_s T len (t_e T len (t_e T len (t_e T len i)))), st)
def t_ln (so : Int) (T : Int → Int) (len i : Int) (st : t_S) : (Int × Int) × t_S := if t_wx so T len i = -1 then ((0, t_s T len i), st) else t_l0 so (t_wx so T len i) T len i st
theorem t_ln_n {so : Int} {T : Int → Int} {len i : Int} {st : t_S} (h : t_wx so T len i = -1) : t_ln so T len i st = ((0, t_s T len i), st) := if_pos h
theorem t_ln_w {so w : Int} {T : Int → Int} {len i : Int} {st : t_S} (h : t_wx so T len i = w) (hw : w ≠ -1) : t_ln so T len i st = t_l0 so w T len i st := by
  unfold t_ln
  rw [h, if_neg hw]
section
variable {so w : Int} {T : Int → Int} {len i i1 i2 i3 : Int} {st : t_S}
theorem t_l0_0n (hn : t_nn w = 0) (h1 : t_e T len i = i1) (h : t_k T len i1 ≠ 3) : t_l0 so w T len i st = ((0, t_s T len i1), st) := by unfold t_l0; rw [h1, if_pos hn, if_neg h]
theorem t_l0_0y (hn : t_nn w = 0) (h1 : t_e T len i = i1) (h : t_k T len i1 = 3) : t_l0 so w T len i st = ((1, t_e T len i1), t_tk w 0 0 (t_cnt so w (t_s T len i) st)) := by unfold t_l0; rw [h1, if_pos hn, if_pos h]
theorem t_l0_1a (hn : t_nn w ≠ 0) (h1 : t_e T len i = i1) (h : t_k T len i1 ≠ 2) : t_l0 so w T len i st = ((0, t_s T len i1), st) := by unfold t_l0; rw [h1, if_neg hn, if_pos h]
theorem t_l0_1n (hn : t_nn w = 1) (h1 : t_e T len i = i1) (h2 : t_e T len i1 = i2) (h : t_k T len i1 = 2) (h' : t_k T len i2 ≠ 3) : t_l0 so w T len i st = ((0, t_s T len i2), st) := by unfold t_l0; rw [h1, h2, if_neg (by omega), if_neg (by omega), if_pos hn, if_neg h']
theorem t_l0_1y (hn : t_nn w = 1) (h1 : t_e T len i = i1) (h2 : t_e T len i1 = i2) (h : t_k T len i1 = 2) (h' : t_k T len i2 = 3) : t_l0 so w T len i st = ((1, t_e T len i2), t_tk w (t_v T len i1) 0 (t_chk w (t_v T len i1) (t_s T len i1) (t_cnt so w (t_s T len i) st))) := by unfold t_l0; rw [h1, h2, if_neg (by omega), if_neg (by omega), if_pos hn, if_pos h']
theorem t_l0_2a (hn : t_nn w = 2) (h1 : t_e T len i = i1) (h2 : t_e T len i1 = i2) (h : t_k T len i1 = 2) (h' : t_k T len i2 ≠ 2) : t_l0 so w T len i st = ((0, t_s T len i2), st) := by unfold t_l0; rw [h1, h2, if_neg (by omega), if_neg (by omega), if_neg (by omega), if_pos h']
theorem t_l0_2n (hn : t_nn w = 2) (h1 : t_e T len i = i1) (h2 : t_e T len i1 = i2) (h3 : t_e T len i2 = i3) (h : t_k T len i1 = 2) (h' : t_k T len i2 = 2) (h'' : t_k T len i3 ≠ 3) : t_l0 so w T len i st = ((0, t_s T len i3), st) := by unfold t_l0; rw [h1, h2, h3, if_neg (by omega), if_neg (by omega), if_neg (by omega), if_neg (by omega), if_neg h'']
theorem t_l0_2y (hn : t_nn w = 2) (h1 : t_e T len i = i1) (h2 : t_e T len i1 = i2) (h3 : t_e T len i2 = i3) (h : t_k T len i1 = 2) (h' : t_k T len i2 = 2) (h'' : t_k T len i3 = 3) : t_l0 so w T len i st = ((1, t_e T len i3), t_tk w (t_v T len i1) (t_v T len i2) (t_chk w (t_v T len i1) (t_s T len i1) (t_cnt so w (t_s T len i) st))) := by unfold t_l0; rw [h1, h2, h3, if_neg (by omega), if_neg (by omega), if_neg (by omega), if_neg (by omega), if_pos h'']
end
theorem t_cnt_a {so w s f p it : Int} {r : Int × Int × (Int → Int)} (hw : ¬ (7 ≤ w ∧ w < 16)) (h : f = 0 ∧ t_mx so ≤ it) : t_cnt so w s (f, p, it, r) = (3, s, it + 1, r) := by unfold t_cnt; rw [if_neg hw]; exact if_pos h
theorem t_cnt_b {so w s f p it : Int} {r : Int × Int × (Int → Int)} (hw : ¬ (7 ≤ w ∧ w < 16)) (h : ¬ (f = 0 ∧ t_mx so ≤ it)) : t_cnt so w s (f, p, it, r) = (f, p, it + 1, r) := by unfold t_cnt; rw [if_neg hw]; exact if_neg h
theorem t_cnt_c {so w s : Int} {st : t_S} (hw : 7 ≤ w ∧ w < 16) : t_cnt so w s st = st := if_pos hw
theorem t_chk_a {w v s f p : Int} {r : Int × Int × Int × (Int → Int)} (h : (v < t_lo w ∨ t_hi w < v) ∧ f = 0) : t_chk w v s (f, p, r) = (2, s, r) := if_pos h
theorem t_chk_b {w v s f p : Int} {r : Int × Int × Int × (Int → Int)} (h : ¬ ((v < t_lo w ∨ t_hi w < v) ∧ f = 0)) : t_chk w v s (f, p, r) = (f, p, r) := if_neg h
theorem t_cl_i {w v : Int} (h : t_lo w ≤ v ∧ v ≤ t_hi w) : t_cl w v = v := if_neg (by omega)
theorem t_cl_o {w v : Int} (h : v < t_lo w ∨ t_hi w < v) : t_cl w v = t_lo w := if_pos h
/-- what is told is well made -/
def t_W (so : Int) (D : Int → Int) : Prop :=
  if so = 0 then (∀ a, 0 ≤ a → a < D 0 → (0 ≤ D (9 + a) ∧ D (9 + a) ≤ 6) ∧ (D (89 + a) = 0 ∨ D (89 + a) = 1) ∧ ((1 ≤ D (9 + a) ∧ D (9 + a) ≤ 3 → 0 ≤ D (49 + a) ∧ D (49 + a) ≤ 39) ∧ (¬ (1 ≤ D (9 + a) ∧ D (9 + a) ≤ 3) → D (49 + a) = -1))) ∧ ((1 ≤ D 1 ∧ D 1 ≤ 9) ∧ (0 ≤ D 2 ∧ D 2 ≤ 4) ∧ (2 ≤ D 3 ∧ D 3 ≤ 99) ∧ (0 ≤ D 4 ∧ D 4 ≤ 39) ∧ (0 ≤ D 5 ∧ D 5 ≤ 39) ∧ (0 ≤ D 6 ∧ D 6 ≤ 2) ∧ (3 ≤ D 7 ∧ D 7 ≤ 9) ∧ (1 ≤ D 8 ∧ D 8 ≤ 9))
  else if so = 1 then ∀ i, 0 ≤ i → i < D 0 → (0 ≤ D (1 + i) ∧ D (1 + i) ≤ 39) ∨ D (1 + i) = 100 ∨ D (1 + i) = 101
  else if so = 2 then ∀ p, 0 ≤ p → p < 100 → D (1 + p) = 0 ∨ D (1 + p) = 1
  else ∀ i, 0 ≤ i → i < D 0 → (0 ≤ D (1 + 2 * i) ∧ D (1 + 2 * i) ≤ 39) ∧ (0 ≤ D (2 + 2 * i) ∧ D (2 + 2 * i) ≤ 99)
/-- what holds ahead of each line -/
def t_I (so i : Int) (st : t_S) : Prop := (st.1 = 0 ∨ st.1 = 2 ∨ st.1 = 3) ∧ (0 ≤ st.2.2.1 ∧ st.2.2.1 ≤ i) ∧ (so ≠ 2 → st.2.2.2.2.2 0 = min (t_mx so) st.2.2.1) ∧ (so = 2 → 0 ≤ st.2.2.2.2.2 0 ∧ st.2.2.2.2.2 0 ≤ st.2.2.1) ∧ (st.1 = 0 → st.2.2.1 ≤ t_mx so) ∧ (st.2.2.2.1 = 0 ∨ st.2.2.2.1 = 1) ∧ (st.1 ≠ 0 → 0 ≤ st.2.1 ∧ st.2.1 < i) ∧ t_W so st.2.2.2.2.2 ∧ (-1 ≤ st.2.2.2.2.1 ∧ st.2.2.2.2.1 ≤ 39) ∧
  (so = 0 → st.1 = 0 → (∀ a, 0 ≤ a → a < st.2.2.2.2.2 0 → st.2.2.2.2.2 (49 + a) ≤ st.2.2.2.2.1) ∧ (st.2.2.2.2.1 = -1 ∨ ∃ a, 0 ≤ a ∧ a < st.2.2.2.2.2 0 ∧ st.2.2.2.2.2 (49 + a) = st.2.2.2.2.1))
/-- the lines of a text from i on -/
def t_go (so : Int) (T : Int → Int) (len : Int) : Nat → Int → t_S → (Int × Int) × t_S
  | 0, i, st => ((1, i), st)
  | m + 1, i, st => if t_k T len i = 0 then ((1, t_s T len i), st) else if (t_ln so T len i st).1.1 = 0 then ((0, (t_ln so T len i st).1.2), st) else t_go so T len m (t_ln so T len i st).1.2 (t_ln so T len i st).2
