/-! longs as sets -/
def q_bt (L : Int) (a : Int) : Bool := (Int64.ofInt L).toBitVec.getLsbD a.toNat
theorem q_bt_or (x y a : Int) : q_bt (tp_Lor x y) a = (q_bt x a || q_bt y a) := by
  unfold q_bt tp_Lor
  rw [Int64.ofInt_toInt, Int64.toBitVec_or, BitVec.getLsbD_or]
theorem q_bt_and (x y a : Int) : q_bt (tp_Land x y) a = (q_bt x a && q_bt y a) := by
  unfold q_bt tp_Land
  rw [Int64.ofInt_toInt, Int64.toBitVec_and, BitVec.getLsbD_and]
theorem q_bt_xor (x y a : Int) : q_bt (tp_Lxor x y) a = (q_bt x a ^^ q_bt y a) := by
  unfold q_bt tp_Lxor
  rw [Int64.ofInt_toInt, Int64.toBitVec_xor, BitVec.getLsbD_xor]
theorem q_bt_0 (a : Int) : q_bt 0 a = false := by
  unfold q_bt
  rw [show (Int64.ofInt 0).toBitVec = 0#64 from rfl]
  exact BitVec.getLsbD_zero
theorem q_bt_m1 {a : Int} (h0 : 0 ≤ a) (h : a < 64) : q_bt (-1) a = true := by
  unfold q_bt
  rw [show (Int64.ofInt (-1)).toBitVec = BitVec.allOnes 64 by decide]
  rw [BitVec.getLsbD_allOnes]
  simp
  omega
theorem q_bt_sh0 : ∀ b : Fin 40, ∀ a : Fin 64, q_bt (tp_Lshl 1 (b.val : Int)) (a.val : Int) = decide (a.val = b.val) := by decide +kernel
theorem q_bt_hi {x a : Int} (h : 64 ≤ a) : q_bt x a = false := by
  unfold q_bt
  exact BitVec.getLsbD_of_ge _ _ (by omega)
theorem q_bt_sh {b a : Int} (b0 : 0 ≤ b) (b1 : b < 40) (a0 : 0 ≤ a) : q_bt (tp_Lshl 1 b) a = decide (a = b) := by
  by_cases h : a < 64
  · obtain ⟨i, rfl⟩ : ∃ i : Nat, b = (i : Int) := ⟨b.toNat, by omega⟩
    obtain ⟨j, rfl⟩ : ∃ j : Nat, a = (j : Int) := ⟨a.toNat, by omega⟩
    have e := q_bt_sh0 ⟨i, by omega⟩ ⟨j, by omega⟩
    simp only at e
    rw [e]
    by_cases q : j = i
    · rw [decide_eq_true q, decide_eq_true (by omega)]
    · rw [decide_eq_false q, decide_eq_false (by omega)]
  · rw [q_bt_hi (by omega), decide_eq_false (by omega)]
theorem q_bt_ext {x y : Int} (hx : tp_r64 x) (hy : tp_r64 y) (h : ∀ a, 0 ≤ a → a < 64 → q_bt x a = q_bt y a) : x = y := by
  have e : (Int64.ofInt x).toBitVec = (Int64.ofInt y).toBitVec := BitVec.eq_of_getLsbD_eq (fun i hi => h (i : Int) (by omega) (by omega))
  have e2 : Int64.ofInt x = Int64.ofInt y := Int64.toBitVec_inj.mp e
  have e3 := congrArg Int64.toInt e2
  rw [tp_T64 hx, tp_T64 hy] at e3
  exact e3
theorem tp_Land_r (x y : Int) : tp_r64 (tp_Land x y) := tp_W_r _
theorem tp_Lor_r (x y : Int) : tp_r64 (tp_Lor x y) := tp_W_r _
theorem tp_Lxor_r (x y : Int) : tp_r64 (tp_Lxor x y) := tp_W_r _
theorem tp_Lshl_r (x y : Int) : tp_r64 (tp_Lshl x y) := tp_W_r _
theorem q_r0 : tp_r64 0 := ⟨by decide, by decide⟩
/-- is a member -/
theorem q_bt_mem {L b : Int} (b0 : 0 ≤ b) (b1 : b < 40) : tp_Land L (tp_Lshl 1 b) = 0 ↔ q_bt L b = false := by
  constructor
  · intro h
    have e := q_bt_and L (tp_Lshl 1 b) b
    rw [h, q_bt_0, q_bt_sh b0 b1 b0, decide_eq_true rfl, Bool.and_true] at e
    exact e.symm
  · intro h
    refine q_bt_ext (tp_Land_r _ _) q_r0 (fun a a0 a1 => ?_)
    rw [q_bt_and, q_bt_0, q_bt_sh b0 b1 a0]
    by_cases q : a = b
    · rw [q, h]; rfl
    · rw [decide_eq_false q, Bool.and_false]
theorem q_lc_mem {L b : Int} (b0 : 0 ≤ b) (b1 : b < 40) : tp_lcmp (tp_Land L (tp_Lshl 1 b)) 0 = 0 ↔ q_bt L b = false := by
  rw [← q_bt_mem b0 b1]
  unfold tp_lcmp
  split
  · omega
  · split <;> omega
theorem q_lc_eq {x y : Int} : tp_lcmp x y = 0 ↔ x = y := by
  unfold tp_lcmp
  split
  · omega
  · split <;> omega
/-- a set has no members above 39 -/
def q_st (L : Int) : Prop := tp_r64 L ∧ ∀ a, 40 ≤ a → q_bt L a = false
theorem q_st_0 : q_st 0 := ⟨q_r0, fun a _ => q_bt_0 a⟩
theorem q_st_or {x y : Int} (hx : q_st x) (hy : q_st y) : q_st (tp_Lor x y) := ⟨tp_Lor_r _ _, fun a h => by rw [q_bt_or, hx.2 a h, hy.2 a h]; rfl⟩
theorem q_st_and {x y : Int} (hx : q_st x) : q_st (tp_Land x y) := ⟨tp_Land_r _ _, fun a h => by rw [q_bt_and, hx.2 a h]; rfl⟩
theorem q_st_sh {b : Int} (b0 : 0 ≤ b) (b1 : b < 40) : q_st (tp_Lshl 1 b) := ⟨tp_Lshl_r _ _, fun a h => by rw [q_bt_sh b0 b1 (by omega)]; exact decide_eq_false (by omega)⟩
theorem q_st_lt {x : Int} (h : q_st x) : 0 ≤ x ∧ x < 1099511627776 := by
  have hb : (Int64.ofInt x).toBitVec.toNat < 2 ^ 40 := by
    refine Nat.lt_pow_two_of_testBit _ (fun i hi => ?_)
    have := h.2 (i : Int) (by omega)
    unfold q_bt at this
    rw [← BitVec.testBit_toNat] at this
    exact this
  have e : x = (Int64.ofInt x).toInt := (tp_T64 h.1).symm
  have e2 : (Int64.ofInt x).toInt = (Int64.ofInt x).toBitVec.toInt := rfl
  rw [e, e2, BitVec.toInt_eq_toNat_of_lt (by omega)]
  omega
/-! how many members: the JDK's way -/
def q_by (b : Nat) : Nat := b % 2 + b / 2 % 2 + b / 4 % 2 + b / 8 % 2 + b / 16 % 2 + b / 32 % 2 + b / 64 % 2 + b / 128 % 2
def q_mk (m : Nat) : Nat → Nat
  | 0 => 0
  | k + 1 => m + 256 * q_mk m k
def q_c1 (k x : Nat) : Nat := x - ((x / 2) &&& q_mk 0x55 k)
def q_c2 (k x : Nat) : Nat := (q_c1 k x &&& q_mk 0x33 k) + ((q_c1 k x / 4) &&& q_mk 0x33 k)
def q_c3 (k x : Nat) : Nat := (q_c2 k x + q_c2 k x / 16) &&& q_mk 0x0f k
def q_pb : Nat → Nat → Nat
  | 0, _ => 0
  | k + 1, x => q_by (x % 256) + 256 * q_pb k (x / 256)
theorem q_land (u v m M : Nat) (hu : u < 256) (hm : m < 256) : (u + 256 * v) &&& (m + 256 * M) = (u &&& m) + 256 * (v &&& M) := by
  have h1 : ((u + 256 * v) &&& (m + 256 * M)) % 2 ^ 8 = ((u + 256 * v) % 2 ^ 8) &&& ((m + 256 * M) % 2 ^ 8) := Nat.and_mod_two_pow
  have h2 : ((u + 256 * v) &&& (m + 256 * M)) / 2 ^ 8 = ((u + 256 * v) / 2 ^ 8) &&& ((m + 256 * M) / 2 ^ 8) := Nat.and_div_two_pow
  have e1 : (u + 256 * v) % 2 ^ 8 = u := by omega
  have e2 : (m + 256 * M) % 2 ^ 8 = m := by omega
  have e3 : (u + 256 * v) / 2 ^ 8 = v := by omega
  have e4 : (m + 256 * M) / 2 ^ 8 = M := by omega
  rw [e1, e2] at h1
  rw [e3, e4] at h2
  have := Nat.div_add_mod ((u + 256 * v) &&& (m + 256 * M)) (2 ^ 8)
  omega
def q_y (b : Nat) : Nat := b - ((b / 2) &&& 0x55)
def q_z (b : Nat) : Nat := (q_y b &&& 0x33) + ((q_y b / 4) &&& 0x33)
theorem q_d1 : ∀ b : Fin 256, ∀ r : Fin 2, (b.val / 2 + 128 * r.val) &&& 0x55 = (b.val / 2) &&& 0x55 ∧ ((b.val / 2) &&& 0x55) ≤ b.val := by decide +kernel
theorem q_d2 : ∀ y : Fin 256, ∀ r : Fin 4, (y.val / 4 + 64 * r.val) &&& 0x33 = (y.val / 4) &&& 0x33 := by decide +kernel
theorem q_d3 : ∀ b : Fin 256, q_z b.val % 16 ≤ 4 ∧ q_z b.val ≤ 68 ∧ q_by b.val ≤ 8 := by decide +kernel
theorem q_d4 : ∀ b : Fin 256, ∀ r : Fin 5, (q_z b.val + q_z b.val / 16 + 16 * r.val) &&& 0x0f = q_by b.val := by decide +kernel
theorem q_cs (k b h : Nat) (hb : b < 256) : q_c1 (k + 1) (b + 256 * h) = q_y b + 256 * q_c1 k h ∧ q_c2 (k + 1) (b + 256 * h) = q_z b + 256 * q_c2 k h := by
  have d1 := q_d1 ⟨b, hb⟩ ⟨h % 2, by omega⟩
  simp only at d1
  have l1 : ((h / 2) &&& q_mk 0x55 k) ≤ h / 2 := Nat.and_le_left
  have e1 : q_c1 (k + 1) (b + 256 * h) = q_y b + 256 * q_c1 k h := by
    unfold q_c1 q_y
    show b + 256 * h - (((b + 256 * h) / 2) &&& (0x55 + 256 * q_mk 0x55 k)) = _
    rw [show (b + 256 * h) / 2 = (b / 2 + 128 * (h % 2)) + 256 * (h / 2) by omega, q_land _ _ _ _ (by omega) (by omega), d1.1]
    omega
  refine ⟨e1, ?_⟩
  have hy : q_y b < 256 := by unfold q_y; omega
  have d2 := q_d2 ⟨q_y b, hy⟩ ⟨q_c1 k h % 4, by omega⟩
  simp only at d2
  unfold q_c2
  rw [e1]
  show ((q_y b + 256 * q_c1 k h) &&& (0x33 + 256 * q_mk 0x33 k)) + (((q_y b + 256 * q_c1 k h) / 4) &&& (0x33 + 256 * q_mk 0x33 k)) = _
  rw [q_land _ _ _ _ hy (by omega), show (q_y b + 256 * q_c1 k h) / 4 = (q_y b / 4 + 64 * (q_c1 k h % 4)) + 256 * (q_c1 k h / 4) by omega, q_land _ _ _ _ (by omega) (by omega), d2]
  unfold q_z
  omega
theorem q_c0 : q_c1 0 0 = 0 ∧ q_c2 0 0 = 0 ∧ q_c3 0 0 = 0 := by decide
theorem q_c_all : ∀ k x, x < 256 ^ k → q_c2 k x % 16 ≤ 4 ∧ q_c3 k x = q_pb k x := by
  intro k
  induction k with
  | zero =>
    intro x hx
    have : x = 0 := by simpa using hx
    subst this
    decide
  | succ k ih =>
    intro x hx
    have hh : x / 256 < 256 ^ k := by
      rw [Nat.pow_succ] at hx
      exact Nat.div_lt_of_lt_mul (by rw [Nat.mul_comm]; exact hx)
    obtain ⟨i1, i2⟩ := ih _ hh
    have hb : x % 256 < 256 := Nat.mod_lt _ (by decide)
    have ex : x = x % 256 + 256 * (x / 256) := by omega
    obtain ⟨c1, c2⟩ := q_cs k (x % 256) (x / 256) hb
    rw [← ex] at c1 c2
    have d3 := q_d3 ⟨x % 256, hb⟩
    simp only at d3
    have d4 := q_d4 ⟨x % 256, hb⟩ ⟨q_c2 k (x / 256) % 16, by omega⟩
    simp only at d4
    refine ⟨by rw [c2]; omega, ?_⟩
    unfold q_c3 at i2 ⊢
    rw [c2]
    show ((q_z (x % 256) + 256 * q_c2 k (x / 256)) + (q_z (x % 256) + 256 * q_c2 k (x / 256)) / 16) &&& (0x0f + 256 * q_mk 0x0f k) = _
    rw [show (q_z (x % 256) + 256 * q_c2 k (x / 256)) + (q_z (x % 256) + 256 * q_c2 k (x / 256)) / 16 = (q_z (x % 256) + q_z (x % 256) / 16 + 16 * (q_c2 k (x / 256) % 16)) + 256 * (q_c2 k (x / 256) + q_c2 k (x / 256) / 16) by omega, q_land _ _ _ _ (by omega) (by omega), d4, i2]
    rfl
/-- the number of bits below n -/
def q_nb (x : Nat) : Nat → Nat
  | 0 => 0
  | n + 1 => q_nb x n + x / 2 ^ n % 2
theorem q_nb_split (x : Nat) : ∀ n, q_nb x (8 + n) = q_by (x % 256) + q_nb (x / 256) n := by
  intro n
  induction n with
  | zero =>
    show 0 + x / 2 ^ 0 % 2 + x / 2 ^ 1 % 2 + x / 2 ^ 2 % 2 + x / 2 ^ 3 % 2 + x / 2 ^ 4 % 2 + x / 2 ^ 5 % 2 + x / 2 ^ 6 % 2 + x / 2 ^ 7 % 2 = q_by (x % 256) + 0
    unfold q_by
    omega
  | succ n ih =>
    show q_nb x (8 + n) + x / 2 ^ (8 + n) % 2 = q_by (x % 256) + (q_nb (x / 256) n + x / 256 / 2 ^ n % 2)
    rw [ih, Nat.div_div_eq_div_mul, show 256 * 2 ^ n = 2 ^ (8 + n) by rw [Nat.pow_add]]
    omega
theorem q_fl1 (b r y : Nat) (h : y = b + 256 * r) (hb : b ≤ 8) : y / 256 = r := by omega
theorem q_fl2 (b r y : Nat) (h : y = b + 65536 * r) (hb : b < 65536) : y / 65536 = r := by omega
theorem q_fl3 (b r y : Nat) (h : y = b + 4294967296 * r) (hb : b < 4294967296) : y / 4294967296 = r := by omega
theorem q_fl4 (s t u v : Nat) (h : s + u < 128) : (s + 256 * t + (u + 256 * v)) % 128 = s + u := by omega
theorem q_fe4 (b0 b1 b2 b3 b4 b5 b6 b7 y y4 : Nat) (hy : y = b0 + 256 * (b1 + 256 * (b2 + 256 * (b3 + 256 * (b4 + 256 * (b5 + 256 * (b6 + 256 * b7))))))) (e4 : y4 = y + (b1 + 256 * (b2 + 256 * (b3 + 256 * (b4 + 256 * (b5 + 256 * (b6 + 256 * b7))))))) : y4 = ((b0 + b1) + 256 * (b1 + b2)) + 65536 * ((b2 + b3) + 256 * ((b3 + b4) + 256 * ((b4 + b5) + 256 * ((b5 + b6) + 256 * ((b6 + b7) + 256 * b7))))) := by omega
theorem q_fe5 (b0 b1 b2 b3 b4 b5 b6 b7 y4 y5 : Nat) (hy : y4 = ((b0 + b1) + 256 * (b1 + b2)) + 65536 * ((b2 + b3) + 256 * ((b3 + b4) + 256 * ((b4 + b5) + 256 * ((b5 + b6) + 256 * ((b6 + b7) + 256 * b7)))))) (e5 : y5 = y4 + ((b2 + b3) + 256 * ((b3 + b4) + 256 * ((b4 + b5) + 256 * ((b5 + b6) + 256 * ((b6 + b7) + 256 * b7)))))) : y5 = ((b0 + b1 + b2 + b3) + 256 * ((b1 + b2 + b3 + b4) + 256 * ((b2 + b3 + b4 + b5) + 256 * (b3 + b4 + b5 + b6)))) + 4294967296 * ((b4 + b5 + b6 + b7) + 256 * ((b5 + b6 + b7) + 256 * ((b6 + b7) + 256 * b7))) := by omega
theorem q_fe6 (s t r y : Nat) (h : y = (s + 256 * t) + 4294967296 * r) : y = s + 256 * (t + 16777216 * r) := by omega
theorem q_fb (b0 b1 b2 b3 b4 b5 b6 b7 : Nat) (h0 : b0 ≤ 8) (h1 : b1 ≤ 8) (h2 : b2 ≤ 8) (h3 : b3 ≤ 8) (h4 : b4 ≤ 8) (h5 : b5 ≤ 8) (h6 : b6 ≤ 8) (h7 : b7 ≤ 8) : b0 + 256 * (b1 + 256 * (b2 + 256 * (b3 + 256 * (b4 + 256 * (b5 + 256 * (b6 + 256 * b7)))))) < 1000000000000000000 := by omega
theorem q_fl5 (b0 b1 b2 b3 b4 b5 b6 b7 y y4 y5 : Nat) (h0 : b0 ≤ 8) (h1 : b1 ≤ 8) (h2 : b2 ≤ 8) (h3 : b3 ≤ 8) (h4 : b4 ≤ 8) (h5 : b5 ≤ 8) (h6 : b6 ≤ 8) (h7 : b7 ≤ 8) (hy : y = b0 + 256 * (b1 + 256 * (b2 + 256 * (b3 + 256 * (b4 + 256 * (b5 + 256 * (b6 + 256 * b7))))))) (e4 : y4 = y + y / 256) (e5 : y5 = y4 + y4 / 65536) : (y5 + y5 / 4294967296) % 128 = b0 + b1 + b2 + b3 + b4 + b5 + b6 + b7 ∧ y < 4611686018427387904 ∧ y4 < 4611686018427387904 ∧ y5 < 4611686018427387904 ∧ y5 + y5 / 4294967296 < 4611686018427387904 := by
  have hb := q_fb b0 b1 b2 b3 b4 b5 b6 b7 h0 h1 h2 h3 h4 h5 h6 h7
  rw [← hy] at hb
  have d1 := q_fl1 b0 _ y hy h0
  have b1' : y / 256 ≤ y := Nat.div_le_self _ _
  have b2' : y4 / 65536 ≤ y4 := Nat.div_le_self _ _
  have b3' : y5 / 4294967296 ≤ y5 / 4 := by clear e4 e5 hy d1; omega
  have B4 : y4 ≤ 2 * y := by clear e5 hy d1 b3'; omega
  have B5 : y5 ≤ 4 * y := by clear e4 hy d1 b3' b1'; omega
  refine ⟨?_, by clear e4 e5 hy d1; omega, by clear e4 e5 hy d1; omega, by clear e4 e5 hy d1; omega, by clear e4 e5 hy d1; omega⟩
  clear b1' b2' b3' B4 B5 hb
  rw [d1] at e4
  have g4 := q_fe4 _ _ _ _ _ _ _ _ _ _ hy e4
  have d2 := q_fl2 _ _ y4 g4 (by clear hy e4 e5 d1 g4; omega)
  rw [d2] at e5
  have g5 := q_fe5 _ _ _ _ _ _ _ _ _ _ g4 e5
  have d3 := q_fl3 _ _ y5 g5 (by clear hy e4 e5 d1 g4 g5 d2; omega)
  have g6 := q_fe6 _ _ _ _ g5
  rw [d3, g6, q_fl4 _ _ _ _ (by clear hy e4 e5 d1 g4 g5 d2 d3 g6; omega)]
  clear hy e4 e5 d1 g4 g5 d2 d3 g6
  omega
/-- the sums of the bytes -/
theorem q_fold (x y y4 y5 : Nat) (ey : y = q_pb 8 x) (e4 : y4 = y + y / 256) (e5 : y5 = y4 + y4 / 65536) : (y5 + y5 / 4294967296) % 128 = q_nb x 64 ∧ y < 4611686018427387904 ∧ y4 < 4611686018427387904 ∧ y5 < 4611686018427387904 ∧ y5 + y5 / 4294967296 < 4611686018427387904 := by
  have g : ∀ z : Nat, q_by (z % 256) ≤ 8 := fun z => (q_d3 ⟨z % 256, Nat.mod_lt _ (by decide)⟩).2.2
  have e : q_nb x 64 = q_by (x % 256) + (q_by (x / 256 % 256) + (q_by (x / 256 / 256 % 256) + (q_by (x / 256 / 256 / 256 % 256) + (q_by (x / 256 / 256 / 256 / 256 % 256) + (q_by (x / 256 / 256 / 256 / 256 / 256 % 256) + (q_by (x / 256 / 256 / 256 / 256 / 256 / 256 % 256) + (q_by (x / 256 / 256 / 256 / 256 / 256 / 256 / 256 % 256) + 0))))))) := by
    rw [show 64 = 8 + 56 from rfl, q_nb_split, show 56 = 8 + 48 from rfl, q_nb_split, show 48 = 8 + 40 from rfl, q_nb_split, show 40 = 8 + 32 from rfl, q_nb_split, show 32 = 8 + 24 from rfl, q_nb_split, show 24 = 8 + 16 from rfl, q_nb_split, show 16 = 8 + 8 from rfl, q_nb_split, show 8 = 8 + 0 from rfl, q_nb_split]
    rfl
  rw [e]
  have ey2 : y = q_by (x % 256) + 256 * (q_by (x / 256 % 256) + 256 * (q_by (x / 256 / 256 % 256) + 256 * (q_by (x / 256 / 256 / 256 % 256) + 256 * (q_by (x / 256 / 256 / 256 / 256 % 256) + 256 * (q_by (x / 256 / 256 / 256 / 256 / 256 % 256) + 256 * (q_by (x / 256 / 256 / 256 / 256 / 256 / 256 % 256) + 256 * (q_by (x / 256 / 256 / 256 / 256 / 256 / 256 / 256 % 256) + 256 * 0))))))) := ey
  have r := q_fl5 _ _ _ _ _ _ _ _ y y4 y5 (g x) (g (x / 256)) (g (x / 256 / 256)) (g (x / 256 / 256 / 256)) (g (x / 256 / 256 / 256 / 256)) (g (x / 256 / 256 / 256 / 256 / 256)) (g (x / 256 / 256 / 256 / 256 / 256 / 256)) (g (x / 256 / 256 / 256 / 256 / 256 / 256 / 256)) ey2 e4 e5
  refine ⟨r.1.trans ?_, r.2⟩
  clear r ey2 ey e4 e5 e
  generalize q_by (x % 256) = b0
  generalize q_by (x / 256 % 256) = b1
  generalize q_by (x / 256 / 256 % 256) = b2
  generalize q_by (x / 256 / 256 / 256 % 256) = b3
  generalize q_by (x / 256 / 256 / 256 / 256 % 256) = b4
  generalize q_by (x / 256 / 256 / 256 / 256 / 256 % 256) = b5
  generalize q_by (x / 256 / 256 / 256 / 256 / 256 / 256 % 256) = b6
  generalize q_by (x / 256 / 256 / 256 / 256 / 256 / 256 / 256 % 256) = b7
  omega
