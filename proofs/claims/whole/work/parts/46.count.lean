theorem tl_bv (x : Nat) : (Int64.ofInt (x : Int)).toBitVec = BitVec.ofNat 64 x := rfl
theorem tl_and (x m : Nat) (hx : x < 9223372036854775808) (hm : m < 9223372036854775808) : tp_Land (x : Int) (m : Int) = ((x &&& m : Nat) : Int) := by
  unfold tp_Land
  have e : (Int64.ofInt (x : Int) &&& Int64.ofInt (m : Int)).toInt = ((BitVec.ofNat 64 x) &&& (BitVec.ofNat 64 m)).toInt := rfl
  have l : (x &&& m) < 9223372036854775808 := Nat.lt_of_le_of_lt Nat.and_le_left hx
  have n : ((BitVec.ofNat 64 x) &&& (BitVec.ofNat 64 m)).toNat = (x &&& m) := by
    rw [BitVec.toNat_and, BitVec.toNat_ofNat, BitVec.toNat_ofNat, Nat.mod_eq_of_lt (by omega), Nat.mod_eq_of_lt (by omega)]
  rw [e, BitVec.toInt_eq_toNat_of_lt (by rw [n]; omega), n]
theorem tl_shr (x s : Nat) (hx : x < 9223372036854775808) (hs : ((Int32.ofInt (s : Int)).toInt64.toUInt64 &&& Int64.toUInt64 63).toNat = s) (hs2 : s < 64) : tp_Lushr (x : Int) (s : Int) = ((x / 2 ^ s : Nat) : Int) := by
  unfold tp_Lushr
  have l : x / 2 ^ s ≤ x := Nat.div_le_self _ _
  have n : ((Int64.ofInt (x : Int)).toUInt64 >>> ((Int32.ofInt (s : Int)).toInt64.toUInt64 &&& Int64.toUInt64 63)).toNat = x / 2 ^ s := by
    rw [UInt64.toNat_shiftRight, hs, Nat.shiftRight_eq_div_pow, Nat.mod_eq_of_lt hs2]
    have : (Int64.ofInt (x : Int)).toUInt64.toNat = x := by
      show (BitVec.ofNat 64 x).toNat = x
      rw [BitVec.toNat_ofNat, Nat.mod_eq_of_lt (by omega)]
    rw [this]
  generalize (Int64.ofInt (x : Int)).toUInt64 >>> ((Int32.ofInt (s : Int)).toInt64.toUInt64 &&& Int64.toUInt64 63) = u at *
  show u.toBitVec.toInt = _
  have n2 : u.toBitVec.toNat = x / 2 ^ s := n
  rw [BitVec.toInt_eq_toNat_of_lt (by rw [n2]; omega), n2]
theorem tl_low (x : Nat) (_hx : x < 9223372036854775808) : tp_and (tp_l2i (x : Int)) 127 = ((x % 128 : Nat) : Int) := by
  unfold tp_and tp_l2i
  rw [Int32.ofInt_toInt]
  have e : (((Int64.ofInt (x : Int)).toInt32) &&& Int32.ofInt 127).toInt = (((BitVec.ofNat 64 x).signExtend 32) &&& BitVec.ofNat 32 127).toInt := rfl
  have n : (((BitVec.ofNat 64 x).signExtend 32) &&& BitVec.ofNat 32 127).toNat = x % 128 := by
    rw [BitVec.toNat_and, BitVec.toNat_ofNat]
    rw [show 127 % 2 ^ 32 = 2 ^ 7 - 1 by decide, Nat.and_two_pow_sub_one_eq_mod]
    rw [BitVec.signExtend_eq_setWidth_of_le _ (by decide), BitVec.toNat_setWidth, BitVec.toNat_ofNat]
    omega
  rw [e, BitVec.toInt_eq_toNat_of_lt (by rw [n]; omega), n]

def q_pc (L : Int) : Int := q_s (fun a => if q_bt L a = true then 1 else 0) 40
theorem q_nb_bt (x : Nat) : ∀ n : Nat, n ≤ 64 → ((q_nb x n : Nat) : Int) = q_S (fun a => if q_bt (x : Int) a = true then 1 else 0) n := by
  intro n
  induction n with
  | zero => intro _; rfl
  | succ n ih =>
    intro hn
    show ((q_nb x n + x / 2 ^ n % 2 : Nat) : Int) = q_S (fun a => if q_bt (x : Int) a = true then 1 else 0) n + (if q_bt (x : Int) (n : Int) = true then 1 else 0)
    rw [← ih (by omega)]
    have e : q_bt (x : Int) (n : Int) = x.testBit n := by
      show (BitVec.ofNat 64 x).getLsbD n = x.testBit n
      rw [BitVec.getLsbD_ofNat, decide_eq_true (show n < 64 by omega), Bool.true_and]
    rw [e]
    have e2 : x.testBit n = decide (x / 2 ^ n % 2 = 1) := Nat.testBit_eq_decide_div_mod_eq
    rw [e2]
    by_cases q : x / 2 ^ n % 2 = 1
    · rw [decide_eq_true q, if_pos rfl, q]
      omega
    · rw [decide_eq_false q, if_neg (by decide)]
      omega
theorem q_pc_nb {x : Nat} (h : q_st (x : Int)) : ((q_nb x 64 : Nat) : Int) = q_pc (x : Int) := by
  rw [q_nb_bt x 64 (Nat.le_refl _)]
  show q_s (fun a => if q_bt (x : Int) a = true then 1 else 0) 64 = q_s _ 40
  exact q_s_ext (by omega) (by omega) (fun j h0 _ => by rw [h.2 j h0]; rfl)
theorem q_m55 : q_mk 0x55 8 = 6148914691236517205 := by decide
theorem q_m33 : q_mk 0x33 8 = 3689348814741910323 := by decide
theorem q_m0f : q_mk 0x0f 8 = 1085102592571150095 := by decide
theorem q_b1 {x : Nat} (hx : x < 1099511627776) : tp_W ((x : Int) - tp_Land (tp_Lushr (x : Int) 1) 6148914691236517205) = ((q_c1 8 x : Nat) : Int) ∧ q_c1 8 x ≤ x := by
  have e1 : tp_Lushr (x : Int) 1 = ((x / 2 : Nat) : Int) := tl_shr x 1 (by omega) (by decide) (by decide)
  have e2 : tp_Land ((x / 2 : Nat) : Int) 6148914691236517205 = ((x / 2 &&& 6148914691236517205 : Nat) : Int) := tl_and (x / 2) 6148914691236517205 (by omega) (by decide)
  have l : (x / 2 &&& 6148914691236517205) ≤ x / 2 := Nat.and_le_left
  have c : q_c1 8 x = x - (x / 2 &&& 6148914691236517205) := by unfold q_c1; rw [q_m55]
  rw [e1, e2, c]
  generalize (x / 2 &&& 6148914691236517205) = u at *
  exact ⟨by rw [tp_W_id ⟨by omega, by omega⟩]; omega, by omega⟩
theorem q_b2 {y : Nat} (hx : y < 1099511627776) (c2 : Nat) (e : c2 = (y &&& 3689348814741910323) + (y / 4 &&& 3689348814741910323)) : tp_W (tp_Land (y : Int) 3689348814741910323 + tp_Land (tp_Lushr (y : Int) 2) 3689348814741910323) = (c2 : Int) ∧ c2 ≤ 2 * y := by
  have e1 : tp_Lushr (y : Int) 2 = ((y / 4 : Nat) : Int) := tl_shr y 2 (by omega) (by decide) (by decide)
  have e2 : tp_Land ((y / 4 : Nat) : Int) 3689348814741910323 = ((y / 4 &&& 3689348814741910323 : Nat) : Int) := tl_and (y / 4) 3689348814741910323 (by omega) (by decide)
  have e3 : tp_Land (y : Int) 3689348814741910323 = ((y &&& 3689348814741910323 : Nat) : Int) := tl_and y 3689348814741910323 (by omega) (by decide)
  have l : (y / 4 &&& 3689348814741910323) ≤ y / 4 := Nat.and_le_left
  have l2 : (y &&& 3689348814741910323) ≤ y := Nat.and_le_left
  rw [e1, e2, e3, e]
  generalize (y / 4 &&& 3689348814741910323) = u at *
  generalize (y &&& 3689348814741910323) = v at *
  exact ⟨by rw [tp_W_id ⟨by omega, by omega⟩]; omega, by omega⟩
theorem q_b3 {z : Nat} (hz : z < 4398046511104) : tp_Land (tp_W ((z : Int) + tp_Lushr (z : Int) 4)) 1085102592571150095 = (((z + z / 16) &&& 1085102592571150095 : Nat) : Int) := by
  have e1 : tp_Lushr (z : Int) 4 = ((z / 16 : Nat) : Int) := tl_shr z 4 (by omega) (by decide) (by decide)
  have e2 : tp_W ((z : Int) + ((z / 16 : Nat) : Int)) = ((z + z / 16 : Nat) : Int) := by rw [tp_W_id ⟨by omega, by omega⟩]; omega
  rw [e1, e2]
  exact tl_and _ 1085102592571150095 (by omega) (by decide)
theorem q_b4 {y : Nat} (s d : Nat) (hs : ((Int32.ofInt (s : Int)).toInt64.toUInt64 &&& Int64.toUInt64 63).toNat = s) (hs2 : s < 64) (hd : 2 ^ s = d) (hy : y < 4611686018427387904) : tp_W ((y : Int) + tp_Lushr (y : Int) (s : Int)) = ((y + y / d : Nat) : Int) := by
  have e1 : tp_Lushr (y : Int) (s : Int) = ((y / d : Nat) : Int) := by rw [← hd]; exact tl_shr y s (by omega) hs hs2
  have l : y / d ≤ y := Nat.div_le_self _ _
  rw [e1]
  generalize y / d = u at *
  rw [tp_W_id ⟨by omega, by omega⟩]
  omega
set_option maxHeartbeats 4000000 in
set_option maxRecDepth 100000 in
theorem s_bitCount {G : tp_G} {μ : tp_M} (hG : tp_Gf G = true) {L : Int} (hq : q_st L) : tp_k G mJ13_bitCount_95d88 [tL L] μ (fun r μ' => r = some (tI (q_pc L)) ∧ μ' = μ) := by
  have hb := q_st_lt hq
  obtain ⟨x, rfl⟩ : ∃ x : Nat, L = (x : Int) := ⟨L.toNat, by omega⟩
  have hx : x < 1099511627776 := by omega
  have h1 := q_b1 hx
  have h2 := q_b2 (y := q_c1 8 x) (by have := h1.2; omega) (q_c2 8 x) (by unfold q_c2; rw [q_m33])
  have h3 := q_b3 (z := q_c2 8 x) (by have := h1.2; have := h2.2; omega)
  have h3b : ((q_c2 8 x + q_c2 8 x / 16) &&& 1085102592571150095) = q_pb 8 x := by
    rw [← (q_c_all 8 x (by omega)).2]
    unfold q_c3
    rw [q_m0f]
  rw [h3b] at h3
  have hf := q_fold x _ _ _ rfl rfl rfl
  have h4 : tp_W (((q_pb 8 x : Nat) : Int) + tp_Lushr ((q_pb 8 x : Nat) : Int) 8) = _ := q_b4 (y := q_pb 8 x) 8 256 (by decide) (by decide) (by decide) (by omega)
  have h5 : tp_W (((q_pb 8 x + q_pb 8 x / 256 : Nat) : Int) + tp_Lushr ((q_pb 8 x + q_pb 8 x / 256 : Nat) : Int) 16) = _ := q_b4 (y := q_pb 8 x + q_pb 8 x / 256) 16 65536 (by decide) (by decide) (by decide) (by omega)
  have h6 : tp_W (((q_pb 8 x + q_pb 8 x / 256 + (q_pb 8 x + q_pb 8 x / 256) / 65536 : Nat) : Int) + tp_Lushr ((q_pb 8 x + q_pb 8 x / 256 + (q_pb 8 x + q_pb 8 x / 256) / 65536 : Nat) : Int) 32) = _ := q_b4 (y := q_pb 8 x + q_pb 8 x / 256 + (q_pb 8 x + q_pb 8 x / 256) / 65536) 32 4294967296 (by decide) (by decide) (by decide) (by omega)
  refine tp_ok_of mJ13_bitCount_95d88_ok rfl (Nat.le_refl _) ?_
  refine g_lload_n rfl rfl ?_
  refine g_lload_n rfl rfl ?_
  refine g_iconst rfl ⟨by decide, by decide⟩ ?_
  refine g_lushr rfl ?_
  refine g_ldc2 (z := 6148914691236517205) rfl rfl ⟨by decide, by decide⟩ ?_
  refine g_land rfl ?_
  refine g_lsub rfl ?_
  rw [h1.1]
  refine g_lstore_n rfl rfl rfl ?_
  refine g_lload_n rfl rfl ?_
  refine g_ldc2 (z := 3689348814741910323) rfl rfl ⟨by decide, by decide⟩ ?_
  refine g_land rfl ?_
  refine g_lload_n rfl rfl ?_
  refine g_iconst rfl ⟨by decide, by decide⟩ ?_
  refine g_lushr rfl ?_
  refine g_ldc2 (z := 3689348814741910323) rfl rfl ⟨by decide, by decide⟩ ?_
  refine g_land rfl ?_
  refine g_ladd rfl ?_
  rw [h2.1]
  refine g_lstore_n rfl rfl rfl ?_
  refine g_lload_n rfl rfl ?_
  refine g_lload_n rfl rfl ?_
  refine g_iconst rfl ⟨by decide, by decide⟩ ?_
  refine g_lushr rfl ?_
  refine g_ladd rfl ?_
  refine g_ldc2 (z := 1085102592571150095) rfl rfl ⟨by decide, by decide⟩ ?_
  refine g_land rfl ?_
  rw [h3]
  refine g_lstore_n rfl rfl rfl ?_
  refine g_lload_n rfl rfl ?_
  refine g_lload_n rfl rfl ?_
  refine g_bipush rfl ⟨by decide, by decide⟩ (by decide) ?_
  refine g_lushr rfl ?_
  refine g_ladd rfl ?_
  rw [h4]
  refine g_lstore_n rfl rfl rfl ?_
  refine g_lload_n rfl rfl ?_
  refine g_lload_n rfl rfl ?_
  refine g_bipush rfl ⟨by decide, by decide⟩ (by decide) ?_
  refine g_lushr rfl ?_
  refine g_ladd rfl ?_
  rw [h5]
  refine g_lstore_n rfl rfl rfl ?_
  refine g_lload_n rfl rfl ?_
  refine g_lload_n rfl rfl ?_
  refine g_bipush rfl ⟨by decide, by decide⟩ (by decide) ?_
  refine g_lushr rfl ?_
  refine g_ladd rfl ?_
  rw [h6]
  refine g_lstore_n rfl rfl rfl ?_
  refine g_lload_n rfl rfl ?_
  refine g_l2i rfl ?_
  refine g_bipush rfl ⟨by decide, by decide⟩ (by decide) ?_
  refine g_iand rfl ?_
  refine x_ireturn rfl rfl ?_
  exact ⟨by rw [tl_low _ (by omega), hf.1, q_pc_nb hq], rfl⟩
