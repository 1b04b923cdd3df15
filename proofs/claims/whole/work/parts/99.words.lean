theorem x_sald {G : tp_G} {d : tp_D} {pc : Nat} {ls : List (Option tp_V)} {st : List tp_V} {μ : tp_M} {n n' bs : Nat} {Φ : Option tp_V → tp_M → Prop} {x : Nat × Nat × Nat} {a v : Int} {i0 : Nat} (hf : tp_at d pc = some (.iaload, 1, x)) (hi : i0 < 8) (h0 : 0 ≤ a) (h1 : a < (tp_sl G i0 : Int)) (hv : tp_sv G i0 a.toNat = v) (k : tp_go G d (pc + 1) ls (tI v :: st) μ n n' bs Φ) : tp_go G d pc ls (tI a :: tR (some (5000 + i0)) :: st) μ n n' bs Φ := g_sald hf hi h0 h1 (by rw [hv]; exact k)
theorem tsc_0 : tp_sc 0 = 112 := by decide +kernel
theorem tsc_1 : tp_sc 1 = 108 := by decide +kernel
theorem tsc_2 : tp_sc 2 = 97 := by decide +kernel
theorem tsc_3 : tp_sc 3 = 105 := by decide +kernel
theorem tsc_4 : tp_sc 4 = 110 := by decide +kernel
theorem tsc_5 : tp_sc 5 = 32 := by decide +kernel
theorem tsc_6 : tp_sc 6 = 105 := by decide +kernel
theorem tsc_7 : tp_sc 7 = 102 := by decide +kernel
theorem tsc_8 : tp_sc 8 = 32 := by decide +kernel
theorem tsc_9 : tp_sc 9 = 32 := by decide +kernel
theorem tsc_10 : tp_sc 10 = 32 := by decide +kernel
theorem tsc_11 : tp_sc 11 = 32 := by decide +kernel
theorem tsc_12 : tp_sc 12 = 106 := by decide +kernel
theorem tsc_13 : tp_sc 13 = 117 := by decide +kernel
theorem tsc_14 : tp_sc 14 = 109 := by decide +kernel
theorem tsc_15 : tp_sc 15 = 112 := by decide +kernel
theorem tsc_16 : tp_sc 16 = 32 := by decide +kernel
theorem tsc_17 : tp_sc 17 = 32 := by decide +kernel
theorem tsc_18 : tp_sc 18 = 99 := by decide +kernel
theorem tsc_19 : tp_sc 19 = 97 := by decide +kernel
theorem tsc_20 : tp_sc 20 = 108 := by decide +kernel
theorem tsc_21 : tp_sc 21 = 108 := by decide +kernel
theorem tsc_22 : tp_sc 22 = 32 := by decide +kernel
theorem tsc_23 : tp_sc 23 = 32 := by decide +kernel
theorem tsc_24 : tp_sc 24 = 114 := by decide +kernel
theorem tsc_25 : tp_sc 25 = 101 := by decide +kernel
theorem tsc_26 : tp_sc 26 = 116 := by decide +kernel
theorem tsc_27 : tp_sc 27 = 32 := by decide +kernel
theorem tsc_28 : tp_sc 28 = 32 := by decide +kernel
theorem tsc_29 : tp_sc 29 = 32 := by decide +kernel
theorem tsc_30 : tp_sc 30 = 118 := by decide +kernel
theorem tsc_31 : tp_sc 31 = 105 := by decide +kernel
theorem tsc_32 : tp_sc 32 = 97 := by decide +kernel
theorem tsc_33 : tp_sc 33 = 32 := by decide +kernel
theorem tsc_34 : tp_sc 34 = 32 := by decide +kernel
theorem tsc_35 : tp_sc 35 = 32 := by decide +kernel
theorem tsc_36 : tp_sc 36 = 115 := by decide +kernel
theorem tsc_37 : tp_sc 37 = 116 := by decide +kernel
theorem tsc_38 : tp_sc 38 = 111 := by decide +kernel
theorem tsc_39 : tp_sc 39 = 112 := by decide +kernel
theorem tsc_40 : tp_sc 40 = 32 := by decide +kernel
theorem tsc_41 : tp_sc 41 = 32 := by decide +kernel
theorem tsc_42 : tp_sc 42 = 109 := by decide +kernel
theorem tsc_43 : tp_sc 43 = 111 := by decide +kernel
theorem tsc_44 : tp_sc 44 = 100 := by decide +kernel
theorem tsc_45 : tp_sc 45 = 101 := by decide +kernel
theorem tsc_46 : tp_sc 46 = 32 := by decide +kernel
theorem tsc_47 : tp_sc 47 = 32 := by decide +kernel
theorem tsc_48 : tp_sc 48 = 98 := by decide +kernel
theorem tsc_49 : tp_sc 49 = 105 := by decide +kernel
theorem tsc_50 : tp_sc 50 = 116 := by decide +kernel
theorem tsc_51 : tp_sc 51 = 115 := by decide +kernel
theorem tsc_52 : tp_sc 52 = 32 := by decide +kernel
theorem tsc_53 : tp_sc 53 = 32 := by decide +kernel
theorem tsc_54 : tp_sc 54 = 100 := by decide +kernel
theorem tsc_55 : tp_sc 55 = 101 := by decide +kernel
theorem tsc_56 : tp_sc 56 = 101 := by decide +kernel
theorem tsc_57 : tp_sc 57 = 112 := by decide +kernel
theorem tsc_58 : tp_sc 58 = 32 := by decide +kernel
theorem tsc_59 : tp_sc 59 = 32 := by decide +kernel
theorem tsc_60 : tp_sc 60 = 115 := by decide +kernel
theorem tsc_61 : tp_sc 61 = 121 := by decide +kernel
theorem tsc_62 : tp_sc 62 = 110 := by decide +kernel
theorem tsc_63 : tp_sc 63 = 99 := by decide +kernel
theorem tsc_64 : tp_sc 64 = 32 := by decide +kernel
theorem tsc_65 : tp_sc 65 = 32 := by decide +kernel
theorem tsc_66 : tp_sc 66 = 102 := by decide +kernel
theorem tsc_67 : tp_sc 67 = 114 := by decide +kernel
theorem tsc_68 : tp_sc 68 = 111 := by decide +kernel
theorem tsc_69 : tp_sc 69 = 109 := by decide +kernel
theorem tsc_70 : tp_sc 70 = 32 := by decide +kernel
theorem tsc_71 : tp_sc 71 = 32 := by decide +kernel
theorem tsc_72 : tp_sc 72 = 116 := by decide +kernel
theorem tsc_73 : tp_sc 73 = 111 := by decide +kernel
theorem tsc_74 : tp_sc 74 = 32 := by decide +kernel
theorem tsc_75 : tp_sc 75 = 32 := by decide +kernel
theorem tsc_76 : tp_sc 76 = 32 := by decide +kernel
theorem tsc_77 : tp_sc 77 = 32 := by decide +kernel
theorem tsc_78 : tp_sc 78 = 111 := by decide +kernel
theorem tsc_79 : tp_sc 79 = 110 := by decide +kernel
theorem tsc_80 : tp_sc 80 = 108 := by decide +kernel
theorem tsc_81 : tp_sc 81 = 121 := by decide +kernel
theorem tsc_82 : tp_sc 82 = 32 := by decide +kernel
theorem tsc_83 : tp_sc 83 = 32 := by decide +kernel
theorem tsc_84 : tp_sc 84 = 114 := by decide +kernel
theorem tsc_85 : tp_sc 85 = 111 := by decide +kernel
theorem tsc_86 : tp_sc 86 = 111 := by decide +kernel
theorem tsc_87 : tp_sc 87 = 109 := by decide +kernel
theorem tsc_88 : tp_sc 88 = 32 := by decide +kernel
theorem tsc_89 : tp_sc 89 = 32 := by decide +kernel
theorem tsc_90 : tp_sc 90 = 114 := by decide +kernel
theorem tsc_91 : tp_sc 91 = 97 := by decide +kernel
theorem tsc_92 : tp_sc 92 = 116 := by decide +kernel
theorem tsc_93 : tp_sc 93 = 101 := by decide +kernel
theorem tsc_94 : tp_sc 94 = 32 := by decide +kernel
theorem tsc_95 : tp_sc 95 = 32 := by decide +kernel
theorem tsc_96 : tp_sc 96 = 110 := by decide +kernel
theorem tsc_97 : tp_sc 97 = 32 := by decide +kernel
theorem tsc_98 : tp_sc 98 = 32 := by decide +kernel
theorem tsc_99 : tp_sc 99 = 32 := by decide +kernel
theorem tsc_100 : tp_sc 100 = 32 := by decide +kernel
theorem tsc_101 : tp_sc 101 = 32 := by decide +kernel
theorem tsc_102 : tp_sc 102 = 121 := by decide +kernel
theorem tsc_103 : tp_sc 103 = 32 := by decide +kernel
theorem tsc_104 : tp_sc 104 = 32 := by decide +kernel
theorem tsc_105 : tp_sc 105 = 32 := by decide +kernel
theorem tsc_106 : tp_sc 106 = 32 := by decide +kernel
theorem tsc_107 : tp_sc 107 = 32 := by decide +kernel
theorem tsc_108 : tp_sc 108 = 103 := by decide +kernel
theorem tsc_109 : tp_sc 109 = 111 := by decide +kernel
theorem tsc_110 : tp_sc 110 = 32 := by decide +kernel
theorem tsc_111 : tp_sc 111 = 32 := by decide +kernel
theorem tsc_112 : tp_sc 112 = 32 := by decide +kernel
theorem tsc_113 : tp_sc 113 = 32 := by decide +kernel
theorem tsc_114 : tp_sc 114 = 108 := by decide +kernel
theorem tsc_115 : tp_sc 115 = 111 := by decide +kernel
theorem tsc_116 : tp_sc 116 = 115 := by decide +kernel
theorem tsc_117 : tp_sc 117 = 101 := by decide +kernel
theorem tsc_118 : tp_sc 118 = 32 := by decide +kernel
theorem tsc_119 : tp_sc 119 = 32 := by decide +kernel
theorem tsc_120 : tp_sc 120 = 115 := by decide +kernel
theorem tsc_121 : tp_sc 121 = 97 := by decide +kernel
theorem tsc_122 : tp_sc 122 = 119 := by decide +kernel
theorem tsc_123 : tp_sc 123 = 32 := by decide +kernel
theorem tsc_124 : tp_sc 124 = 32 := by decide +kernel
theorem tsc_125 : tp_sc 125 = 32 := by decide +kernel
/-- the words as numbers -/
def t_wl : List Int := [482854660462, 26982, 1786080624, 1667329132, 7497076, 7760225, 1937010544, 1836016741, 1651078259, 1684366704, 1937337955, 1718775661, 29807, 1869507705, 1919905645, 1918989413, 110, 121, 26479, 1819243365, 7561591]
def t_wc (w : Int) : Int := t_wl.getD w.toNat 0
def t_wv (T : Int → Int) (s e : Int) : Int := if e - s ≤ 8 then q_WV T s (e - s) else 0
theorem t_W_0_1 {b0 : Int} (h : (97 ≤ b0 ∧ b0 ≤ 122)) : (tp_sc 0 = b0 ∧ tp_sc 1 = 32) ↔ b0 = 482854660462 := by rw [tsc_0, tsc_1]; omega
theorem t_W_1_1 {b0 : Int} (h : (97 ≤ b0 ∧ b0 ≤ 122)) : (tp_sc 6 = b0 ∧ tp_sc 7 = 32) ↔ b0 = 26982 := by rw [tsc_6, tsc_7]; omega
theorem t_W_2_1 {b0 : Int} (h : (97 ≤ b0 ∧ b0 ≤ 122)) : (tp_sc 12 = b0 ∧ tp_sc 13 = 32) ↔ b0 = 1786080624 := by rw [tsc_12, tsc_13]; omega
theorem t_W_3_1 {b0 : Int} (h : (97 ≤ b0 ∧ b0 ≤ 122)) : (tp_sc 18 = b0 ∧ tp_sc 19 = 32) ↔ b0 = 1667329132 := by rw [tsc_18, tsc_19]; omega
theorem t_W_4_1 {b0 : Int} (h : (97 ≤ b0 ∧ b0 ≤ 122)) : (tp_sc 24 = b0 ∧ tp_sc 25 = 32) ↔ b0 = 7497076 := by rw [tsc_24, tsc_25]; omega
theorem t_W_5_1 {b0 : Int} (h : (97 ≤ b0 ∧ b0 ≤ 122)) : (tp_sc 30 = b0 ∧ tp_sc 31 = 32) ↔ b0 = 7760225 := by rw [tsc_30, tsc_31]; omega
theorem t_W_6_1 {b0 : Int} (h : (97 ≤ b0 ∧ b0 ≤ 122)) : (tp_sc 36 = b0 ∧ tp_sc 37 = 32) ↔ b0 = 1937010544 := by rw [tsc_36, tsc_37]; omega
theorem t_W_7_1 {b0 : Int} (h : (97 ≤ b0 ∧ b0 ≤ 122)) : (tp_sc 42 = b0 ∧ tp_sc 43 = 32) ↔ b0 = 1836016741 := by rw [tsc_42, tsc_43]; omega
theorem t_W_8_1 {b0 : Int} (h : (97 ≤ b0 ∧ b0 ≤ 122)) : (tp_sc 48 = b0 ∧ tp_sc 49 = 32) ↔ b0 = 1651078259 := by rw [tsc_48, tsc_49]; omega
theorem t_W_9_1 {b0 : Int} (h : (97 ≤ b0 ∧ b0 ≤ 122)) : (tp_sc 54 = b0 ∧ tp_sc 55 = 32) ↔ b0 = 1684366704 := by rw [tsc_54, tsc_55]; omega
theorem t_W_10_1 {b0 : Int} (h : (97 ≤ b0 ∧ b0 ≤ 122)) : (tp_sc 60 = b0 ∧ tp_sc 61 = 32) ↔ b0 = 1937337955 := by rw [tsc_60, tsc_61]; omega
theorem t_W_11_1 {b0 : Int} (h : (97 ≤ b0 ∧ b0 ≤ 122)) : (tp_sc 66 = b0 ∧ tp_sc 67 = 32) ↔ b0 = 1718775661 := by rw [tsc_66, tsc_67]; omega
theorem t_W_12_1 {b0 : Int} (h : (97 ≤ b0 ∧ b0 ≤ 122)) : (tp_sc 72 = b0 ∧ tp_sc 73 = 32) ↔ b0 = 29807 := by rw [tsc_72, tsc_73]; omega
theorem t_W_13_1 {b0 : Int} (h : (97 ≤ b0 ∧ b0 ≤ 122)) : (tp_sc 78 = b0 ∧ tp_sc 79 = 32) ↔ b0 = 1869507705 := by rw [tsc_78, tsc_79]; omega
theorem t_W_14_1 {b0 : Int} (h : (97 ≤ b0 ∧ b0 ≤ 122)) : (tp_sc 84 = b0 ∧ tp_sc 85 = 32) ↔ b0 = 1919905645 := by rw [tsc_84, tsc_85]; omega
theorem t_W_15_1 {b0 : Int} (h : (97 ≤ b0 ∧ b0 ≤ 122)) : (tp_sc 90 = b0 ∧ tp_sc 91 = 32) ↔ b0 = 1918989413 := by rw [tsc_90, tsc_91]; omega
theorem t_W_16_1 {b0 : Int} (h : (97 ≤ b0 ∧ b0 ≤ 122)) : (tp_sc 96 = b0 ∧ tp_sc 97 = 32) ↔ b0 = 110 := by rw [tsc_96, tsc_97]; omega
theorem t_W_17_1 {b0 : Int} (h : (97 ≤ b0 ∧ b0 ≤ 122)) : (tp_sc 102 = b0 ∧ tp_sc 103 = 32) ↔ b0 = 121 := by rw [tsc_102, tsc_103]; omega
theorem t_W_18_1 {b0 : Int} (h : (97 ≤ b0 ∧ b0 ≤ 122)) : (tp_sc 108 = b0 ∧ tp_sc 109 = 32) ↔ b0 = 26479 := by rw [tsc_108, tsc_109]; omega
theorem t_W_19_1 {b0 : Int} (h : (97 ≤ b0 ∧ b0 ≤ 122)) : (tp_sc 114 = b0 ∧ tp_sc 115 = 32) ↔ b0 = 1819243365 := by rw [tsc_114, tsc_115]; omega
theorem t_W_20_1 {b0 : Int} (h : (97 ≤ b0 ∧ b0 ≤ 122)) : (tp_sc 120 = b0 ∧ tp_sc 121 = 32) ↔ b0 = 7561591 := by rw [tsc_120, tsc_121]; omega
theorem t_W_0_2 {b0 b1 : Int} (h : (97 ≤ b0 ∧ b0 ≤ 122) ∧ (97 ≤ b1 ∧ b1 ≤ 122)) : (tp_sc 0 = b0 ∧ tp_sc 1 = b1 ∧ tp_sc 2 = 32) ↔ (b0) * 256 + b1 = 482854660462 := by rw [tsc_0, tsc_1, tsc_2]; omega
theorem t_W_1_2 {b0 b1 : Int} (h : (97 ≤ b0 ∧ b0 ≤ 122) ∧ (97 ≤ b1 ∧ b1 ≤ 122)) : (tp_sc 6 = b0 ∧ tp_sc 7 = b1 ∧ tp_sc 8 = 32) ↔ (b0) * 256 + b1 = 26982 := by rw [tsc_6, tsc_7, tsc_8]; omega
theorem t_W_2_2 {b0 b1 : Int} (h : (97 ≤ b0 ∧ b0 ≤ 122) ∧ (97 ≤ b1 ∧ b1 ≤ 122)) : (tp_sc 12 = b0 ∧ tp_sc 13 = b1 ∧ tp_sc 14 = 32) ↔ (b0) * 256 + b1 = 1786080624 := by rw [tsc_12, tsc_13, tsc_14]; omega
theorem t_W_3_2 {b0 b1 : Int} (h : (97 ≤ b0 ∧ b0 ≤ 122) ∧ (97 ≤ b1 ∧ b1 ≤ 122)) : (tp_sc 18 = b0 ∧ tp_sc 19 = b1 ∧ tp_sc 20 = 32) ↔ (b0) * 256 + b1 = 1667329132 := by rw [tsc_18, tsc_19, tsc_20]; omega
theorem t_W_4_2 {b0 b1 : Int} (h : (97 ≤ b0 ∧ b0 ≤ 122) ∧ (97 ≤ b1 ∧ b1 ≤ 122)) : (tp_sc 24 = b0 ∧ tp_sc 25 = b1 ∧ tp_sc 26 = 32) ↔ (b0) * 256 + b1 = 7497076 := by rw [tsc_24, tsc_25, tsc_26]; omega
theorem t_W_5_2 {b0 b1 : Int} (h : (97 ≤ b0 ∧ b0 ≤ 122) ∧ (97 ≤ b1 ∧ b1 ≤ 122)) : (tp_sc 30 = b0 ∧ tp_sc 31 = b1 ∧ tp_sc 32 = 32) ↔ (b0) * 256 + b1 = 7760225 := by rw [tsc_30, tsc_31, tsc_32]; omega
theorem t_W_6_2 {b0 b1 : Int} (h : (97 ≤ b0 ∧ b0 ≤ 122) ∧ (97 ≤ b1 ∧ b1 ≤ 122)) : (tp_sc 36 = b0 ∧ tp_sc 37 = b1 ∧ tp_sc 38 = 32) ↔ (b0) * 256 + b1 = 1937010544 := by rw [tsc_36, tsc_37, tsc_38]; omega
theorem t_W_7_2 {b0 b1 : Int} (h : (97 ≤ b0 ∧ b0 ≤ 122) ∧ (97 ≤ b1 ∧ b1 ≤ 122)) : (tp_sc 42 = b0 ∧ tp_sc 43 = b1 ∧ tp_sc 44 = 32) ↔ (b0) * 256 + b1 = 1836016741 := by rw [tsc_42, tsc_43, tsc_44]; omega
theorem t_W_8_2 {b0 b1 : Int} (h : (97 ≤ b0 ∧ b0 ≤ 122) ∧ (97 ≤ b1 ∧ b1 ≤ 122)) : (tp_sc 48 = b0 ∧ tp_sc 49 = b1 ∧ tp_sc 50 = 32) ↔ (b0) * 256 + b1 = 1651078259 := by rw [tsc_48, tsc_49, tsc_50]; omega
theorem t_W_9_2 {b0 b1 : Int} (h : (97 ≤ b0 ∧ b0 ≤ 122) ∧ (97 ≤ b1 ∧ b1 ≤ 122)) : (tp_sc 54 = b0 ∧ tp_sc 55 = b1 ∧ tp_sc 56 = 32) ↔ (b0) * 256 + b1 = 1684366704 := by rw [tsc_54, tsc_55, tsc_56]; omega
theorem t_W_10_2 {b0 b1 : Int} (h : (97 ≤ b0 ∧ b0 ≤ 122) ∧ (97 ≤ b1 ∧ b1 ≤ 122)) : (tp_sc 60 = b0 ∧ tp_sc 61 = b1 ∧ tp_sc 62 = 32) ↔ (b0) * 256 + b1 = 1937337955 := by rw [tsc_60, tsc_61, tsc_62]; omega
theorem t_W_11_2 {b0 b1 : Int} (h : (97 ≤ b0 ∧ b0 ≤ 122) ∧ (97 ≤ b1 ∧ b1 ≤ 122)) : (tp_sc 66 = b0 ∧ tp_sc 67 = b1 ∧ tp_sc 68 = 32) ↔ (b0) * 256 + b1 = 1718775661 := by rw [tsc_66, tsc_67, tsc_68]; omega
theorem t_W_12_2 {b0 b1 : Int} (h : (97 ≤ b0 ∧ b0 ≤ 122) ∧ (97 ≤ b1 ∧ b1 ≤ 122)) : (tp_sc 72 = b0 ∧ tp_sc 73 = b1 ∧ tp_sc 74 = 32) ↔ (b0) * 256 + b1 = 29807 := by rw [tsc_72, tsc_73, tsc_74]; omega
theorem t_W_13_2 {b0 b1 : Int} (h : (97 ≤ b0 ∧ b0 ≤ 122) ∧ (97 ≤ b1 ∧ b1 ≤ 122)) : (tp_sc 78 = b0 ∧ tp_sc 79 = b1 ∧ tp_sc 80 = 32) ↔ (b0) * 256 + b1 = 1869507705 := by rw [tsc_78, tsc_79, tsc_80]; omega
theorem t_W_14_2 {b0 b1 : Int} (h : (97 ≤ b0 ∧ b0 ≤ 122) ∧ (97 ≤ b1 ∧ b1 ≤ 122)) : (tp_sc 84 = b0 ∧ tp_sc 85 = b1 ∧ tp_sc 86 = 32) ↔ (b0) * 256 + b1 = 1919905645 := by rw [tsc_84, tsc_85, tsc_86]; omega
theorem t_W_15_2 {b0 b1 : Int} (h : (97 ≤ b0 ∧ b0 ≤ 122) ∧ (97 ≤ b1 ∧ b1 ≤ 122)) : (tp_sc 90 = b0 ∧ tp_sc 91 = b1 ∧ tp_sc 92 = 32) ↔ (b0) * 256 + b1 = 1918989413 := by rw [tsc_90, tsc_91, tsc_92]; omega
theorem t_W_16_2 {b0 b1 : Int} (h : (97 ≤ b0 ∧ b0 ≤ 122) ∧ (97 ≤ b1 ∧ b1 ≤ 122)) : (tp_sc 96 = b0 ∧ tp_sc 97 = b1 ∧ tp_sc 98 = 32) ↔ (b0) * 256 + b1 = 110 := by rw [tsc_96, tsc_97, tsc_98]; omega
theorem t_W_17_2 {b0 b1 : Int} (h : (97 ≤ b0 ∧ b0 ≤ 122) ∧ (97 ≤ b1 ∧ b1 ≤ 122)) : (tp_sc 102 = b0 ∧ tp_sc 103 = b1 ∧ tp_sc 104 = 32) ↔ (b0) * 256 + b1 = 121 := by rw [tsc_102, tsc_103, tsc_104]; omega
theorem t_W_18_2 {b0 b1 : Int} (h : (97 ≤ b0 ∧ b0 ≤ 122) ∧ (97 ≤ b1 ∧ b1 ≤ 122)) : (tp_sc 108 = b0 ∧ tp_sc 109 = b1 ∧ tp_sc 110 = 32) ↔ (b0) * 256 + b1 = 26479 := by rw [tsc_108, tsc_109, tsc_110]; omega
theorem t_W_19_2 {b0 b1 : Int} (h : (97 ≤ b0 ∧ b0 ≤ 122) ∧ (97 ≤ b1 ∧ b1 ≤ 122)) : (tp_sc 114 = b0 ∧ tp_sc 115 = b1 ∧ tp_sc 116 = 32) ↔ (b0) * 256 + b1 = 1819243365 := by rw [tsc_114, tsc_115, tsc_116]; omega
theorem t_W_20_2 {b0 b1 : Int} (h : (97 ≤ b0 ∧ b0 ≤ 122) ∧ (97 ≤ b1 ∧ b1 ≤ 122)) : (tp_sc 120 = b0 ∧ tp_sc 121 = b1 ∧ tp_sc 122 = 32) ↔ (b0) * 256 + b1 = 7561591 := by rw [tsc_120, tsc_121, tsc_122]; omega
theorem t_W_0_3 {b0 b1 b2 : Int} (h : (97 ≤ b0 ∧ b0 ≤ 122) ∧ (97 ≤ b1 ∧ b1 ≤ 122) ∧ (97 ≤ b2 ∧ b2 ≤ 122)) : (tp_sc 0 = b0 ∧ tp_sc 1 = b1 ∧ tp_sc 2 = b2 ∧ tp_sc 3 = 32) ↔ ((b0) * 256 + b1) * 256 + b2 = 482854660462 := by rw [tsc_0, tsc_1, tsc_2, tsc_3]; omega
theorem t_W_1_3 {b0 b1 b2 : Int} (h : (97 ≤ b0 ∧ b0 ≤ 122) ∧ (97 ≤ b1 ∧ b1 ≤ 122) ∧ (97 ≤ b2 ∧ b2 ≤ 122)) : (tp_sc 6 = b0 ∧ tp_sc 7 = b1 ∧ tp_sc 8 = b2 ∧ tp_sc 9 = 32) ↔ ((b0) * 256 + b1) * 256 + b2 = 26982 := by rw [tsc_6, tsc_7, tsc_8, tsc_9]; omega
theorem t_W_2_3 {b0 b1 b2 : Int} (h : (97 ≤ b0 ∧ b0 ≤ 122) ∧ (97 ≤ b1 ∧ b1 ≤ 122) ∧ (97 ≤ b2 ∧ b2 ≤ 122)) : (tp_sc 12 = b0 ∧ tp_sc 13 = b1 ∧ tp_sc 14 = b2 ∧ tp_sc 15 = 32) ↔ ((b0) * 256 + b1) * 256 + b2 = 1786080624 := by rw [tsc_12, tsc_13, tsc_14, tsc_15]; omega
theorem t_W_3_3 {b0 b1 b2 : Int} (h : (97 ≤ b0 ∧ b0 ≤ 122) ∧ (97 ≤ b1 ∧ b1 ≤ 122) ∧ (97 ≤ b2 ∧ b2 ≤ 122)) : (tp_sc 18 = b0 ∧ tp_sc 19 = b1 ∧ tp_sc 20 = b2 ∧ tp_sc 21 = 32) ↔ ((b0) * 256 + b1) * 256 + b2 = 1667329132 := by rw [tsc_18, tsc_19, tsc_20, tsc_21]; omega
theorem t_W_4_3 {b0 b1 b2 : Int} (h : (97 ≤ b0 ∧ b0 ≤ 122) ∧ (97 ≤ b1 ∧ b1 ≤ 122) ∧ (97 ≤ b2 ∧ b2 ≤ 122)) : (tp_sc 24 = b0 ∧ tp_sc 25 = b1 ∧ tp_sc 26 = b2 ∧ tp_sc 27 = 32) ↔ ((b0) * 256 + b1) * 256 + b2 = 7497076 := by rw [tsc_24, tsc_25, tsc_26, tsc_27]; omega
theorem t_W_5_3 {b0 b1 b2 : Int} (h : (97 ≤ b0 ∧ b0 ≤ 122) ∧ (97 ≤ b1 ∧ b1 ≤ 122) ∧ (97 ≤ b2 ∧ b2 ≤ 122)) : (tp_sc 30 = b0 ∧ tp_sc 31 = b1 ∧ tp_sc 32 = b2 ∧ tp_sc 33 = 32) ↔ ((b0) * 256 + b1) * 256 + b2 = 7760225 := by rw [tsc_30, tsc_31, tsc_32, tsc_33]; omega
theorem t_W_6_3 {b0 b1 b2 : Int} (h : (97 ≤ b0 ∧ b0 ≤ 122) ∧ (97 ≤ b1 ∧ b1 ≤ 122) ∧ (97 ≤ b2 ∧ b2 ≤ 122)) : (tp_sc 36 = b0 ∧ tp_sc 37 = b1 ∧ tp_sc 38 = b2 ∧ tp_sc 39 = 32) ↔ ((b0) * 256 + b1) * 256 + b2 = 1937010544 := by rw [tsc_36, tsc_37, tsc_38, tsc_39]; omega
theorem t_W_7_3 {b0 b1 b2 : Int} (h : (97 ≤ b0 ∧ b0 ≤ 122) ∧ (97 ≤ b1 ∧ b1 ≤ 122) ∧ (97 ≤ b2 ∧ b2 ≤ 122)) : (tp_sc 42 = b0 ∧ tp_sc 43 = b1 ∧ tp_sc 44 = b2 ∧ tp_sc 45 = 32) ↔ ((b0) * 256 + b1) * 256 + b2 = 1836016741 := by rw [tsc_42, tsc_43, tsc_44, tsc_45]; omega
theorem t_W_8_3 {b0 b1 b2 : Int} (h : (97 ≤ b0 ∧ b0 ≤ 122) ∧ (97 ≤ b1 ∧ b1 ≤ 122) ∧ (97 ≤ b2 ∧ b2 ≤ 122)) : (tp_sc 48 = b0 ∧ tp_sc 49 = b1 ∧ tp_sc 50 = b2 ∧ tp_sc 51 = 32) ↔ ((b0) * 256 + b1) * 256 + b2 = 1651078259 := by rw [tsc_48, tsc_49, tsc_50, tsc_51]; omega
theorem t_W_9_3 {b0 b1 b2 : Int} (h : (97 ≤ b0 ∧ b0 ≤ 122) ∧ (97 ≤ b1 ∧ b1 ≤ 122) ∧ (97 ≤ b2 ∧ b2 ≤ 122)) : (tp_sc 54 = b0 ∧ tp_sc 55 = b1 ∧ tp_sc 56 = b2 ∧ tp_sc 57 = 32) ↔ ((b0) * 256 + b1) * 256 + b2 = 1684366704 := by rw [tsc_54, tsc_55, tsc_56, tsc_57]; omega
theorem t_W_10_3 {b0 b1 b2 : Int} (h : (97 ≤ b0 ∧ b0 ≤ 122) ∧ (97 ≤ b1 ∧ b1 ≤ 122) ∧ (97 ≤ b2 ∧ b2 ≤ 122)) : (tp_sc 60 = b0 ∧ tp_sc 61 = b1 ∧ tp_sc 62 = b2 ∧ tp_sc 63 = 32) ↔ ((b0) * 256 + b1) * 256 + b2 = 1937337955 := by rw [tsc_60, tsc_61, tsc_62, tsc_63]; omega
theorem t_W_11_3 {b0 b1 b2 : Int} (h : (97 ≤ b0 ∧ b0 ≤ 122) ∧ (97 ≤ b1 ∧ b1 ≤ 122) ∧ (97 ≤ b2 ∧ b2 ≤ 122)) : (tp_sc 66 = b0 ∧ tp_sc 67 = b1 ∧ tp_sc 68 = b2 ∧ tp_sc 69 = 32) ↔ ((b0) * 256 + b1) * 256 + b2 = 1718775661 := by rw [tsc_66, tsc_67, tsc_68, tsc_69]; omega
theorem t_W_12_3 {b0 b1 b2 : Int} (h : (97 ≤ b0 ∧ b0 ≤ 122) ∧ (97 ≤ b1 ∧ b1 ≤ 122) ∧ (97 ≤ b2 ∧ b2 ≤ 122)) : (tp_sc 72 = b0 ∧ tp_sc 73 = b1 ∧ tp_sc 74 = b2 ∧ tp_sc 75 = 32) ↔ ((b0) * 256 + b1) * 256 + b2 = 29807 := by rw [tsc_72, tsc_73, tsc_74, tsc_75]; omega
theorem t_W_13_3 {b0 b1 b2 : Int} (h : (97 ≤ b0 ∧ b0 ≤ 122) ∧ (97 ≤ b1 ∧ b1 ≤ 122) ∧ (97 ≤ b2 ∧ b2 ≤ 122)) : (tp_sc 78 = b0 ∧ tp_sc 79 = b1 ∧ tp_sc 80 = b2 ∧ tp_sc 81 = 32) ↔ ((b0) * 256 + b1) * 256 + b2 = 1869507705 := by rw [tsc_78, tsc_79, tsc_80, tsc_81]; omega
theorem t_W_14_3 {b0 b1 b2 : Int} (h : (97 ≤ b0 ∧ b0 ≤ 122) ∧ (97 ≤ b1 ∧ b1 ≤ 122) ∧ (97 ≤ b2 ∧ b2 ≤ 122)) : (tp_sc 84 = b0 ∧ tp_sc 85 = b1 ∧ tp_sc 86 = b2 ∧ tp_sc 87 = 32) ↔ ((b0) * 256 + b1) * 256 + b2 = 1919905645 := by rw [tsc_84, tsc_85, tsc_86, tsc_87]; omega
theorem t_W_15_3 {b0 b1 b2 : Int} (h : (97 ≤ b0 ∧ b0 ≤ 122) ∧ (97 ≤ b1 ∧ b1 ≤ 122) ∧ (97 ≤ b2 ∧ b2 ≤ 122)) : (tp_sc 90 = b0 ∧ tp_sc 91 = b1 ∧ tp_sc 92 = b2 ∧ tp_sc 93 = 32) ↔ ((b0) * 256 + b1) * 256 + b2 = 1918989413 := by rw [tsc_90, tsc_91, tsc_92, tsc_93]; omega
theorem t_W_16_3 {b0 b1 b2 : Int} (h : (97 ≤ b0 ∧ b0 ≤ 122) ∧ (97 ≤ b1 ∧ b1 ≤ 122) ∧ (97 ≤ b2 ∧ b2 ≤ 122)) : (tp_sc 96 = b0 ∧ tp_sc 97 = b1 ∧ tp_sc 98 = b2 ∧ tp_sc 99 = 32) ↔ ((b0) * 256 + b1) * 256 + b2 = 110 := by rw [tsc_96, tsc_97, tsc_98, tsc_99]; omega
theorem t_W_17_3 {b0 b1 b2 : Int} (h : (97 ≤ b0 ∧ b0 ≤ 122) ∧ (97 ≤ b1 ∧ b1 ≤ 122) ∧ (97 ≤ b2 ∧ b2 ≤ 122)) : (tp_sc 102 = b0 ∧ tp_sc 103 = b1 ∧ tp_sc 104 = b2 ∧ tp_sc 105 = 32) ↔ ((b0) * 256 + b1) * 256 + b2 = 121 := by rw [tsc_102, tsc_103, tsc_104, tsc_105]; omega
theorem t_W_18_3 {b0 b1 b2 : Int} (h : (97 ≤ b0 ∧ b0 ≤ 122) ∧ (97 ≤ b1 ∧ b1 ≤ 122) ∧ (97 ≤ b2 ∧ b2 ≤ 122)) : (tp_sc 108 = b0 ∧ tp_sc 109 = b1 ∧ tp_sc 110 = b2 ∧ tp_sc 111 = 32) ↔ ((b0) * 256 + b1) * 256 + b2 = 26479 := by rw [tsc_108, tsc_109, tsc_110, tsc_111]; omega
theorem t_W_19_3 {b0 b1 b2 : Int} (h : (97 ≤ b0 ∧ b0 ≤ 122) ∧ (97 ≤ b1 ∧ b1 ≤ 122) ∧ (97 ≤ b2 ∧ b2 ≤ 122)) : (tp_sc 114 = b0 ∧ tp_sc 115 = b1 ∧ tp_sc 116 = b2 ∧ tp_sc 117 = 32) ↔ ((b0) * 256 + b1) * 256 + b2 = 1819243365 := by rw [tsc_114, tsc_115, tsc_116, tsc_117]; omega
theorem t_W_20_3 {b0 b1 b2 : Int} (h : (97 ≤ b0 ∧ b0 ≤ 122) ∧ (97 ≤ b1 ∧ b1 ≤ 122) ∧ (97 ≤ b2 ∧ b2 ≤ 122)) : (tp_sc 120 = b0 ∧ tp_sc 121 = b1 ∧ tp_sc 122 = b2 ∧ tp_sc 123 = 32) ↔ ((b0) * 256 + b1) * 256 + b2 = 7561591 := by rw [tsc_120, tsc_121, tsc_122, tsc_123]; omega
theorem t_W_0_4 {b0 b1 b2 b3 : Int} (h : (97 ≤ b0 ∧ b0 ≤ 122) ∧ (97 ≤ b1 ∧ b1 ≤ 122) ∧ (97 ≤ b2 ∧ b2 ≤ 122) ∧ (97 ≤ b3 ∧ b3 ≤ 122)) : (tp_sc 0 = b0 ∧ tp_sc 1 = b1 ∧ tp_sc 2 = b2 ∧ tp_sc 3 = b3 ∧ tp_sc 4 = 32) ↔ (((b0) * 256 + b1) * 256 + b2) * 256 + b3 = 482854660462 := by rw [tsc_0, tsc_1, tsc_2, tsc_3, tsc_4]; omega
theorem t_W_1_4 {b0 b1 b2 b3 : Int} (h : (97 ≤ b0 ∧ b0 ≤ 122) ∧ (97 ≤ b1 ∧ b1 ≤ 122) ∧ (97 ≤ b2 ∧ b2 ≤ 122) ∧ (97 ≤ b3 ∧ b3 ≤ 122)) : (tp_sc 6 = b0 ∧ tp_sc 7 = b1 ∧ tp_sc 8 = b2 ∧ tp_sc 9 = b3 ∧ tp_sc 10 = 32) ↔ (((b0) * 256 + b1) * 256 + b2) * 256 + b3 = 26982 := by rw [tsc_6, tsc_7, tsc_8, tsc_9, tsc_10]; omega
theorem t_W_2_4 {b0 b1 b2 b3 : Int} (h : (97 ≤ b0 ∧ b0 ≤ 122) ∧ (97 ≤ b1 ∧ b1 ≤ 122) ∧ (97 ≤ b2 ∧ b2 ≤ 122) ∧ (97 ≤ b3 ∧ b3 ≤ 122)) : (tp_sc 12 = b0 ∧ tp_sc 13 = b1 ∧ tp_sc 14 = b2 ∧ tp_sc 15 = b3 ∧ tp_sc 16 = 32) ↔ (((b0) * 256 + b1) * 256 + b2) * 256 + b3 = 1786080624 := by rw [tsc_12, tsc_13, tsc_14, tsc_15, tsc_16]; omega
theorem t_W_3_4 {b0 b1 b2 b3 : Int} (h : (97 ≤ b0 ∧ b0 ≤ 122) ∧ (97 ≤ b1 ∧ b1 ≤ 122) ∧ (97 ≤ b2 ∧ b2 ≤ 122) ∧ (97 ≤ b3 ∧ b3 ≤ 122)) : (tp_sc 18 = b0 ∧ tp_sc 19 = b1 ∧ tp_sc 20 = b2 ∧ tp_sc 21 = b3 ∧ tp_sc 22 = 32) ↔ (((b0) * 256 + b1) * 256 + b2) * 256 + b3 = 1667329132 := by rw [tsc_18, tsc_19, tsc_20, tsc_21, tsc_22]; omega
theorem t_W_4_4 {b0 b1 b2 b3 : Int} (h : (97 ≤ b0 ∧ b0 ≤ 122) ∧ (97 ≤ b1 ∧ b1 ≤ 122) ∧ (97 ≤ b2 ∧ b2 ≤ 122) ∧ (97 ≤ b3 ∧ b3 ≤ 122)) : (tp_sc 24 = b0 ∧ tp_sc 25 = b1 ∧ tp_sc 26 = b2 ∧ tp_sc 27 = b3 ∧ tp_sc 28 = 32) ↔ (((b0) * 256 + b1) * 256 + b2) * 256 + b3 = 7497076 := by rw [tsc_24, tsc_25, tsc_26, tsc_27, tsc_28]; omega
theorem t_W_5_4 {b0 b1 b2 b3 : Int} (h : (97 ≤ b0 ∧ b0 ≤ 122) ∧ (97 ≤ b1 ∧ b1 ≤ 122) ∧ (97 ≤ b2 ∧ b2 ≤ 122) ∧ (97 ≤ b3 ∧ b3 ≤ 122)) : (tp_sc 30 = b0 ∧ tp_sc 31 = b1 ∧ tp_sc 32 = b2 ∧ tp_sc 33 = b3 ∧ tp_sc 34 = 32) ↔ (((b0) * 256 + b1) * 256 + b2) * 256 + b3 = 7760225 := by rw [tsc_30, tsc_31, tsc_32, tsc_33, tsc_34]; omega
theorem t_W_6_4 {b0 b1 b2 b3 : Int} (h : (97 ≤ b0 ∧ b0 ≤ 122) ∧ (97 ≤ b1 ∧ b1 ≤ 122) ∧ (97 ≤ b2 ∧ b2 ≤ 122) ∧ (97 ≤ b3 ∧ b3 ≤ 122)) : (tp_sc 36 = b0 ∧ tp_sc 37 = b1 ∧ tp_sc 38 = b2 ∧ tp_sc 39 = b3 ∧ tp_sc 40 = 32) ↔ (((b0) * 256 + b1) * 256 + b2) * 256 + b3 = 1937010544 := by rw [tsc_36, tsc_37, tsc_38, tsc_39, tsc_40]; omega
theorem t_W_7_4 {b0 b1 b2 b3 : Int} (h : (97 ≤ b0 ∧ b0 ≤ 122) ∧ (97 ≤ b1 ∧ b1 ≤ 122) ∧ (97 ≤ b2 ∧ b2 ≤ 122) ∧ (97 ≤ b3 ∧ b3 ≤ 122)) : (tp_sc 42 = b0 ∧ tp_sc 43 = b1 ∧ tp_sc 44 = b2 ∧ tp_sc 45 = b3 ∧ tp_sc 46 = 32) ↔ (((b0) * 256 + b1) * 256 + b2) * 256 + b3 = 1836016741 := by rw [tsc_42, tsc_43, tsc_44, tsc_45, tsc_46]; omega
theorem t_W_8_4 {b0 b1 b2 b3 : Int} (h : (97 ≤ b0 ∧ b0 ≤ 122) ∧ (97 ≤ b1 ∧ b1 ≤ 122) ∧ (97 ≤ b2 ∧ b2 ≤ 122) ∧ (97 ≤ b3 ∧ b3 ≤ 122)) : (tp_sc 48 = b0 ∧ tp_sc 49 = b1 ∧ tp_sc 50 = b2 ∧ tp_sc 51 = b3 ∧ tp_sc 52 = 32) ↔ (((b0) * 256 + b1) * 256 + b2) * 256 + b3 = 1651078259 := by rw [tsc_48, tsc_49, tsc_50, tsc_51, tsc_52]; omega
theorem t_W_9_4 {b0 b1 b2 b3 : Int} (h : (97 ≤ b0 ∧ b0 ≤ 122) ∧ (97 ≤ b1 ∧ b1 ≤ 122) ∧ (97 ≤ b2 ∧ b2 ≤ 122) ∧ (97 ≤ b3 ∧ b3 ≤ 122)) : (tp_sc 54 = b0 ∧ tp_sc 55 = b1 ∧ tp_sc 56 = b2 ∧ tp_sc 57 = b3 ∧ tp_sc 58 = 32) ↔ (((b0) * 256 + b1) * 256 + b2) * 256 + b3 = 1684366704 := by rw [tsc_54, tsc_55, tsc_56, tsc_57, tsc_58]; omega
theorem t_W_10_4 {b0 b1 b2 b3 : Int} (h : (97 ≤ b0 ∧ b0 ≤ 122) ∧ (97 ≤ b1 ∧ b1 ≤ 122) ∧ (97 ≤ b2 ∧ b2 ≤ 122) ∧ (97 ≤ b3 ∧ b3 ≤ 122)) : (tp_sc 60 = b0 ∧ tp_sc 61 = b1 ∧ tp_sc 62 = b2 ∧ tp_sc 63 = b3 ∧ tp_sc 64 = 32) ↔ (((b0) * 256 + b1) * 256 + b2) * 256 + b3 = 1937337955 := by rw [tsc_60, tsc_61, tsc_62, tsc_63, tsc_64]; omega
theorem t_W_11_4 {b0 b1 b2 b3 : Int} (h : (97 ≤ b0 ∧ b0 ≤ 122) ∧ (97 ≤ b1 ∧ b1 ≤ 122) ∧ (97 ≤ b2 ∧ b2 ≤ 122) ∧ (97 ≤ b3 ∧ b3 ≤ 122)) : (tp_sc 66 = b0 ∧ tp_sc 67 = b1 ∧ tp_sc 68 = b2 ∧ tp_sc 69 = b3 ∧ tp_sc 70 = 32) ↔ (((b0) * 256 + b1) * 256 + b2) * 256 + b3 = 1718775661 := by rw [tsc_66, tsc_67, tsc_68, tsc_69, tsc_70]; omega
theorem t_W_12_4 {b0 b1 b2 b3 : Int} (h : (97 ≤ b0 ∧ b0 ≤ 122) ∧ (97 ≤ b1 ∧ b1 ≤ 122) ∧ (97 ≤ b2 ∧ b2 ≤ 122) ∧ (97 ≤ b3 ∧ b3 ≤ 122)) : (tp_sc 72 = b0 ∧ tp_sc 73 = b1 ∧ tp_sc 74 = b2 ∧ tp_sc 75 = b3 ∧ tp_sc 76 = 32) ↔ (((b0) * 256 + b1) * 256 + b2) * 256 + b3 = 29807 := by rw [tsc_72, tsc_73, tsc_74, tsc_75, tsc_76]; omega
theorem t_W_13_4 {b0 b1 b2 b3 : Int} (h : (97 ≤ b0 ∧ b0 ≤ 122) ∧ (97 ≤ b1 ∧ b1 ≤ 122) ∧ (97 ≤ b2 ∧ b2 ≤ 122) ∧ (97 ≤ b3 ∧ b3 ≤ 122)) : (tp_sc 78 = b0 ∧ tp_sc 79 = b1 ∧ tp_sc 80 = b2 ∧ tp_sc 81 = b3 ∧ tp_sc 82 = 32) ↔ (((b0) * 256 + b1) * 256 + b2) * 256 + b3 = 1869507705 := by rw [tsc_78, tsc_79, tsc_80, tsc_81, tsc_82]; omega
theorem t_W_14_4 {b0 b1 b2 b3 : Int} (h : (97 ≤ b0 ∧ b0 ≤ 122) ∧ (97 ≤ b1 ∧ b1 ≤ 122) ∧ (97 ≤ b2 ∧ b2 ≤ 122) ∧ (97 ≤ b3 ∧ b3 ≤ 122)) : (tp_sc 84 = b0 ∧ tp_sc 85 = b1 ∧ tp_sc 86 = b2 ∧ tp_sc 87 = b3 ∧ tp_sc 88 = 32) ↔ (((b0) * 256 + b1) * 256 + b2) * 256 + b3 = 1919905645 := by rw [tsc_84, tsc_85, tsc_86, tsc_87, tsc_88]; omega
theorem t_W_15_4 {b0 b1 b2 b3 : Int} (h : (97 ≤ b0 ∧ b0 ≤ 122) ∧ (97 ≤ b1 ∧ b1 ≤ 122) ∧ (97 ≤ b2 ∧ b2 ≤ 122) ∧ (97 ≤ b3 ∧ b3 ≤ 122)) : (tp_sc 90 = b0 ∧ tp_sc 91 = b1 ∧ tp_sc 92 = b2 ∧ tp_sc 93 = b3 ∧ tp_sc 94 = 32) ↔ (((b0) * 256 + b1) * 256 + b2) * 256 + b3 = 1918989413 := by rw [tsc_90, tsc_91, tsc_92, tsc_93, tsc_94]; omega
theorem t_W_16_4 {b0 b1 b2 b3 : Int} (h : (97 ≤ b0 ∧ b0 ≤ 122) ∧ (97 ≤ b1 ∧ b1 ≤ 122) ∧ (97 ≤ b2 ∧ b2 ≤ 122) ∧ (97 ≤ b3 ∧ b3 ≤ 122)) : (tp_sc 96 = b0 ∧ tp_sc 97 = b1 ∧ tp_sc 98 = b2 ∧ tp_sc 99 = b3 ∧ tp_sc 100 = 32) ↔ (((b0) * 256 + b1) * 256 + b2) * 256 + b3 = 110 := by rw [tsc_96, tsc_97, tsc_98, tsc_99, tsc_100]; omega
theorem t_W_17_4 {b0 b1 b2 b3 : Int} (h : (97 ≤ b0 ∧ b0 ≤ 122) ∧ (97 ≤ b1 ∧ b1 ≤ 122) ∧ (97 ≤ b2 ∧ b2 ≤ 122) ∧ (97 ≤ b3 ∧ b3 ≤ 122)) : (tp_sc 102 = b0 ∧ tp_sc 103 = b1 ∧ tp_sc 104 = b2 ∧ tp_sc 105 = b3 ∧ tp_sc 106 = 32) ↔ (((b0) * 256 + b1) * 256 + b2) * 256 + b3 = 121 := by rw [tsc_102, tsc_103, tsc_104, tsc_105, tsc_106]; omega
theorem t_W_18_4 {b0 b1 b2 b3 : Int} (h : (97 ≤ b0 ∧ b0 ≤ 122) ∧ (97 ≤ b1 ∧ b1 ≤ 122) ∧ (97 ≤ b2 ∧ b2 ≤ 122) ∧ (97 ≤ b3 ∧ b3 ≤ 122)) : (tp_sc 108 = b0 ∧ tp_sc 109 = b1 ∧ tp_sc 110 = b2 ∧ tp_sc 111 = b3 ∧ tp_sc 112 = 32) ↔ (((b0) * 256 + b1) * 256 + b2) * 256 + b3 = 26479 := by rw [tsc_108, tsc_109, tsc_110, tsc_111, tsc_112]; omega
theorem t_W_19_4 {b0 b1 b2 b3 : Int} (h : (97 ≤ b0 ∧ b0 ≤ 122) ∧ (97 ≤ b1 ∧ b1 ≤ 122) ∧ (97 ≤ b2 ∧ b2 ≤ 122) ∧ (97 ≤ b3 ∧ b3 ≤ 122)) : (tp_sc 114 = b0 ∧ tp_sc 115 = b1 ∧ tp_sc 116 = b2 ∧ tp_sc 117 = b3 ∧ tp_sc 118 = 32) ↔ (((b0) * 256 + b1) * 256 + b2) * 256 + b3 = 1819243365 := by rw [tsc_114, tsc_115, tsc_116, tsc_117, tsc_118]; omega
theorem t_W_20_4 {b0 b1 b2 b3 : Int} (h : (97 ≤ b0 ∧ b0 ≤ 122) ∧ (97 ≤ b1 ∧ b1 ≤ 122) ∧ (97 ≤ b2 ∧ b2 ≤ 122) ∧ (97 ≤ b3 ∧ b3 ≤ 122)) : (tp_sc 120 = b0 ∧ tp_sc 121 = b1 ∧ tp_sc 122 = b2 ∧ tp_sc 123 = b3 ∧ tp_sc 124 = 32) ↔ (((b0) * 256 + b1) * 256 + b2) * 256 + b3 = 7561591 := by rw [tsc_120, tsc_121, tsc_122, tsc_123, tsc_124]; omega
theorem t_W_0_5 {b0 b1 b2 b3 b4 : Int} (h : (97 ≤ b0 ∧ b0 ≤ 122) ∧ (97 ≤ b1 ∧ b1 ≤ 122) ∧ (97 ≤ b2 ∧ b2 ≤ 122) ∧ (97 ≤ b3 ∧ b3 ≤ 122) ∧ (97 ≤ b4 ∧ b4 ≤ 122)) : (tp_sc 0 = b0 ∧ tp_sc 1 = b1 ∧ tp_sc 2 = b2 ∧ tp_sc 3 = b3 ∧ tp_sc 4 = b4 ∧ tp_sc 5 = 32) ↔ ((((b0) * 256 + b1) * 256 + b2) * 256 + b3) * 256 + b4 = 482854660462 := by rw [tsc_0, tsc_1, tsc_2, tsc_3, tsc_4, tsc_5]; omega
theorem t_W_1_5 {b0 b1 b2 b3 b4 : Int} (h : (97 ≤ b0 ∧ b0 ≤ 122) ∧ (97 ≤ b1 ∧ b1 ≤ 122) ∧ (97 ≤ b2 ∧ b2 ≤ 122) ∧ (97 ≤ b3 ∧ b3 ≤ 122) ∧ (97 ≤ b4 ∧ b4 ≤ 122)) : (tp_sc 6 = b0 ∧ tp_sc 7 = b1 ∧ tp_sc 8 = b2 ∧ tp_sc 9 = b3 ∧ tp_sc 10 = b4 ∧ tp_sc 11 = 32) ↔ ((((b0) * 256 + b1) * 256 + b2) * 256 + b3) * 256 + b4 = 26982 := by rw [tsc_6, tsc_7, tsc_8, tsc_9, tsc_10, tsc_11]; omega
theorem t_W_2_5 {b0 b1 b2 b3 b4 : Int} (h : (97 ≤ b0 ∧ b0 ≤ 122) ∧ (97 ≤ b1 ∧ b1 ≤ 122) ∧ (97 ≤ b2 ∧ b2 ≤ 122) ∧ (97 ≤ b3 ∧ b3 ≤ 122) ∧ (97 ≤ b4 ∧ b4 ≤ 122)) : (tp_sc 12 = b0 ∧ tp_sc 13 = b1 ∧ tp_sc 14 = b2 ∧ tp_sc 15 = b3 ∧ tp_sc 16 = b4 ∧ tp_sc 17 = 32) ↔ ((((b0) * 256 + b1) * 256 + b2) * 256 + b3) * 256 + b4 = 1786080624 := by rw [tsc_12, tsc_13, tsc_14, tsc_15, tsc_16, tsc_17]; omega
theorem t_W_3_5 {b0 b1 b2 b3 b4 : Int} (h : (97 ≤ b0 ∧ b0 ≤ 122) ∧ (97 ≤ b1 ∧ b1 ≤ 122) ∧ (97 ≤ b2 ∧ b2 ≤ 122) ∧ (97 ≤ b3 ∧ b3 ≤ 122) ∧ (97 ≤ b4 ∧ b4 ≤ 122)) : (tp_sc 18 = b0 ∧ tp_sc 19 = b1 ∧ tp_sc 20 = b2 ∧ tp_sc 21 = b3 ∧ tp_sc 22 = b4 ∧ tp_sc 23 = 32) ↔ ((((b0) * 256 + b1) * 256 + b2) * 256 + b3) * 256 + b4 = 1667329132 := by rw [tsc_18, tsc_19, tsc_20, tsc_21, tsc_22, tsc_23]; omega
theorem t_W_4_5 {b0 b1 b2 b3 b4 : Int} (h : (97 ≤ b0 ∧ b0 ≤ 122) ∧ (97 ≤ b1 ∧ b1 ≤ 122) ∧ (97 ≤ b2 ∧ b2 ≤ 122) ∧ (97 ≤ b3 ∧ b3 ≤ 122) ∧ (97 ≤ b4 ∧ b4 ≤ 122)) : (tp_sc 24 = b0 ∧ tp_sc 25 = b1 ∧ tp_sc 26 = b2 ∧ tp_sc 27 = b3 ∧ tp_sc 28 = b4 ∧ tp_sc 29 = 32) ↔ ((((b0) * 256 + b1) * 256 + b2) * 256 + b3) * 256 + b4 = 7497076 := by rw [tsc_24, tsc_25, tsc_26, tsc_27, tsc_28, tsc_29]; omega
theorem t_W_5_5 {b0 b1 b2 b3 b4 : Int} (h : (97 ≤ b0 ∧ b0 ≤ 122) ∧ (97 ≤ b1 ∧ b1 ≤ 122) ∧ (97 ≤ b2 ∧ b2 ≤ 122) ∧ (97 ≤ b3 ∧ b3 ≤ 122) ∧ (97 ≤ b4 ∧ b4 ≤ 122)) : (tp_sc 30 = b0 ∧ tp_sc 31 = b1 ∧ tp_sc 32 = b2 ∧ tp_sc 33 = b3 ∧ tp_sc 34 = b4 ∧ tp_sc 35 = 32) ↔ ((((b0) * 256 + b1) * 256 + b2) * 256 + b3) * 256 + b4 = 7760225 := by rw [tsc_30, tsc_31, tsc_32, tsc_33, tsc_34, tsc_35]; omega
theorem t_W_6_5 {b0 b1 b2 b3 b4 : Int} (h : (97 ≤ b0 ∧ b0 ≤ 122) ∧ (97 ≤ b1 ∧ b1 ≤ 122) ∧ (97 ≤ b2 ∧ b2 ≤ 122) ∧ (97 ≤ b3 ∧ b3 ≤ 122) ∧ (97 ≤ b4 ∧ b4 ≤ 122)) : (tp_sc 36 = b0 ∧ tp_sc 37 = b1 ∧ tp_sc 38 = b2 ∧ tp_sc 39 = b3 ∧ tp_sc 40 = b4 ∧ tp_sc 41 = 32) ↔ ((((b0) * 256 + b1) * 256 + b2) * 256 + b3) * 256 + b4 = 1937010544 := by rw [tsc_36, tsc_37, tsc_38, tsc_39, tsc_40, tsc_41]; omega
theorem t_W_7_5 {b0 b1 b2 b3 b4 : Int} (h : (97 ≤ b0 ∧ b0 ≤ 122) ∧ (97 ≤ b1 ∧ b1 ≤ 122) ∧ (97 ≤ b2 ∧ b2 ≤ 122) ∧ (97 ≤ b3 ∧ b3 ≤ 122) ∧ (97 ≤ b4 ∧ b4 ≤ 122)) : (tp_sc 42 = b0 ∧ tp_sc 43 = b1 ∧ tp_sc 44 = b2 ∧ tp_sc 45 = b3 ∧ tp_sc 46 = b4 ∧ tp_sc 47 = 32) ↔ ((((b0) * 256 + b1) * 256 + b2) * 256 + b3) * 256 + b4 = 1836016741 := by rw [tsc_42, tsc_43, tsc_44, tsc_45, tsc_46, tsc_47]; omega
theorem t_W_8_5 {b0 b1 b2 b3 b4 : Int} (h : (97 ≤ b0 ∧ b0 ≤ 122) ∧ (97 ≤ b1 ∧ b1 ≤ 122) ∧ (97 ≤ b2 ∧ b2 ≤ 122) ∧ (97 ≤ b3 ∧ b3 ≤ 122) ∧ (97 ≤ b4 ∧ b4 ≤ 122)) : (tp_sc 48 = b0 ∧ tp_sc 49 = b1 ∧ tp_sc 50 = b2 ∧ tp_sc 51 = b3 ∧ tp_sc 52 = b4 ∧ tp_sc 53 = 32) ↔ ((((b0) * 256 + b1) * 256 + b2) * 256 + b3) * 256 + b4 = 1651078259 := by rw [tsc_48, tsc_49, tsc_50, tsc_51, tsc_52, tsc_53]; omega
theorem t_W_9_5 {b0 b1 b2 b3 b4 : Int} (h : (97 ≤ b0 ∧ b0 ≤ 122) ∧ (97 ≤ b1 ∧ b1 ≤ 122) ∧ (97 ≤ b2 ∧ b2 ≤ 122) ∧ (97 ≤ b3 ∧ b3 ≤ 122) ∧ (97 ≤ b4 ∧ b4 ≤ 122)) : (tp_sc 54 = b0 ∧ tp_sc 55 = b1 ∧ tp_sc 56 = b2 ∧ tp_sc 57 = b3 ∧ tp_sc 58 = b4 ∧ tp_sc 59 = 32) ↔ ((((b0) * 256 + b1) * 256 + b2) * 256 + b3) * 256 + b4 = 1684366704 := by rw [tsc_54, tsc_55, tsc_56, tsc_57, tsc_58, tsc_59]; omega
theorem t_W_10_5 {b0 b1 b2 b3 b4 : Int} (h : (97 ≤ b0 ∧ b0 ≤ 122) ∧ (97 ≤ b1 ∧ b1 ≤ 122) ∧ (97 ≤ b2 ∧ b2 ≤ 122) ∧ (97 ≤ b3 ∧ b3 ≤ 122) ∧ (97 ≤ b4 ∧ b4 ≤ 122)) : (tp_sc 60 = b0 ∧ tp_sc 61 = b1 ∧ tp_sc 62 = b2 ∧ tp_sc 63 = b3 ∧ tp_sc 64 = b4 ∧ tp_sc 65 = 32) ↔ ((((b0) * 256 + b1) * 256 + b2) * 256 + b3) * 256 + b4 = 1937337955 := by rw [tsc_60, tsc_61, tsc_62, tsc_63, tsc_64, tsc_65]; omega
theorem t_W_11_5 {b0 b1 b2 b3 b4 : Int} (h : (97 ≤ b0 ∧ b0 ≤ 122) ∧ (97 ≤ b1 ∧ b1 ≤ 122) ∧ (97 ≤ b2 ∧ b2 ≤ 122) ∧ (97 ≤ b3 ∧ b3 ≤ 122) ∧ (97 ≤ b4 ∧ b4 ≤ 122)) : (tp_sc 66 = b0 ∧ tp_sc 67 = b1 ∧ tp_sc 68 = b2 ∧ tp_sc 69 = b3 ∧ tp_sc 70 = b4 ∧ tp_sc 71 = 32) ↔ ((((b0) * 256 + b1) * 256 + b2) * 256 + b3) * 256 + b4 = 1718775661 := by rw [tsc_66, tsc_67, tsc_68, tsc_69, tsc_70, tsc_71]; omega
theorem t_W_12_5 {b0 b1 b2 b3 b4 : Int} (h : (97 ≤ b0 ∧ b0 ≤ 122) ∧ (97 ≤ b1 ∧ b1 ≤ 122) ∧ (97 ≤ b2 ∧ b2 ≤ 122) ∧ (97 ≤ b3 ∧ b3 ≤ 122) ∧ (97 ≤ b4 ∧ b4 ≤ 122)) : (tp_sc 72 = b0 ∧ tp_sc 73 = b1 ∧ tp_sc 74 = b2 ∧ tp_sc 75 = b3 ∧ tp_sc 76 = b4 ∧ tp_sc 77 = 32) ↔ ((((b0) * 256 + b1) * 256 + b2) * 256 + b3) * 256 + b4 = 29807 := by rw [tsc_72, tsc_73, tsc_74, tsc_75, tsc_76, tsc_77]; omega
theorem t_W_13_5 {b0 b1 b2 b3 b4 : Int} (h : (97 ≤ b0 ∧ b0 ≤ 122) ∧ (97 ≤ b1 ∧ b1 ≤ 122) ∧ (97 ≤ b2 ∧ b2 ≤ 122) ∧ (97 ≤ b3 ∧ b3 ≤ 122) ∧ (97 ≤ b4 ∧ b4 ≤ 122)) : (tp_sc 78 = b0 ∧ tp_sc 79 = b1 ∧ tp_sc 80 = b2 ∧ tp_sc 81 = b3 ∧ tp_sc 82 = b4 ∧ tp_sc 83 = 32) ↔ ((((b0) * 256 + b1) * 256 + b2) * 256 + b3) * 256 + b4 = 1869507705 := by rw [tsc_78, tsc_79, tsc_80, tsc_81, tsc_82, tsc_83]; omega
theorem t_W_14_5 {b0 b1 b2 b3 b4 : Int} (h : (97 ≤ b0 ∧ b0 ≤ 122) ∧ (97 ≤ b1 ∧ b1 ≤ 122) ∧ (97 ≤ b2 ∧ b2 ≤ 122) ∧ (97 ≤ b3 ∧ b3 ≤ 122) ∧ (97 ≤ b4 ∧ b4 ≤ 122)) : (tp_sc 84 = b0 ∧ tp_sc 85 = b1 ∧ tp_sc 86 = b2 ∧ tp_sc 87 = b3 ∧ tp_sc 88 = b4 ∧ tp_sc 89 = 32) ↔ ((((b0) * 256 + b1) * 256 + b2) * 256 + b3) * 256 + b4 = 1919905645 := by rw [tsc_84, tsc_85, tsc_86, tsc_87, tsc_88, tsc_89]; omega
theorem t_W_15_5 {b0 b1 b2 b3 b4 : Int} (h : (97 ≤ b0 ∧ b0 ≤ 122) ∧ (97 ≤ b1 ∧ b1 ≤ 122) ∧ (97 ≤ b2 ∧ b2 ≤ 122) ∧ (97 ≤ b3 ∧ b3 ≤ 122) ∧ (97 ≤ b4 ∧ b4 ≤ 122)) : (tp_sc 90 = b0 ∧ tp_sc 91 = b1 ∧ tp_sc 92 = b2 ∧ tp_sc 93 = b3 ∧ tp_sc 94 = b4 ∧ tp_sc 95 = 32) ↔ ((((b0) * 256 + b1) * 256 + b2) * 256 + b3) * 256 + b4 = 1918989413 := by rw [tsc_90, tsc_91, tsc_92, tsc_93, tsc_94, tsc_95]; omega
theorem t_W_16_5 {b0 b1 b2 b3 b4 : Int} (h : (97 ≤ b0 ∧ b0 ≤ 122) ∧ (97 ≤ b1 ∧ b1 ≤ 122) ∧ (97 ≤ b2 ∧ b2 ≤ 122) ∧ (97 ≤ b3 ∧ b3 ≤ 122) ∧ (97 ≤ b4 ∧ b4 ≤ 122)) : (tp_sc 96 = b0 ∧ tp_sc 97 = b1 ∧ tp_sc 98 = b2 ∧ tp_sc 99 = b3 ∧ tp_sc 100 = b4 ∧ tp_sc 101 = 32) ↔ ((((b0) * 256 + b1) * 256 + b2) * 256 + b3) * 256 + b4 = 110 := by rw [tsc_96, tsc_97, tsc_98, tsc_99, tsc_100, tsc_101]; omega
theorem t_W_17_5 {b0 b1 b2 b3 b4 : Int} (h : (97 ≤ b0 ∧ b0 ≤ 122) ∧ (97 ≤ b1 ∧ b1 ≤ 122) ∧ (97 ≤ b2 ∧ b2 ≤ 122) ∧ (97 ≤ b3 ∧ b3 ≤ 122) ∧ (97 ≤ b4 ∧ b4 ≤ 122)) : (tp_sc 102 = b0 ∧ tp_sc 103 = b1 ∧ tp_sc 104 = b2 ∧ tp_sc 105 = b3 ∧ tp_sc 106 = b4 ∧ tp_sc 107 = 32) ↔ ((((b0) * 256 + b1) * 256 + b2) * 256 + b3) * 256 + b4 = 121 := by rw [tsc_102, tsc_103, tsc_104, tsc_105, tsc_106, tsc_107]; omega
theorem t_W_18_5 {b0 b1 b2 b3 b4 : Int} (h : (97 ≤ b0 ∧ b0 ≤ 122) ∧ (97 ≤ b1 ∧ b1 ≤ 122) ∧ (97 ≤ b2 ∧ b2 ≤ 122) ∧ (97 ≤ b3 ∧ b3 ≤ 122) ∧ (97 ≤ b4 ∧ b4 ≤ 122)) : (tp_sc 108 = b0 ∧ tp_sc 109 = b1 ∧ tp_sc 110 = b2 ∧ tp_sc 111 = b3 ∧ tp_sc 112 = b4 ∧ tp_sc 113 = 32) ↔ ((((b0) * 256 + b1) * 256 + b2) * 256 + b3) * 256 + b4 = 26479 := by rw [tsc_108, tsc_109, tsc_110, tsc_111, tsc_112, tsc_113]; omega
theorem t_W_19_5 {b0 b1 b2 b3 b4 : Int} (h : (97 ≤ b0 ∧ b0 ≤ 122) ∧ (97 ≤ b1 ∧ b1 ≤ 122) ∧ (97 ≤ b2 ∧ b2 ≤ 122) ∧ (97 ≤ b3 ∧ b3 ≤ 122) ∧ (97 ≤ b4 ∧ b4 ≤ 122)) : (tp_sc 114 = b0 ∧ tp_sc 115 = b1 ∧ tp_sc 116 = b2 ∧ tp_sc 117 = b3 ∧ tp_sc 118 = b4 ∧ tp_sc 119 = 32) ↔ ((((b0) * 256 + b1) * 256 + b2) * 256 + b3) * 256 + b4 = 1819243365 := by rw [tsc_114, tsc_115, tsc_116, tsc_117, tsc_118, tsc_119]; omega
theorem t_W_20_5 {b0 b1 b2 b3 b4 : Int} (h : (97 ≤ b0 ∧ b0 ≤ 122) ∧ (97 ≤ b1 ∧ b1 ≤ 122) ∧ (97 ≤ b2 ∧ b2 ≤ 122) ∧ (97 ≤ b3 ∧ b3 ≤ 122) ∧ (97 ≤ b4 ∧ b4 ≤ 122)) : (tp_sc 120 = b0 ∧ tp_sc 121 = b1 ∧ tp_sc 122 = b2 ∧ tp_sc 123 = b3 ∧ tp_sc 124 = b4 ∧ tp_sc 125 = 32) ↔ ((((b0) * 256 + b1) * 256 + b2) * 256 + b3) * 256 + b4 = 7561591 := by rw [tsc_120, tsc_121, tsc_122, tsc_123, tsc_124, tsc_125]; omega
theorem q_WV_1 (T : Int → Int) (s : Int) : q_WV T s 1 = T (s + 0) := by
  show 0 * 256 + T (s + ((0 : Nat) : Int)) = _
  have e0 : (0 : Int) * 256 + T (s + ((0 : Nat) : Int)) = T (s + 0) := by show (0 : Int) * 256 + T (s + 0) = T (s + 0); omega
  rw [e0]
theorem t_Wn_1 {T : Int → Int} {s w : Int} (hw : 0 ≤ w ∧ w < 21) (hT : ∀ i, 0 ≤ i → i < 1 → 97 ≤ T (s + i) ∧ T (s + i) ≤ 122) : ((∀ i, 0 ≤ i → i < 1 → tp_sc (6 * w + i) = T (s + i)) ∧ tp_sc (6 * w + 1) = 32) ↔ q_WV T s 1 = t_wc w := by
  rw [q_WV_1]
  rcases (show w = 0 ∨ w = 1 ∨ w = 2 ∨ w = 3 ∨ w = 4 ∨ w = 5 ∨ w = 6 ∨ w = 7 ∨ w = 8 ∨ w = 9 ∨ w = 10 ∨ w = 11 ∨ w = 12 ∨ w = 13 ∨ w = 14 ∨ w = 15 ∨ w = 16 ∨ w = 17 ∨ w = 18 ∨ w = 19 ∨ w = 20 by omega) with hq | hq | hq | hq | hq | hq | hq | hq | hq | hq | hq | hq | hq | hq | hq | hq | hq | hq | hq | hq | hq
  · subst hq
    have e9 := t_W_0_1 (b0 := T (s + 0)) (hT 0 (by omega) (by omega))
    constructor
    · intro z
      exact e9.1 ⟨z.1 0 (by omega) (by omega), z.2⟩
    · intro z
      have z2 := e9.2 z
      refine ⟨fun i i0 i1 => ?_, z2.2⟩
      rcases (show i = 0 by omega) with u
      · subst u; exact z2.1
  · subst hq
    have e9 := t_W_1_1 (b0 := T (s + 0)) (hT 0 (by omega) (by omega))
    constructor
    · intro z
      exact e9.1 ⟨z.1 0 (by omega) (by omega), z.2⟩
    · intro z
      have z2 := e9.2 z
      refine ⟨fun i i0 i1 => ?_, z2.2⟩
      rcases (show i = 0 by omega) with u
      · subst u; exact z2.1
  · subst hq
    have e9 := t_W_2_1 (b0 := T (s + 0)) (hT 0 (by omega) (by omega))
    constructor
    · intro z
      exact e9.1 ⟨z.1 0 (by omega) (by omega), z.2⟩
    · intro z
      have z2 := e9.2 z
      refine ⟨fun i i0 i1 => ?_, z2.2⟩
      rcases (show i = 0 by omega) with u
      · subst u; exact z2.1
  · subst hq
    have e9 := t_W_3_1 (b0 := T (s + 0)) (hT 0 (by omega) (by omega))
    constructor
    · intro z
      exact e9.1 ⟨z.1 0 (by omega) (by omega), z.2⟩
    · intro z
      have z2 := e9.2 z
      refine ⟨fun i i0 i1 => ?_, z2.2⟩
      rcases (show i = 0 by omega) with u
      · subst u; exact z2.1
  · subst hq
    have e9 := t_W_4_1 (b0 := T (s + 0)) (hT 0 (by omega) (by omega))
    constructor
    · intro z
      exact e9.1 ⟨z.1 0 (by omega) (by omega), z.2⟩
    · intro z
      have z2 := e9.2 z
      refine ⟨fun i i0 i1 => ?_, z2.2⟩
      rcases (show i = 0 by omega) with u
      · subst u; exact z2.1
  · subst hq
    have e9 := t_W_5_1 (b0 := T (s + 0)) (hT 0 (by omega) (by omega))
    constructor
    · intro z
      exact e9.1 ⟨z.1 0 (by omega) (by omega), z.2⟩
    · intro z
      have z2 := e9.2 z
      refine ⟨fun i i0 i1 => ?_, z2.2⟩
      rcases (show i = 0 by omega) with u
      · subst u; exact z2.1
  · subst hq
    have e9 := t_W_6_1 (b0 := T (s + 0)) (hT 0 (by omega) (by omega))
    constructor
    · intro z
      exact e9.1 ⟨z.1 0 (by omega) (by omega), z.2⟩
    · intro z
      have z2 := e9.2 z
      refine ⟨fun i i0 i1 => ?_, z2.2⟩
      rcases (show i = 0 by omega) with u
      · subst u; exact z2.1
  · subst hq
    have e9 := t_W_7_1 (b0 := T (s + 0)) (hT 0 (by omega) (by omega))
    constructor
    · intro z
      exact e9.1 ⟨z.1 0 (by omega) (by omega), z.2⟩
    · intro z
      have z2 := e9.2 z
      refine ⟨fun i i0 i1 => ?_, z2.2⟩
      rcases (show i = 0 by omega) with u
      · subst u; exact z2.1
  · subst hq
    have e9 := t_W_8_1 (b0 := T (s + 0)) (hT 0 (by omega) (by omega))
    constructor
    · intro z
      exact e9.1 ⟨z.1 0 (by omega) (by omega), z.2⟩
    · intro z
      have z2 := e9.2 z
      refine ⟨fun i i0 i1 => ?_, z2.2⟩
      rcases (show i = 0 by omega) with u
      · subst u; exact z2.1
  · subst hq
    have e9 := t_W_9_1 (b0 := T (s + 0)) (hT 0 (by omega) (by omega))
    constructor
    · intro z
      exact e9.1 ⟨z.1 0 (by omega) (by omega), z.2⟩
    · intro z
      have z2 := e9.2 z
      refine ⟨fun i i0 i1 => ?_, z2.2⟩
      rcases (show i = 0 by omega) with u
      · subst u; exact z2.1
  · subst hq
    have e9 := t_W_10_1 (b0 := T (s + 0)) (hT 0 (by omega) (by omega))
    constructor
    · intro z
      exact e9.1 ⟨z.1 0 (by omega) (by omega), z.2⟩
    · intro z
      have z2 := e9.2 z
      refine ⟨fun i i0 i1 => ?_, z2.2⟩
      rcases (show i = 0 by omega) with u
      · subst u; exact z2.1
  · subst hq
    have e9 := t_W_11_1 (b0 := T (s + 0)) (hT 0 (by omega) (by omega))
    constructor
    · intro z
      exact e9.1 ⟨z.1 0 (by omega) (by omega), z.2⟩
    · intro z
      have z2 := e9.2 z
      refine ⟨fun i i0 i1 => ?_, z2.2⟩
      rcases (show i = 0 by omega) with u
      · subst u; exact z2.1
  · subst hq
    have e9 := t_W_12_1 (b0 := T (s + 0)) (hT 0 (by omega) (by omega))
    constructor
    · intro z
      exact e9.1 ⟨z.1 0 (by omega) (by omega), z.2⟩
    · intro z
      have z2 := e9.2 z
      refine ⟨fun i i0 i1 => ?_, z2.2⟩
      rcases (show i = 0 by omega) with u
      · subst u; exact z2.1
  · subst hq
    have e9 := t_W_13_1 (b0 := T (s + 0)) (hT 0 (by omega) (by omega))
    constructor
    · intro z
      exact e9.1 ⟨z.1 0 (by omega) (by omega), z.2⟩
    · intro z
      have z2 := e9.2 z
      refine ⟨fun i i0 i1 => ?_, z2.2⟩
      rcases (show i = 0 by omega) with u
      · subst u; exact z2.1
  · subst hq
    have e9 := t_W_14_1 (b0 := T (s + 0)) (hT 0 (by omega) (by omega))
    constructor
    · intro z
      exact e9.1 ⟨z.1 0 (by omega) (by omega), z.2⟩
    · intro z
      have z2 := e9.2 z
      refine ⟨fun i i0 i1 => ?_, z2.2⟩
      rcases (show i = 0 by omega) with u
      · subst u; exact z2.1
  · subst hq
    have e9 := t_W_15_1 (b0 := T (s + 0)) (hT 0 (by omega) (by omega))
    constructor
    · intro z
      exact e9.1 ⟨z.1 0 (by omega) (by omega), z.2⟩
    · intro z
      have z2 := e9.2 z
      refine ⟨fun i i0 i1 => ?_, z2.2⟩
      rcases (show i = 0 by omega) with u
      · subst u; exact z2.1
  · subst hq
    have e9 := t_W_16_1 (b0 := T (s + 0)) (hT 0 (by omega) (by omega))
    constructor
    · intro z
      exact e9.1 ⟨z.1 0 (by omega) (by omega), z.2⟩
    · intro z
      have z2 := e9.2 z
      refine ⟨fun i i0 i1 => ?_, z2.2⟩
      rcases (show i = 0 by omega) with u
      · subst u; exact z2.1
  · subst hq
    have e9 := t_W_17_1 (b0 := T (s + 0)) (hT 0 (by omega) (by omega))
    constructor
    · intro z
      exact e9.1 ⟨z.1 0 (by omega) (by omega), z.2⟩
    · intro z
      have z2 := e9.2 z
      refine ⟨fun i i0 i1 => ?_, z2.2⟩
      rcases (show i = 0 by omega) with u
      · subst u; exact z2.1
  · subst hq
    have e9 := t_W_18_1 (b0 := T (s + 0)) (hT 0 (by omega) (by omega))
    constructor
    · intro z
      exact e9.1 ⟨z.1 0 (by omega) (by omega), z.2⟩
    · intro z
      have z2 := e9.2 z
      refine ⟨fun i i0 i1 => ?_, z2.2⟩
      rcases (show i = 0 by omega) with u
      · subst u; exact z2.1
  · subst hq
    have e9 := t_W_19_1 (b0 := T (s + 0)) (hT 0 (by omega) (by omega))
    constructor
    · intro z
      exact e9.1 ⟨z.1 0 (by omega) (by omega), z.2⟩
    · intro z
      have z2 := e9.2 z
      refine ⟨fun i i0 i1 => ?_, z2.2⟩
      rcases (show i = 0 by omega) with u
      · subst u; exact z2.1
  · subst hq
    have e9 := t_W_20_1 (b0 := T (s + 0)) (hT 0 (by omega) (by omega))
    constructor
    · intro z
      exact e9.1 ⟨z.1 0 (by omega) (by omega), z.2⟩
    · intro z
      have z2 := e9.2 z
      refine ⟨fun i i0 i1 => ?_, z2.2⟩
      rcases (show i = 0 by omega) with u
      · subst u; exact z2.1
theorem q_WV_2 (T : Int → Int) (s : Int) : q_WV T s 2 = (T (s + 0)) * 256 + T (s + 1) := by
  show (0 * 256 + T (s + ((0 : Nat) : Int))) * 256 + T (s + ((1 : Nat) : Int)) = _
  have e0 : (0 : Int) * 256 + T (s + ((0 : Nat) : Int)) = T (s + 0) := by show (0 : Int) * 256 + T (s + 0) = T (s + 0); omega
  rw [e0]
  rfl
theorem t_Wn_2 {T : Int → Int} {s w : Int} (hw : 0 ≤ w ∧ w < 21) (hT : ∀ i, 0 ≤ i → i < 2 → 97 ≤ T (s + i) ∧ T (s + i) ≤ 122) : ((∀ i, 0 ≤ i → i < 2 → tp_sc (6 * w + i) = T (s + i)) ∧ tp_sc (6 * w + 2) = 32) ↔ q_WV T s 2 = t_wc w := by
  rw [q_WV_2]
  rcases (show w = 0 ∨ w = 1 ∨ w = 2 ∨ w = 3 ∨ w = 4 ∨ w = 5 ∨ w = 6 ∨ w = 7 ∨ w = 8 ∨ w = 9 ∨ w = 10 ∨ w = 11 ∨ w = 12 ∨ w = 13 ∨ w = 14 ∨ w = 15 ∨ w = 16 ∨ w = 17 ∨ w = 18 ∨ w = 19 ∨ w = 20 by omega) with hq | hq | hq | hq | hq | hq | hq | hq | hq | hq | hq | hq | hq | hq | hq | hq | hq | hq | hq | hq | hq
  · subst hq
    have e9 := t_W_0_2 (b0 := T (s + 0)) (b1 := T (s + 1)) ⟨hT 0 (by omega) (by omega), hT 1 (by omega) (by omega)⟩
    constructor
    · intro z
      exact e9.1 ⟨z.1 0 (by omega) (by omega), z.1 1 (by omega) (by omega), z.2⟩
    · intro z
      have z2 := e9.2 z
      refine ⟨fun i i0 i1 => ?_, z2.2.2⟩
      rcases (show i = 0 ∨ i = 1 by omega) with u | u
      · subst u; exact z2.1
      · subst u; exact z2.2.1
  · subst hq
    have e9 := t_W_1_2 (b0 := T (s + 0)) (b1 := T (s + 1)) ⟨hT 0 (by omega) (by omega), hT 1 (by omega) (by omega)⟩
    constructor
    · intro z
      exact e9.1 ⟨z.1 0 (by omega) (by omega), z.1 1 (by omega) (by omega), z.2⟩
    · intro z
      have z2 := e9.2 z
      refine ⟨fun i i0 i1 => ?_, z2.2.2⟩
      rcases (show i = 0 ∨ i = 1 by omega) with u | u
      · subst u; exact z2.1
      · subst u; exact z2.2.1
  · subst hq
    have e9 := t_W_2_2 (b0 := T (s + 0)) (b1 := T (s + 1)) ⟨hT 0 (by omega) (by omega), hT 1 (by omega) (by omega)⟩
    constructor
    · intro z
      exact e9.1 ⟨z.1 0 (by omega) (by omega), z.1 1 (by omega) (by omega), z.2⟩
    · intro z
      have z2 := e9.2 z
      refine ⟨fun i i0 i1 => ?_, z2.2.2⟩
      rcases (show i = 0 ∨ i = 1 by omega) with u | u
      · subst u; exact z2.1
      · subst u; exact z2.2.1
  · subst hq
    have e9 := t_W_3_2 (b0 := T (s + 0)) (b1 := T (s + 1)) ⟨hT 0 (by omega) (by omega), hT 1 (by omega) (by omega)⟩
    constructor
    · intro z
      exact e9.1 ⟨z.1 0 (by omega) (by omega), z.1 1 (by omega) (by omega), z.2⟩
    · intro z
      have z2 := e9.2 z
      refine ⟨fun i i0 i1 => ?_, z2.2.2⟩
      rcases (show i = 0 ∨ i = 1 by omega) with u | u
      · subst u; exact z2.1
      · subst u; exact z2.2.1
  · subst hq
    have e9 := t_W_4_2 (b0 := T (s + 0)) (b1 := T (s + 1)) ⟨hT 0 (by omega) (by omega), hT 1 (by omega) (by omega)⟩
    constructor
    · intro z
      exact e9.1 ⟨z.1 0 (by omega) (by omega), z.1 1 (by omega) (by omega), z.2⟩
    · intro z
      have z2 := e9.2 z
      refine ⟨fun i i0 i1 => ?_, z2.2.2⟩
      rcases (show i = 0 ∨ i = 1 by omega) with u | u
      · subst u; exact z2.1
      · subst u; exact z2.2.1
  · subst hq
    have e9 := t_W_5_2 (b0 := T (s + 0)) (b1 := T (s + 1)) ⟨hT 0 (by omega) (by omega), hT 1 (by omega) (by omega)⟩
    constructor
    · intro z
      exact e9.1 ⟨z.1 0 (by omega) (by omega), z.1 1 (by omega) (by omega), z.2⟩
    · intro z
      have z2 := e9.2 z
      refine ⟨fun i i0 i1 => ?_, z2.2.2⟩
      rcases (show i = 0 ∨ i = 1 by omega) with u | u
      · subst u; exact z2.1
      · subst u; exact z2.2.1
  · subst hq
    have e9 := t_W_6_2 (b0 := T (s + 0)) (b1 := T (s + 1)) ⟨hT 0 (by omega) (by omega), hT 1 (by omega) (by omega)⟩
    constructor
    · intro z
      exact e9.1 ⟨z.1 0 (by omega) (by omega), z.1 1 (by omega) (by omega), z.2⟩
    · intro z
      have z2 := e9.2 z
      refine ⟨fun i i0 i1 => ?_, z2.2.2⟩
      rcases (show i = 0 ∨ i = 1 by omega) with u | u
      · subst u; exact z2.1
      · subst u; exact z2.2.1
  · subst hq
    have e9 := t_W_7_2 (b0 := T (s + 0)) (b1 := T (s + 1)) ⟨hT 0 (by omega) (by omega), hT 1 (by omega) (by omega)⟩
    constructor
    · intro z
      exact e9.1 ⟨z.1 0 (by omega) (by omega), z.1 1 (by omega) (by omega), z.2⟩
    · intro z
      have z2 := e9.2 z
      refine ⟨fun i i0 i1 => ?_, z2.2.2⟩
      rcases (show i = 0 ∨ i = 1 by omega) with u | u
      · subst u; exact z2.1
      · subst u; exact z2.2.1
  · subst hq
    have e9 := t_W_8_2 (b0 := T (s + 0)) (b1 := T (s + 1)) ⟨hT 0 (by omega) (by omega), hT 1 (by omega) (by omega)⟩
    constructor
    · intro z
      exact e9.1 ⟨z.1 0 (by omega) (by omega), z.1 1 (by omega) (by omega), z.2⟩
    · intro z
      have z2 := e9.2 z
      refine ⟨fun i i0 i1 => ?_, z2.2.2⟩
      rcases (show i = 0 ∨ i = 1 by omega) with u | u
      · subst u; exact z2.1
      · subst u; exact z2.2.1
  · subst hq
    have e9 := t_W_9_2 (b0 := T (s + 0)) (b1 := T (s + 1)) ⟨hT 0 (by omega) (by omega), hT 1 (by omega) (by omega)⟩
    constructor
    · intro z
      exact e9.1 ⟨z.1 0 (by omega) (by omega), z.1 1 (by omega) (by omega), z.2⟩
    · intro z
      have z2 := e9.2 z
      refine ⟨fun i i0 i1 => ?_, z2.2.2⟩
      rcases (show i = 0 ∨ i = 1 by omega) with u | u
      · subst u; exact z2.1
      · subst u; exact z2.2.1
  · subst hq
    have e9 := t_W_10_2 (b0 := T (s + 0)) (b1 := T (s + 1)) ⟨hT 0 (by omega) (by omega), hT 1 (by omega) (by omega)⟩
    constructor
    · intro z
      exact e9.1 ⟨z.1 0 (by omega) (by omega), z.1 1 (by omega) (by omega), z.2⟩
    · intro z
      have z2 := e9.2 z
      refine ⟨fun i i0 i1 => ?_, z2.2.2⟩
      rcases (show i = 0 ∨ i = 1 by omega) with u | u
      · subst u; exact z2.1
      · subst u; exact z2.2.1
  · subst hq
    have e9 := t_W_11_2 (b0 := T (s + 0)) (b1 := T (s + 1)) ⟨hT 0 (by omega) (by omega), hT 1 (by omega) (by omega)⟩
    constructor
    · intro z
      exact e9.1 ⟨z.1 0 (by omega) (by omega), z.1 1 (by omega) (by omega), z.2⟩
    · intro z
      have z2 := e9.2 z
      refine ⟨fun i i0 i1 => ?_, z2.2.2⟩
      rcases (show i = 0 ∨ i = 1 by omega) with u | u
      · subst u; exact z2.1
      · subst u; exact z2.2.1
  · subst hq
    have e9 := t_W_12_2 (b0 := T (s + 0)) (b1 := T (s + 1)) ⟨hT 0 (by omega) (by omega), hT 1 (by omega) (by omega)⟩
    constructor
    · intro z
      exact e9.1 ⟨z.1 0 (by omega) (by omega), z.1 1 (by omega) (by omega), z.2⟩
    · intro z
      have z2 := e9.2 z
      refine ⟨fun i i0 i1 => ?_, z2.2.2⟩
      rcases (show i = 0 ∨ i = 1 by omega) with u | u
      · subst u; exact z2.1
      · subst u; exact z2.2.1
  · subst hq
    have e9 := t_W_13_2 (b0 := T (s + 0)) (b1 := T (s + 1)) ⟨hT 0 (by omega) (by omega), hT 1 (by omega) (by omega)⟩
    constructor
    · intro z
      exact e9.1 ⟨z.1 0 (by omega) (by omega), z.1 1 (by omega) (by omega), z.2⟩
    · intro z
      have z2 := e9.2 z
      refine ⟨fun i i0 i1 => ?_, z2.2.2⟩
      rcases (show i = 0 ∨ i = 1 by omega) with u | u
      · subst u; exact z2.1
      · subst u; exact z2.2.1
  · subst hq
    have e9 := t_W_14_2 (b0 := T (s + 0)) (b1 := T (s + 1)) ⟨hT 0 (by omega) (by omega), hT 1 (by omega) (by omega)⟩
    constructor
    · intro z
      exact e9.1 ⟨z.1 0 (by omega) (by omega), z.1 1 (by omega) (by omega), z.2⟩
    · intro z
      have z2 := e9.2 z
      refine ⟨fun i i0 i1 => ?_, z2.2.2⟩
      rcases (show i = 0 ∨ i = 1 by omega) with u | u
      · subst u; exact z2.1
      · subst u; exact z2.2.1
  · subst hq
    have e9 := t_W_15_2 (b0 := T (s + 0)) (b1 := T (s + 1)) ⟨hT 0 (by omega) (by omega), hT 1 (by omega) (by omega)⟩
    constructor
    · intro z
      exact e9.1 ⟨z.1 0 (by omega) (by omega), z.1 1 (by omega) (by omega), z.2⟩
    · intro z
      have z2 := e9.2 z
      refine ⟨fun i i0 i1 => ?_, z2.2.2⟩
      rcases (show i = 0 ∨ i = 1 by omega) with u | u
      · subst u; exact z2.1
      · subst u; exact z2.2.1
  · subst hq
    have e9 := t_W_16_2 (b0 := T (s + 0)) (b1 := T (s + 1)) ⟨hT 0 (by omega) (by omega), hT 1 (by omega) (by omega)⟩
    constructor
    · intro z
      exact e9.1 ⟨z.1 0 (by omega) (by omega), z.1 1 (by omega) (by omega), z.2⟩
    · intro z
      have z2 := e9.2 z
      refine ⟨fun i i0 i1 => ?_, z2.2.2⟩
      rcases (show i = 0 ∨ i = 1 by omega) with u | u
      · subst u; exact z2.1
      · subst u; exact z2.2.1
  · subst hq
    have e9 := t_W_17_2 (b0 := T (s + 0)) (b1 := T (s + 1)) ⟨hT 0 (by omega) (by omega), hT 1 (by omega) (by omega)⟩
    constructor
    · intro z
      exact e9.1 ⟨z.1 0 (by omega) (by omega), z.1 1 (by omega) (by omega), z.2⟩
    · intro z
      have z2 := e9.2 z
      refine ⟨fun i i0 i1 => ?_, z2.2.2⟩
      rcases (show i = 0 ∨ i = 1 by omega) with u | u
      · subst u; exact z2.1
      · subst u; exact z2.2.1
  · subst hq
    have e9 := t_W_18_2 (b0 := T (s + 0)) (b1 := T (s + 1)) ⟨hT 0 (by omega) (by omega), hT 1 (by omega) (by omega)⟩
    constructor
    · intro z
      exact e9.1 ⟨z.1 0 (by omega) (by omega), z.1 1 (by omega) (by omega), z.2⟩
    · intro z
      have z2 := e9.2 z
      refine ⟨fun i i0 i1 => ?_, z2.2.2⟩
      rcases (show i = 0 ∨ i = 1 by omega) with u | u
      · subst u; exact z2.1
      · subst u; exact z2.2.1
  · subst hq
    have e9 := t_W_19_2 (b0 := T (s + 0)) (b1 := T (s + 1)) ⟨hT 0 (by omega) (by omega), hT 1 (by omega) (by omega)⟩
    constructor
    · intro z
      exact e9.1 ⟨z.1 0 (by omega) (by omega), z.1 1 (by omega) (by omega), z.2⟩
    · intro z
      have z2 := e9.2 z
      refine ⟨fun i i0 i1 => ?_, z2.2.2⟩
      rcases (show i = 0 ∨ i = 1 by omega) with u | u
      · subst u; exact z2.1
      · subst u; exact z2.2.1
  · subst hq
    have e9 := t_W_20_2 (b0 := T (s + 0)) (b1 := T (s + 1)) ⟨hT 0 (by omega) (by omega), hT 1 (by omega) (by omega)⟩
    constructor
    · intro z
      exact e9.1 ⟨z.1 0 (by omega) (by omega), z.1 1 (by omega) (by omega), z.2⟩
    · intro z
      have z2 := e9.2 z
      refine ⟨fun i i0 i1 => ?_, z2.2.2⟩
      rcases (show i = 0 ∨ i = 1 by omega) with u | u
      · subst u; exact z2.1
      · subst u; exact z2.2.1
theorem q_WV_3 (T : Int → Int) (s : Int) : q_WV T s 3 = ((T (s + 0)) * 256 + T (s + 1)) * 256 + T (s + 2) := by
  show ((0 * 256 + T (s + ((0 : Nat) : Int))) * 256 + T (s + ((1 : Nat) : Int))) * 256 + T (s + ((2 : Nat) : Int)) = _
  have e0 : (0 : Int) * 256 + T (s + ((0 : Nat) : Int)) = T (s + 0) := by show (0 : Int) * 256 + T (s + 0) = T (s + 0); omega
  rw [e0]
  rfl
theorem t_Wn_3 {T : Int → Int} {s w : Int} (hw : 0 ≤ w ∧ w < 21) (hT : ∀ i, 0 ≤ i → i < 3 → 97 ≤ T (s + i) ∧ T (s + i) ≤ 122) : ((∀ i, 0 ≤ i → i < 3 → tp_sc (6 * w + i) = T (s + i)) ∧ tp_sc (6 * w + 3) = 32) ↔ q_WV T s 3 = t_wc w := by
  rw [q_WV_3]
  rcases (show w = 0 ∨ w = 1 ∨ w = 2 ∨ w = 3 ∨ w = 4 ∨ w = 5 ∨ w = 6 ∨ w = 7 ∨ w = 8 ∨ w = 9 ∨ w = 10 ∨ w = 11 ∨ w = 12 ∨ w = 13 ∨ w = 14 ∨ w = 15 ∨ w = 16 ∨ w = 17 ∨ w = 18 ∨ w = 19 ∨ w = 20 by omega) with hq | hq | hq | hq | hq | hq | hq | hq | hq | hq | hq | hq | hq | hq | hq | hq | hq | hq | hq | hq | hq
  · subst hq
    have e9 := t_W_0_3 (b0 := T (s + 0)) (b1 := T (s + 1)) (b2 := T (s + 2)) ⟨hT 0 (by omega) (by omega), hT 1 (by omega) (by omega), hT 2 (by omega) (by omega)⟩
    constructor
    · intro z
      exact e9.1 ⟨z.1 0 (by omega) (by omega), z.1 1 (by omega) (by omega), z.1 2 (by omega) (by omega), z.2⟩
    · intro z
      have z2 := e9.2 z
      refine ⟨fun i i0 i1 => ?_, z2.2.2.2⟩
      rcases (show i = 0 ∨ i = 1 ∨ i = 2 by omega) with u | u | u
      · subst u; exact z2.1
      · subst u; exact z2.2.1
      · subst u; exact z2.2.2.1
  · subst hq
    have e9 := t_W_1_3 (b0 := T (s + 0)) (b1 := T (s + 1)) (b2 := T (s + 2)) ⟨hT 0 (by omega) (by omega), hT 1 (by omega) (by omega), hT 2 (by omega) (by omega)⟩
    constructor
    · intro z
      exact e9.1 ⟨z.1 0 (by omega) (by omega), z.1 1 (by omega) (by omega), z.1 2 (by omega) (by omega), z.2⟩
    · intro z
      have z2 := e9.2 z
      refine ⟨fun i i0 i1 => ?_, z2.2.2.2⟩
      rcases (show i = 0 ∨ i = 1 ∨ i = 2 by omega) with u | u | u
      · subst u; exact z2.1
      · subst u; exact z2.2.1
      · subst u; exact z2.2.2.1
  · subst hq
    have e9 := t_W_2_3 (b0 := T (s + 0)) (b1 := T (s + 1)) (b2 := T (s + 2)) ⟨hT 0 (by omega) (by omega), hT 1 (by omega) (by omega), hT 2 (by omega) (by omega)⟩
    constructor
    · intro z
      exact e9.1 ⟨z.1 0 (by omega) (by omega), z.1 1 (by omega) (by omega), z.1 2 (by omega) (by omega), z.2⟩
    · intro z
      have z2 := e9.2 z
      refine ⟨fun i i0 i1 => ?_, z2.2.2.2⟩
      rcases (show i = 0 ∨ i = 1 ∨ i = 2 by omega) with u | u | u
      · subst u; exact z2.1
      · subst u; exact z2.2.1
      · subst u; exact z2.2.2.1
  · subst hq
    have e9 := t_W_3_3 (b0 := T (s + 0)) (b1 := T (s + 1)) (b2 := T (s + 2)) ⟨hT 0 (by omega) (by omega), hT 1 (by omega) (by omega), hT 2 (by omega) (by omega)⟩
    constructor
    · intro z
      exact e9.1 ⟨z.1 0 (by omega) (by omega), z.1 1 (by omega) (by omega), z.1 2 (by omega) (by omega), z.2⟩
    · intro z
      have z2 := e9.2 z
      refine ⟨fun i i0 i1 => ?_, z2.2.2.2⟩
      rcases (show i = 0 ∨ i = 1 ∨ i = 2 by omega) with u | u | u
      · subst u; exact z2.1
      · subst u; exact z2.2.1
      · subst u; exact z2.2.2.1
  · subst hq
    have e9 := t_W_4_3 (b0 := T (s + 0)) (b1 := T (s + 1)) (b2 := T (s + 2)) ⟨hT 0 (by omega) (by omega), hT 1 (by omega) (by omega), hT 2 (by omega) (by omega)⟩
    constructor
    · intro z
      exact e9.1 ⟨z.1 0 (by omega) (by omega), z.1 1 (by omega) (by omega), z.1 2 (by omega) (by omega), z.2⟩
    · intro z
      have z2 := e9.2 z
      refine ⟨fun i i0 i1 => ?_, z2.2.2.2⟩
      rcases (show i = 0 ∨ i = 1 ∨ i = 2 by omega) with u | u | u
      · subst u; exact z2.1
      · subst u; exact z2.2.1
      · subst u; exact z2.2.2.1
  · subst hq
    have e9 := t_W_5_3 (b0 := T (s + 0)) (b1 := T (s + 1)) (b2 := T (s + 2)) ⟨hT 0 (by omega) (by omega), hT 1 (by omega) (by omega), hT 2 (by omega) (by omega)⟩
    constructor
    · intro z
      exact e9.1 ⟨z.1 0 (by omega) (by omega), z.1 1 (by omega) (by omega), z.1 2 (by omega) (by omega), z.2⟩
    · intro z
      have z2 := e9.2 z
      refine ⟨fun i i0 i1 => ?_, z2.2.2.2⟩
      rcases (show i = 0 ∨ i = 1 ∨ i = 2 by omega) with u | u | u
      · subst u; exact z2.1
      · subst u; exact z2.2.1
      · subst u; exact z2.2.2.1
  · subst hq
    have e9 := t_W_6_3 (b0 := T (s + 0)) (b1 := T (s + 1)) (b2 := T (s + 2)) ⟨hT 0 (by omega) (by omega), hT 1 (by omega) (by omega), hT 2 (by omega) (by omega)⟩
    constructor
    · intro z
      exact e9.1 ⟨z.1 0 (by omega) (by omega), z.1 1 (by omega) (by omega), z.1 2 (by omega) (by omega), z.2⟩
    · intro z
      have z2 := e9.2 z
      refine ⟨fun i i0 i1 => ?_, z2.2.2.2⟩
      rcases (show i = 0 ∨ i = 1 ∨ i = 2 by omega) with u | u | u
      · subst u; exact z2.1
      · subst u; exact z2.2.1
      · subst u; exact z2.2.2.1
  · subst hq
    have e9 := t_W_7_3 (b0 := T (s + 0)) (b1 := T (s + 1)) (b2 := T (s + 2)) ⟨hT 0 (by omega) (by omega), hT 1 (by omega) (by omega), hT 2 (by omega) (by omega)⟩
    constructor
    · intro z
      exact e9.1 ⟨z.1 0 (by omega) (by omega), z.1 1 (by omega) (by omega), z.1 2 (by omega) (by omega), z.2⟩
    · intro z
      have z2 := e9.2 z
      refine ⟨fun i i0 i1 => ?_, z2.2.2.2⟩
      rcases (show i = 0 ∨ i = 1 ∨ i = 2 by omega) with u | u | u
      · subst u; exact z2.1
      · subst u; exact z2.2.1
      · subst u; exact z2.2.2.1
  · subst hq
    have e9 := t_W_8_3 (b0 := T (s + 0)) (b1 := T (s + 1)) (b2 := T (s + 2)) ⟨hT 0 (by omega) (by omega), hT 1 (by omega) (by omega), hT 2 (by omega) (by omega)⟩
    constructor
    · intro z
      exact e9.1 ⟨z.1 0 (by omega) (by omega), z.1 1 (by omega) (by omega), z.1 2 (by omega) (by omega), z.2⟩
    · intro z
      have z2 := e9.2 z
      refine ⟨fun i i0 i1 => ?_, z2.2.2.2⟩
      rcases (show i = 0 ∨ i = 1 ∨ i = 2 by omega) with u | u | u
      · subst u; exact z2.1
      · subst u; exact z2.2.1
      · subst u; exact z2.2.2.1
  · subst hq
    have e9 := t_W_9_3 (b0 := T (s + 0)) (b1 := T (s + 1)) (b2 := T (s + 2)) ⟨hT 0 (by omega) (by omega), hT 1 (by omega) (by omega), hT 2 (by omega) (by omega)⟩
    constructor
    · intro z
      exact e9.1 ⟨z.1 0 (by omega) (by omega), z.1 1 (by omega) (by omega), z.1 2 (by omega) (by omega), z.2⟩
    · intro z
      have z2 := e9.2 z
      refine ⟨fun i i0 i1 => ?_, z2.2.2.2⟩
      rcases (show i = 0 ∨ i = 1 ∨ i = 2 by omega) with u | u | u
      · subst u; exact z2.1
      · subst u; exact z2.2.1
      · subst u; exact z2.2.2.1
  · subst hq
    have e9 := t_W_10_3 (b0 := T (s + 0)) (b1 := T (s + 1)) (b2 := T (s + 2)) ⟨hT 0 (by omega) (by omega), hT 1 (by omega) (by omega), hT 2 (by omega) (by omega)⟩
    constructor
    · intro z
      exact e9.1 ⟨z.1 0 (by omega) (by omega), z.1 1 (by omega) (by omega), z.1 2 (by omega) (by omega), z.2⟩
    · intro z
      have z2 := e9.2 z
      refine ⟨fun i i0 i1 => ?_, z2.2.2.2⟩
      rcases (show i = 0 ∨ i = 1 ∨ i = 2 by omega) with u | u | u
      · subst u; exact z2.1
      · subst u; exact z2.2.1
      · subst u; exact z2.2.2.1
  · subst hq
    have e9 := t_W_11_3 (b0 := T (s + 0)) (b1 := T (s + 1)) (b2 := T (s + 2)) ⟨hT 0 (by omega) (by omega), hT 1 (by omega) (by omega), hT 2 (by omega) (by omega)⟩
    constructor
    · intro z
      exact e9.1 ⟨z.1 0 (by omega) (by omega), z.1 1 (by omega) (by omega), z.1 2 (by omega) (by omega), z.2⟩
    · intro z
      have z2 := e9.2 z
      refine ⟨fun i i0 i1 => ?_, z2.2.2.2⟩
      rcases (show i = 0 ∨ i = 1 ∨ i = 2 by omega) with u | u | u
      · subst u; exact z2.1
      · subst u; exact z2.2.1
      · subst u; exact z2.2.2.1
  · subst hq
    have e9 := t_W_12_3 (b0 := T (s + 0)) (b1 := T (s + 1)) (b2 := T (s + 2)) ⟨hT 0 (by omega) (by omega), hT 1 (by omega) (by omega), hT 2 (by omega) (by omega)⟩
    constructor
    · intro z
      exact e9.1 ⟨z.1 0 (by omega) (by omega), z.1 1 (by omega) (by omega), z.1 2 (by omega) (by omega), z.2⟩
    · intro z
      have z2 := e9.2 z
      refine ⟨fun i i0 i1 => ?_, z2.2.2.2⟩
      rcases (show i = 0 ∨ i = 1 ∨ i = 2 by omega) with u | u | u
      · subst u; exact z2.1
      · subst u; exact z2.2.1
      · subst u; exact z2.2.2.1
  · subst hq
    have e9 := t_W_13_3 (b0 := T (s + 0)) (b1 := T (s + 1)) (b2 := T (s + 2)) ⟨hT 0 (by omega) (by omega), hT 1 (by omega) (by omega), hT 2 (by omega) (by omega)⟩
    constructor
    · intro z
      exact e9.1 ⟨z.1 0 (by omega) (by omega), z.1 1 (by omega) (by omega), z.1 2 (by omega) (by omega), z.2⟩
    · intro z
      have z2 := e9.2 z
      refine ⟨fun i i0 i1 => ?_, z2.2.2.2⟩
      rcases (show i = 0 ∨ i = 1 ∨ i = 2 by omega) with u | u | u
      · subst u; exact z2.1
      · subst u; exact z2.2.1
      · subst u; exact z2.2.2.1
  · subst hq
    have e9 := t_W_14_3 (b0 := T (s + 0)) (b1 := T (s + 1)) (b2 := T (s + 2)) ⟨hT 0 (by omega) (by omega), hT 1 (by omega) (by omega), hT 2 (by omega) (by omega)⟩
    constructor
    · intro z
      exact e9.1 ⟨z.1 0 (by omega) (by omega), z.1 1 (by omega) (by omega), z.1 2 (by omega) (by omega), z.2⟩
    · intro z
      have z2 := e9.2 z
      refine ⟨fun i i0 i1 => ?_, z2.2.2.2⟩
      rcases (show i = 0 ∨ i = 1 ∨ i = 2 by omega) with u | u | u
      · subst u; exact z2.1
      · subst u; exact z2.2.1
      · subst u; exact z2.2.2.1
  · subst hq
    have e9 := t_W_15_3 (b0 := T (s + 0)) (b1 := T (s + 1)) (b2 := T (s + 2)) ⟨hT 0 (by omega) (by omega), hT 1 (by omega) (by omega), hT 2 (by omega) (by omega)⟩
    constructor
    · intro z
      exact e9.1 ⟨z.1 0 (by omega) (by omega), z.1 1 (by omega) (by omega), z.1 2 (by omega) (by omega), z.2⟩
    · intro z
      have z2 := e9.2 z
      refine ⟨fun i i0 i1 => ?_, z2.2.2.2⟩
      rcases (show i = 0 ∨ i = 1 ∨ i = 2 by omega) with u | u | u
      · subst u; exact z2.1
      · subst u; exact z2.2.1
      · subst u; exact z2.2.2.1
  · subst hq
    have e9 := t_W_16_3 (b0 := T (s + 0)) (b1 := T (s + 1)) (b2 := T (s + 2)) ⟨hT 0 (by omega) (by omega), hT 1 (by omega) (by omega), hT 2 (by omega) (by omega)⟩
    constructor
    · intro z
      exact e9.1 ⟨z.1 0 (by omega) (by omega), z.1 1 (by omega) (by omega), z.1 2 (by omega) (by omega), z.2⟩
    · intro z
      have z2 := e9.2 z
      refine ⟨fun i i0 i1 => ?_, z2.2.2.2⟩
      rcases (show i = 0 ∨ i = 1 ∨ i = 2 by omega) with u | u | u
      · subst u; exact z2.1
      · subst u; exact z2.2.1
      · subst u; exact z2.2.2.1
  · subst hq
    have e9 := t_W_17_3 (b0 := T (s + 0)) (b1 := T (s + 1)) (b2 := T (s + 2)) ⟨hT 0 (by omega) (by omega), hT 1 (by omega) (by omega), hT 2 (by omega) (by omega)⟩
    constructor
    · intro z
      exact e9.1 ⟨z.1 0 (by omega) (by omega), z.1 1 (by omega) (by omega), z.1 2 (by omega) (by omega), z.2⟩
    · intro z
      have z2 := e9.2 z
      refine ⟨fun i i0 i1 => ?_, z2.2.2.2⟩
      rcases (show i = 0 ∨ i = 1 ∨ i = 2 by omega) with u | u | u
      · subst u; exact z2.1
      · subst u; exact z2.2.1
      · subst u; exact z2.2.2.1
  · subst hq
    have e9 := t_W_18_3 (b0 := T (s + 0)) (b1 := T (s + 1)) (b2 := T (s + 2)) ⟨hT 0 (by omega) (by omega), hT 1 (by omega) (by omega), hT 2 (by omega) (by omega)⟩
    constructor
    · intro z
      exact e9.1 ⟨z.1 0 (by omega) (by omega), z.1 1 (by omega) (by omega), z.1 2 (by omega) (by omega), z.2⟩
    · intro z
      have z2 := e9.2 z
      refine ⟨fun i i0 i1 => ?_, z2.2.2.2⟩
      rcases (show i = 0 ∨ i = 1 ∨ i = 2 by omega) with u | u | u
      · subst u; exact z2.1
      · subst u; exact z2.2.1
      · subst u; exact z2.2.2.1
  · subst hq
    have e9 := t_W_19_3 (b0 := T (s + 0)) (b1 := T (s + 1)) (b2 := T (s + 2)) ⟨hT 0 (by omega) (by omega), hT 1 (by omega) (by omega), hT 2 (by omega) (by omega)⟩
    constructor
    · intro z
      exact e9.1 ⟨z.1 0 (by omega) (by omega), z.1 1 (by omega) (by omega), z.1 2 (by omega) (by omega), z.2⟩
    · intro z
      have z2 := e9.2 z
      refine ⟨fun i i0 i1 => ?_, z2.2.2.2⟩
      rcases (show i = 0 ∨ i = 1 ∨ i = 2 by omega) with u | u | u
      · subst u; exact z2.1
      · subst u; exact z2.2.1
      · subst u; exact z2.2.2.1
  · subst hq
    have e9 := t_W_20_3 (b0 := T (s + 0)) (b1 := T (s + 1)) (b2 := T (s + 2)) ⟨hT 0 (by omega) (by omega), hT 1 (by omega) (by omega), hT 2 (by omega) (by omega)⟩
    constructor
    · intro z
      exact e9.1 ⟨z.1 0 (by omega) (by omega), z.1 1 (by omega) (by omega), z.1 2 (by omega) (by omega), z.2⟩
    · intro z
      have z2 := e9.2 z
      refine ⟨fun i i0 i1 => ?_, z2.2.2.2⟩
      rcases (show i = 0 ∨ i = 1 ∨ i = 2 by omega) with u | u | u
      · subst u; exact z2.1
      · subst u; exact z2.2.1
      · subst u; exact z2.2.2.1
theorem q_WV_4 (T : Int → Int) (s : Int) : q_WV T s 4 = (((T (s + 0)) * 256 + T (s + 1)) * 256 + T (s + 2)) * 256 + T (s + 3) := by
  show (((0 * 256 + T (s + ((0 : Nat) : Int))) * 256 + T (s + ((1 : Nat) : Int))) * 256 + T (s + ((2 : Nat) : Int))) * 256 + T (s + ((3 : Nat) : Int)) = _
  have e0 : (0 : Int) * 256 + T (s + ((0 : Nat) : Int)) = T (s + 0) := by show (0 : Int) * 256 + T (s + 0) = T (s + 0); omega
  rw [e0]
  rfl
theorem t_Wn_4 {T : Int → Int} {s w : Int} (hw : 0 ≤ w ∧ w < 21) (hT : ∀ i, 0 ≤ i → i < 4 → 97 ≤ T (s + i) ∧ T (s + i) ≤ 122) : ((∀ i, 0 ≤ i → i < 4 → tp_sc (6 * w + i) = T (s + i)) ∧ tp_sc (6 * w + 4) = 32) ↔ q_WV T s 4 = t_wc w := by
  rw [q_WV_4]
  rcases (show w = 0 ∨ w = 1 ∨ w = 2 ∨ w = 3 ∨ w = 4 ∨ w = 5 ∨ w = 6 ∨ w = 7 ∨ w = 8 ∨ w = 9 ∨ w = 10 ∨ w = 11 ∨ w = 12 ∨ w = 13 ∨ w = 14 ∨ w = 15 ∨ w = 16 ∨ w = 17 ∨ w = 18 ∨ w = 19 ∨ w = 20 by omega) with hq | hq | hq | hq | hq | hq | hq | hq | hq | hq | hq | hq | hq | hq | hq | hq | hq | hq | hq | hq | hq
  · subst hq
    have e9 := t_W_0_4 (b0 := T (s + 0)) (b1 := T (s + 1)) (b2 := T (s + 2)) (b3 := T (s + 3)) ⟨hT 0 (by omega) (by omega), hT 1 (by omega) (by omega), hT 2 (by omega) (by omega), hT 3 (by omega) (by omega)⟩
    constructor
    · intro z
      exact e9.1 ⟨z.1 0 (by omega) (by omega), z.1 1 (by omega) (by omega), z.1 2 (by omega) (by omega), z.1 3 (by omega) (by omega), z.2⟩
    · intro z
      have z2 := e9.2 z
      refine ⟨fun i i0 i1 => ?_, z2.2.2.2.2⟩
      rcases (show i = 0 ∨ i = 1 ∨ i = 2 ∨ i = 3 by omega) with u | u | u | u
      · subst u; exact z2.1
      · subst u; exact z2.2.1
      · subst u; exact z2.2.2.1
      · subst u; exact z2.2.2.2.1
  · subst hq
    have e9 := t_W_1_4 (b0 := T (s + 0)) (b1 := T (s + 1)) (b2 := T (s + 2)) (b3 := T (s + 3)) ⟨hT 0 (by omega) (by omega), hT 1 (by omega) (by omega), hT 2 (by omega) (by omega), hT 3 (by omega) (by omega)⟩
    constructor
    · intro z
      exact e9.1 ⟨z.1 0 (by omega) (by omega), z.1 1 (by omega) (by omega), z.1 2 (by omega) (by omega), z.1 3 (by omega) (by omega), z.2⟩
    · intro z
      have z2 := e9.2 z
      refine ⟨fun i i0 i1 => ?_, z2.2.2.2.2⟩
      rcases (show i = 0 ∨ i = 1 ∨ i = 2 ∨ i = 3 by omega) with u | u | u | u
      · subst u; exact z2.1
      · subst u; exact z2.2.1
      · subst u; exact z2.2.2.1
      · subst u; exact z2.2.2.2.1
  · subst hq
    have e9 := t_W_2_4 (b0 := T (s + 0)) (b1 := T (s + 1)) (b2 := T (s + 2)) (b3 := T (s + 3)) ⟨hT 0 (by omega) (by omega), hT 1 (by omega) (by omega), hT 2 (by omega) (by omega), hT 3 (by omega) (by omega)⟩
    constructor
    · intro z
      exact e9.1 ⟨z.1 0 (by omega) (by omega), z.1 1 (by omega) (by omega), z.1 2 (by omega) (by omega), z.1 3 (by omega) (by omega), z.2⟩
    · intro z
      have z2 := e9.2 z
      refine ⟨fun i i0 i1 => ?_, z2.2.2.2.2⟩
      rcases (show i = 0 ∨ i = 1 ∨ i = 2 ∨ i = 3 by omega) with u | u | u | u
      · subst u; exact z2.1
      · subst u; exact z2.2.1
      · subst u; exact z2.2.2.1
      · subst u; exact z2.2.2.2.1
  · subst hq
    have e9 := t_W_3_4 (b0 := T (s + 0)) (b1 := T (s + 1)) (b2 := T (s + 2)) (b3 := T (s + 3)) ⟨hT 0 (by omega) (by omega), hT 1 (by omega) (by omega), hT 2 (by omega) (by omega), hT 3 (by omega) (by omega)⟩
    constructor
    · intro z
      exact e9.1 ⟨z.1 0 (by omega) (by omega), z.1 1 (by omega) (by omega), z.1 2 (by omega) (by omega), z.1 3 (by omega) (by omega), z.2⟩
    · intro z
      have z2 := e9.2 z
      refine ⟨fun i i0 i1 => ?_, z2.2.2.2.2⟩
      rcases (show i = 0 ∨ i = 1 ∨ i = 2 ∨ i = 3 by omega) with u | u | u | u
      · subst u; exact z2.1
      · subst u; exact z2.2.1
      · subst u; exact z2.2.2.1
      · subst u; exact z2.2.2.2.1
  · subst hq
    have e9 := t_W_4_4 (b0 := T (s + 0)) (b1 := T (s + 1)) (b2 := T (s + 2)) (b3 := T (s + 3)) ⟨hT 0 (by omega) (by omega), hT 1 (by omega) (by omega), hT 2 (by omega) (by omega), hT 3 (by omega) (by omega)⟩
    constructor
    · intro z
      exact e9.1 ⟨z.1 0 (by omega) (by omega), z.1 1 (by omega) (by omega), z.1 2 (by omega) (by omega), z.1 3 (by omega) (by omega), z.2⟩
    · intro z
      have z2 := e9.2 z
      refine ⟨fun i i0 i1 => ?_, z2.2.2.2.2⟩
      rcases (show i = 0 ∨ i = 1 ∨ i = 2 ∨ i = 3 by omega) with u | u | u | u
      · subst u; exact z2.1
      · subst u; exact z2.2.1
      · subst u; exact z2.2.2.1
      · subst u; exact z2.2.2.2.1
  · subst hq
    have e9 := t_W_5_4 (b0 := T (s + 0)) (b1 := T (s + 1)) (b2 := T (s + 2)) (b3 := T (s + 3)) ⟨hT 0 (by omega) (by omega), hT 1 (by omega) (by omega), hT 2 (by omega) (by omega), hT 3 (by omega) (by omega)⟩
    constructor
    · intro z
      exact e9.1 ⟨z.1 0 (by omega) (by omega), z.1 1 (by omega) (by omega), z.1 2 (by omega) (by omega), z.1 3 (by omega) (by omega), z.2⟩
    · intro z
      have z2 := e9.2 z
      refine ⟨fun i i0 i1 => ?_, z2.2.2.2.2⟩
      rcases (show i = 0 ∨ i = 1 ∨ i = 2 ∨ i = 3 by omega) with u | u | u | u
      · subst u; exact z2.1
      · subst u; exact z2.2.1
      · subst u; exact z2.2.2.1
      · subst u; exact z2.2.2.2.1
  · subst hq
    have e9 := t_W_6_4 (b0 := T (s + 0)) (b1 := T (s + 1)) (b2 := T (s + 2)) (b3 := T (s + 3)) ⟨hT 0 (by omega) (by omega), hT 1 (by omega) (by omega), hT 2 (by omega) (by omega), hT 3 (by omega) (by omega)⟩
    constructor
    · intro z
      exact e9.1 ⟨z.1 0 (by omega) (by omega), z.1 1 (by omega) (by omega), z.1 2 (by omega) (by omega), z.1 3 (by omega) (by omega), z.2⟩
    · intro z
      have z2 := e9.2 z
      refine ⟨fun i i0 i1 => ?_, z2.2.2.2.2⟩
      rcases (show i = 0 ∨ i = 1 ∨ i = 2 ∨ i = 3 by omega) with u | u | u | u
      · subst u; exact z2.1
      · subst u; exact z2.2.1
      · subst u; exact z2.2.2.1
      · subst u; exact z2.2.2.2.1
  · subst hq
    have e9 := t_W_7_4 (b0 := T (s + 0)) (b1 := T (s + 1)) (b2 := T (s + 2)) (b3 := T (s + 3)) ⟨hT 0 (by omega) (by omega), hT 1 (by omega) (by omega), hT 2 (by omega) (by omega), hT 3 (by omega) (by omega)⟩
    constructor
    · intro z
      exact e9.1 ⟨z.1 0 (by omega) (by omega), z.1 1 (by omega) (by omega), z.1 2 (by omega) (by omega), z.1 3 (by omega) (by omega), z.2⟩
    · intro z
      have z2 := e9.2 z
      refine ⟨fun i i0 i1 => ?_, z2.2.2.2.2⟩
      rcases (show i = 0 ∨ i = 1 ∨ i = 2 ∨ i = 3 by omega) with u | u | u | u
      · subst u; exact z2.1
      · subst u; exact z2.2.1
      · subst u; exact z2.2.2.1
      · subst u; exact z2.2.2.2.1
  · subst hq
    have e9 := t_W_8_4 (b0 := T (s + 0)) (b1 := T (s + 1)) (b2 := T (s + 2)) (b3 := T (s + 3)) ⟨hT 0 (by omega) (by omega), hT 1 (by omega) (by omega), hT 2 (by omega) (by omega), hT 3 (by omega) (by omega)⟩
    constructor
    · intro z
      exact e9.1 ⟨z.1 0 (by omega) (by omega), z.1 1 (by omega) (by omega), z.1 2 (by omega) (by omega), z.1 3 (by omega) (by omega), z.2⟩
    · intro z
      have z2 := e9.2 z
      refine ⟨fun i i0 i1 => ?_, z2.2.2.2.2⟩
      rcases (show i = 0 ∨ i = 1 ∨ i = 2 ∨ i = 3 by omega) with u | u | u | u
      · subst u; exact z2.1
      · subst u; exact z2.2.1
      · subst u; exact z2.2.2.1
      · subst u; exact z2.2.2.2.1
  · subst hq
    have e9 := t_W_9_4 (b0 := T (s + 0)) (b1 := T (s + 1)) (b2 := T (s + 2)) (b3 := T (s + 3)) ⟨hT 0 (by omega) (by omega), hT 1 (by omega) (by omega), hT 2 (by omega) (by omega), hT 3 (by omega) (by omega)⟩
    constructor
    · intro z
      exact e9.1 ⟨z.1 0 (by omega) (by omega), z.1 1 (by omega) (by omega), z.1 2 (by omega) (by omega), z.1 3 (by omega) (by omega), z.2⟩
    · intro z
      have z2 := e9.2 z
      refine ⟨fun i i0 i1 => ?_, z2.2.2.2.2⟩
      rcases (show i = 0 ∨ i = 1 ∨ i = 2 ∨ i = 3 by omega) with u | u | u | u
      · subst u; exact z2.1
      · subst u; exact z2.2.1
      · subst u; exact z2.2.2.1
      · subst u; exact z2.2.2.2.1
  · subst hq
    have e9 := t_W_10_4 (b0 := T (s + 0)) (b1 := T (s + 1)) (b2 := T (s + 2)) (b3 := T (s + 3)) ⟨hT 0 (by omega) (by omega), hT 1 (by omega) (by omega), hT 2 (by omega) (by omega), hT 3 (by omega) (by omega)⟩
    constructor
    · intro z
      exact e9.1 ⟨z.1 0 (by omega) (by omega), z.1 1 (by omega) (by omega), z.1 2 (by omega) (by omega), z.1 3 (by omega) (by omega), z.2⟩
    · intro z
      have z2 := e9.2 z
      refine ⟨fun i i0 i1 => ?_, z2.2.2.2.2⟩
      rcases (show i = 0 ∨ i = 1 ∨ i = 2 ∨ i = 3 by omega) with u | u | u | u
      · subst u; exact z2.1
      · subst u; exact z2.2.1
      · subst u; exact z2.2.2.1
      · subst u; exact z2.2.2.2.1
  · subst hq
    have e9 := t_W_11_4 (b0 := T (s + 0)) (b1 := T (s + 1)) (b2 := T (s + 2)) (b3 := T (s + 3)) ⟨hT 0 (by omega) (by omega), hT 1 (by omega) (by omega), hT 2 (by omega) (by omega), hT 3 (by omega) (by omega)⟩
    constructor
    · intro z
      exact e9.1 ⟨z.1 0 (by omega) (by omega), z.1 1 (by omega) (by omega), z.1 2 (by omega) (by omega), z.1 3 (by omega) (by omega), z.2⟩
    · intro z
      have z2 := e9.2 z
      refine ⟨fun i i0 i1 => ?_, z2.2.2.2.2⟩
      rcases (show i = 0 ∨ i = 1 ∨ i = 2 ∨ i = 3 by omega) with u | u | u | u
      · subst u; exact z2.1
      · subst u; exact z2.2.1
      · subst u; exact z2.2.2.1
      · subst u; exact z2.2.2.2.1
  · subst hq
    have e9 := t_W_12_4 (b0 := T (s + 0)) (b1 := T (s + 1)) (b2 := T (s + 2)) (b3 := T (s + 3)) ⟨hT 0 (by omega) (by omega), hT 1 (by omega) (by omega), hT 2 (by omega) (by omega), hT 3 (by omega) (by omega)⟩
    constructor
    · intro z
      exact e9.1 ⟨z.1 0 (by omega) (by omega), z.1 1 (by omega) (by omega), z.1 2 (by omega) (by omega), z.1 3 (by omega) (by omega), z.2⟩
    · intro z
      have z2 := e9.2 z
      refine ⟨fun i i0 i1 => ?_, z2.2.2.2.2⟩
      rcases (show i = 0 ∨ i = 1 ∨ i = 2 ∨ i = 3 by omega) with u | u | u | u
      · subst u; exact z2.1
      · subst u; exact z2.2.1
      · subst u; exact z2.2.2.1
      · subst u; exact z2.2.2.2.1
  · subst hq
    have e9 := t_W_13_4 (b0 := T (s + 0)) (b1 := T (s + 1)) (b2 := T (s + 2)) (b3 := T (s + 3)) ⟨hT 0 (by omega) (by omega), hT 1 (by omega) (by omega), hT 2 (by omega) (by omega), hT 3 (by omega) (by omega)⟩
    constructor
    · intro z
      exact e9.1 ⟨z.1 0 (by omega) (by omega), z.1 1 (by omega) (by omega), z.1 2 (by omega) (by omega), z.1 3 (by omega) (by omega), z.2⟩
    · intro z
      have z2 := e9.2 z
      refine ⟨fun i i0 i1 => ?_, z2.2.2.2.2⟩
      rcases (show i = 0 ∨ i = 1 ∨ i = 2 ∨ i = 3 by omega) with u | u | u | u
      · subst u; exact z2.1
      · subst u; exact z2.2.1
      · subst u; exact z2.2.2.1
      · subst u; exact z2.2.2.2.1
  · subst hq
    have e9 := t_W_14_4 (b0 := T (s + 0)) (b1 := T (s + 1)) (b2 := T (s + 2)) (b3 := T (s + 3)) ⟨hT 0 (by omega) (by omega), hT 1 (by omega) (by omega), hT 2 (by omega) (by omega), hT 3 (by omega) (by omega)⟩
    constructor
    · intro z
      exact e9.1 ⟨z.1 0 (by omega) (by omega), z.1 1 (by omega) (by omega), z.1 2 (by omega) (by omega), z.1 3 (by omega) (by omega), z.2⟩
    · intro z
      have z2 := e9.2 z
      refine ⟨fun i i0 i1 => ?_, z2.2.2.2.2⟩
      rcases (show i = 0 ∨ i = 1 ∨ i = 2 ∨ i = 3 by omega) with u | u | u | u
      · subst u; exact z2.1
      · subst u; exact z2.2.1
      · subst u; exact z2.2.2.1
      · subst u; exact z2.2.2.2.1
  · subst hq
    have e9 := t_W_15_4 (b0 := T (s + 0)) (b1 := T (s + 1)) (b2 := T (s + 2)) (b3 := T (s + 3)) ⟨hT 0 (by omega) (by omega), hT 1 (by omega) (by omega), hT 2 (by omega) (by omega), hT 3 (by omega) (by omega)⟩
    constructor
    · intro z
      exact e9.1 ⟨z.1 0 (by omega) (by omega), z.1 1 (by omega) (by omega), z.1 2 (by omega) (by omega), z.1 3 (by omega) (by omega), z.2⟩
    · intro z
      have z2 := e9.2 z
      refine ⟨fun i i0 i1 => ?_, z2.2.2.2.2⟩
      rcases (show i = 0 ∨ i = 1 ∨ i = 2 ∨ i = 3 by omega) with u | u | u | u
      · subst u; exact z2.1
      · subst u; exact z2.2.1
      · subst u; exact z2.2.2.1
      · subst u; exact z2.2.2.2.1
  · subst hq
    have e9 := t_W_16_4 (b0 := T (s + 0)) (b1 := T (s + 1)) (b2 := T (s + 2)) (b3 := T (s + 3)) ⟨hT 0 (by omega) (by omega), hT 1 (by omega) (by omega), hT 2 (by omega) (by omega), hT 3 (by omega) (by omega)⟩
    constructor
    · intro z
      exact e9.1 ⟨z.1 0 (by omega) (by omega), z.1 1 (by omega) (by omega), z.1 2 (by omega) (by omega), z.1 3 (by omega) (by omega), z.2⟩
    · intro z
      have z2 := e9.2 z
      refine ⟨fun i i0 i1 => ?_, z2.2.2.2.2⟩
      rcases (show i = 0 ∨ i = 1 ∨ i = 2 ∨ i = 3 by omega) with u | u | u | u
      · subst u; exact z2.1
      · subst u; exact z2.2.1
      · subst u; exact z2.2.2.1
      · subst u; exact z2.2.2.2.1
  · subst hq
    have e9 := t_W_17_4 (b0 := T (s + 0)) (b1 := T (s + 1)) (b2 := T (s + 2)) (b3 := T (s + 3)) ⟨hT 0 (by omega) (by omega), hT 1 (by omega) (by omega), hT 2 (by omega) (by omega), hT 3 (by omega) (by omega)⟩
    constructor
    · intro z
      exact e9.1 ⟨z.1 0 (by omega) (by omega), z.1 1 (by omega) (by omega), z.1 2 (by omega) (by omega), z.1 3 (by omega) (by omega), z.2⟩
    · intro z
      have z2 := e9.2 z
      refine ⟨fun i i0 i1 => ?_, z2.2.2.2.2⟩
      rcases (show i = 0 ∨ i = 1 ∨ i = 2 ∨ i = 3 by omega) with u | u | u | u
      · subst u; exact z2.1
      · subst u; exact z2.2.1
      · subst u; exact z2.2.2.1
      · subst u; exact z2.2.2.2.1
  · subst hq
    have e9 := t_W_18_4 (b0 := T (s + 0)) (b1 := T (s + 1)) (b2 := T (s + 2)) (b3 := T (s + 3)) ⟨hT 0 (by omega) (by omega), hT 1 (by omega) (by omega), hT 2 (by omega) (by omega), hT 3 (by omega) (by omega)⟩
    constructor
    · intro z
      exact e9.1 ⟨z.1 0 (by omega) (by omega), z.1 1 (by omega) (by omega), z.1 2 (by omega) (by omega), z.1 3 (by omega) (by omega), z.2⟩
    · intro z
      have z2 := e9.2 z
      refine ⟨fun i i0 i1 => ?_, z2.2.2.2.2⟩
      rcases (show i = 0 ∨ i = 1 ∨ i = 2 ∨ i = 3 by omega) with u | u | u | u
      · subst u; exact z2.1
      · subst u; exact z2.2.1
      · subst u; exact z2.2.2.1
      · subst u; exact z2.2.2.2.1
  · subst hq
    have e9 := t_W_19_4 (b0 := T (s + 0)) (b1 := T (s + 1)) (b2 := T (s + 2)) (b3 := T (s + 3)) ⟨hT 0 (by omega) (by omega), hT 1 (by omega) (by omega), hT 2 (by omega) (by omega), hT 3 (by omega) (by omega)⟩
    constructor
    · intro z
      exact e9.1 ⟨z.1 0 (by omega) (by omega), z.1 1 (by omega) (by omega), z.1 2 (by omega) (by omega), z.1 3 (by omega) (by omega), z.2⟩
    · intro z
      have z2 := e9.2 z
      refine ⟨fun i i0 i1 => ?_, z2.2.2.2.2⟩
      rcases (show i = 0 ∨ i = 1 ∨ i = 2 ∨ i = 3 by omega) with u | u | u | u
      · subst u; exact z2.1
      · subst u; exact z2.2.1
      · subst u; exact z2.2.2.1
      · subst u; exact z2.2.2.2.1
  · subst hq
    have e9 := t_W_20_4 (b0 := T (s + 0)) (b1 := T (s + 1)) (b2 := T (s + 2)) (b3 := T (s + 3)) ⟨hT 0 (by omega) (by omega), hT 1 (by omega) (by omega), hT 2 (by omega) (by omega), hT 3 (by omega) (by omega)⟩
    constructor
    · intro z
      exact e9.1 ⟨z.1 0 (by omega) (by omega), z.1 1 (by omega) (by omega), z.1 2 (by omega) (by omega), z.1 3 (by omega) (by omega), z.2⟩
    · intro z
      have z2 := e9.2 z
      refine ⟨fun i i0 i1 => ?_, z2.2.2.2.2⟩
      rcases (show i = 0 ∨ i = 1 ∨ i = 2 ∨ i = 3 by omega) with u | u | u | u
      · subst u; exact z2.1
      · subst u; exact z2.2.1
      · subst u; exact z2.2.2.1
      · subst u; exact z2.2.2.2.1
theorem q_WV_5 (T : Int → Int) (s : Int) : q_WV T s 5 = ((((T (s + 0)) * 256 + T (s + 1)) * 256 + T (s + 2)) * 256 + T (s + 3)) * 256 + T (s + 4) := by
  show ((((0 * 256 + T (s + ((0 : Nat) : Int))) * 256 + T (s + ((1 : Nat) : Int))) * 256 + T (s + ((2 : Nat) : Int))) * 256 + T (s + ((3 : Nat) : Int))) * 256 + T (s + ((4 : Nat) : Int)) = _
  have e0 : (0 : Int) * 256 + T (s + ((0 : Nat) : Int)) = T (s + 0) := by show (0 : Int) * 256 + T (s + 0) = T (s + 0); omega
  rw [e0]
  rfl
theorem t_Wn_5 {T : Int → Int} {s w : Int} (hw : 0 ≤ w ∧ w < 21) (hT : ∀ i, 0 ≤ i → i < 5 → 97 ≤ T (s + i) ∧ T (s + i) ≤ 122) : ((∀ i, 0 ≤ i → i < 5 → tp_sc (6 * w + i) = T (s + i)) ∧ tp_sc (6 * w + 5) = 32) ↔ q_WV T s 5 = t_wc w := by
  rw [q_WV_5]
  rcases (show w = 0 ∨ w = 1 ∨ w = 2 ∨ w = 3 ∨ w = 4 ∨ w = 5 ∨ w = 6 ∨ w = 7 ∨ w = 8 ∨ w = 9 ∨ w = 10 ∨ w = 11 ∨ w = 12 ∨ w = 13 ∨ w = 14 ∨ w = 15 ∨ w = 16 ∨ w = 17 ∨ w = 18 ∨ w = 19 ∨ w = 20 by omega) with hq | hq | hq | hq | hq | hq | hq | hq | hq | hq | hq | hq | hq | hq | hq | hq | hq | hq | hq | hq | hq
  · subst hq
    have e9 := t_W_0_5 (b0 := T (s + 0)) (b1 := T (s + 1)) (b2 := T (s + 2)) (b3 := T (s + 3)) (b4 := T (s + 4)) ⟨hT 0 (by omega) (by omega), hT 1 (by omega) (by omega), hT 2 (by omega) (by omega), hT 3 (by omega) (by omega), hT 4 (by omega) (by omega)⟩
    constructor
    · intro z
      exact e9.1 ⟨z.1 0 (by omega) (by omega), z.1 1 (by omega) (by omega), z.1 2 (by omega) (by omega), z.1 3 (by omega) (by omega), z.1 4 (by omega) (by omega), z.2⟩
    · intro z
      have z2 := e9.2 z
      refine ⟨fun i i0 i1 => ?_, z2.2.2.2.2.2⟩
      rcases (show i = 0 ∨ i = 1 ∨ i = 2 ∨ i = 3 ∨ i = 4 by omega) with u | u | u | u | u
      · subst u; exact z2.1
      · subst u; exact z2.2.1
      · subst u; exact z2.2.2.1
      · subst u; exact z2.2.2.2.1
      · subst u; exact z2.2.2.2.2.1
  · subst hq
    have e9 := t_W_1_5 (b0 := T (s + 0)) (b1 := T (s + 1)) (b2 := T (s + 2)) (b3 := T (s + 3)) (b4 := T (s + 4)) ⟨hT 0 (by omega) (by omega), hT 1 (by omega) (by omega), hT 2 (by omega) (by omega), hT 3 (by omega) (by omega), hT 4 (by omega) (by omega)⟩
    constructor
    · intro z
      exact e9.1 ⟨z.1 0 (by omega) (by omega), z.1 1 (by omega) (by omega), z.1 2 (by omega) (by omega), z.1 3 (by omega) (by omega), z.1 4 (by omega) (by omega), z.2⟩
    · intro z
      have z2 := e9.2 z
      refine ⟨fun i i0 i1 => ?_, z2.2.2.2.2.2⟩
      rcases (show i = 0 ∨ i = 1 ∨ i = 2 ∨ i = 3 ∨ i = 4 by omega) with u | u | u | u | u
      · subst u; exact z2.1
      · subst u; exact z2.2.1
      · subst u; exact z2.2.2.1
      · subst u; exact z2.2.2.2.1
      · subst u; exact z2.2.2.2.2.1
  · subst hq
    have e9 := t_W_2_5 (b0 := T (s + 0)) (b1 := T (s + 1)) (b2 := T (s + 2)) (b3 := T (s + 3)) (b4 := T (s + 4)) ⟨hT 0 (by omega) (by omega), hT 1 (by omega) (by omega), hT 2 (by omega) (by omega), hT 3 (by omega) (by omega), hT 4 (by omega) (by omega)⟩
    constructor
    · intro z
      exact e9.1 ⟨z.1 0 (by omega) (by omega), z.1 1 (by omega) (by omega), z.1 2 (by omega) (by omega), z.1 3 (by omega) (by omega), z.1 4 (by omega) (by omega), z.2⟩
    · intro z
      have z2 := e9.2 z
      refine ⟨fun i i0 i1 => ?_, z2.2.2.2.2.2⟩
      rcases (show i = 0 ∨ i = 1 ∨ i = 2 ∨ i = 3 ∨ i = 4 by omega) with u | u | u | u | u
      · subst u; exact z2.1
      · subst u; exact z2.2.1
      · subst u; exact z2.2.2.1
      · subst u; exact z2.2.2.2.1
      · subst u; exact z2.2.2.2.2.1
  · subst hq
    have e9 := t_W_3_5 (b0 := T (s + 0)) (b1 := T (s + 1)) (b2 := T (s + 2)) (b3 := T (s + 3)) (b4 := T (s + 4)) ⟨hT 0 (by omega) (by omega), hT 1 (by omega) (by omega), hT 2 (by omega) (by omega), hT 3 (by omega) (by omega), hT 4 (by omega) (by omega)⟩
    constructor
    · intro z
      exact e9.1 ⟨z.1 0 (by omega) (by omega), z.1 1 (by omega) (by omega), z.1 2 (by omega) (by omega), z.1 3 (by omega) (by omega), z.1 4 (by omega) (by omega), z.2⟩
    · intro z
      have z2 := e9.2 z
      refine ⟨fun i i0 i1 => ?_, z2.2.2.2.2.2⟩
      rcases (show i = 0 ∨ i = 1 ∨ i = 2 ∨ i = 3 ∨ i = 4 by omega) with u | u | u | u | u
      · subst u; exact z2.1
      · subst u; exact z2.2.1
      · subst u; exact z2.2.2.1
      · subst u; exact z2.2.2.2.1
      · subst u; exact z2.2.2.2.2.1
  · subst hq
    have e9 := t_W_4_5 (b0 := T (s + 0)) (b1 := T (s + 1)) (b2 := T (s + 2)) (b3 := T (s + 3)) (b4 := T (s + 4)) ⟨hT 0 (by omega) (by omega), hT 1 (by omega) (by omega), hT 2 (by omega) (by omega), hT 3 (by omega) (by omega), hT 4 (by omega) (by omega)⟩
    constructor
    · intro z
      exact e9.1 ⟨z.1 0 (by omega) (by omega), z.1 1 (by omega) (by omega), z.1 2 (by omega) (by omega), z.1 3 (by omega) (by omega), z.1 4 (by omega) (by omega), z.2⟩
    · intro z
      have z2 := e9.2 z
      refine ⟨fun i i0 i1 => ?_, z2.2.2.2.2.2⟩
      rcases (show i = 0 ∨ i = 1 ∨ i = 2 ∨ i = 3 ∨ i = 4 by omega) with u | u | u | u | u
      · subst u; exact z2.1
      · subst u; exact z2.2.1
      · subst u; exact z2.2.2.1
      · subst u; exact z2.2.2.2.1
      · subst u; exact z2.2.2.2.2.1
  · subst hq
    have e9 := t_W_5_5 (b0 := T (s + 0)) (b1 := T (s + 1)) (b2 := T (s + 2)) (b3 := T (s + 3)) (b4 := T (s + 4)) ⟨hT 0 (by omega) (by omega), hT 1 (by omega) (by omega), hT 2 (by omega) (by omega), hT 3 (by omega) (by omega), hT 4 (by omega) (by omega)⟩
    constructor
    · intro z
      exact e9.1 ⟨z.1 0 (by omega) (by omega), z.1 1 (by omega) (by omega), z.1 2 (by omega) (by omega), z.1 3 (by omega) (by omega), z.1 4 (by omega) (by omega), z.2⟩
    · intro z
      have z2 := e9.2 z
      refine ⟨fun i i0 i1 => ?_, z2.2.2.2.2.2⟩
      rcases (show i = 0 ∨ i = 1 ∨ i = 2 ∨ i = 3 ∨ i = 4 by omega) with u | u | u | u | u
      · subst u; exact z2.1
      · subst u; exact z2.2.1
      · subst u; exact z2.2.2.1
      · subst u; exact z2.2.2.2.1
      · subst u; exact z2.2.2.2.2.1
  · subst hq
    have e9 := t_W_6_5 (b0 := T (s + 0)) (b1 := T (s + 1)) (b2 := T (s + 2)) (b3 := T (s + 3)) (b4 := T (s + 4)) ⟨hT 0 (by omega) (by omega), hT 1 (by omega) (by omega), hT 2 (by omega) (by omega), hT 3 (by omega) (by omega), hT 4 (by omega) (by omega)⟩
    constructor
    · intro z
      exact e9.1 ⟨z.1 0 (by omega) (by omega), z.1 1 (by omega) (by omega), z.1 2 (by omega) (by omega), z.1 3 (by omega) (by omega), z.1 4 (by omega) (by omega), z.2⟩
    · intro z
      have z2 := e9.2 z
      refine ⟨fun i i0 i1 => ?_, z2.2.2.2.2.2⟩
      rcases (show i = 0 ∨ i = 1 ∨ i = 2 ∨ i = 3 ∨ i = 4 by omega) with u | u | u | u | u
      · subst u; exact z2.1
      · subst u; exact z2.2.1
      · subst u; exact z2.2.2.1
      · subst u; exact z2.2.2.2.1
      · subst u; exact z2.2.2.2.2.1
  · subst hq
    have e9 := t_W_7_5 (b0 := T (s + 0)) (b1 := T (s + 1)) (b2 := T (s + 2)) (b3 := T (s + 3)) (b4 := T (s + 4)) ⟨hT 0 (by omega) (by omega), hT 1 (by omega) (by omega), hT 2 (by omega) (by omega), hT 3 (by omega) (by omega), hT 4 (by omega) (by omega)⟩
    constructor
    · intro z
      exact e9.1 ⟨z.1 0 (by omega) (by omega), z.1 1 (by omega) (by omega), z.1 2 (by omega) (by omega), z.1 3 (by omega) (by omega), z.1 4 (by omega) (by omega), z.2⟩
    · intro z
      have z2 := e9.2 z
      refine ⟨fun i i0 i1 => ?_, z2.2.2.2.2.2⟩
      rcases (show i = 0 ∨ i = 1 ∨ i = 2 ∨ i = 3 ∨ i = 4 by omega) with u | u | u | u | u
      · subst u; exact z2.1
      · subst u; exact z2.2.1
      · subst u; exact z2.2.2.1
      · subst u; exact z2.2.2.2.1
      · subst u; exact z2.2.2.2.2.1
  · subst hq
    have e9 := t_W_8_5 (b0 := T (s + 0)) (b1 := T (s + 1)) (b2 := T (s + 2)) (b3 := T (s + 3)) (b4 := T (s + 4)) ⟨hT 0 (by omega) (by omega), hT 1 (by omega) (by omega), hT 2 (by omega) (by omega), hT 3 (by omega) (by omega), hT 4 (by omega) (by omega)⟩
    constructor
    · intro z
      exact e9.1 ⟨z.1 0 (by omega) (by omega), z.1 1 (by omega) (by omega), z.1 2 (by omega) (by omega), z.1 3 (by omega) (by omega), z.1 4 (by omega) (by omega), z.2⟩
    · intro z
      have z2 := e9.2 z
      refine ⟨fun i i0 i1 => ?_, z2.2.2.2.2.2⟩
      rcases (show i = 0 ∨ i = 1 ∨ i = 2 ∨ i = 3 ∨ i = 4 by omega) with u | u | u | u | u
      · subst u; exact z2.1
      · subst u; exact z2.2.1
      · subst u; exact z2.2.2.1
      · subst u; exact z2.2.2.2.1
      · subst u; exact z2.2.2.2.2.1
  · subst hq
    have e9 := t_W_9_5 (b0 := T (s + 0)) (b1 := T (s + 1)) (b2 := T (s + 2)) (b3 := T (s + 3)) (b4 := T (s + 4)) ⟨hT 0 (by omega) (by omega), hT 1 (by omega) (by omega), hT 2 (by omega) (by omega), hT 3 (by omega) (by omega), hT 4 (by omega) (by omega)⟩
    constructor
    · intro z
      exact e9.1 ⟨z.1 0 (by omega) (by omega), z.1 1 (by omega) (by omega), z.1 2 (by omega) (by omega), z.1 3 (by omega) (by omega), z.1 4 (by omega) (by omega), z.2⟩
    · intro z
      have z2 := e9.2 z
      refine ⟨fun i i0 i1 => ?_, z2.2.2.2.2.2⟩
      rcases (show i = 0 ∨ i = 1 ∨ i = 2 ∨ i = 3 ∨ i = 4 by omega) with u | u | u | u | u
      · subst u; exact z2.1
      · subst u; exact z2.2.1
      · subst u; exact z2.2.2.1
      · subst u; exact z2.2.2.2.1
      · subst u; exact z2.2.2.2.2.1
  · subst hq
    have e9 := t_W_10_5 (b0 := T (s + 0)) (b1 := T (s + 1)) (b2 := T (s + 2)) (b3 := T (s + 3)) (b4 := T (s + 4)) ⟨hT 0 (by omega) (by omega), hT 1 (by omega) (by omega), hT 2 (by omega) (by omega), hT 3 (by omega) (by omega), hT 4 (by omega) (by omega)⟩
    constructor
    · intro z
      exact e9.1 ⟨z.1 0 (by omega) (by omega), z.1 1 (by omega) (by omega), z.1 2 (by omega) (by omega), z.1 3 (by omega) (by omega), z.1 4 (by omega) (by omega), z.2⟩
    · intro z
      have z2 := e9.2 z
      refine ⟨fun i i0 i1 => ?_, z2.2.2.2.2.2⟩
      rcases (show i = 0 ∨ i = 1 ∨ i = 2 ∨ i = 3 ∨ i = 4 by omega) with u | u | u | u | u
      · subst u; exact z2.1
      · subst u; exact z2.2.1
      · subst u; exact z2.2.2.1
      · subst u; exact z2.2.2.2.1
      · subst u; exact z2.2.2.2.2.1
  · subst hq
    have e9 := t_W_11_5 (b0 := T (s + 0)) (b1 := T (s + 1)) (b2 := T (s + 2)) (b3 := T (s + 3)) (b4 := T (s + 4)) ⟨hT 0 (by omega) (by omega), hT 1 (by omega) (by omega), hT 2 (by omega) (by omega), hT 3 (by omega) (by omega), hT 4 (by omega) (by omega)⟩
    constructor
    · intro z
      exact e9.1 ⟨z.1 0 (by omega) (by omega), z.1 1 (by omega) (by omega), z.1 2 (by omega) (by omega), z.1 3 (by omega) (by omega), z.1 4 (by omega) (by omega), z.2⟩
    · intro z
      have z2 := e9.2 z
      refine ⟨fun i i0 i1 => ?_, z2.2.2.2.2.2⟩
      rcases (show i = 0 ∨ i = 1 ∨ i = 2 ∨ i = 3 ∨ i = 4 by omega) with u | u | u | u | u
      · subst u; exact z2.1
      · subst u; exact z2.2.1
      · subst u; exact z2.2.2.1
      · subst u; exact z2.2.2.2.1
      · subst u; exact z2.2.2.2.2.1
  · subst hq
    have e9 := t_W_12_5 (b0 := T (s + 0)) (b1 := T (s + 1)) (b2 := T (s + 2)) (b3 := T (s + 3)) (b4 := T (s + 4)) ⟨hT 0 (by omega) (by omega), hT 1 (by omega) (by omega), hT 2 (by omega) (by omega), hT 3 (by omega) (by omega), hT 4 (by omega) (by omega)⟩
    constructor
    · intro z
      exact e9.1 ⟨z.1 0 (by omega) (by omega), z.1 1 (by omega) (by omega), z.1 2 (by omega) (by omega), z.1 3 (by omega) (by omega), z.1 4 (by omega) (by omega), z.2⟩
    · intro z
      have z2 := e9.2 z
      refine ⟨fun i i0 i1 => ?_, z2.2.2.2.2.2⟩
      rcases (show i = 0 ∨ i = 1 ∨ i = 2 ∨ i = 3 ∨ i = 4 by omega) with u | u | u | u | u
      · subst u; exact z2.1
      · subst u; exact z2.2.1
      · subst u; exact z2.2.2.1
      · subst u; exact z2.2.2.2.1
      · subst u; exact z2.2.2.2.2.1
  · subst hq
    have e9 := t_W_13_5 (b0 := T (s + 0)) (b1 := T (s + 1)) (b2 := T (s + 2)) (b3 := T (s + 3)) (b4 := T (s + 4)) ⟨hT 0 (by omega) (by omega), hT 1 (by omega) (by omega), hT 2 (by omega) (by omega), hT 3 (by omega) (by omega), hT 4 (by omega) (by omega)⟩
    constructor
    · intro z
      exact e9.1 ⟨z.1 0 (by omega) (by omega), z.1 1 (by omega) (by omega), z.1 2 (by omega) (by omega), z.1 3 (by omega) (by omega), z.1 4 (by omega) (by omega), z.2⟩
    · intro z
      have z2 := e9.2 z
      refine ⟨fun i i0 i1 => ?_, z2.2.2.2.2.2⟩
      rcases (show i = 0 ∨ i = 1 ∨ i = 2 ∨ i = 3 ∨ i = 4 by omega) with u | u | u | u | u
      · subst u; exact z2.1
      · subst u; exact z2.2.1
      · subst u; exact z2.2.2.1
      · subst u; exact z2.2.2.2.1
      · subst u; exact z2.2.2.2.2.1
  · subst hq
    have e9 := t_W_14_5 (b0 := T (s + 0)) (b1 := T (s + 1)) (b2 := T (s + 2)) (b3 := T (s + 3)) (b4 := T (s + 4)) ⟨hT 0 (by omega) (by omega), hT 1 (by omega) (by omega), hT 2 (by omega) (by omega), hT 3 (by omega) (by omega), hT 4 (by omega) (by omega)⟩
    constructor
    · intro z
      exact e9.1 ⟨z.1 0 (by omega) (by omega), z.1 1 (by omega) (by omega), z.1 2 (by omega) (by omega), z.1 3 (by omega) (by omega), z.1 4 (by omega) (by omega), z.2⟩
    · intro z
      have z2 := e9.2 z
      refine ⟨fun i i0 i1 => ?_, z2.2.2.2.2.2⟩
      rcases (show i = 0 ∨ i = 1 ∨ i = 2 ∨ i = 3 ∨ i = 4 by omega) with u | u | u | u | u
      · subst u; exact z2.1
      · subst u; exact z2.2.1
      · subst u; exact z2.2.2.1
      · subst u; exact z2.2.2.2.1
      · subst u; exact z2.2.2.2.2.1
  · subst hq
    have e9 := t_W_15_5 (b0 := T (s + 0)) (b1 := T (s + 1)) (b2 := T (s + 2)) (b3 := T (s + 3)) (b4 := T (s + 4)) ⟨hT 0 (by omega) (by omega), hT 1 (by omega) (by omega), hT 2 (by omega) (by omega), hT 3 (by omega) (by omega), hT 4 (by omega) (by omega)⟩
    constructor
    · intro z
      exact e9.1 ⟨z.1 0 (by omega) (by omega), z.1 1 (by omega) (by omega), z.1 2 (by omega) (by omega), z.1 3 (by omega) (by omega), z.1 4 (by omega) (by omega), z.2⟩
    · intro z
      have z2 := e9.2 z
      refine ⟨fun i i0 i1 => ?_, z2.2.2.2.2.2⟩
      rcases (show i = 0 ∨ i = 1 ∨ i = 2 ∨ i = 3 ∨ i = 4 by omega) with u | u | u | u | u
      · subst u; exact z2.1
      · subst u; exact z2.2.1
      · subst u; exact z2.2.2.1
      · subst u; exact z2.2.2.2.1
      · subst u; exact z2.2.2.2.2.1
  · subst hq
    have e9 := t_W_16_5 (b0 := T (s + 0)) (b1 := T (s + 1)) (b2 := T (s + 2)) (b3 := T (s + 3)) (b4 := T (s + 4)) ⟨hT 0 (by omega) (by omega), hT 1 (by omega) (by omega), hT 2 (by omega) (by omega), hT 3 (by omega) (by omega), hT 4 (by omega) (by omega)⟩
    constructor
    · intro z
      exact e9.1 ⟨z.1 0 (by omega) (by omega), z.1 1 (by omega) (by omega), z.1 2 (by omega) (by omega), z.1 3 (by omega) (by omega), z.1 4 (by omega) (by omega), z.2⟩
    · intro z
      have z2 := e9.2 z
      refine ⟨fun i i0 i1 => ?_, z2.2.2.2.2.2⟩
      rcases (show i = 0 ∨ i = 1 ∨ i = 2 ∨ i = 3 ∨ i = 4 by omega) with u | u | u | u | u
      · subst u; exact z2.1
      · subst u; exact z2.2.1
      · subst u; exact z2.2.2.1
      · subst u; exact z2.2.2.2.1
      · subst u; exact z2.2.2.2.2.1
  · subst hq
    have e9 := t_W_17_5 (b0 := T (s + 0)) (b1 := T (s + 1)) (b2 := T (s + 2)) (b3 := T (s + 3)) (b4 := T (s + 4)) ⟨hT 0 (by omega) (by omega), hT 1 (by omega) (by omega), hT 2 (by omega) (by omega), hT 3 (by omega) (by omega), hT 4 (by omega) (by omega)⟩
    constructor
    · intro z
      exact e9.1 ⟨z.1 0 (by omega) (by omega), z.1 1 (by omega) (by omega), z.1 2 (by omega) (by omega), z.1 3 (by omega) (by omega), z.1 4 (by omega) (by omega), z.2⟩
    · intro z
      have z2 := e9.2 z
      refine ⟨fun i i0 i1 => ?_, z2.2.2.2.2.2⟩
      rcases (show i = 0 ∨ i = 1 ∨ i = 2 ∨ i = 3 ∨ i = 4 by omega) with u | u | u | u | u
      · subst u; exact z2.1
      · subst u; exact z2.2.1
      · subst u; exact z2.2.2.1
      · subst u; exact z2.2.2.2.1
      · subst u; exact z2.2.2.2.2.1
  · subst hq
    have e9 := t_W_18_5 (b0 := T (s + 0)) (b1 := T (s + 1)) (b2 := T (s + 2)) (b3 := T (s + 3)) (b4 := T (s + 4)) ⟨hT 0 (by omega) (by omega), hT 1 (by omega) (by omega), hT 2 (by omega) (by omega), hT 3 (by omega) (by omega), hT 4 (by omega) (by omega)⟩
    constructor
    · intro z
      exact e9.1 ⟨z.1 0 (by omega) (by omega), z.1 1 (by omega) (by omega), z.1 2 (by omega) (by omega), z.1 3 (by omega) (by omega), z.1 4 (by omega) (by omega), z.2⟩
    · intro z
      have z2 := e9.2 z
      refine ⟨fun i i0 i1 => ?_, z2.2.2.2.2.2⟩
      rcases (show i = 0 ∨ i = 1 ∨ i = 2 ∨ i = 3 ∨ i = 4 by omega) with u | u | u | u | u
      · subst u; exact z2.1
      · subst u; exact z2.2.1
      · subst u; exact z2.2.2.1
      · subst u; exact z2.2.2.2.1
      · subst u; exact z2.2.2.2.2.1
  · subst hq
    have e9 := t_W_19_5 (b0 := T (s + 0)) (b1 := T (s + 1)) (b2 := T (s + 2)) (b3 := T (s + 3)) (b4 := T (s + 4)) ⟨hT 0 (by omega) (by omega), hT 1 (by omega) (by omega), hT 2 (by omega) (by omega), hT 3 (by omega) (by omega), hT 4 (by omega) (by omega)⟩
    constructor
    · intro z
      exact e9.1 ⟨z.1 0 (by omega) (by omega), z.1 1 (by omega) (by omega), z.1 2 (by omega) (by omega), z.1 3 (by omega) (by omega), z.1 4 (by omega) (by omega), z.2⟩
    · intro z
      have z2 := e9.2 z
      refine ⟨fun i i0 i1 => ?_, z2.2.2.2.2.2⟩
      rcases (show i = 0 ∨ i = 1 ∨ i = 2 ∨ i = 3 ∨ i = 4 by omega) with u | u | u | u | u
      · subst u; exact z2.1
      · subst u; exact z2.2.1
      · subst u; exact z2.2.2.1
      · subst u; exact z2.2.2.2.1
      · subst u; exact z2.2.2.2.2.1
  · subst hq
    have e9 := t_W_20_5 (b0 := T (s + 0)) (b1 := T (s + 1)) (b2 := T (s + 2)) (b3 := T (s + 3)) (b4 := T (s + 4)) ⟨hT 0 (by omega) (by omega), hT 1 (by omega) (by omega), hT 2 (by omega) (by omega), hT 3 (by omega) (by omega), hT 4 (by omega) (by omega)⟩
    constructor
    · intro z
      exact e9.1 ⟨z.1 0 (by omega) (by omega), z.1 1 (by omega) (by omega), z.1 2 (by omega) (by omega), z.1 3 (by omega) (by omega), z.1 4 (by omega) (by omega), z.2⟩
    · intro z
      have z2 := e9.2 z
      refine ⟨fun i i0 i1 => ?_, z2.2.2.2.2.2⟩
      rcases (show i = 0 ∨ i = 1 ∨ i = 2 ∨ i = 3 ∨ i = 4 by omega) with u | u | u | u | u
      · subst u; exact z2.1
      · subst u; exact z2.2.1
      · subst u; exact z2.2.2.1
      · subst u; exact z2.2.2.2.1
      · subst u; exact z2.2.2.2.2.1
theorem q_wv_lo {T : Int → Int} {s : Int} : ∀ n : Nat, (∀ j, s ≤ j → j < s + n → 97 ≤ T j ∧ T j ≤ 122) → 1 ≤ n → 97 * 256 ^ (n - 1) ≤ q_wv T s n := by
  intro n
  induction n with
  | zero => intro _ h; omega
  | succ n ih =>
    intro h _
    have b := h (s + n) (by omega) (by omega)
    show 97 * 256 ^ n ≤ q_wv T s n * 256 + T (s + n)
    cases n with
    | zero => show (97 : Int) * 1 ≤ 0 * 256 + T (s + ((0 : Nat) : Int)); omega
    | succ n =>
      have a := ih (fun j j0 j1 => h j j0 (by omega)) (by omega)
      have e : (256 : Int) ^ (n + 1) = 256 ^ n * 256 := Int.pow_succ 256 n
      rw [show n + 1 - 1 = n by omega] at a
      rw [e]
      omega
theorem t_wc_b {w : Int} (h : 0 ≤ w ∧ w < 21) : 0 < t_wc w ∧ t_wc w < 106652627894272 := by
  have e : ∀ i : Fin 21, 0 < t_wl.getD i.val 0 ∧ t_wl.getD i.val 0 < 106652627894272 := by decide +kernel
  exact e ⟨w.toNat, by omega⟩
/-- what a word's letters say -/
theorem t_isW {T : Int → Int} {s e w : Int} (hw : 0 ≤ w ∧ w < 21) (hs : s < e) (hT : ∀ j, s ≤ j → j < e → 97 ≤ T j ∧ T j ≤ 122) : (e - s < 6 ∧ (∀ i, 0 ≤ i → i < e - s → tp_sc (6 * w + i) = T (s + i)) ∧ tp_sc (6 * w + (e - s)) = 32) ↔ t_wv T s e = t_wc w := by
  have hb := t_wc_b hw
  by_cases q : e - s < 6
  · have e8 : t_wv T s e = q_WV T s (e - s) := if_pos (by omega)
    rw [e8]
    have hT2 : ∀ i, 0 ≤ i → i < e - s → 97 ≤ T (s + i) ∧ T (s + i) ≤ 122 := fun i i0 i1 => hT (s + i) (by omega) (by omega)
    have hn1 : 0 < e - s := by omega
    generalize e - s = n at *
    rw [show (n < 6 ∧ (∀ i, 0 ≤ i → i < n → tp_sc (6 * w + i) = T (s + i)) ∧ tp_sc (6 * w + n) = 32) ↔ ((∀ i, 0 ≤ i → i < n → tp_sc (6 * w + i) = T (s + i)) ∧ tp_sc (6 * w + n) = 32) from ⟨fun z => z.2, fun z => ⟨q, z⟩⟩]
    rcases (show n = 1 ∨ n = 2 ∨ n = 3 ∨ n = 4 ∨ n = 5 by omega) with u | u | u | u | u <;> subst u
    · exact t_Wn_1 hw hT2
    · exact t_Wn_2 hw hT2
    · exact t_Wn_3 hw hT2
    · exact t_Wn_4 hw hT2
    · exact t_Wn_5 hw hT2
  · refine ⟨fun z => absurd z.1 q, fun z => ?_⟩
    unfold t_wv at z
    split at z
    · have a := q_wv_lo (T := T) (s := s) (e - s).toNat (fun j j0 j1 => hT j j0 (by omega)) (by omega)
      have z2 : q_wv T s (e - s).toNat = t_wc w := z
      rw [z2] at a
      rcases (show (e - s).toNat = 6 ∨ (e - s).toNat = 7 ∨ (e - s).toNat = 8 by omega) with u | u | u <;> rw [u] at a <;> omega
    · omega
def t_wf (V : Int) : Nat → Int → Int
  | 0, _ => -1
  | m + 1, w => if V = t_wc w then w else t_wf V m (w + 1)
theorem t_wf_y {V k : Int} : ∀ (m : Nat) (w : Int), w ≤ k → k < w + m → V = t_wc k → (∀ j, w ≤ j → j < k → V ≠ t_wc j) → t_wf V m w = k := by
  intro m
  induction m with
  | zero => intro w h1 h2; omega
  | succ m ih =>
    intro w h1 h2 h3 h4
    rcases (show w = k ∨ w + 1 ≤ k by omega) with u | u
    · rw [u]; exact if_pos h3
    · show (if V = t_wc w then w else t_wf V m (w + 1)) = k
      rw [if_neg (h4 w (Int.le_refl _) (by omega))]
      exact ih (w + 1) u (by omega) h3 (fun j j0 j1 => h4 j (by omega) j1)
theorem t_wf_n {V : Int} : ∀ (m : Nat) (w : Int), (∀ j, w ≤ j → j < w + m → V ≠ t_wc j) → t_wf V m w = -1 := by
  intro m
  induction m with
  | zero => intro w _; rfl
  | succ m ih =>
    intro w h
    show (if V = t_wc w then w else t_wf V m (w + 1)) = -1
    rw [if_neg (h w (Int.le_refl _) (by omega))]
    exact ih (w + 1) (fun j j0 j1 => h j (by omega) (by omega))
/-- which of a sort's words it is -/
def t_wi (so V : Int) : Int := if so = 0 then t_wf V 16 0 else if so = 1 then t_wf V 3 16 else if so = 2 then t_wf V 1 19 else t_wf V 1 20
set_option maxHeartbeats 4000000 in
set_option maxRecDepth 100000 in
theorem l_isW {G : tp_G} {μ : tp_M} (hG : tp_Gf G = true) {T : Int → Int} {len s e w : Int} (hT : ∀ j, 0 ≤ T j ∧ T j ≤ 255) (hC : k_C T len μ) (hst : μ.1 41 4 = s) (hnx : μ.1 41 2 = e) (hw : 0 ≤ w ∧ w < 21) (hse : 0 ≤ s ∧ s < e ∧ e ≤ len) (hlt : ∀ j, s ≤ j → j < e → 97 ≤ T j ∧ T j ≤ 122) (h6 : e - s < 6) : ∀ k, k ≤ e - s → 0 ≤ k → (∀ i, 0 ≤ i → i < k → tp_sc (6 * w + i) = T (s + i)) → tp_g G mX5_isWord 36 [some (tR (some 41)), some (tI (6 * w)), some (tI (e - s)), some (tI k)] [] μ (fun r μ' => ∃ v, r = some (tI v) ∧ (v = 0 ∨ v = 1) ∧ (v = 1 ↔ t_wv T s e = t_wc w) ∧ μ' = μ) := by
  have hc1 := hC.1
  have hc2 := hC.2.1
  have hiff := t_isW hw hse.2.1 hlt
  refine tp_ind _ ?_
  intro k hkN ih  h0 hz
  refine g_iload_n rfl rfl ?_
  refine g_iload_n rfl rfl ?_
  refine g_icmp_ge (tgt := 70) rfl (by decide) (fun h1 => ?_) (fun h1 => ?_)
  · refine g_ldcs rfl ?_
    refine g_iload_n rfl rfl ?_
    refine g_iload_n rfl rfl ?_
    refine x_iadd (z := 6 * w + e - s) rfl (by omega) ⟨by omega, by omega⟩ ?_
    refine g_schar (by omega) (by omega) rfl rfl rfl ?_
    refine g_bipush rfl ⟨by decide, by decide⟩ (by decide) ?_
    refine g_icmp_ne (tgt := 87) rfl (by decide) (fun h2 => ?_) (fun h2 => ?_)
    · refine g_iconst rfl ⟨by decide, by decide⟩ ?_
      refine x_zreturn rfl rfl (Or.inl rfl) ?_
      first
        | exact ⟨0, rfl, Or.inl rfl, ⟨fun z => absurd z (by decide), fun z => absurd (hiff.2 z) (fun u => by have := u.2.1 k h0 (by omega); omega)⟩, rfl⟩
        | exact ⟨0, rfl, Or.inl rfl, ⟨fun z => absurd z (by decide), fun z => absurd (hiff.2 z) (fun u => by have := u.2.2; rw [show 6 * w + (e - s) = 6 * w + e - s by omega] at this; omega)⟩, rfl⟩
    · refine g_iconst rfl ⟨by decide, by decide⟩ ?_
      refine g_goto (tgt := 88) rfl (by decide) ?_
      refine x_zreturn rfl rfl (Or.inr rfl) ?_
      have hke : k = e - s := by omega
      exact ⟨1, rfl, Or.inr rfl, ⟨fun _ => hiff.1 ⟨by omega, fun i i0 i1 => hz i i0 (by omega), by rw [show 6 * w + (e - s) = 6 * w + e - s by omega]; omega⟩, fun _ => rfl⟩, rfl⟩
  · refine g_ldcs rfl ?_
    refine g_iload_n rfl rfl ?_
    refine g_iload_n rfl rfl ?_
    refine x_iadd (z := 6 * w + k) rfl (by omega) ⟨by omega, by omega⟩ ?_
    refine g_schar (by omega) (by omega) rfl rfl rfl ?_
    refine g_aload_n rfl rfl ?_
    refine g_aload_n rfl rfl ?_
    refine x_geti (v := s) rfl rfl (by decide) (Or.inl rfl) hst ?_
    refine g_iload_n rfl rfl ?_
    refine x_iadd (z := s + k) rfl (by omega) ⟨by omega, by omega⟩ ?_
    refine g_cV (as := [tI (s + k)]) (s_byte hG hC (by omega) (by omega)) rfl rfl mX5_byteAt_ok rfl rfl rfl (by decide) rfl rfl rfl ?_
    rintro _ w9 ⟨rfl, hw9⟩ _
    have hw9 := hw9.symm
    subst hw9
    have hTb2 := hT (s + k)
    refine g_icmp_eq (tgt := 64) rfl (by decide) (fun h3 => ?_) (fun h3 => ?_)
    · refine x_iinc (z := k + 1) rfl rfl (by omega) ⟨by omega, by omega⟩ rfl rfl ?_
      refine g_goto (tgt := 36) rfl (by decide) ?_
      exact ih (by omega) (by omega) (fun i i0 i1 => by rcases (show i < k ∨ i = k by omega) with u | u; (exact hz i i0 u); (rw [u]; omega))
    · refine g_iconst rfl ⟨by decide, by decide⟩ ?_
      refine x_zreturn rfl rfl (Or.inl rfl) ?_
      first
        | exact ⟨0, rfl, Or.inl rfl, ⟨fun z => absurd z (by decide), fun z => absurd (hiff.2 z) (fun u => by have := u.2.1 k h0 (by omega); omega)⟩, rfl⟩
        | exact ⟨0, rfl, Or.inl rfl, ⟨fun z => absurd z (by decide), fun z => absurd (hiff.2 z) (fun u => by have := u.2.2; rw [show 6 * w + (e - s) = 6 * w + e - s by omega] at this; omega)⟩, rfl⟩
set_option maxHeartbeats 4000000 in
set_option maxRecDepth 100000 in
theorem s_isW {G : tp_G} {μ : tp_M} (hG : tp_Gf G = true) {T : Int → Int} {len s e w : Int} (hT : ∀ j, 0 ≤ T j ∧ T j ≤ 255) (hC : k_C T len μ) (hst : μ.1 41 4 = s) (hnx : μ.1 41 2 = e) (hw : 0 ≤ w ∧ w < 21) (hse : 0 ≤ s ∧ s < e ∧ e ≤ len) (hlt : ∀ j, s ≤ j → j < e → 97 ≤ T j ∧ T j ≤ 122) : tp_k G mX5_isWord [tR (some 41), tI (6 * w)] μ (fun r μ' => ∃ v, r = some (tI v) ∧ (v = 0 ∨ v = 1) ∧ (v = 1 ↔ t_wv T s e = t_wc w) ∧ μ' = μ) := by
  refine tp_ok_of mX5_isWord_ok rfl (Nat.le_refl _) ?_
  have hc1 := hC.1
  have hc2 := hC.2.1
  have hiff := t_isW hw hse.2.1 hlt
  refine g_aload_n rfl rfl ?_
  refine x_geti (v := e) rfl rfl (by decide) (Or.inl rfl) hnx ?_
  refine g_aload_n rfl rfl ?_
  refine x_geti (v := s) rfl rfl (by decide) (Or.inl rfl) hst ?_
  refine x_isub (z := e - s) rfl (by omega) ⟨by omega, by omega⟩ ?_
  refine g_istore_n rfl rfl rfl ?_
  refine g_iload_n rfl rfl ?_
  refine g_bipush rfl ⟨by decide, by decide⟩ (by decide) ?_
  refine g_icmp_ge (tgt := 32) rfl (by decide) (fun h1 => ?_) (fun h1 => ?_)
  · refine g_iconst rfl ⟨by decide, by decide⟩ ?_
    refine x_zreturn rfl rfl (Or.inl rfl) ?_
    exact ⟨0, rfl, Or.inl rfl, ⟨fun z => absurd z (by decide), fun z => absurd (hiff.2 z) (fun u => by have := u.1; omega)⟩, rfl⟩
  · refine g_iload_n rfl rfl ?_
    refine g_if_lt (tgt := 32) rfl (by decide) (fun hx => absurd hx (by omega)) (fun _ => ?_)
    refine g_iload_n rfl rfl ?_
    refine g_bipush rfl ⟨by decide, by decide⟩ (by decide) ?_
    refine x_iadd (z := 6 * w + 6) rfl (by omega) ⟨by omega, by omega⟩ ?_
    refine g_ldcs rfl ?_
    refine g_slen2 rfl rfl rfl ?_
    refine g_icmp_le (tgt := 34) rfl (by decide) (fun _ => ?_) (fun hx => absurd hx (by omega))
    refine g_iconst rfl ⟨by decide, by decide⟩ ?_
    refine g_istore_n rfl rfl rfl ?_
    exact l_isW hG hT hC hst hnx hw hse hlt (by omega) 0 (by omega) (by omega) (fun i i0 i1 => by omega)
set_option maxHeartbeats 4000000 in
set_option maxRecDepth 100000 in
theorem l_wO0 {G : tp_G} {μ : tp_M} (hG : tp_Gf G = true) {T : Int → Int} {len s e kd : Int} (hT : ∀ j, 0 ≤ T j ∧ T j ≤ 255) (hC : k_C T len μ) (hst : μ.1 41 4 = s) (hnx : μ.1 41 2 = e) (hkd : μ.1 41 3 = kd) (hse : kd = 1 → 0 ≤ s ∧ s < e ∧ e ≤ len) (hlt : kd = 1 → ∀ j, s ≤ j → j < e → 97 ≤ T j ∧ T j ≤ 122) (hk1 : kd = 1) : ∀ k, k ≤ 16 → 0 ≤ k → (∀ j, 0 ≤ j → j < k → t_wv T s e ≠ t_wc j) → tp_g G mX5_wordOf 25 [some (tR (some 41)), some (tI 0), some (tI k)] [] μ (fun r μ' => r = some (tI (t_wi 0 (t_wv T s e))) ∧ μ' = μ) := by
  refine tp_ind _ ?_
  intro k hkN ih  h0 hz
  refine g_iload_n rfl rfl ?_
  refine g_gets rfl ?_
  refine g_iload_n rfl rfl ?_
  refine g_iconst rfl ⟨by decide, by decide⟩ ?_
  refine x_iadd (z := 1) rfl (by omega) ⟨by omega, by omega⟩ ?_
  refine x_sald (i0 := 3) (v := 16) rfl (by decide) (by decide) (by show _ < ((5 : Nat) : Int); decide) rfl ?_
  refine g_icmp_ge (tgt := 61) rfl (by decide) (fun h1 => ?_) (fun h1 => ?_)
  · refine g_iconst rfl ⟨by decide, by decide⟩ ?_
    refine x_ireturn rfl rfl ?_
    exact ⟨congrArg (fun z => some (tI z)) (t_wf_n 16 0 (fun j j0 j1 => hz j j0 (by omega))).symm, rfl⟩
  · refine g_iload_n rfl rfl ?_
    refine g_bipush rfl ⟨by decide, by decide⟩ (by decide) ?_
    refine g_icmp_ge (tgt := 61) rfl (by decide) (fun hx => absurd hx (by omega)) (fun _ => ?_)
    refine g_aload_n rfl rfl ?_
    refine g_iload_n rfl rfl ?_
    refine g_bipush rfl ⟨by decide, by decide⟩ (by decide) ?_
    refine x_imul (z := 6 * k) rfl (by omega) ⟨by omega, by omega⟩ ?_
    refine g_cV (as := [tI (6 * k)]) (s_isW (w := k) hG hT hC hst hnx (by omega) (hse hk1) (hlt hk1)) rfl rfl mX5_isWord_ok rfl rfl rfl (by decide) rfl rfl rfl ?_
    rintro _ w9 ⟨v, rfl, hv01, hvi, hw9⟩ _
    have hw9 := hw9.symm
    subst hw9
    refine g_if_eq (tgt := 55) rfl (by decide) (fun h2 => ?_) (fun h2 => ?_)
    · refine x_iinc (z := k + 1) rfl rfl (by omega) ⟨by omega, by omega⟩ rfl rfl ?_
      refine g_goto (tgt := 25) rfl (by decide) ?_
      exact ih (by omega) (by omega) (fun j j0 j1 z => by rcases (show j < k ∨ j = k by omega) with u | u; (exact hz j j0 u z); (rw [u] at z; have := hvi.2 z; omega))
    · refine g_iload_n rfl rfl ?_
      refine x_ireturn rfl rfl ?_
      exact ⟨congrArg (fun z => some (tI z)) (t_wf_y 16 0 h0 (by omega) (hvi.1 (by omega)) hz).symm, rfl⟩
set_option maxHeartbeats 4000000 in
set_option maxRecDepth 100000 in
theorem s_wO0 {G : tp_G} {μ : tp_M} (hG : tp_Gf G = true) {T : Int → Int} {len s e kd : Int} (hT : ∀ j, 0 ≤ T j ∧ T j ≤ 255) (hC : k_C T len μ) (hst : μ.1 41 4 = s) (hnx : μ.1 41 2 = e) (hkd : μ.1 41 3 = kd) (hse : kd = 1 → 0 ≤ s ∧ s < e ∧ e ≤ len) (hlt : kd = 1 → ∀ j, s ≤ j → j < e → 97 ≤ T j ∧ T j ≤ 122) : tp_k G mX5_wordOf [tR (some 41), tI 0] μ (fun r μ' => r = some (tI (if kd = 1 then t_wi 0 (t_wv T s e) else -1)) ∧ μ' = μ) := by
  refine tp_ok_of mX5_wordOf_ok rfl (Nat.le_refl _) ?_
  refine g_aload_n rfl rfl ?_
  refine x_geti (v := kd) rfl rfl (by decide) (Or.inl rfl) hkd ?_
  refine g_iconst rfl ⟨by decide, by decide⟩ ?_
  refine g_icmp_ne (tgt := 17) rfl (by decide) (fun h1 => ?_) (fun h1 => ?_)
  · refine g_iconst rfl ⟨by decide, by decide⟩ ?_
    refine x_ireturn rfl rfl ?_
    exact ⟨by rw [if_neg (by omega)], rfl⟩
  · refine g_iload_n rfl rfl ?_
    refine g_if_lt (tgt := 17) rfl (by decide) (fun hx => absurd hx (by omega)) (fun _ => ?_)
    refine g_iload_n rfl rfl ?_
    refine g_iconst rfl ⟨by decide, by decide⟩ ?_
    refine g_icmp_lt (tgt := 19) rfl (by decide) (fun _ => ?_) (fun hx => absurd hx (by omega))
    refine g_gets rfl ?_
    refine g_iload_n rfl rfl ?_
    refine x_sald (i0 := 3) (v := 0) rfl (by decide) (by decide) (by show _ < ((5 : Nat) : Int); decide) rfl ?_
    refine g_istore_n rfl rfl rfl ?_
    rw [if_pos (show kd = 1 by omega)]
    exact l_wO0 hG hT hC hst hnx hkd hse hlt (by omega) 0 (by omega) (by omega) (fun j j0 j1 => by omega)
set_option maxHeartbeats 4000000 in
set_option maxRecDepth 100000 in
theorem l_wO1 {G : tp_G} {μ : tp_M} (hG : tp_Gf G = true) {T : Int → Int} {len s e kd : Int} (hT : ∀ j, 0 ≤ T j ∧ T j ≤ 255) (hC : k_C T len μ) (hst : μ.1 41 4 = s) (hnx : μ.1 41 2 = e) (hkd : μ.1 41 3 = kd) (hse : kd = 1 → 0 ≤ s ∧ s < e ∧ e ≤ len) (hlt : kd = 1 → ∀ j, s ≤ j → j < e → 97 ≤ T j ∧ T j ≤ 122) (hk1 : kd = 1) : ∀ k, k ≤ 19 → 16 ≤ k → (∀ j, 16 ≤ j → j < k → t_wv T s e ≠ t_wc j) → tp_g G mX5_wordOf 25 [some (tR (some 41)), some (tI 1), some (tI k)] [] μ (fun r μ' => r = some (tI (t_wi 1 (t_wv T s e))) ∧ μ' = μ) := by
  refine tp_ind _ ?_
  intro k hkN ih  h0 hz
  refine g_iload_n rfl rfl ?_
  refine g_gets rfl ?_
  refine g_iload_n rfl rfl ?_
  refine g_iconst rfl ⟨by decide, by decide⟩ ?_
  refine x_iadd (z := 2) rfl (by omega) ⟨by omega, by omega⟩ ?_
  refine x_sald (i0 := 3) (v := 19) rfl (by decide) (by decide) (by show _ < ((5 : Nat) : Int); decide) rfl ?_
  refine g_icmp_ge (tgt := 61) rfl (by decide) (fun h1 => ?_) (fun h1 => ?_)
  · refine g_iconst rfl ⟨by decide, by decide⟩ ?_
    refine x_ireturn rfl rfl ?_
    exact ⟨congrArg (fun z => some (tI z)) (t_wf_n 3 16 (fun j j0 j1 => hz j j0 (by omega))).symm, rfl⟩
  · refine g_iload_n rfl rfl ?_
    refine g_bipush rfl ⟨by decide, by decide⟩ (by decide) ?_
    refine g_icmp_ge (tgt := 61) rfl (by decide) (fun hx => absurd hx (by omega)) (fun _ => ?_)
    refine g_aload_n rfl rfl ?_
    refine g_iload_n rfl rfl ?_
    refine g_bipush rfl ⟨by decide, by decide⟩ (by decide) ?_
    refine x_imul (z := 6 * k) rfl (by omega) ⟨by omega, by omega⟩ ?_
    refine g_cV (as := [tI (6 * k)]) (s_isW (w := k) hG hT hC hst hnx (by omega) (hse hk1) (hlt hk1)) rfl rfl mX5_isWord_ok rfl rfl rfl (by decide) rfl rfl rfl ?_
    rintro _ w9 ⟨v, rfl, hv01, hvi, hw9⟩ _
    have hw9 := hw9.symm
    subst hw9
    refine g_if_eq (tgt := 55) rfl (by decide) (fun h2 => ?_) (fun h2 => ?_)
    · refine x_iinc (z := k + 1) rfl rfl (by omega) ⟨by omega, by omega⟩ rfl rfl ?_
      refine g_goto (tgt := 25) rfl (by decide) ?_
      exact ih (by omega) (by omega) (fun j j0 j1 z => by rcases (show j < k ∨ j = k by omega) with u | u; (exact hz j j0 u z); (rw [u] at z; have := hvi.2 z; omega))
    · refine g_iload_n rfl rfl ?_
      refine x_ireturn rfl rfl ?_
      exact ⟨congrArg (fun z => some (tI z)) (t_wf_y 3 16 h0 (by omega) (hvi.1 (by omega)) hz).symm, rfl⟩
set_option maxHeartbeats 4000000 in
set_option maxRecDepth 100000 in
theorem s_wO1 {G : tp_G} {μ : tp_M} (hG : tp_Gf G = true) {T : Int → Int} {len s e kd : Int} (hT : ∀ j, 0 ≤ T j ∧ T j ≤ 255) (hC : k_C T len μ) (hst : μ.1 41 4 = s) (hnx : μ.1 41 2 = e) (hkd : μ.1 41 3 = kd) (hse : kd = 1 → 0 ≤ s ∧ s < e ∧ e ≤ len) (hlt : kd = 1 → ∀ j, s ≤ j → j < e → 97 ≤ T j ∧ T j ≤ 122) : tp_k G mX5_wordOf [tR (some 41), tI 1] μ (fun r μ' => r = some (tI (if kd = 1 then t_wi 1 (t_wv T s e) else -1)) ∧ μ' = μ) := by
  refine tp_ok_of mX5_wordOf_ok rfl (Nat.le_refl _) ?_
  refine g_aload_n rfl rfl ?_
  refine x_geti (v := kd) rfl rfl (by decide) (Or.inl rfl) hkd ?_
  refine g_iconst rfl ⟨by decide, by decide⟩ ?_
  refine g_icmp_ne (tgt := 17) rfl (by decide) (fun h1 => ?_) (fun h1 => ?_)
  · refine g_iconst rfl ⟨by decide, by decide⟩ ?_
    refine x_ireturn rfl rfl ?_
    exact ⟨by rw [if_neg (by omega)], rfl⟩
  · refine g_iload_n rfl rfl ?_
    refine g_if_lt (tgt := 17) rfl (by decide) (fun hx => absurd hx (by omega)) (fun _ => ?_)
    refine g_iload_n rfl rfl ?_
    refine g_iconst rfl ⟨by decide, by decide⟩ ?_
    refine g_icmp_lt (tgt := 19) rfl (by decide) (fun _ => ?_) (fun hx => absurd hx (by omega))
    refine g_gets rfl ?_
    refine g_iload_n rfl rfl ?_
    refine x_sald (i0 := 3) (v := 16) rfl (by decide) (by decide) (by show _ < ((5 : Nat) : Int); decide) rfl ?_
    refine g_istore_n rfl rfl rfl ?_
    rw [if_pos (show kd = 1 by omega)]
    exact l_wO1 hG hT hC hst hnx hkd hse hlt (by omega) 16 (by omega) (by omega) (fun j j0 j1 => by omega)
set_option maxHeartbeats 4000000 in
set_option maxRecDepth 100000 in
theorem l_wO2 {G : tp_G} {μ : tp_M} (hG : tp_Gf G = true) {T : Int → Int} {len s e kd : Int} (hT : ∀ j, 0 ≤ T j ∧ T j ≤ 255) (hC : k_C T len μ) (hst : μ.1 41 4 = s) (hnx : μ.1 41 2 = e) (hkd : μ.1 41 3 = kd) (hse : kd = 1 → 0 ≤ s ∧ s < e ∧ e ≤ len) (hlt : kd = 1 → ∀ j, s ≤ j → j < e → 97 ≤ T j ∧ T j ≤ 122) (hk1 : kd = 1) : ∀ k, k ≤ 20 → 19 ≤ k → (∀ j, 19 ≤ j → j < k → t_wv T s e ≠ t_wc j) → tp_g G mX5_wordOf 25 [some (tR (some 41)), some (tI 2), some (tI k)] [] μ (fun r μ' => r = some (tI (t_wi 2 (t_wv T s e))) ∧ μ' = μ) := by
  refine tp_ind _ ?_
  intro k hkN ih  h0 hz
  refine g_iload_n rfl rfl ?_
  refine g_gets rfl ?_
  refine g_iload_n rfl rfl ?_
  refine g_iconst rfl ⟨by decide, by decide⟩ ?_
  refine x_iadd (z := 3) rfl (by omega) ⟨by omega, by omega⟩ ?_
  refine x_sald (i0 := 3) (v := 20) rfl (by decide) (by decide) (by show _ < ((5 : Nat) : Int); decide) rfl ?_
  refine g_icmp_ge (tgt := 61) rfl (by decide) (fun h1 => ?_) (fun h1 => ?_)
  · refine g_iconst rfl ⟨by decide, by decide⟩ ?_
    refine x_ireturn rfl rfl ?_
    exact ⟨congrArg (fun z => some (tI z)) (t_wf_n 1 19 (fun j j0 j1 => hz j j0 (by omega))).symm, rfl⟩
  · refine g_iload_n rfl rfl ?_
    refine g_bipush rfl ⟨by decide, by decide⟩ (by decide) ?_
    refine g_icmp_ge (tgt := 61) rfl (by decide) (fun hx => absurd hx (by omega)) (fun _ => ?_)
    refine g_aload_n rfl rfl ?_
    refine g_iload_n rfl rfl ?_
    refine g_bipush rfl ⟨by decide, by decide⟩ (by decide) ?_
    refine x_imul (z := 6 * k) rfl (by omega) ⟨by omega, by omega⟩ ?_
    refine g_cV (as := [tI (6 * k)]) (s_isW (w := k) hG hT hC hst hnx (by omega) (hse hk1) (hlt hk1)) rfl rfl mX5_isWord_ok rfl rfl rfl (by decide) rfl rfl rfl ?_
    rintro _ w9 ⟨v, rfl, hv01, hvi, hw9⟩ _
    have hw9 := hw9.symm
    subst hw9
    refine g_if_eq (tgt := 55) rfl (by decide) (fun h2 => ?_) (fun h2 => ?_)
    · refine x_iinc (z := k + 1) rfl rfl (by omega) ⟨by omega, by omega⟩ rfl rfl ?_
      refine g_goto (tgt := 25) rfl (by decide) ?_
      exact ih (by omega) (by omega) (fun j j0 j1 z => by rcases (show j < k ∨ j = k by omega) with u | u; (exact hz j j0 u z); (rw [u] at z; have := hvi.2 z; omega))
    · refine g_iload_n rfl rfl ?_
      refine x_ireturn rfl rfl ?_
      exact ⟨congrArg (fun z => some (tI z)) (t_wf_y 1 19 h0 (by omega) (hvi.1 (by omega)) hz).symm, rfl⟩
set_option maxHeartbeats 4000000 in
set_option maxRecDepth 100000 in
theorem s_wO2 {G : tp_G} {μ : tp_M} (hG : tp_Gf G = true) {T : Int → Int} {len s e kd : Int} (hT : ∀ j, 0 ≤ T j ∧ T j ≤ 255) (hC : k_C T len μ) (hst : μ.1 41 4 = s) (hnx : μ.1 41 2 = e) (hkd : μ.1 41 3 = kd) (hse : kd = 1 → 0 ≤ s ∧ s < e ∧ e ≤ len) (hlt : kd = 1 → ∀ j, s ≤ j → j < e → 97 ≤ T j ∧ T j ≤ 122) : tp_k G mX5_wordOf [tR (some 41), tI 2] μ (fun r μ' => r = some (tI (if kd = 1 then t_wi 2 (t_wv T s e) else -1)) ∧ μ' = μ) := by
  refine tp_ok_of mX5_wordOf_ok rfl (Nat.le_refl _) ?_
  refine g_aload_n rfl rfl ?_
  refine x_geti (v := kd) rfl rfl (by decide) (Or.inl rfl) hkd ?_
  refine g_iconst rfl ⟨by decide, by decide⟩ ?_
  refine g_icmp_ne (tgt := 17) rfl (by decide) (fun h1 => ?_) (fun h1 => ?_)
  · refine g_iconst rfl ⟨by decide, by decide⟩ ?_
    refine x_ireturn rfl rfl ?_
    exact ⟨by rw [if_neg (by omega)], rfl⟩
  · refine g_iload_n rfl rfl ?_
    refine g_if_lt (tgt := 17) rfl (by decide) (fun hx => absurd hx (by omega)) (fun _ => ?_)
    refine g_iload_n rfl rfl ?_
    refine g_iconst rfl ⟨by decide, by decide⟩ ?_
    refine g_icmp_lt (tgt := 19) rfl (by decide) (fun _ => ?_) (fun hx => absurd hx (by omega))
    refine g_gets rfl ?_
    refine g_iload_n rfl rfl ?_
    refine x_sald (i0 := 3) (v := 19) rfl (by decide) (by decide) (by show _ < ((5 : Nat) : Int); decide) rfl ?_
    refine g_istore_n rfl rfl rfl ?_
    rw [if_pos (show kd = 1 by omega)]
    exact l_wO2 hG hT hC hst hnx hkd hse hlt (by omega) 19 (by omega) (by omega) (fun j j0 j1 => by omega)
set_option maxHeartbeats 4000000 in
set_option maxRecDepth 100000 in
theorem l_wO3 {G : tp_G} {μ : tp_M} (hG : tp_Gf G = true) {T : Int → Int} {len s e kd : Int} (hT : ∀ j, 0 ≤ T j ∧ T j ≤ 255) (hC : k_C T len μ) (hst : μ.1 41 4 = s) (hnx : μ.1 41 2 = e) (hkd : μ.1 41 3 = kd) (hse : kd = 1 → 0 ≤ s ∧ s < e ∧ e ≤ len) (hlt : kd = 1 → ∀ j, s ≤ j → j < e → 97 ≤ T j ∧ T j ≤ 122) (hk1 : kd = 1) : ∀ k, k ≤ 21 → 20 ≤ k → (∀ j, 20 ≤ j → j < k → t_wv T s e ≠ t_wc j) → tp_g G mX5_wordOf 25 [some (tR (some 41)), some (tI 3), some (tI k)] [] μ (fun r μ' => r = some (tI (t_wi 3 (t_wv T s e))) ∧ μ' = μ) := by
  refine tp_ind _ ?_
  intro k hkN ih  h0 hz
  refine g_iload_n rfl rfl ?_
  refine g_gets rfl ?_
  refine g_iload_n rfl rfl ?_
  refine g_iconst rfl ⟨by decide, by decide⟩ ?_
  refine x_iadd (z := 4) rfl (by omega) ⟨by omega, by omega⟩ ?_
  refine x_sald (i0 := 3) (v := 21) rfl (by decide) (by decide) (by show _ < ((5 : Nat) : Int); decide) rfl ?_
  refine g_icmp_ge (tgt := 61) rfl (by decide) (fun h1 => ?_) (fun h1 => ?_)
  · refine g_iconst rfl ⟨by decide, by decide⟩ ?_
    refine x_ireturn rfl rfl ?_
    exact ⟨congrArg (fun z => some (tI z)) (t_wf_n 1 20 (fun j j0 j1 => hz j j0 (by omega))).symm, rfl⟩
  · refine g_iload_n rfl rfl ?_
    refine g_bipush rfl ⟨by decide, by decide⟩ (by decide) ?_
    refine g_icmp_ge (tgt := 61) rfl (by decide) (fun hx => absurd hx (by omega)) (fun _ => ?_)
    refine g_aload_n rfl rfl ?_
    refine g_iload_n rfl rfl ?_
    refine g_bipush rfl ⟨by decide, by decide⟩ (by decide) ?_
    refine x_imul (z := 6 * k) rfl (by omega) ⟨by omega, by omega⟩ ?_
    refine g_cV (as := [tI (6 * k)]) (s_isW (w := k) hG hT hC hst hnx (by omega) (hse hk1) (hlt hk1)) rfl rfl mX5_isWord_ok rfl rfl rfl (by decide) rfl rfl rfl ?_
    rintro _ w9 ⟨v, rfl, hv01, hvi, hw9⟩ _
    have hw9 := hw9.symm
    subst hw9
    refine g_if_eq (tgt := 55) rfl (by decide) (fun h2 => ?_) (fun h2 => ?_)
    · refine x_iinc (z := k + 1) rfl rfl (by omega) ⟨by omega, by omega⟩ rfl rfl ?_
      refine g_goto (tgt := 25) rfl (by decide) ?_
      exact ih (by omega) (by omega) (fun j j0 j1 z => by rcases (show j < k ∨ j = k by omega) with u | u; (exact hz j j0 u z); (rw [u] at z; have := hvi.2 z; omega))
    · refine g_iload_n rfl rfl ?_
      refine x_ireturn rfl rfl ?_
      exact ⟨congrArg (fun z => some (tI z)) (t_wf_y 1 20 h0 (by omega) (hvi.1 (by omega)) hz).symm, rfl⟩
set_option maxHeartbeats 4000000 in
set_option maxRecDepth 100000 in
theorem s_wO3 {G : tp_G} {μ : tp_M} (hG : tp_Gf G = true) {T : Int → Int} {len s e kd : Int} (hT : ∀ j, 0 ≤ T j ∧ T j ≤ 255) (hC : k_C T len μ) (hst : μ.1 41 4 = s) (hnx : μ.1 41 2 = e) (hkd : μ.1 41 3 = kd) (hse : kd = 1 → 0 ≤ s ∧ s < e ∧ e ≤ len) (hlt : kd = 1 → ∀ j, s ≤ j → j < e → 97 ≤ T j ∧ T j ≤ 122) : tp_k G mX5_wordOf [tR (some 41), tI 3] μ (fun r μ' => r = some (tI (if kd = 1 then t_wi 3 (t_wv T s e) else -1)) ∧ μ' = μ) := by
  refine tp_ok_of mX5_wordOf_ok rfl (Nat.le_refl _) ?_
  refine g_aload_n rfl rfl ?_
  refine x_geti (v := kd) rfl rfl (by decide) (Or.inl rfl) hkd ?_
  refine g_iconst rfl ⟨by decide, by decide⟩ ?_
  refine g_icmp_ne (tgt := 17) rfl (by decide) (fun h1 => ?_) (fun h1 => ?_)
  · refine g_iconst rfl ⟨by decide, by decide⟩ ?_
    refine x_ireturn rfl rfl ?_
    exact ⟨by rw [if_neg (by omega)], rfl⟩
  · refine g_iload_n rfl rfl ?_
    refine g_if_lt (tgt := 17) rfl (by decide) (fun hx => absurd hx (by omega)) (fun _ => ?_)
    refine g_iload_n rfl rfl ?_
    refine g_iconst rfl ⟨by decide, by decide⟩ ?_
    refine g_icmp_lt (tgt := 19) rfl (by decide) (fun _ => ?_) (fun hx => absurd hx (by omega))
    refine g_gets rfl ?_
    refine g_iload_n rfl rfl ?_
    refine x_sald (i0 := 3) (v := 20) rfl (by decide) (by decide) (by show _ < ((5 : Nat) : Int); decide) rfl ?_
    refine g_istore_n rfl rfl rfl ?_
    rw [if_pos (show kd = 1 by omega)]
    exact l_wO3 hG hT hC hst hnx hkd hse hlt (by omega) 20 (by omega) (by omega) (fun j j0 j1 => by omega)
