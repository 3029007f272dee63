/-! ===== methods ===== -/
theorem pwl_12 : pw 12 = 4096 := by decide
theorem r16_0 : Rw 16 0 1 1 10 1 0 0 := rw_of (by decide +kernel)
theorem r16_1 : Rw 16 1 4 3 102 29 1 240 := rw_of (by decide +kernel)
theorem r29_0 : Rw 29 0 1 1 10 0 0 0 := rw_of (by decide +kernel)
theorem r29_1 : Rw 29 1 4 3 63 9 0 0 := rw_of (by decide +kernel)
theorem r29_9 : Rw 29 9 12 3 112 0 6 309 := rw_of (by decide +kernel)
theorem r29_4 : Rw 29 4 5 1 10 0 0 0 := rw_of (by decide +kernel)
theorem r29_5 : Rw 29 5 6 1 1 (cd 4) 5 0 := rw_of (by decide +kernel)
theorem r29_6 : Rw 29 6 9 3 69 20 0 0 := rw_of (by decide +kernel)
theorem r29_20 : Rw 29 20 21 1 77 0 0 0 := rw_of (by decide +kernel)
theorem r16_4 : Rw 16 4 5 1 14 0 0 0 := rw_of (by decide +kernel)
theorem r16_5 : Rw 16 5 8 3 80 11 12 78 := rw_of (by decide +kernel)
theorem fd_0_12 : Fdl 0 11 12 12 2 := fd_of (by decide) rfl (by decide +kernel)
theorem bf_0_12 {M : Mm} (h : Pw M) : 170 ≤ M 0 12 ∧ M 0 12 ≤ 170 := (h 0 12 (by decide) (by decide) (by decide) (by decide +kernel)).get0 g_0_12 rfl rfl rfl rfl
theorem br_0_12 {M : Mm} (h : Pw M) : M 0 12 = 170 := by have := bf_0_12 h; omega
theorem r16_8 : Rw 16 8 9 1 14 0 0 0 := rw_of (by decide +kernel)
theorem r16_9 : Rw 16 9 12 3 80 11 7 57 := rw_of (by decide +kernel)
theorem fd_0_7 : Fdl 0 11 7 7 2 := fd_of (by decide) rfl (by decide +kernel)
theorem bf_0_7 {M : Mm} (h : Pw M) : 138 ≤ M 0 7 ∧ M 0 7 ≤ 138 := (h 0 7 (by decide) (by decide) (by decide) (by decide +kernel)).get0 g_0_7 rfl rfl rfl rfl
theorem br_0_7 {M : Mm} (h : Pw M) : M 0 7 = 138 := by have := bf_0_7 h; omega
theorem r16_12 : Rw 16 12 13 1 10 1 0 0 := rw_of (by decide +kernel)
theorem r16_13 : Rw 16 13 16 3 100 221 3 270 := rw_of (by decide +kernel)
theorem r221_0 : Rw 221 0 1 1 14 1 0 0 := rw_of (by decide +kernel)
theorem r221_1 : Rw 221 1 4 3 80 8 0 30 := rw_of (by decide +kernel)
theorem fd_138_0 : Fdl 138 8 0 0 2 := fd_of (by decide) rfl (by decide +kernel)
theorem bf_138_0 {M : Mm} (h : Pw M) : 10 ≤ M 138 0 ∧ M 138 0 ≤ 10 := (h 138 0 (by decide) (by decide) (by decide) (by decide +kernel)).get0 g_138_0 rfl rfl rfl rfl
theorem br_138_0 {M : Mm} (h : Pw M) : M 138 0 = 10 := by have := bf_138_0 h; omega
theorem r221_4 : Rw 221 4 5 1 20 3 0 0 := rw_of (by decide +kernel)
theorem r221_5 : Rw 221 5 6 1 14 1 0 0 := rw_of (by decide +kernel)
theorem r221_6 : Rw 221 6 7 1 10 2 0 0 := rw_of (by decide +kernel)
theorem r221_7 : Rw 221 7 10 3 100 234 2 36 := rw_of (by decide +kernel)
theorem r234_0 : Rw 234 0 1 1 14 0 0 0 := rw_of (by decide +kernel)
theorem r234_1 : Rw 234 1 4 3 80 8 4 15 := rw_of (by decide +kernel)
theorem fd_138_4 : Fdl 138 8 4 4 2 := fd_of (by decide) rfl (by decide +kernel)
theorem bf_138_4 {M : Mm} (h : Pw M) : 140 ≤ M 138 4 ∧ M 138 4 ≤ 140 := (h 138 4 (by decide) (by decide) (by decide) (by decide +kernel)).get0 g_138_4 rfl rfl rfl rfl
theorem br_138_4 {M : Mm} (h : Pw M) : M 138 4 = 140 := by have := bf_138_4 h; omega
theorem r234_4 : Rw 234 4 5 1 1 (cd 0) 1 0 := rw_of (by decide +kernel)
theorem r234_5 : Rw 234 5 8 3 102 267 2 61 := rw_of (by decide +kernel)
theorem ar_140 : Ar 140 101 3000 := ar_of (by decide) (by decide) (by decide +kernel)
theorem ba_140 {M : Mm} (h : Pw M) {i : Int} (h0 : 0 ≤ i) (h1 : i < 3000) : 0 ≤ M 140 i ∧ M 140 i ≤ 1 := (h 140 i (by decide) (by decide) h0 (by rw [ar_140.2.2.2.1]; exact h1)).get0 (gr_140 (by decide) (by decide) i) rfl rfl rfl rfl
theorem ga_140 (i : Int) : grp 140 i = 82 := gr_140 (by decide) (by decide) i
theorem ua_140 {i z : Int} (hz : 0 ≤ z ∧ z ≤ 1) : Bd 140 i z := Bd.of0 (gr_140 (by decide) (by decide) i) rfl rfl rfl rfl rfl hz
theorem r234_8 : Rw 234 8 9 1 1 (cd 0) 1 0 := rw_of (by decide +kernel)
theorem r234_9 : Rw 234 9 10 1 16 2 0 0 := rw_of (by decide +kernel)
theorem r234_10 : Rw 234 10 11 1 1 (cd 0) 1 0 := rw_of (by decide +kernel)
theorem r234_11 : Rw 234 11 12 1 16 3 0 0 := rw_of (by decide +kernel)
theorem r234_12 : Rw 234 12 13 1 10 3 0 0 := rw_of (by decide +kernel)
theorem r234_13 : Rw 234 13 14 1 14 0 0 0 := rw_of (by decide +kernel)
theorem r234_14 : Rw 234 14 17 3 80 8 0 23 := rw_of (by decide +kernel)
theorem r234_17 : Rw 234 17 20 3 80 5 9 64 := rw_of (by decide +kernel)
theorem fd_10_9 : Fdl 10 5 9 9 0 := fd_of (by decide) rfl (by decide +kernel)
theorem bf_10_9 {M : Mm} (h : Pw M) : 0 ≤ M 10 9 ∧ M 10 9 ≤ 3000 := (h 10 9 (by decide) (by decide) (by decide) (by decide +kernel)).get0 g_10_9 rfl rfl rfl rfl
theorem r234_20 : Rw 234 20 23 3 70 72 0 0 := rw_of (by decide +kernel)
theorem r234_72 : Rw 234 72 73 1 10 2 0 0 := rw_of (by decide +kernel)
theorem r234_73 : Rw 234 73 74 1 74 0 0 0 := rw_of (by decide +kernel)
theorem r234_23 : Rw 234 23 24 1 14 0 0 0 := rw_of (by decide +kernel)
theorem r234_24 : Rw 234 24 27 3 80 8 3 32 := rw_of (by decide +kernel)
theorem fd_138_3 : Fdl 138 8 3 3 2 := fd_of (by decide) rfl (by decide +kernel)
theorem bf_138_3 {M : Mm} (h : Pw M) : 154 ≤ M 138 3 ∧ M 138 3 ≤ 154 := (h 138 3 (by decide) (by decide) (by decide) (by decide +kernel)).get0 g_138_3 rfl rfl rfl rfl
theorem br_138_3 {M : Mm} (h : Pw M) : M 138 3 = 154 := by have := bf_138_3 h; omega
theorem r234_27 : Rw 234 27 28 1 14 0 0 0 := rw_of (by decide +kernel)
theorem r234_28 : Rw 234 28 31 3 80 8 5 19 := rw_of (by decide +kernel)
theorem fd_138_5 : Fdl 138 8 5 5 0 := fd_of (by decide) rfl (by decide +kernel)
theorem bf_138_5 {M : Mm} (h : Pw M) : 0 ≤ M 138 5 ∧ M 138 5 ≤ 12 := (h 138 5 (by decide) (by decide) (by decide) (by decide +kernel)).get0 g_138_5 rfl rfl rfl rfl
theorem r234_31 : Rw 234 31 32 1 87 0 0 0 := rw_of (by decide +kernel)
theorem ar_154 : Ar 154 104 13 := ar_of (by decide) (by decide) (by decide +kernel)
theorem ba_154 {M : Mm} (h : Pw M) {i : Int} (h0 : 0 ≤ i) (h1 : i < 13) : M 154 i = 155 + i := by
  have := (h 154 i (by decide) (by decide) h0 (by rw [ar_154.2.2.2.1]; exact h1)).get (l := 155) (u := 155) (c := 1) (s := 0) (gr_154 (by decide) (by decide) i) rfl rfl rfl rfl
  omega
theorem r234_32 : Rw 234 32 33 1 10 3 0 0 := rw_of (by decide +kernel)
theorem r234_33 : Rw 234 33 36 3 102 191 2 67 := rw_of (by decide +kernel)
theorem r191_0 : Rw 191 0 1 1 14 0 0 0 := rw_of (by decide +kernel)
theorem r191_1 : Rw 191 1 2 1 10 1 0 0 := rw_of (by decide +kernel)
theorem r191_2 : Rw 191 2 4 2 2 (cd 6) 134 0 := rw_of (by decide +kernel)
theorem r191_4 : Rw 191 4 5 1 37 0 0 0 := rw_of (by decide +kernel)
theorem pwl_6 : pw 6 = 64 := by decide
theorem r191_5 : Rw 191 5 6 1 84 0 0 0 := rw_of (by decide +kernel)
theorem arb_155 : (List.range 13).all (fun j => arb (155 + j) 102 47) = true := by decide +kernel
theorem arF_155 {a : Int} (h0 : 155 ≤ a) (h1 : a ≤ 167) : Ar a 102 47 := ar_of (by omega) (by decide) (by
  have h := List.all_eq_true.mp arb_155 (a.toNat - 155) (List.mem_range.mpr (by omega))
  rw [show 155 + (a.toNat - 155) = a.toNat by omega] at h
  exact h)
theorem baF_155 {M : Mm} (h : Pw M) {a i : Int} (ha : 155 ≤ a) (hb : a ≤ 167) (h0 : 0 ≤ i) (h1 : i < 47) : 0 ≤ M a i ∧ M a i ≤ 18446744073709551615 := (h a i (by omega) (by omega) h0 (by rw [(arF_155 ha hb).2.2.2.1]; exact h1)).get0 (gr_155 ha hb i) rfl rfl rfl rfl
theorem r191_6 : Rw 191 6 7 1 10 1 0 0 := rw_of (by decide +kernel)
theorem r191_7 : Rw 191 7 9 2 2 (cd 63) 191 0 := rw_of (by decide +kernel)
theorem r191_9 : Rw 191 9 10 1 33 0 0 0 := rw_of (by decide +kernel)
theorem r191_10 : Rw 191 10 11 1 47 0 0 0 := rw_of (by decide +kernel)
theorem r191_11 : Rw 191 11 12 1 6 1 0 0 := rw_of (by decide +kernel)
theorem r191_12 : Rw 191 12 13 1 43 0 0 0 := rw_of (by decide +kernel)
theorem r191_13 : Rw 191 13 14 1 6 1 0 0 := rw_of (by decide +kernel)
theorem r191_14 : Rw 191 14 15 1 51 0 0 0 := rw_of (by decide +kernel)
theorem r191_15 : Rw 191 15 18 3 62 22 0 0 := rw_of (by decide +kernel)
theorem r191_18 : Rw 191 18 19 1 1 (cd 1) 2 0 := rw_of (by decide +kernel)
theorem r191_19 : Rw 191 19 22 3 60 23 0 0 := rw_of (by decide +kernel)
theorem r191_23 : Rw 191 23 24 1 74 1 0 0 := rw_of (by decide +kernel)
theorem r191_22 : Rw 191 22 23 1 1 (cd 0) 1 0 := rw_of (by decide +kernel)
theorem r234_36 : Rw 234 36 39 3 61 66 0 0 := rw_of (by decide +kernel)
theorem r234_66 : Rw 234 66 69 3 22 3 (cd 1) 32769 := rw_of (by decide +kernel)
theorem r234_69 : Rw 234 69 72 3 60 12 0 0 := rw_of (by decide +kernel)
theorem r234_39 : Rw 234 39 40 1 14 0 0 0 := rw_of (by decide +kernel)
theorem r234_40 : Rw 234 40 41 1 10 3 0 0 := rw_of (by decide +kernel)
theorem r234_41 : Rw 234 41 42 1 10 1 0 0 := rw_of (by decide +kernel)
theorem r234_42 : Rw 234 42 45 3 100 232 3 71 := rw_of (by decide +kernel)
theorem r232_0 : Rw 232 0 1 1 14 0 0 0 := rw_of (by decide +kernel)
theorem r232_1 : Rw 232 1 4 3 80 8 4 15 := rw_of (by decide +kernel)
theorem r232_4 : Rw 232 4 5 1 14 0 0 0 := rw_of (by decide +kernel)
theorem r232_5 : Rw 232 5 8 3 80 8 0 23 := rw_of (by decide +kernel)
theorem r232_8 : Rw 232 8 9 1 10 1 0 0 := rw_of (by decide +kernel)
theorem r232_9 : Rw 232 9 10 1 10 2 0 0 := rw_of (by decide +kernel)
theorem r232_10 : Rw 232 10 13 3 100 186 3 75 := rw_of (by decide +kernel)
theorem r186_0 : Rw 186 0 1 1 10 2 0 0 := rw_of (by decide +kernel)
theorem r186_1 : Rw 186 1 4 3 73 8 0 0 := rw_of (by decide +kernel)
theorem r186_65 : Rw 186 65 66 1 14 0 0 0 := rw_of (by decide +kernel)
theorem r186_66 : Rw 186 66 69 3 80 5 2 50 := rw_of (by decide +kernel)
theorem fd_10_2 : Fdl 10 5 2 2 2 := fd_of (by decide) rfl (by decide +kernel)
theorem bf_10_2 {M : Mm} (h : Pw M) : 137 ≤ M 10 2 ∧ M 10 2 ≤ 137 := (h 10 2 (by decide) (by decide) (by decide) (by decide +kernel)).get0 g_10_2 rfl rfl rfl rfl
theorem br_10_2 {M : Mm} (h : Pw M) : M 10 2 = 137 := by have := bf_10_2 h; omega
theorem r186_69 : Rw 186 69 70 1 10 1 0 0 := rw_of (by decide +kernel)
theorem r186_70 : Rw 186 70 71 1 83 0 0 0 := rw_of (by decide +kernel)
theorem ar_137 : Ar 137 100 3000 := ar_of (by decide) (by decide) (by decide +kernel)
theorem ba_137 {M : Mm} (h : Pw M) {i : Int} (h0 : 0 ≤ i) (h1 : i < 3000) : 0 ≤ M 137 i ∧ M 137 i ≤ 2999 := (h 137 i (by decide) (by decide) h0 (by rw [ar_137.2.2.2.1]; exact h1)).get0 (gr_137 (by decide) (by decide) i) rfl rfl rfl rfl
theorem r186_71 : Rw 186 71 72 1 74 0 0 0 := rw_of (by decide +kernel)
theorem r186_28 : Rw 186 28 29 1 14 0 0 0 := rw_of (by decide +kernel)
theorem r186_29 : Rw 186 29 32 3 80 5 1 47 := rw_of (by decide +kernel)
theorem fd_10_1 : Fdl 10 5 1 1 2 := fd_of (by decide) rfl (by decide +kernel)
theorem bf_10_1 {M : Mm} (h : Pw M) : 136 ≤ M 10 1 ∧ M 10 1 ≤ 136 := (h 10 1 (by decide) (by decide) (by decide) (by decide +kernel)).get0 g_10_1 rfl rfl rfl rfl
theorem br_10_1 {M : Mm} (h : Pw M) : M 10 1 = 136 := by have := bf_10_1 h; omega
theorem r186_32 : Rw 186 32 33 1 10 1 0 0 := rw_of (by decide +kernel)
theorem r186_33 : Rw 186 33 34 1 83 0 0 0 := rw_of (by decide +kernel)
theorem ar_136 : Ar 136 100 3000 := ar_of (by decide) (by decide) (by decide +kernel)
theorem ba_136 {M : Mm} (h : Pw M) {i : Int} (h0 : 0 ≤ i) (h1 : i < 3000) : 0 ≤ M 136 i ∧ M 136 i ≤ 134217727 := (h 136 i (by decide) (by decide) h0 (by rw [ar_136.2.2.2.1]; exact h1)).get0 (gr_136 (by decide) (by decide) i) rfl rfl rfl rfl
theorem r186_34 : Rw 186 34 36 2 2 (cd 21) 149 0 := rw_of (by decide +kernel)
theorem r186_36 : Rw 186 36 37 1 37 0 0 0 := rw_of (by decide +kernel)
theorem pwl_21 : pw 21 = 2097152 := by decide
theorem r186_37 : Rw 186 37 38 1 1 (cd 3) 4 0 := rw_of (by decide +kernel)
theorem r186_38 : Rw 186 38 39 1 33 0 0 0 := rw_of (by decide +kernel)
theorem r186_39 : Rw 186 39 40 1 74 0 0 0 := rw_of (by decide +kernel)
theorem r186_40 : Rw 186 40 41 1 14 0 0 0 := rw_of (by decide +kernel)
theorem r186_41 : Rw 186 41 44 3 80 5 1 47 := rw_of (by decide +kernel)
theorem r186_44 : Rw 186 44 45 1 10 1 0 0 := rw_of (by decide +kernel)
theorem r186_45 : Rw 186 45 46 1 83 0 0 0 := rw_of (by decide +kernel)
theorem r186_46 : Rw 186 46 48 2 2 (cd 23) 151 0 := rw_of (by decide +kernel)
theorem r186_48 : Rw 186 48 49 1 37 0 0 0 := rw_of (by decide +kernel)
theorem pwl_23 : pw 23 = 8388608 := by decide
theorem r186_49 : Rw 186 49 51 2 2 (cd 7) 135 0 := rw_of (by decide +kernel)
theorem r186_51 : Rw 186 51 52 1 33 0 0 0 := rw_of (by decide +kernel)
theorem r186_52 : Rw 186 52 53 1 74 0 0 0 := rw_of (by decide +kernel)
theorem r186_53 : Rw 186 53 54 1 14 0 0 0 := rw_of (by decide +kernel)
theorem r186_54 : Rw 186 54 57 3 80 5 1 47 := rw_of (by decide +kernel)
theorem r186_57 : Rw 186 57 58 1 10 1 0 0 := rw_of (by decide +kernel)
theorem r186_58 : Rw 186 58 59 1 83 0 0 0 := rw_of (by decide +kernel)
theorem r186_59 : Rw 186 59 61 2 2 (cd 26) 154 0 := rw_of (by decide +kernel)
theorem r186_61 : Rw 186 61 62 1 37 0 0 0 := rw_of (by decide +kernel)
theorem pwl_26 : pw 26 = 67108864 := by decide
theorem r186_62 : Rw 186 62 63 1 1 (cd 1) 2 0 := rw_of (by decide +kernel)
theorem r186_63 : Rw 186 63 64 1 33 0 0 0 := rw_of (by decide +kernel)
theorem r186_64 : Rw 186 64 65 1 74 0 0 0 := rw_of (by decide +kernel)
theorem kc_10_186 : Kc 10 186 := kc_of (by decide) (by decide +kernel)
theorem r232_13 : Rw 232 13 14 1 85 0 0 0 := rw_of (by decide +kernel)
theorem r232_14 : Rw 232 14 15 1 1 (cd 1) 2 0 := rw_of (by decide +kernel)
theorem r232_15 : Rw 232 15 18 3 68 22 0 0 := rw_of (by decide +kernel)
theorem r232_22 : Rw 232 22 23 1 1 (cd 0) 1 0 := rw_of (by decide +kernel)
theorem r232_23 : Rw 232 23 24 1 74 1 0 0 := rw_of (by decide +kernel)
theorem r232_18 : Rw 232 18 19 1 1 (cd 1) 2 0 := rw_of (by decide +kernel)
theorem r232_19 : Rw 232 19 22 3 60 23 0 0 := rw_of (by decide +kernel)
theorem kc_138_232 : Kc 138 232 := kc_of (by decide) (by decide +kernel)
theorem r234_45 : Rw 234 45 48 3 62 66 0 0 := rw_of (by decide +kernel)
theorem r234_48 : Rw 234 48 49 1 14 0 0 0 := rw_of (by decide +kernel)
theorem r234_49 : Rw 234 49 52 3 80 8 4 15 := rw_of (by decide +kernel)
theorem r234_52 : Rw 234 52 53 1 14 0 0 0 := rw_of (by decide +kernel)
theorem r234_53 : Rw 234 53 56 3 80 8 0 23 := rw_of (by decide +kernel)
theorem r234_56 : Rw 234 56 57 1 10 3 0 0 := rw_of (by decide +kernel)
theorem r234_57 : Rw 234 57 58 1 10 1 0 0 := rw_of (by decide +kernel)
theorem r234_58 : Rw 234 58 61 3 100 186 3 75 := rw_of (by decide +kernel)
theorem r234_61 : Rw 234 61 62 1 1 (cd 1) 2 0 := rw_of (by decide +kernel)
theorem r234_62 : Rw 234 62 63 1 90 0 0 0 := rw_of (by decide +kernel)
theorem r234_63 : Rw 234 63 66 3 22 2 (cd 1) 32769 := rw_of (by decide +kernel)
theorem kc_138_234 : Kc 138 234 := kc_of (by decide) (by decide +kernel)
theorem r221_10 : Rw 221 10 11 1 53 0 0 0 := rw_of (by decide +kernel)
theorem r221_11 : Rw 221 11 12 1 14 0 0 0 := rw_of (by decide +kernel)
theorem r221_12 : Rw 221 12 13 1 14 1 0 0 := rw_of (by decide +kernel)
theorem r221_13 : Rw 221 13 16 3 80 8 5 40 := rw_of (by decide +kernel)
theorem r221_16 : Rw 221 16 19 3 100 215 2 43 := rw_of (by decide +kernel)
theorem r215_0 : Rw 215 0 1 1 1 (cd 0) 1 0 := rw_of (by decide +kernel)
theorem r215_1 : Rw 215 1 2 1 16 2 0 0 := rw_of (by decide +kernel)
theorem r215_2 : Rw 215 2 3 1 10 2 0 0 := rw_of (by decide +kernel)
theorem r215_3 : Rw 215 3 4 1 1 (cd 1) 2 0 := rw_of (by decide +kernel)
theorem r215_4 : Rw 215 4 5 1 10 1 0 0 := rw_of (by decide +kernel)
theorem r215_5 : Rw 215 5 6 1 36 0 0 0 := rw_of (by decide +kernel)
theorem r215_6 : Rw 215 6 9 3 70 22 0 0 := rw_of (by decide +kernel)
theorem r215_9 : Rw 215 9 10 1 14 0 0 0 := rw_of (by decide +kernel)
theorem r215_10 : Rw 215 10 13 3 80 7 0 11 := rw_of (by decide +kernel)
theorem fd_170_0 : Fdl 170 7 0 0 2 := fd_of (by decide) rfl (by decide +kernel)
theorem bf_170_0 {M : Mm} (h : Pw M) : 171 ≤ M 170 0 ∧ M 170 0 ≤ 171 := (h 170 0 (by decide) (by decide) (by decide) (by decide +kernel)).get0 g_170_0 rfl rfl rfl rfl
theorem br_170_0 {M : Mm} (h : Pw M) : M 170 0 = 171 := by have := bf_170_0 h; omega
theorem r215_13 : Rw 215 13 14 1 10 2 0 0 := rw_of (by decide +kernel)
theorem r215_14 : Rw 215 14 15 1 1 (cd 0) 1 0 := rw_of (by decide +kernel)
theorem r215_15 : Rw 215 15 16 1 90 0 0 0 := rw_of (by decide +kernel)
theorem ar_171 : Ar 171 101 4096 := ar_of (by decide) (by decide) (by decide +kernel)
theorem ba_171 {M : Mm} (h : Pw M) {i : Int} (h0 : 0 ≤ i) (h1 : i < 4096) : 0 ≤ M 171 i ∧ M 171 i ≤ 1 := (h 171 i (by decide) (by decide) h0 (by rw [ar_171.2.2.2.1]; exact h1)).get0 (gr_171 (by decide) (by decide) i) rfl rfl rfl rfl
theorem ga_171 (i : Int) : grp 171 i = 94 := gr_171 (by decide) (by decide) i
theorem ua_171 {i z : Int} (hz : 0 ≤ z ∧ z ≤ 1) : Bd 171 i z := Bd.of0 (gr_171 (by decide) (by decide) i) rfl rfl rfl rfl rfl hz
theorem r215_16 : Rw 215 16 19 3 22 2 (cd 1) 32769 := rw_of (by decide +kernel)
theorem r215_19 : Rw 215 19 22 3 60 2 0 0 := rw_of (by decide +kernel)
theorem r215_22 : Rw 215 22 23 1 77 0 0 0 := rw_of (by decide +kernel)
theorem kc_170_215 : Kc 170 215 := kc_of (by decide) (by decide +kernel)
theorem r221_19 : Rw 221 19 20 1 1 (cd 0) 1 0 := rw_of (by decide +kernel)
theorem r221_20 : Rw 221 20 22 2 17 4 0 0 := rw_of (by decide +kernel)
theorem r221_22 : Rw 221 22 24 2 11 4 0 0 := rw_of (by decide +kernel)
theorem r221_24 : Rw 221 24 25 1 14 3 0 0 := rw_of (by decide +kernel)
theorem r221_25 : Rw 221 25 28 3 80 5 9 47 := rw_of (by decide +kernel)
theorem r221_28 : Rw 221 28 31 3 70 71 0 0 := rw_of (by decide +kernel)
theorem r221_71 : Rw 221 71 72 1 14 0 0 0 := rw_of (by decide +kernel)
theorem r221_72 : Rw 221 72 73 1 14 1 0 0 := rw_of (by decide +kernel)
theorem r221_73 : Rw 221 73 76 3 80 8 5 40 := rw_of (by decide +kernel)
theorem r221_76 : Rw 221 76 79 3 100 222 2 67 := rw_of (by decide +kernel)
theorem r222_0 : Rw 222 0 1 1 1 (cd 0) 1 0 := rw_of (by decide +kernel)
theorem r222_1 : Rw 222 1 2 1 16 2 0 0 := rw_of (by decide +kernel)
theorem r222_2 : Rw 222 2 3 1 10 2 0 0 := rw_of (by decide +kernel)
theorem r222_3 : Rw 222 3 4 1 10 1 0 0 := rw_of (by decide +kernel)
theorem r222_4 : Rw 222 4 7 3 70 58 0 0 := rw_of (by decide +kernel)
theorem r222_58 : Rw 222 58 59 1 77 0 0 0 := rw_of (by decide +kernel)
theorem r222_7 : Rw 222 7 8 1 1 (cd 0) 1 0 := rw_of (by decide +kernel)
theorem r222_8 : Rw 222 8 9 1 16 3 0 0 := rw_of (by decide +kernel)
theorem r222_9 : Rw 222 9 10 1 10 3 0 0 := rw_of (by decide +kernel)
theorem r222_10 : Rw 222 10 11 1 1 (cd 1) 2 0 := rw_of (by decide +kernel)
theorem r222_11 : Rw 222 11 12 1 10 1 0 0 := rw_of (by decide +kernel)
theorem r222_12 : Rw 222 12 13 1 36 0 0 0 := rw_of (by decide +kernel)
theorem r222_13 : Rw 222 13 16 3 70 52 0 0 := rw_of (by decide +kernel)
theorem r222_16 : Rw 222 16 17 1 10 3 0 0 := rw_of (by decide +kernel)
theorem r222_17 : Rw 222 17 18 1 10 2 0 0 := rw_of (by decide +kernel)
theorem r222_18 : Rw 222 18 19 1 37 0 0 0 := rw_of (by decide +kernel)
theorem r222_19 : Rw 222 19 20 1 1 (cd 1) 2 0 := rw_of (by decide +kernel)
theorem r222_20 : Rw 222 20 21 1 33 0 0 0 := rw_of (by decide +kernel)
theorem r222_21 : Rw 222 21 22 1 1 (cd 1) 2 0 := rw_of (by decide +kernel)
theorem r222_22 : Rw 222 22 25 3 68 46 0 0 := rw_of (by decide +kernel)
theorem r222_46 : Rw 222 46 49 3 22 3 (cd 1) 32769 := rw_of (by decide +kernel)
theorem r222_49 : Rw 222 49 52 3 60 9 0 0 := rw_of (by decide +kernel)
theorem r222_52 : Rw 222 52 55 3 22 2 (cd 1) 32769 := rw_of (by decide +kernel)
theorem r222_55 : Rw 222 55 58 3 60 2 0 0 := rw_of (by decide +kernel)
theorem r222_25 : Rw 222 25 26 1 14 0 0 0 := rw_of (by decide +kernel)
theorem r222_26 : Rw 222 26 29 3 80 7 0 11 := rw_of (by decide +kernel)
theorem r222_29 : Rw 222 29 30 1 10 3 0 0 := rw_of (by decide +kernel)
theorem r222_30 : Rw 222 30 31 1 85 0 0 0 := rw_of (by decide +kernel)
theorem r222_31 : Rw 222 31 32 1 1 (cd 1) 2 0 := rw_of (by decide +kernel)
theorem r222_32 : Rw 222 32 35 3 68 46 0 0 := rw_of (by decide +kernel)
theorem r222_35 : Rw 222 35 36 1 14 0 0 0 := rw_of (by decide +kernel)
theorem r222_36 : Rw 222 36 39 3 80 7 0 11 := rw_of (by decide +kernel)
theorem r222_39 : Rw 222 39 40 1 10 3 0 0 := rw_of (by decide +kernel)
theorem r222_40 : Rw 222 40 41 1 1 (cd 1) 2 0 := rw_of (by decide +kernel)
theorem r222_41 : Rw 222 41 42 1 10 2 0 0 := rw_of (by decide +kernel)
theorem r222_42 : Rw 222 42 43 1 36 0 0 0 := rw_of (by decide +kernel)
theorem pwl_0 : pw 0 = 1 := by decide
theorem r222_43 : Rw 222 43 44 1 35 0 0 0 := rw_of (by decide +kernel)
theorem r222_44 : Rw 222 44 45 1 1 (cd 1) 2 0 := rw_of (by decide +kernel)
theorem r222_45 : Rw 222 45 46 1 90 0 0 0 := rw_of (by decide +kernel)
theorem pwl_11 : pw 11 = 2048 := by decide
theorem kc_170_222 : Kc 170 222 := kc_of (by decide) (by decide +kernel)
theorem r221_79 : Rw 221 79 80 1 1 (cd 1) 2 0 := rw_of (by decide +kernel)
theorem r221_80 : Rw 221 80 81 1 14 1 0 0 := rw_of (by decide +kernel)
theorem r221_81 : Rw 221 81 84 3 80 8 5 40 := rw_of (by decide +kernel)
theorem r221_84 : Rw 221 84 85 1 36 0 0 0 := rw_of (by decide +kernel)
theorem r221_85 : Rw 221 85 86 1 1 (cd 1) 2 0 := rw_of (by decide +kernel)
theorem r221_86 : Rw 221 86 87 1 31 0 0 0 := rw_of (by decide +kernel)
theorem r221_87 : Rw 221 87 89 2 17 4 0 0 := rw_of (by decide +kernel)
theorem r221_89 : Rw 221 89 91 2 11 4 0 0 := rw_of (by decide +kernel)
theorem r221_91 : Rw 221 91 93 2 17 5 0 0 := rw_of (by decide +kernel)
theorem r221_93 : Rw 221 93 95 2 11 5 0 0 := rw_of (by decide +kernel)
theorem r221_95 : Rw 221 95 98 3 63 131 0 0 := rw_of (by decide +kernel)
theorem r221_98 : Rw 221 98 99 1 14 0 0 0 := rw_of (by decide +kernel)
theorem r221_99 : Rw 221 99 102 3 80 7 0 11 := rw_of (by decide +kernel)
theorem r221_102 : Rw 221 102 104 2 11 5 0 0 := rw_of (by decide +kernel)
theorem r221_104 : Rw 221 104 105 1 85 0 0 0 := rw_of (by decide +kernel)
theorem r221_105 : Rw 221 105 108 3 62 125 0 0 := rw_of (by decide +kernel)
theorem r221_125 : Rw 221 125 128 3 22 5 (cd (-1)) 32767 := rw_of (by decide +kernel)
theorem r221_128 : Rw 221 128 131 3 60 93 0 0 := rw_of (by decide +kernel)
theorem r221_108 : Rw 221 108 110 2 11 5 0 0 := rw_of (by decide +kernel)
theorem r221_110 : Rw 221 110 113 3 102 246 1 70 := rw_of (by decide +kernel)
theorem r246_0 : Rw 246 0 1 1 10 0 0 0 := rw_of (by decide +kernel)
theorem r246_1 : Rw 246 1 2 1 10 0 0 0 := rw_of (by decide +kernel)
theorem r246_2 : Rw 246 2 3 1 1 (cd 1) 2 0 := rw_of (by decide +kernel)
theorem r246_3 : Rw 246 3 4 1 38 0 0 0 := rw_of (by decide +kernel)
theorem r246_4 : Rw 246 4 7 3 5 (cd 1431655765) 265 0 := rw_of (by decide +kernel)
theorem r246_7 : Rw 246 7 8 1 33 0 0 0 := rw_of (by decide +kernel)
theorem r246_8 : Rw 246 8 9 1 31 0 0 0 := rw_of (by decide +kernel)
theorem r246_9 : Rw 246 9 10 1 16 0 0 0 := rw_of (by decide +kernel)
theorem r246_10 : Rw 246 10 11 1 10 0 0 0 := rw_of (by decide +kernel)
theorem r246_11 : Rw 246 11 14 3 5 (cd 858993459) 266 0 := rw_of (by decide +kernel)
theorem r246_14 : Rw 246 14 15 1 33 0 0 0 := rw_of (by decide +kernel)
theorem r246_15 : Rw 246 15 16 1 10 0 0 0 := rw_of (by decide +kernel)
theorem r246_16 : Rw 246 16 17 1 1 (cd 2) 3 0 := rw_of (by decide +kernel)
theorem r246_17 : Rw 246 17 18 1 38 0 0 0 := rw_of (by decide +kernel)
theorem r246_18 : Rw 246 18 21 3 5 (cd 858993459) 266 0 := rw_of (by decide +kernel)
theorem r246_21 : Rw 246 21 22 1 33 0 0 0 := rw_of (by decide +kernel)
theorem r246_22 : Rw 246 22 23 1 30 0 0 0 := rw_of (by decide +kernel)
theorem r246_23 : Rw 246 23 24 1 16 0 0 0 := rw_of (by decide +kernel)
theorem r246_24 : Rw 246 24 25 1 10 0 0 0 := rw_of (by decide +kernel)
theorem r246_25 : Rw 246 25 26 1 10 0 0 0 := rw_of (by decide +kernel)
theorem r246_26 : Rw 246 26 27 1 1 (cd 4) 5 0 := rw_of (by decide +kernel)
theorem r246_27 : Rw 246 27 28 1 38 0 0 0 := rw_of (by decide +kernel)
theorem r246_28 : Rw 246 28 29 1 30 0 0 0 := rw_of (by decide +kernel)
theorem r246_29 : Rw 246 29 32 3 5 (cd 252645135) 267 0 := rw_of (by decide +kernel)
theorem r246_32 : Rw 246 32 33 1 33 0 0 0 := rw_of (by decide +kernel)
theorem r246_33 : Rw 246 33 34 1 16 0 0 0 := rw_of (by decide +kernel)
theorem r246_34 : Rw 246 34 35 1 10 0 0 0 := rw_of (by decide +kernel)
theorem r246_35 : Rw 246 35 36 1 10 0 0 0 := rw_of (by decide +kernel)
theorem r246_36 : Rw 246 36 38 2 2 (cd 8) 136 0 := rw_of (by decide +kernel)
theorem r246_38 : Rw 246 38 39 1 38 0 0 0 := rw_of (by decide +kernel)
theorem r246_39 : Rw 246 39 40 1 30 0 0 0 := rw_of (by decide +kernel)
theorem r246_40 : Rw 246 40 41 1 16 0 0 0 := rw_of (by decide +kernel)
theorem r246_41 : Rw 246 41 42 1 10 0 0 0 := rw_of (by decide +kernel)
theorem r246_42 : Rw 246 42 43 1 10 0 0 0 := rw_of (by decide +kernel)
theorem r246_43 : Rw 246 43 45 2 2 (cd 16) 144 0 := rw_of (by decide +kernel)
theorem r246_45 : Rw 246 45 46 1 38 0 0 0 := rw_of (by decide +kernel)
theorem r246_46 : Rw 246 46 47 1 30 0 0 0 := rw_of (by decide +kernel)
theorem r246_47 : Rw 246 47 48 1 16 0 0 0 := rw_of (by decide +kernel)
theorem r246_48 : Rw 246 48 49 1 10 0 0 0 := rw_of (by decide +kernel)
theorem r246_49 : Rw 246 49 51 2 2 (cd 63) 191 0 := rw_of (by decide +kernel)
theorem r246_51 : Rw 246 51 52 1 33 0 0 0 := rw_of (by decide +kernel)
theorem r246_52 : Rw 246 52 53 1 74 0 0 0 := rw_of (by decide +kernel)
theorem r221_113 : Rw 221 113 115 2 11 4 0 0 := rw_of (by decide +kernel)
theorem r221_115 : Rw 221 115 118 3 102 246 1 70 := rw_of (by decide +kernel)
theorem r221_118 : Rw 221 118 121 3 70 125 0 0 := rw_of (by decide +kernel)
theorem r221_121 : Rw 221 121 123 2 11 5 0 0 := rw_of (by decide +kernel)
theorem r221_123 : Rw 221 123 125 2 17 4 0 0 := rw_of (by decide +kernel)
theorem r221_131 : Rw 221 131 133 2 11 4 0 0 := rw_of (by decide +kernel)
theorem r221_133 : Rw 221 133 134 1 14 1 0 0 := rw_of (by decide +kernel)
theorem r221_134 : Rw 221 134 137 3 80 8 5 40 := rw_of (by decide +kernel)
theorem r221_137 : Rw 221 137 140 3 102 223 2 75 := rw_of (by decide +kernel)
theorem r223_0 : Rw 223 0 1 1 1 (cd 0) 1 0 := rw_of (by decide +kernel)
theorem r223_1 : Rw 223 1 2 1 16 2 0 0 := rw_of (by decide +kernel)
theorem r223_2 : Rw 223 2 3 1 1 (cd 0) 1 0 := rw_of (by decide +kernel)
theorem r223_3 : Rw 223 3 4 1 16 3 0 0 := rw_of (by decide +kernel)
theorem r223_4 : Rw 223 4 5 1 10 3 0 0 := rw_of (by decide +kernel)
theorem r223_5 : Rw 223 5 6 1 10 1 0 0 := rw_of (by decide +kernel)
theorem r223_6 : Rw 223 6 9 3 70 25 0 0 := rw_of (by decide +kernel)
theorem r223_25 : Rw 223 25 26 1 10 2 0 0 := rw_of (by decide +kernel)
theorem r223_26 : Rw 223 26 27 1 74 0 0 0 := rw_of (by decide +kernel)
theorem r223_9 : Rw 223 9 10 1 1 (cd 2) 3 0 := rw_of (by decide +kernel)
theorem r223_10 : Rw 223 10 11 1 10 2 0 0 := rw_of (by decide +kernel)
theorem r223_11 : Rw 223 11 12 1 32 0 0 0 := rw_of (by decide +kernel)
theorem r223_12 : Rw 223 12 13 1 10 0 0 0 := rw_of (by decide +kernel)
theorem r223_13 : Rw 223 13 14 1 10 3 0 0 := rw_of (by decide +kernel)
theorem r223_14 : Rw 223 14 15 1 37 0 0 0 := rw_of (by decide +kernel)
theorem r223_15 : Rw 223 15 16 1 1 (cd 1) 2 0 := rw_of (by decide +kernel)
theorem r223_16 : Rw 223 16 17 1 33 0 0 0 := rw_of (by decide +kernel)
theorem r223_17 : Rw 223 17 18 1 30 0 0 0 := rw_of (by decide +kernel)
theorem r223_18 : Rw 223 18 19 1 16 2 0 0 := rw_of (by decide +kernel)
theorem r223_19 : Rw 223 19 22 3 22 3 (cd 1) 32769 := rw_of (by decide +kernel)
theorem r223_22 : Rw 223 22 25 3 60 4 0 0 := rw_of (by decide +kernel)
theorem r221_140 : Rw 221 140 141 1 74 0 0 0 := rw_of (by decide +kernel)
theorem r221_31 : Rw 221 31 32 1 14 1 0 0 := rw_of (by decide +kernel)
theorem r221_32 : Rw 221 32 35 3 100 233 1 52 := rw_of (by decide +kernel)
theorem r233_0 : Rw 233 0 1 1 14 0 0 0 := rw_of (by decide +kernel)
theorem r233_1 : Rw 233 1 4 3 80 8 3 32 := rw_of (by decide +kernel)
theorem r233_4 : Rw 233 4 5 1 1 (cd 0) 1 0 := rw_of (by decide +kernel)
theorem r233_5 : Rw 233 5 6 1 87 0 0 0 := rw_of (by decide +kernel)
theorem r233_6 : Rw 233 6 7 1 76 0 0 0 := rw_of (by decide +kernel)
theorem kc_138_233 : Kc 138 233 := kc_of (by decide) (by decide +kernel)
theorem r221_35 : Rw 221 35 37 2 11 4 0 0 := rw_of (by decide +kernel)
theorem r221_37 : Rw 221 37 40 3 102 191 2 56 := rw_of (by decide +kernel)
theorem r221_40 : Rw 221 40 43 3 61 65 0 0 := rw_of (by decide +kernel)
theorem r221_65 : Rw 221 65 68 3 22 4 (cd 1) 32769 := rw_of (by decide +kernel)
theorem r221_68 : Rw 221 68 71 3 60 22 0 0 := rw_of (by decide +kernel)
theorem r221_43 : Rw 221 43 44 1 14 1 0 0 := rw_of (by decide +kernel)
theorem r221_44 : Rw 221 44 46 2 11 4 0 0 := rw_of (by decide +kernel)
theorem r221_46 : Rw 221 46 47 1 10 2 0 0 := rw_of (by decide +kernel)
theorem r221_47 : Rw 221 47 50 3 100 232 3 60 := rw_of (by decide +kernel)
theorem r221_50 : Rw 221 50 53 3 62 65 0 0 := rw_of (by decide +kernel)
theorem r221_53 : Rw 221 53 54 1 14 0 0 0 := rw_of (by decide +kernel)
theorem r221_54 : Rw 221 54 57 3 80 7 0 11 := rw_of (by decide +kernel)
theorem r221_57 : Rw 221 57 58 1 14 1 0 0 := rw_of (by decide +kernel)
theorem r221_58 : Rw 221 58 60 2 11 4 0 0 := rw_of (by decide +kernel)
theorem r221_60 : Rw 221 60 63 3 100 228 2 64 := rw_of (by decide +kernel)
theorem r228_0 : Rw 228 0 1 1 1 (cd 0) 1 0 := rw_of (by decide +kernel)
theorem r228_1 : Rw 228 1 2 1 16 2 0 0 := rw_of (by decide +kernel)
theorem r228_2 : Rw 228 2 3 1 1 (cd 0) 1 0 := rw_of (by decide +kernel)
theorem r228_3 : Rw 228 3 4 1 16 3 0 0 := rw_of (by decide +kernel)
theorem r228_4 : Rw 228 4 5 1 10 3 0 0 := rw_of (by decide +kernel)
theorem r228_5 : Rw 228 5 6 1 14 0 0 0 := rw_of (by decide +kernel)
theorem r228_6 : Rw 228 6 9 3 80 8 5 19 := rw_of (by decide +kernel)
theorem r228_9 : Rw 228 9 12 3 70 41 0 0 := rw_of (by decide +kernel)
theorem r228_41 : Rw 228 41 42 1 10 2 0 0 := rw_of (by decide +kernel)
theorem r228_42 : Rw 228 42 43 1 74 0 0 0 := rw_of (by decide +kernel)
theorem r228_12 : Rw 228 12 13 1 1 (cd 2) 3 0 := rw_of (by decide +kernel)
theorem r228_13 : Rw 228 13 14 1 10 2 0 0 := rw_of (by decide +kernel)
theorem r228_14 : Rw 228 14 15 1 32 0 0 0 := rw_of (by decide +kernel)
theorem r228_15 : Rw 228 15 16 1 14 0 0 0 := rw_of (by decide +kernel)
theorem r228_16 : Rw 228 16 19 3 80 8 2 29 := rw_of (by decide +kernel)
theorem fd_138_2 : Fdl 138 8 2 2 2 := fd_of (by decide) rfl (by decide +kernel)
theorem bf_138_2 {M : Mm} (h : Pw M) : 141 ≤ M 138 2 ∧ M 138 2 ≤ 141 := (h 138 2 (by decide) (by decide) (by decide) (by decide +kernel)).get0 g_138_2 rfl rfl rfl rfl
theorem br_138_2 {M : Mm} (h : Pw M) : M 138 2 = 141 := by have := bf_138_2 h; omega
theorem r228_19 : Rw 228 19 20 1 10 3 0 0 := rw_of (by decide +kernel)
theorem r228_20 : Rw 228 20 21 1 87 0 0 0 := rw_of (by decide +kernel)
theorem ar_141 : Ar 141 104 12 := ar_of (by decide) (by decide) (by decide +kernel)
theorem ba_141 {M : Mm} (h : Pw M) {i : Int} (h0 : 0 ≤ i) (h1 : i < 12) : M 141 i = 142 + i := by
  have := (h 141 i (by decide) (by decide) h0 (by rw [ar_141.2.2.2.1]; exact h1)).get (l := 142) (u := 142) (c := 1) (s := 0) (gr_141 (by decide) (by decide) i) rfl rfl rfl rfl
  omega
theorem r228_21 : Rw 228 21 22 1 10 1 0 0 := rw_of (by decide +kernel)
theorem r228_22 : Rw 228 22 25 3 102 191 2 67 := rw_of (by decide +kernel)
theorem arb_142 : (List.range 12).all (fun j => arb (142 + j) 102 47) = true := by decide +kernel
theorem arF_142 {a : Int} (h0 : 142 ≤ a) (h1 : a ≤ 153) : Ar a 102 47 := ar_of (by omega) (by decide) (by
  have h := List.all_eq_true.mp arb_142 (a.toNat - 142) (List.mem_range.mpr (by omega))
  rw [show 142 + (a.toNat - 142) = a.toNat by omega] at h
  exact h)
theorem baF_142 {M : Mm} (h : Pw M) {a i : Int} (ha : 142 ≤ a) (hb : a ≤ 153) (h0 : 0 ≤ i) (h1 : i < 47) : 0 ≤ M a i ∧ M a i ≤ 18446744073709551615 := (h a i (by omega) (by omega) h0 (by rw [(arF_142 ha hb).2.2.2.1]; exact h1)).get0 (gr_142 ha hb i) rfl rfl rfl rfl
theorem r228_25 : Rw 228 25 28 3 61 32 0 0 := rw_of (by decide +kernel)
theorem r228_32 : Rw 228 32 33 1 1 (cd 0) 1 0 := rw_of (by decide +kernel)
theorem r228_33 : Rw 228 33 34 1 30 0 0 0 := rw_of (by decide +kernel)
theorem r228_34 : Rw 228 34 35 1 16 2 0 0 := rw_of (by decide +kernel)
theorem r228_35 : Rw 228 35 38 3 22 3 (cd 1) 32769 := rw_of (by decide +kernel)
theorem r228_38 : Rw 228 38 41 3 60 4 0 0 := rw_of (by decide +kernel)
theorem r228_28 : Rw 228 28 29 1 1 (cd 1) 2 0 := rw_of (by decide +kernel)
theorem r228_29 : Rw 228 29 32 3 60 33 0 0 := rw_of (by decide +kernel)
theorem kc_138_228 : Kc 138 228 := kc_of (by decide) (by decide +kernel)
theorem r221_63 : Rw 221 63 64 1 1 (cd 1) 2 0 := rw_of (by decide +kernel)
theorem r221_64 : Rw 221 64 65 1 90 0 0 0 := rw_of (by decide +kernel)
theorem kc_170_221 : Kc 170 221 := kc_of (by decide) (by decide +kernel)
theorem r16_16 : Rw 16 16 17 1 74 0 0 0 := rw_of (by decide +kernel)
theorem r26_0 : Rw 26 0 1 1 14 0 0 0 := rw_of (by decide +kernel)
theorem r26_1 : Rw 26 1 4 3 80 11 12 78 := rw_of (by decide +kernel)
theorem r26_4 : Rw 26 4 5 1 14 0 0 0 := rw_of (by decide +kernel)
theorem r26_5 : Rw 26 5 8 3 80 11 7 57 := rw_of (by decide +kernel)
theorem r26_8 : Rw 26 8 11 3 100 216 2 274 := rw_of (by decide +kernel)
theorem r216_0 : Rw 216 0 1 1 14 0 0 0 := rw_of (by decide +kernel)
theorem r216_1 : Rw 216 1 4 3 80 7 4 26 := rw_of (by decide +kernel)
theorem fd_170_4 : Fdl 170 7 4 4 0 := fd_of (by decide) rfl (by decide +kernel)
theorem bf_170_4 {M : Mm} (h : Pw M) : 0 ≤ M 170 4 ∧ M 170 4 ≤ 1 := (h 170 4 (by decide) (by decide) (by decide) (by decide +kernel)).get0 g_170_4 rfl rfl rfl rfl
theorem r216_4 : Rw 216 4 7 3 61 8 0 0 := rw_of (by decide +kernel)
theorem r216_8 : Rw 216 8 9 1 14 0 0 0 := rw_of (by decide +kernel)
theorem r216_9 : Rw 216 9 10 1 14 1 0 0 := rw_of (by decide +kernel)
theorem r216_10 : Rw 216 10 13 3 80 8 5 40 := rw_of (by decide +kernel)
theorem r216_13 : Rw 216 13 16 3 100 215 2 43 := rw_of (by decide +kernel)
theorem r216_16 : Rw 216 16 17 1 1 (cd 0) 1 0 := rw_of (by decide +kernel)
theorem r216_17 : Rw 216 17 18 1 16 2 0 0 := rw_of (by decide +kernel)
theorem r216_18 : Rw 216 18 19 1 10 2 0 0 := rw_of (by decide +kernel)
theorem r216_19 : Rw 216 19 20 1 14 1 0 0 := rw_of (by decide +kernel)
theorem r216_20 : Rw 216 20 23 3 80 8 0 30 := rw_of (by decide +kernel)
theorem r216_23 : Rw 216 23 26 3 80 5 9 47 := rw_of (by decide +kernel)
theorem r216_26 : Rw 216 26 29 3 70 57 0 0 := rw_of (by decide +kernel)
theorem r216_57 : Rw 216 57 58 1 14 0 0 0 := rw_of (by decide +kernel)
theorem r216_58 : Rw 216 58 59 1 14 1 0 0 := rw_of (by decide +kernel)
theorem r216_59 : Rw 216 59 62 3 80 8 5 40 := rw_of (by decide +kernel)
theorem r216_62 : Rw 216 62 65 3 100 222 2 67 := rw_of (by decide +kernel)
theorem r216_65 : Rw 216 65 66 1 14 0 0 0 := rw_of (by decide +kernel)
theorem r216_66 : Rw 216 66 67 1 14 1 0 0 := rw_of (by decide +kernel)
theorem r216_67 : Rw 216 67 70 3 80 8 5 40 := rw_of (by decide +kernel)
theorem r216_70 : Rw 216 70 73 3 100 218 2 79 := rw_of (by decide +kernel)
theorem r218_0 : Rw 218 0 1 1 1 (cd 0) 1 0 := rw_of (by decide +kernel)
theorem r218_1 : Rw 218 1 2 1 16 2 0 0 := rw_of (by decide +kernel)
theorem r218_2 : Rw 218 2 3 1 1 (cd 1) 2 0 := rw_of (by decide +kernel)
theorem r218_3 : Rw 218 3 4 1 10 1 0 0 := rw_of (by decide +kernel)
theorem r218_4 : Rw 218 4 5 1 36 0 0 0 := rw_of (by decide +kernel)
theorem r218_5 : Rw 218 5 6 1 1 (cd 1) 2 0 := rw_of (by decide +kernel)
theorem r218_6 : Rw 218 6 7 1 31 0 0 0 := rw_of (by decide +kernel)
theorem r218_7 : Rw 218 7 8 1 16 3 0 0 := rw_of (by decide +kernel)
theorem r218_8 : Rw 218 8 9 1 10 3 0 0 := rw_of (by decide +kernel)
theorem r218_9 : Rw 218 9 12 3 63 44 0 0 := rw_of (by decide +kernel)
theorem r218_12 : Rw 218 12 13 1 10 2 0 0 := rw_of (by decide +kernel)
theorem r218_13 : Rw 218 13 16 3 3 (cd 924) 33692 0 := rw_of (by decide +kernel)
theorem r218_16 : Rw 218 16 19 3 70 44 0 0 := rw_of (by decide +kernel)
theorem r218_19 : Rw 218 19 20 1 14 0 0 0 := rw_of (by decide +kernel)
theorem r218_20 : Rw 218 20 21 1 10 3 0 0 := rw_of (by decide +kernel)
theorem r218_21 : Rw 218 21 22 1 10 1 0 0 := rw_of (by decide +kernel)
theorem r218_22 : Rw 218 22 25 3 100 220 3 82 := rw_of (by decide +kernel)
theorem r220_0 : Rw 220 0 1 1 14 0 0 0 := rw_of (by decide +kernel)
theorem r220_1 : Rw 220 1 4 3 80 7 0 11 := rw_of (by decide +kernel)
theorem r220_4 : Rw 220 4 5 1 10 1 0 0 := rw_of (by decide +kernel)
theorem r220_5 : Rw 220 5 6 1 85 0 0 0 := rw_of (by decide +kernel)
theorem r220_6 : Rw 220 6 7 1 1 (cd 1) 2 0 := rw_of (by decide +kernel)
theorem r220_7 : Rw 220 7 10 3 68 12 0 0 := rw_of (by decide +kernel)
theorem r220_12 : Rw 220 12 13 1 1 (cd 0) 1 0 := rw_of (by decide +kernel)
theorem r220_13 : Rw 220 13 14 1 16 3 0 0 := rw_of (by decide +kernel)
theorem r220_14 : Rw 220 14 15 1 10 3 0 0 := rw_of (by decide +kernel)
theorem r220_15 : Rw 220 15 16 1 10 2 0 0 := rw_of (by decide +kernel)
theorem r220_16 : Rw 220 16 19 3 70 49 0 0 := rw_of (by decide +kernel)
theorem r220_49 : Rw 220 49 50 1 1 (cd 1) 2 0 := rw_of (by decide +kernel)
theorem r220_50 : Rw 220 50 51 1 74 1 0 0 := rw_of (by decide +kernel)
theorem r220_19 : Rw 220 19 20 1 10 1 0 0 := rw_of (by decide +kernel)
theorem r220_20 : Rw 220 20 21 1 10 3 0 0 := rw_of (by decide +kernel)
theorem r220_21 : Rw 220 21 22 1 37 0 0 0 := rw_of (by decide +kernel)
theorem r220_22 : Rw 220 22 23 1 1 (cd 1) 2 0 := rw_of (by decide +kernel)
theorem r220_23 : Rw 220 23 24 1 33 0 0 0 := rw_of (by decide +kernel)
theorem r220_24 : Rw 220 24 25 1 1 (cd 1) 2 0 := rw_of (by decide +kernel)
theorem r220_25 : Rw 220 25 28 3 68 43 0 0 := rw_of (by decide +kernel)
theorem r220_43 : Rw 220 43 46 3 22 3 (cd 1) 32769 := rw_of (by decide +kernel)
theorem r220_46 : Rw 220 46 49 3 60 14 0 0 := rw_of (by decide +kernel)
theorem r220_28 : Rw 220 28 29 1 14 0 0 0 := rw_of (by decide +kernel)
theorem r220_29 : Rw 220 29 32 3 80 7 0 11 := rw_of (by decide +kernel)
theorem r220_32 : Rw 220 32 33 1 10 1 0 0 := rw_of (by decide +kernel)
theorem r220_33 : Rw 220 33 34 1 1 (cd 1) 2 0 := rw_of (by decide +kernel)
theorem r220_34 : Rw 220 34 35 1 10 3 0 0 := rw_of (by decide +kernel)
theorem r220_35 : Rw 220 35 36 1 36 0 0 0 := rw_of (by decide +kernel)
theorem r220_36 : Rw 220 36 37 1 35 0 0 0 := rw_of (by decide +kernel)
theorem r220_37 : Rw 220 37 38 1 85 0 0 0 := rw_of (by decide +kernel)
theorem r220_38 : Rw 220 38 41 3 62 43 0 0 := rw_of (by decide +kernel)
theorem r220_41 : Rw 220 41 42 1 1 (cd 0) 1 0 := rw_of (by decide +kernel)
theorem r220_42 : Rw 220 42 43 1 74 1 0 0 := rw_of (by decide +kernel)
theorem r220_10 : Rw 220 10 11 1 1 (cd 0) 1 0 := rw_of (by decide +kernel)
theorem r220_11 : Rw 220 11 12 1 74 1 0 0 := rw_of (by decide +kernel)
theorem kc_170_220 : Kc 170 220 := kc_of (by decide) (by decide +kernel)
theorem r218_25 : Rw 218 25 28 3 61 38 0 0 := rw_of (by decide +kernel)
theorem r218_38 : Rw 218 38 41 3 22 3 (cd (-1)) 32767 := rw_of (by decide +kernel)
theorem r218_41 : Rw 218 41 44 3 60 8 0 0 := rw_of (by decide +kernel)
theorem r218_28 : Rw 218 28 29 1 14 0 0 0 := rw_of (by decide +kernel)
theorem r218_29 : Rw 218 29 32 3 80 7 1 15 := rw_of (by decide +kernel)
theorem fd_170_1 : Fdl 170 7 1 1 2 := fd_of (by decide) rfl (by decide +kernel)
theorem bf_170_1 {M : Mm} (h : Pw M) : 172 ≤ M 170 1 ∧ M 170 1 ≤ 172 := (h 170 1 (by decide) (by decide) (by decide) (by decide +kernel)).get0 g_170_1 rfl rfl rfl rfl
theorem br_170_1 {M : Mm} (h : Pw M) : M 170 1 = 172 := by have := bf_170_1 h; omega
theorem r218_32 : Rw 218 32 33 1 10 2 0 0 := rw_of (by decide +kernel)
theorem r218_33 : Rw 218 33 34 1 10 3 0 0 := rw_of (by decide +kernel)
theorem r218_34 : Rw 218 34 35 1 88 0 0 0 := rw_of (by decide +kernel)
theorem ar_172 : Ar 172 100 924 := ar_of (by decide) (by decide) (by decide +kernel)
theorem ba_172 {M : Mm} (h : Pw M) {i : Int} (h0 : 0 ≤ i) (h1 : i < 924) : 0 ≤ M 172 i ∧ M 172 i ≤ 4095 := (h 172 i (by decide) (by decide) h0 (by rw [ar_172.2.2.2.1]; exact h1)).get0 (gr_172 (by decide) (by decide) i) rfl rfl rfl rfl
theorem ga_172 (i : Int) : grp 172 i = 95 := gr_172 (by decide) (by decide) i
theorem ua_172 {i z : Int} (hz : 0 ≤ z ∧ z ≤ 4095) : Bd 172 i z := Bd.of0 (gr_172 (by decide) (by decide) i) rfl rfl rfl rfl rfl hz
theorem r218_35 : Rw 218 35 38 3 22 2 (cd 1) 32769 := rw_of (by decide +kernel)
theorem r218_44 : Rw 218 44 45 1 14 0 0 0 := rw_of (by decide +kernel)
theorem r218_45 : Rw 218 45 46 1 1 (cd 0) 1 0 := rw_of (by decide +kernel)
theorem r218_46 : Rw 218 46 49 3 81 7 3 0 := rw_of (by decide +kernel)
theorem fd_170_3 : Fdl 170 7 3 3 0 := fd_of (by decide) rfl (by decide +kernel)
theorem uf_170_3 {z : Int} (hz : 0 ≤ z ∧ z ≤ 924) : Bd 170 3 z := Bd.of0 g_170_3 rfl rfl rfl rfl rfl hz
theorem r218_49 : Rw 218 49 50 1 1 (cd 0) 1 0 := rw_of (by decide +kernel)
theorem r218_50 : Rw 218 50 51 1 16 3 0 0 := rw_of (by decide +kernel)
theorem r218_51 : Rw 218 51 52 1 10 3 0 0 := rw_of (by decide +kernel)
theorem r218_52 : Rw 218 52 53 1 10 1 0 0 := rw_of (by decide +kernel)
theorem r218_53 : Rw 218 53 56 3 71 121 0 0 := rw_of (by decide +kernel)
theorem r218_56 : Rw 218 56 57 1 1 (cd 0) 1 0 := rw_of (by decide +kernel)
theorem r218_57 : Rw 218 57 59 2 17 4 0 0 := rw_of (by decide +kernel)
theorem r218_59 : Rw 218 59 61 2 11 4 0 0 := rw_of (by decide +kernel)
theorem r218_61 : Rw 218 61 62 1 10 2 0 0 := rw_of (by decide +kernel)
theorem r218_62 : Rw 218 62 65 3 70 115 0 0 := rw_of (by decide +kernel)
theorem r218_115 : Rw 218 115 118 3 22 3 (cd 1) 32769 := rw_of (by decide +kernel)
theorem r218_118 : Rw 218 118 121 3 60 51 0 0 := rw_of (by decide +kernel)
theorem r218_65 : Rw 218 65 66 1 14 0 0 0 := rw_of (by decide +kernel)
theorem r218_66 : Rw 218 66 69 3 80 7 1 15 := rw_of (by decide +kernel)
theorem r218_69 : Rw 218 69 71 2 11 4 0 0 := rw_of (by decide +kernel)
theorem r218_71 : Rw 218 71 72 1 83 0 0 0 := rw_of (by decide +kernel)
theorem r218_72 : Rw 218 72 75 3 102 246 1 70 := rw_of (by decide +kernel)
theorem r218_75 : Rw 218 75 76 1 10 3 0 0 := rw_of (by decide +kernel)
theorem r218_76 : Rw 218 76 79 3 68 109 0 0 := rw_of (by decide +kernel)
theorem r218_109 : Rw 218 109 112 3 22 4 (cd 1) 32769 := rw_of (by decide +kernel)
theorem r218_112 : Rw 218 112 115 3 60 59 0 0 := rw_of (by decide +kernel)
theorem r218_79 : Rw 218 79 80 1 14 0 0 0 := rw_of (by decide +kernel)
theorem r218_80 : Rw 218 80 83 3 80 7 2 19 := rw_of (by decide +kernel)
theorem fd_170_2 : Fdl 170 7 2 2 2 := fd_of (by decide) rfl (by decide +kernel)
theorem bf_170_2 {M : Mm} (h : Pw M) : 173 ≤ M 170 2 ∧ M 170 2 ≤ 173 := (h 170 2 (by decide) (by decide) (by decide) (by decide +kernel)).get0 g_170_2 rfl rfl rfl rfl
theorem br_170_2 {M : Mm} (h : Pw M) : M 170 2 = 173 := by have := bf_170_2 h; omega
theorem r218_83 : Rw 218 83 84 1 14 0 0 0 := rw_of (by decide +kernel)
theorem r218_84 : Rw 218 84 87 3 80 7 3 22 := rw_of (by decide +kernel)
theorem bf_170_3 {M : Mm} (h : Pw M) : 0 ≤ M 170 3 ∧ M 170 3 ≤ 924 := (h 170 3 (by decide) (by decide) (by decide) (by decide +kernel)).get0 g_170_3 rfl rfl rfl rfl
theorem r218_87 : Rw 218 87 88 1 14 0 0 0 := rw_of (by decide +kernel)
theorem r218_88 : Rw 218 88 91 3 80 7 1 15 := rw_of (by decide +kernel)
theorem r218_91 : Rw 218 91 93 2 11 4 0 0 := rw_of (by decide +kernel)
theorem r218_93 : Rw 218 93 94 1 83 0 0 0 := rw_of (by decide +kernel)
theorem r218_94 : Rw 218 94 95 1 10 1 0 0 := rw_of (by decide +kernel)
theorem r218_95 : Rw 218 95 98 3 102 223 2 75 := rw_of (by decide +kernel)
theorem r218_98 : Rw 218 98 99 1 88 0 0 0 := rw_of (by decide +kernel)
theorem ar_173 : Ar 173 100 924 := ar_of (by decide) (by decide) (by decide +kernel)
theorem ga_173 (i : Int) : grp 173 i = 96 := gr_173 (by decide) (by decide) i
theorem ua_173 {i z : Int} (hz : 0 ≤ z ∧ z ≤ 4095) : Bd 173 i z := Bd.of0 (gr_173 (by decide) (by decide) i) rfl rfl rfl rfl rfl hz
theorem r218_99 : Rw 218 99 100 1 14 0 0 0 := rw_of (by decide +kernel)
theorem r218_100 : Rw 218 100 101 1 52 0 0 0 := rw_of (by decide +kernel)
theorem r218_101 : Rw 218 101 104 3 80 7 3 22 := rw_of (by decide +kernel)
theorem r218_104 : Rw 218 104 105 1 1 (cd 1) 2 0 := rw_of (by decide +kernel)
theorem r218_105 : Rw 218 105 106 1 30 0 0 0 := rw_of (by decide +kernel)
theorem r218_106 : Rw 218 106 109 3 81 7 3 0 := rw_of (by decide +kernel)
theorem r218_121 : Rw 218 121 122 1 77 0 0 0 := rw_of (by decide +kernel)
theorem kc_170_218 : Kc 170 218 := kc_of (by decide) (by decide +kernel)
theorem r216_73 : Rw 216 73 74 1 14 0 0 0 := rw_of (by decide +kernel)
theorem r216_74 : Rw 216 74 75 1 1 (cd 1) 2 0 := rw_of (by decide +kernel)
theorem r216_75 : Rw 216 75 78 3 81 7 4 1 := rw_of (by decide +kernel)
theorem uf_170_4 {z : Int} (hz : 0 ≤ z ∧ z ≤ 1) : Bd 170 4 z := Bd.of0 g_170_4 rfl rfl rfl rfl rfl hz
theorem r216_78 : Rw 216 78 79 1 77 0 0 0 := rw_of (by decide +kernel)
theorem r216_29 : Rw 216 29 30 1 14 1 0 0 := rw_of (by decide +kernel)
theorem r216_30 : Rw 216 30 33 3 100 233 1 52 := rw_of (by decide +kernel)
theorem r216_33 : Rw 216 33 34 1 10 2 0 0 := rw_of (by decide +kernel)
theorem r216_34 : Rw 216 34 37 3 102 191 2 56 := rw_of (by decide +kernel)
theorem r216_37 : Rw 216 37 40 3 61 51 0 0 := rw_of (by decide +kernel)
theorem r216_51 : Rw 216 51 54 3 22 2 (cd 1) 32769 := rw_of (by decide +kernel)
theorem r216_54 : Rw 216 54 57 3 60 18 0 0 := rw_of (by decide +kernel)
theorem r216_40 : Rw 216 40 41 1 14 0 0 0 := rw_of (by decide +kernel)
theorem r216_41 : Rw 216 41 44 3 80 7 0 11 := rw_of (by decide +kernel)
theorem r216_44 : Rw 216 44 45 1 14 1 0 0 := rw_of (by decide +kernel)
theorem r216_45 : Rw 216 45 46 1 10 2 0 0 := rw_of (by decide +kernel)
theorem r216_46 : Rw 216 46 49 3 100 228 2 64 := rw_of (by decide +kernel)
theorem r216_49 : Rw 216 49 50 1 1 (cd 1) 2 0 := rw_of (by decide +kernel)
theorem r216_50 : Rw 216 50 51 1 90 0 0 0 := rw_of (by decide +kernel)
theorem r216_7 : Rw 216 7 8 1 77 0 0 0 := rw_of (by decide +kernel)
theorem kc_170_216 : Kc 170 216 := kc_of (by decide) (by decide +kernel)
theorem r26_11 : Rw 26 11 12 1 14 0 0 0 := rw_of (by decide +kernel)
theorem r26_12 : Rw 26 12 15 3 80 11 12 78 := rw_of (by decide +kernel)
theorem r26_15 : Rw 26 15 18 3 80 7 3 278 := rw_of (by decide +kernel)
theorem r26_18 : Rw 26 18 19 1 74 0 0 0 := rw_of (by decide +kernel)
def fm_m29 : Nat := 0
/-- IslandHall.needAnswer -/
theorem m29 {B : eB} (d : Nat) (M0 : Mm) (p0 : Int) (hP0 : Pw M0) (l0 : (-2147483648) ≤ p0) (u0 : p0 ≤ 2147483647) : Ct B (d + 1) 29 [I p0] M0 (qX 0 (fun M => Pw M ∧ Fr (fm_m29 ||| 1) M0 M ∧ M (-1) 0 = M0 (-1) 0 + 1) (qV fun M => Pw M ∧ Fr fm_m29 M0 M ∧ 0 ≤ p0 ∧ 0 ≤ (-1) * p0 + 3)) := by
  refine ct_of (d := d + 0) (k := 0) (L := [some (I p0)]) rfl rfl rfl ?_
  have hF0 := Fr.rf fm_m29 M0
  generalize hQ : (qX 0 (fun M => Pw M ∧ Fr (fm_m29 ||| 1) M0 M ∧ M (-1) 0 = M0 (-1) 0 + 1) (qV fun M => Pw M ∧ Fr fm_m29 M0 M ∧ 0 ≤ p0 ∧ 0 ≤ (-1) * p0 + 3)) = Q
  refine wk_il0 r29_0 ?_
  refine wk_iflt r29_1 ⟨by omega, by omega⟩ ?_ ?_
  · intro h1
    subst hQ; exact wk_thr112 r29_9 rfl (Or.inl ⟨rfl, hP0.thr, (Fr.thr hF0), (by rw [mUp_eq, hF0.at g_below rfl])⟩)
  · intro h2
    refine wk_il0 r29_4 (wk_c1 r29_5 ?_)
    refine wk_iclt r29_6 ⟨by omega, by omega⟩ (by decide) ?_ ?_
    · intro h3
      subst hQ; exact wk_ret r29_20 (Or.inr ⟨rfl, hP0, hF0, by omega, by omega⟩)
    · intro h4
      subst hQ; exact wk_thr112 r29_9 rfl (Or.inl ⟨rfl, hP0.thr, (Fr.thr hF0), (by rw [mUp_eq, hF0.at g_below rfl])⟩)
def fm_m191_f155v8 : Nat := 0
/-- IslandHall$Realm.holds -/
theorem m191_f155v8 {B : eB} (d : Nat) (M0 : Mm) (a0 : Int) (p1 : Int) (hP0 : Pw M0) (ha0 : 155 ≤ a0) (hb0 : a0 ≤ 167) (l1 : 0 ≤ p1) (u1 : p1 ≤ 2999) : Ct B (d + 1) 191 [R a0, I p1] M0 (qI fun z M => Pw M ∧ Fr fm_m191_f155v8 M0 M ∧ 0 ≤ z ∧ z ≤ 1) := by
  refine ct_of (d := d + 0) (k := 0) (L := [some (R a0), some (I p1)]) rfl rfl rfl ?_
  have hF0 := Fr.rf fm_m191_f155v8 M0
  generalize hQ : (qI fun z M => Pw M ∧ Fr fm_m191_f155v8 M0 M ∧ 0 ≤ z ∧ z ≤ 1) = Q
  refine wk_al0 r191_0 (wk_il1 r191_1 (wk_c2 r191_2 (wk_ishrc r191_4 ⟨by omega, by omega⟩ (by decide) pwl_6 (wk_laldb r191_5 (arF_155 (by omega) (by omega)) ⟨by omega, by omega⟩ (fun q0 q1 => baF_155 hP0 (by omega) (by omega) q0 q1) (by decide) ?_))))
  intro n2 h3 h4 e5
  refine wk_il1 r191_6 (wk_c2 r191_7 (wk_iandc 6 64 r191_9 ⟨rfl, by decide⟩ rfl (wk_lushr r191_10 (by omega) ⟨by omega, by omega⟩ (wk_anyl (Nat.lt_of_le_of_lt (Nat.div_le_self _ _) (by omega)) ?_))))
  intro n6 h7
  refine wk_c6 r191_11 (wk_land r191_12 ?_)
  intro n8 h9 h10 h11 h12
  refine wk_c6 r191_13 ?_
  refine wk_lcmp r191_14 (by omega) (by omega) ?_ ?_
  · intro h13
    refine wk_ifne r191_15 (by decide) ?_ ?_
    · intro h19
      exfalso
      omega
    · intro h20
      refine wk_c1 r191_18 (wk_goto r191_19 ?_)
      subst hQ; exact wk_zret r191_23 (by decide) (⟨rfl, _, rfl, hP0, hF0, by omega, by omega⟩)
  · intro h14 v18 h15 h16 h17
    refine wk_ifne r191_15 ⟨by omega, by omega⟩ ?_ ?_
    · intro h21
      refine wk_c1 r191_22 ?_
      subst hQ; exact wk_zret r191_23 (by decide) (⟨rfl, _, rfl, hP0, hF0, by omega, by omega⟩)
    · intro h22
      exfalso
      omega
def fm_m186_10v8 : Nat := 0
/-- IslandHall$Realm.answerAt -/
theorem m186_10v8 {B : eB} (d : Nat) (M0 : Mm) (p1 : Int) (p2 : Int) (hP0 : Pw M0) (l1 : 0 ≤ p1) (u1 : p1 ≤ 2999) (l2 : 0 ≤ p2) (u2 : p2 ≤ 3) : Ct B (d + 1) 186 [R 10, I p1, I p2] M0 (qI fun z M => Pw M ∧ Fr fm_m186_10v8 M0 M ∧ 0 ≤ z ∧ z ≤ 2999) := by
  refine ct_of (d := d + 0) (k := 0) (L := [some (R 10), some (I p1), some (I p2)]) rfl rfl rfl ?_
  have hF0 := Fr.rf fm_m186_10v8 M0
  generalize hQ : (qI fun z M => Pw M ∧ Fr fm_m186_10v8 M0 M ∧ 0 ≤ z ∧ z ≤ 2999) = Q
  refine wk_il2 r186_0 ?_
  refine wk_sw8 r186_1 ⟨by omega, by omega⟩ ?_ ?_ ?_ ?_
  · intro h1
    refine wk_al0 r186_65 (wk_getfr r186_66 fd_10_2 (br_10_2 hP0) (wk_il1 r186_69 (wk_ialdb r186_70 ar_137 ⟨by omega, by omega⟩ (fun q0 q1 => ba_137 hP0 q0 q1) ?_)))
    intro v2 h4 h5 e3
    subst hQ; exact wk_iret r186_71 (⟨rfl, _, rfl, hP0, hF0, by omega, by omega⟩)
  · intro h6
    refine wk_al0 r186_28 (wk_getfr r186_29 fd_10_1 (br_10_1 hP0) (wk_il1 r186_32 (wk_ialdb r186_33 ar_136 ⟨by omega, by omega⟩ (fun q0 q1 => ba_136 hP0 q0 q1) ?_)))
    intro v7 h9 h10 e8
    refine wk_c2 r186_34 (wk_ishrc r186_36 ⟨by omega, by omega⟩ (by decide) pwl_21 (wk_c1 r186_37 (wk_iandc 2 4 r186_38 ⟨rfl, by decide⟩ rfl ?_)))
    subst hQ; exact wk_iret r186_39 (⟨rfl, _, rfl, hP0, hF0, by omega, by omega⟩)
  · intro h13
    refine wk_al0 r186_40 (wk_getfr r186_41 fd_10_1 (br_10_1 hP0) (wk_il1 r186_44 (wk_ialdb r186_45 ar_136 ⟨by omega, by omega⟩ (fun q0 q1 => ba_136 hP0 q0 q1) ?_)))
    intro v14 h16 h17 e15
    refine wk_c2 r186_46 (wk_ishrc r186_48 ⟨by omega, by omega⟩ (by decide) pwl_23 (wk_c2 r186_49 (wk_iandc 3 8 r186_51 ⟨rfl, by decide⟩ rfl ?_)))
    subst hQ; exact wk_iret r186_52 (⟨rfl, _, rfl, hP0, hF0, by omega, by omega⟩)
  · intro h20
    refine wk_al0 r186_53 (wk_getfr r186_54 fd_10_1 (br_10_1 hP0) (wk_il1 r186_57 (wk_ialdb r186_58 ar_136 ⟨by omega, by omega⟩ (fun q0 q1 => ba_136 hP0 q0 q1) ?_)))
    intro v21 h23 h24 e22
    refine wk_c2 r186_59 (wk_ishrc r186_61 ⟨by omega, by omega⟩ (by decide) pwl_26 (wk_c1 r186_62 (wk_iandc 1 2 r186_63 ⟨rfl, by decide⟩ rfl ?_)))
    subst hQ; exact wk_iret r186_64 (⟨rfl, _, rfl, hP0, hF0, by omega, by omega⟩)
def fm_m232_138v8 : Nat := 0
/-- IslandHall$Tale.isMarked -/
theorem m232_138v8 {B : eB} (d : Nat) (M0 : Mm) (p1 : Int) (p2 : Int) (hP0 : Pw M0) (l1 : 0 ≤ p1) (u1 : p1 ≤ 2999) (l2 : 0 ≤ p2) (u2 : p2 ≤ 3) : Ct B (d + 2) 232 [R 138, I p1, I p2] M0 (qI fun z M => Pw M ∧ Fr fm_m232_138v8 M0 M ∧ 0 ≤ z ∧ z ≤ 1) := by
  refine ct_of (d := d + 1) (k := 0) (L := [some (R 138), some (I p1), some (I p2)]) rfl rfl rfl ?_
  have hF0 := Fr.rf fm_m232_138v8 M0
  generalize hQ : (qI fun z M => Pw M ∧ Fr fm_m232_138v8 M0 M ∧ 0 ≤ z ∧ z ≤ 1) = Q
  refine wk_al0 r232_0 (wk_getfr r232_1 fd_138_4 (br_138_4 hP0) (wk_al0 r232_4 (wk_getfr r232_5 fd_138_0 (br_138_0 hP0) (wk_il1 r232_8 (wk_il2 r232_9 (wk_cv3 r232_10 kc_10_186 rfl (m186_10v8 _ M0 p1 p2 hP0 (by omega) (by omega) (by omega) (by omega)) (cqI ?_)))))))
  rintro v5 M1 ⟨hP2, hQ3, h6, h7⟩
  obtain rfl := Fr.same hQ3
  refine wk_baldb r232_13 ar_140 ⟨by omega, by omega⟩ (fun q0 q1 => ba_140 hP0 q0 q1) ?_
  intro v8 h10 h11 e9
  refine wk_c1 r232_14 ?_
  refine wk_icne r232_15 ⟨by omega, by omega⟩ (by decide) ?_ ?_
  · intro h12
    refine wk_c1 r232_22 ?_
    subst hQ; exact wk_zret r232_23 (by decide) (⟨rfl, _, rfl, hP0, hF0, by omega, by omega⟩)
  · intro h13
    refine wk_c1 r232_18 (wk_goto r232_19 ?_)
    subst hQ; exact wk_zret r232_23 (by decide) (⟨rfl, _, rfl, hP0, hF0, by omega, by omega⟩)
def fm_m234_138 : Nat := 4835703278458516698824704
/-- IslandHall$Tale.markAnswers -/
theorem m234_138 {B : eB} (d : Nat) (M0 : Mm) (p1 : Int) (hP0 : Pw M0) (l1 : 0 ≤ p1) (u1 : p1 ≤ 3) : Ct B (d + 3) 234 [R 138, I p1] M0 (qI fun z M => Pw M ∧ Fr fm_m234_138 M0 M ∧ 0 ≤ z ∧ z ≤ 3000) := by
  refine ct_of (d := d + 2) (k := 2) (L := [some (R 138), some (I p1), none, none]) rfl rfl rfl ?_
  have hF0 := Fr.rf fm_m234_138 M0
  generalize hQ : (qI fun z M => Pw M ∧ Fr fm_m234_138 M0 M ∧ 0 ≤ z ∧ z ≤ 3000) = Q
  refine wk_al0 r234_0 (wk_getfr r234_1 fd_138_4 (br_138_4 hP0) (wk_c1 r234_4 (wk_cs102_2 r234_5 rfl (ct_fb ar_140) (cqV ?_))))
  intro M1 e2
  have hP3 : Pw M1 := by rw [e2]; exact hP0.fil (fun i => (ua_140 (by decide)))
  have hF4 : Fr fm_m234_138 M0 M1 := by rw [e2]; exact hF0.fil (fun i => by rw [(ga_140 i)]; rfl)
  refine wk_c1 r234_8 (wk_is2 r234_9 rfl (wk_c1 r234_10 (wk_is3 r234_11 rfl ?_)))
  have c12_496 : ∀ (k496 : Nat) (M453 : Mm) (v447 : Int) (v450 : Int), (3000 - v450).toNat = k496 → Pw M453 → Fr fm_m234_138 M0 M453 → 0 ≤ v447 → v447 ≤ 3000 → 0 ≤ v450 → v450 ≤ 3000 → 0 ≤ (-1) * v447 + v450 + 0 → Wp B (d + 2) 234 12 [some (R 138), some (I p1), some (I v447), some (I v450)] [] M453 Q := by
    refine lp_ind ?_
    intro k496 ih496 M453 v447 v450 hk496 hP454 hF455 h448 h449 h451 h452 h456
    refine wk_il3 r234_12 (wk_al0 r234_13 (wk_getfr r234_14 fd_138_0 (br_138_0 hP454) (wk_getfb r234_17 fd_10_9 (bf_10_9 hP454) ?_)))
    intro v457 h459 h460 e458
    refine wk_icge r234_20 ⟨by omega, by omega⟩ ⟨by omega, by omega⟩ ?_ ?_
    · intro h461
      refine wk_il2 r234_72 ?_
      subst hQ; exact wk_iret r234_73 (⟨rfl, _, rfl, hP454, hF455, by omega, by omega⟩)
    · intro h462
      refine wk_al0 r234_23 (wk_getfr r234_24 fd_138_3 (br_138_3 hP454) (wk_al0 r234_27 (wk_getfb r234_28 fd_138_5 (bf_138_5 hP454) ?_)))
      intro v463 h465 h466 e464
      refine wk_raldb r234_31 ar_154 ⟨by omega, by omega⟩ (fun q0 q1 => ba_154 hP454 q0 q1) (wk_il3 r234_32 (wk_cs102_2 r234_33 rfl (m191_f155v8 _ M453 (155 + v463) v450 hP454 (by omega) (by omega) (by omega) (by omega)) (cqI ?_)))
      rintro v471 M467 ⟨hP468, hQ469, h472, h473⟩
      obtain rfl := Fr.same hQ469
      refine wk_ifeq r234_36 ⟨by omega, by omega⟩ ?_ ?_
      · intro h474
        refine wk_inc3 r234_66 rfl (wk_goto r234_69 ?_)
        exact wp_fg (le_s (le_s (le_s (le_s le_0)))) (ih496 (3000 - (v450 + 1)).toNat (by omega) M453 v447 (v450 + 1) rfl hP454 hF455 (by omega) (by omega) (by omega) (by omega) (by omega))
      · intro h475
        refine wk_al0 r234_39 (wk_il3 r234_40 (wk_il1 r234_41 (wk_cv3 r234_42 kc_138_232 rfl (m232_138v8 _ M453 v450 p1 hP454 (by omega) (by omega) (by omega) (by omega)) (cqI ?_))))
        rintro v480 M476 ⟨hP477, hQ478, h481, h482⟩
        obtain rfl := Fr.same hQ478
        refine wk_ifne r234_45 ⟨by omega, by omega⟩ ?_ ?_
        · intro h483
          refine wk_inc3 r234_66 rfl (wk_goto r234_69 ?_)
          exact wp_fg (le_s (le_s (le_s (le_s le_0)))) (ih496 (3000 - (v450 + 1)).toNat (by omega) M453 v447 (v450 + 1) rfl hP454 hF455 (by omega) (by omega) (by omega) (by omega) (by omega))
        · intro h484
          refine wk_al0 r234_48 (wk_getfr r234_49 fd_138_4 (br_138_4 hP454) (wk_al0 r234_52 (wk_getfr r234_53 fd_138_0 (br_138_0 hP454) (wk_il3 r234_56 (wk_il1 r234_57 (wk_cv3 r234_58 kc_10_186 rfl (m186_10v8 _ M453 v450 p1 hP454 (by omega) (by omega) (by omega) (by omega)) (cqI ?_)))))))
          rintro v489 M485 ⟨hP486, hQ487, h490, h491⟩
          obtain rfl := Fr.same hQ487
          refine wk_c1 r234_61 (wk_bast r234_62 ar_140 ⟨by omega, by omega⟩ (by decide) (wk_nw (ga_140 _) rfl hP454 hF455 (ua_140 (by decide)) ?_))
          intro M492 hP493 hF494 e495
          refine wk_inc2 r234_63 rfl (wk_inc3 r234_66 rfl (wk_goto r234_69 ?_))
          exact wp_fg (le_s (le_s (le_s (le_s le_0)))) (ih496 (3000 - (v450 + 1)).toNat (by omega) M492 (v447 + 1) (v450 + 1) rfl hP493 hF494 (by omega) (by omega) (by omega) (by omega) (by omega))
  exact wp_fg (le_s (le_s (le_s (le_s le_0)))) (c12_496 _ M1 0 0 rfl hP3 hF4 (by omega) (by omega) (by omega) (by omega) (by omega))
def fm_m215_170 : Nat := 19807040628566084398385987584
/-- IslandHall$Subsets.clear -/
theorem m215_170 {B : eB} (d : Nat) (M0 : Mm) (p1 : Int) (hP0 : Pw M0) (l1 : 0 ≤ p1) (u1 : p1 ≤ 12) : Ct B (d + 1) 215 [R 170, I p1] M0 (qV fun M => Pw M ∧ Fr fm_m215_170 M0 M) := by
  refine ct_of (d := d + 0) (k := 1) (L := [some (R 170), some (I p1), none]) rfl rfl rfl ?_
  have hF0 := Fr.rf fm_m215_170 M0
  generalize hQ : (qV fun M => Pw M ∧ Fr fm_m215_170 M0 M) = Q
  refine wk_c1 r215_0 (wk_is2 r215_1 rfl ?_)
  have c2_161 : ∀ (k161 : Nat) (M148 : Mm) (v145 : Int), (4096 - v145).toNat = k161 → Pw M148 → Fr fm_m215_170 M0 M148 → 0 ≤ v145 → v145 ≤ 4096 → Wp B (d + 0) 215 2 [some (R 170), some (I p1), some (I v145)] [] M148 Q := by
    refine lp_ind ?_
    intro k161 ih161 M148 v145 hk161 hP149 hF150 h146 h147
    refine wk_il2 r215_2 (wk_c1 r215_3 (wk_il1 r215_4 (wk_shl1 12 4096 r215_5 ⟨by omega, by omega⟩ ⟨pwl_12, by decide⟩ ?_)))
    intro v151 h152 h153 h154
    refine wk_icge r215_6 ⟨by omega, by omega⟩ ⟨by omega, by omega⟩ ?_ ?_
    · intro h155
      subst hQ; exact wk_ret r215_22 (⟨rfl, hP149, hF150⟩)
    · intro h156
      refine wk_al0 r215_9 (wk_getfr r215_10 fd_170_0 (br_170_0 hP149) (wk_il2 r215_13 (wk_c1 r215_14 (wk_bast r215_15 ar_171 ⟨by omega, by omega⟩ (by decide) (wk_nw (ga_171 _) rfl hP149 hF150 (ua_171 (by decide)) ?_)))))
      intro M157 hP158 hF159 e160
      refine wk_inc2 r215_16 rfl (wk_goto r215_19 ?_)
      exact wp_fg (le_s (le_s (le_s le_0))) (ih161 (4096 - (v145 + 1)).toNat (by omega) M157 (v145 + 1) rfl hP158 hF159 (by omega) (by omega))
  exact wp_fg (le_s (le_s (le_s le_0))) (c2_161 _ M0 0 rfl hP0 hF0 (by omega) (by omega))
def fm_m222_170 : Nat := 19807040628566084398385987584
/-- IslandHall$Subsets.spread -/
theorem m222_170 {B : eB} (d : Nat) (M0 : Mm) (p1 : Int) (hP0 : Pw M0) (l1 : 0 ≤ p1) (u1 : p1 ≤ 12) : Ct B (d + 1) 222 [R 170, I p1] M0 (qV fun M => Pw M ∧ Fr fm_m222_170 M0 M) := by
  refine ct_of (d := d + 0) (k := 2) (L := [some (R 170), some (I p1), none, none]) rfl rfl rfl ?_
  have hF0 := Fr.rf fm_m222_170 M0
  generalize hQ : (qV fun M => Pw M ∧ Fr fm_m222_170 M0 M) = Q
  refine wk_c1 r222_0 (wk_is2 r222_1 rfl ?_)
  have c2_684 : ∀ (k684 : Nat) (M641 : Mm) (v638 : Int), (12 - v638).toNat = k684 → Pw M641 → Fr fm_m222_170 M0 M641 → 0 ≤ v638 → v638 ≤ 12 → Wp B (d + 0) 222 2 [some (R 170), some (I p1), some (I v638), none] [] M641 Q := by
    refine lp_ind ?_
    intro k684 ih684 M641 v638 hk684 hP642 hF643 h639 h640
    refine wk_il2 r222_2 (wk_il1 r222_3 ?_)
    refine wk_icge r222_4 ⟨by omega, by omega⟩ ⟨by omega, by omega⟩ ?_ ?_
    · intro h644
      subst hQ; exact wk_ret r222_58 (⟨rfl, hP642, hF643⟩)
    · intro h645
      refine wk_c1 r222_7 (wk_is3 r222_8 rfl ?_)
      have c9_683 : ∀ (k683 : Nat) (M649 : Mm) (v646 : Int), (4096 - v646).toNat = k683 → Pw M649 → Fr fm_m222_170 M0 M649 → 0 ≤ v646 → v646 ≤ 4096 → Wp B (d + 0) 222 9 [some (R 170), some (I p1), some (I v638), some (I v646)] [] M649 Q := by
        refine lp_ind ?_
        intro k683 ih683 M649 v646 hk683 hP650 hF651 h647 h648
        refine wk_il3 r222_9 (wk_c1 r222_10 (wk_il1 r222_11 (wk_shl1 12 4096 r222_12 ⟨by omega, by omega⟩ ⟨pwl_12, by decide⟩ ?_)))
        intro v652 h653 h654 h655
        refine wk_icge r222_13 ⟨by omega, by omega⟩ ⟨by omega, by omega⟩ ?_ ?_
        · intro h656
          refine wk_inc2 r222_52 rfl (wk_goto r222_55 ?_)
          exact wp_fg (le_s (le_s (le_s (le_n le_0)))) (ih684 (12 - (v638 + 1)).toNat (by omega) M649 (v638 + 1) rfl hP650 hF651 (by omega) (by omega))
        · intro h657
          refine wk_il3 r222_16 (wk_il2 r222_17 (wk_shrb r222_18 ⟨by omega, by omega⟩ ⟨by omega, by omega⟩ ?_))
          intro v658 h659 h660 h661
          refine wk_c1 r222_19 (wk_iandc 1 2 r222_20 ⟨rfl, by decide⟩ rfl (wk_c1 r222_21 ?_))
          refine wk_icne r222_22 ⟨by omega, by omega⟩ (by decide) ?_ ?_
          · intro h663
            refine wk_inc3 r222_46 rfl (wk_goto r222_49 ?_)
            exact wp_fg (le_s (le_s (le_s (le_s le_0)))) (ih683 (4096 - (v646 + 1)).toNat (by omega) M649 (v646 + 1) rfl hP650 hF651 (by omega) (by omega))
          · intro h664
            refine wk_al0 r222_25 (wk_getfr r222_26 fd_170_0 (br_170_0 hP650) (wk_il3 r222_29 (wk_baldb r222_30 ar_171 ⟨by omega, by omega⟩ (fun q0 q1 => ba_171 hP650 q0 q1) ?_)))
            intro v665 h667 h668 e666
            refine wk_c1 r222_31 ?_
            refine wk_icne r222_32 ⟨by omega, by omega⟩ (by decide) ?_ ?_
            · intro h669
              refine wk_inc3 r222_46 rfl (wk_goto r222_49 ?_)
              exact wp_fg (le_s (le_s (le_s (le_s le_0)))) (ih683 (4096 - (v646 + 1)).toNat (by omega) M649 (v646 + 1) rfl hP650 hF651 (by omega) (by omega))
            · intro h670
              refine wk_al0 r222_35 (wk_getfr r222_36 fd_170_0 (br_170_0 hP650) (wk_il3 r222_39 (wk_c1 r222_40 (wk_il2 r222_41 (wk_shl1 11 2048 r222_42 ⟨by omega, by omega⟩ ⟨pwl_11, by decide⟩ ?_)))))
              intro v671 h672 h673 h674
              refine wk_ixor 12 4096 r222_43 (by decide) ⟨by omega, by omega⟩ ⟨by omega, by omega⟩ ?_
              intro v675 h676 h677 h678
              refine wk_c1 r222_44 (wk_bast r222_45 ar_171 ⟨by omega, by omega⟩ (by decide) (wk_nw (ga_171 _) rfl hP650 hF651 (ua_171 (by decide)) ?_))
              intro M679 hP680 hF681 e682
              refine wk_inc3 r222_46 rfl (wk_goto r222_49 ?_)
              exact wp_fg (le_s (le_s (le_s (le_s le_0)))) (ih683 (4096 - (v646 + 1)).toNat (by omega) M679 (v646 + 1) rfl hP680 hF681 (by omega) (by omega))
      exact wp_fg (le_s (le_s (le_s (le_s le_0)))) (c9_683 _ M641 0 rfl hP642 hF643 (by omega) (by omega))
  exact wp_fg (le_s (le_s (le_s (le_s le_0)))) (c2_684 _ M0 0 rfl hP0 hF0 (by omega) (by omega))
def bcF_g (p0 : Int) : Int :=
  let v1 : Int := p0 % 4294967296 / pw 1
  let v5 : Int := ((Int.toNat (v1) &&& Int.toNat (1431655765) : Nat) : Int)
  let v10 : Int := ((cd ((p0 - v5)) &&& Int.toNat (858993459) : Nat) : Int)
  let v14 : Int := (p0 - v5) % 4294967296 / pw 2
  let v18 : Int := ((Int.toNat (v14) &&& Int.toNat (858993459) : Nat) : Int)
  let v23 : Int := (v10 + v18) % 4294967296 / pw 4
  let v27 : Int := (((v10 + v18) + v23) + 2147483648) % 4294967296 - 2147483648
  let v31 : Int := ((cd (v27) &&& Int.toNat (252645135) : Nat) : Int)
  let v35 : Int := v31 % 4294967296 / pw 8
  let v39 : Int := ((v31 + v35) + 2147483648) % 4294967296 - 2147483648
  let v43 : Int := v39 % 4294967296 / pw 16
  let v47 : Int := ((v39 + v43) + 2147483648) % 4294967296 - 2147483648
  (v47 % 64)
theorem bcF_ex : ∃ f : Int → Int, ∀ p0, f p0 = bcF_g p0 := ⟨bcF_g, fun _ => rfl⟩
noncomputable def bcF : Int → Int := Classical.choose bcF_ex
theorem bcF_eq (p0 : Int) : bcF p0 = bcF_g p0 := Classical.choose_spec bcF_ex p0
theorem bcF_nn (p0 : Int) : 0 ≤ bcF p0 := by
  rw [bcF_eq]
  unfold bcF_g
  exact Int.emod_nonneg _ (by decide)
def fm_m246 : Nat := 0
/-- java/lang/Integer.bitCount -/
theorem m246 {B : eB} (d : Nat) (M0 : Mm) (p0 : Int) (hP0 : Pw M0) (l0 : 0 ≤ p0) (u0 : p0 ≤ 4095) : Ct B (d + 1) 246 [I p0] M0 (qI fun z M => Pw M ∧ Fr fm_m246 M0 M ∧ 0 ≤ z ∧ z ≤ 63 ∧ (z = bcF p0)) := by
  refine ct_of (d := d + 0) (k := 0) (L := [some (I p0)]) rfl rfl rfl ?_
  have hF0 := Fr.rf fm_m246 M0
  generalize hQ : (qI fun z M => Pw M ∧ Fr fm_m246 M0 M ∧ 0 ≤ z ∧ z ≤ 63 ∧ (z = bcF p0)) = Q
  refine wk_il0 r246_0 (wk_il0 r246_1 (wk_c1 r246_2 (wk_iushrb r246_3 (by decide) ?_)))
  intro v1 h2 h3 h4
  refine wk_c5 r246_4 (wk_iand r246_7 ⟨by omega, by omega⟩ ⟨by omega, by omega⟩ ?_)
  intro v5 h6 h7 h8 h9
  refine wk_isub r246_8 (wk_is0 r246_9 (wk_il0 r246_10 (wk_c5 r246_11 (wk_iandr r246_14 ⟨by omega, by omega⟩ ?_))))
  intro v10 h11 h12 h13
  refine wk_il0 r246_15 (wk_c1 r246_16 (wk_iushrb r246_17 (by decide) ?_))
  intro v14 h15 h16 h17
  refine wk_c5 r246_18 (wk_iand r246_21 ⟨by omega, by omega⟩ ⟨by omega, by omega⟩ ?_)
  intro v18 h19 h20 h21 h22
  refine wk_iadd r246_22 (wk_is0 r246_23 (wk_il0 r246_24 (wk_il0 r246_25 (wk_c1 r246_26 (wk_iushrb r246_27 (by decide) ?_)))))
  intro v23 h24 h25 h26
  refine wk_iadd r246_28 (wk_wrap ?_)
  intro v27 h28 h29 h30
  refine wk_c5 r246_29 (wk_iandr r246_32 ⟨by omega, by omega⟩ ?_)
  intro v31 h32 h33 h34
  refine wk_is0 r246_33 (wk_il0 r246_34 (wk_il0 r246_35 (wk_c2 r246_36 (wk_iushrb r246_38 (by decide) ?_))))
  intro v35 h36 h37 h38
  refine wk_iadd r246_39 (wk_wrap ?_)
  intro v39 h40 h41 h42
  refine wk_is0 r246_40 (wk_il0 r246_41 (wk_il0 r246_42 (wk_c2 r246_43 (wk_iushrb r246_45 (by decide) ?_))))
  intro v43 h44 h45 h46
  refine wk_iadd r246_46 (wk_wrap ?_)
  intro v47 h48 h49 h50
  refine wk_is0 r246_47 (wk_il0 r246_48 (wk_c2 r246_49 (wk_iandc 6 64 r246_51 ⟨rfl, by decide⟩ rfl ?_)))
  subst hQ; exact wk_iret r246_52 (⟨rfl, _, rfl, hP0, hF0, by omega, by omega, by rw [bcF_eq]; subst_vars; rfl⟩)
def fm_m223 : Nat := 0
/-- IslandHall$Subsets.turned -/
theorem m223 {B : eB} (d : Nat) (M0 : Mm) (p0 : Int) (p1 : Int) (hP0 : Pw M0) (l0 : 0 ≤ p0) (u0 : p0 ≤ 4095) (l1 : 0 ≤ p1) (u1 : p1 ≤ 12) : Ct B (d + 1) 223 [I p0, I p1] M0 (qI fun z M => Pw M ∧ Fr fm_m223 M0 M ∧ 0 ≤ z ∧ z ≤ 4095) := by
  refine ct_of (d := d + 0) (k := 2) (L := [some (I p0), some (I p1), none, none]) rfl rfl rfl ?_
  have hF0 := Fr.rf fm_m223 M0
  have hpw0 := pwl_0
  generalize hQ : (qI fun z M => Pw M ∧ Fr fm_m223 M0 M ∧ 0 ≤ z ∧ z ≤ 4095) = Q
  refine wk_c1 r223_0 (wk_is2 r223_1 rfl (wk_c1 r223_2 (wk_is3 r223_3 rfl ?_)))
  have c4_191 : ∀ (k191 : Nat) (v172 : Int) (v175 : Int), (12 - v175).toNat = k191 → 0 ≤ v172 → v172 ≤ 8191 → 0 ≤ v175 → v175 ≤ 12 → 0 ≤ pw v175 + (-1) * v172 + (-1) → Wp B (d + 0) 223 4 [some (I p0), some (I p1), some (I v172), some (I v175)] [] M0 Q := by
    refine lp_ind ?_
    intro k191 ih191 v172 v175 hk191 h173 h174 h176 h177 h178
    have h179 := pw_le (k := v175) (K := 12) (by omega)
    have h180 := pwl_12
    refine wk_il3 r223_4 (wk_il1 r223_5 ?_)
    refine wk_icge r223_6 ⟨by omega, by omega⟩ ⟨by omega, by omega⟩ ?_ ?_
    · intro h181
      have h182 := pw_le (k := v175) (K := 12) (by omega)
      have h183 := pwl_12
      refine wk_il2 r223_25 ?_
      subst hQ; exact wk_iret r223_26 (⟨rfl, _, rfl, hP0, hF0, by omega, by omega⟩)
    · intro h184
      have h185 := pw_succ (k := v175) (by omega)
      refine wk_c1 r223_9 (wk_il2 r223_10 (wk_imul r223_11 (wk_il0 r223_12 (wk_il3 r223_13 (wk_shrb r223_14 ⟨by omega, by omega⟩ ⟨by omega, by omega⟩ ?_)))))
      intro v186 h187 h188 h189
      refine wk_c1 r223_15 (wk_iandc 1 2 r223_16 ⟨rfl, by decide⟩ rfl (wk_iadd r223_17 (wk_is2 r223_18 rfl (wk_inc3 r223_19 rfl (wk_goto r223_22 ?_)))))
      exact wp_fg (le_s (le_s (le_s (le_s le_0)))) (ih191 (12 - (v175 + 1)).toNat (by omega) ((2 * v172) + (v186 % 2)) (v175 + 1) rfl (by omega) (by omega) (by omega) (by omega) (by omega))
  exact wp_fg (le_s (le_s (le_s (le_s le_0)))) (c4_191 _ 0 0 rfl (by omega) (by omega) (by omega) (by omega) (by omega))
def fm_m233_138 : Nat := 0
/-- IslandHall$Tale.keeping -/
theorem m233_138 {B : eB} (d : Nat) (M0 : Mm) (hP0 : Pw M0)  : Ct B (d + 1) 233 [R 138] M0 (qR fun z M => Pw M ∧ Fr fm_m233_138 M0 M ∧ 155 ≤ z ∧ z ≤ 155) := by
  refine ct_of (d := d + 0) (k := 0) (L := [some (R 138)]) rfl rfl rfl ?_
  have hF0 := Fr.rf fm_m233_138 M0
  generalize hQ : (qR fun z M => Pw M ∧ Fr fm_m233_138 M0 M ∧ 155 ≤ z ∧ z ≤ 155) = Q
  refine wk_al0 r233_0 (wk_getfr r233_1 fd_138_3 (br_138_3 hP0) (wk_c1 r233_4 (wk_raldb r233_5 ar_154 (by decide) (fun q0 q1 => ba_154 hP0 q0 q1) ?_)))
  subst hQ; exact wk_aret r233_6 (⟨rfl, _, rfl, hP0, hF0, by omega, by omega⟩)
def fm_m191_f142v8 : Nat := 0
/-- IslandHall$Realm.holds -/
theorem m191_f142v8 {B : eB} (d : Nat) (M0 : Mm) (a0 : Int) (p1 : Int) (hP0 : Pw M0) (ha0 : 142 ≤ a0) (hb0 : a0 ≤ 153) (l1 : 0 ≤ p1) (u1 : p1 ≤ 2999) : Ct B (d + 1) 191 [R a0, I p1] M0 (qI fun z M => Pw M ∧ Fr fm_m191_f142v8 M0 M ∧ 0 ≤ z ∧ z ≤ 1) := by
  refine ct_of (d := d + 0) (k := 0) (L := [some (R a0), some (I p1)]) rfl rfl rfl ?_
  have hF0 := Fr.rf fm_m191_f142v8 M0
  generalize hQ : (qI fun z M => Pw M ∧ Fr fm_m191_f142v8 M0 M ∧ 0 ≤ z ∧ z ≤ 1) = Q
  refine wk_al0 r191_0 (wk_il1 r191_1 (wk_c2 r191_2 (wk_ishrc r191_4 ⟨by omega, by omega⟩ (by decide) pwl_6 (wk_laldb r191_5 (arF_142 (by omega) (by omega)) ⟨by omega, by omega⟩ (fun q0 q1 => baF_142 hP0 (by omega) (by omega) q0 q1) (by decide) ?_))))
  intro n2 h3 h4 e5
  refine wk_il1 r191_6 (wk_c2 r191_7 (wk_iandc 6 64 r191_9 ⟨rfl, by decide⟩ rfl (wk_lushr r191_10 (by omega) ⟨by omega, by omega⟩ (wk_anyl (Nat.lt_of_le_of_lt (Nat.div_le_self _ _) (by omega)) ?_))))
  intro n6 h7
  refine wk_c6 r191_11 (wk_land r191_12 ?_)
  intro n8 h9 h10 h11 h12
  refine wk_c6 r191_13 ?_
  refine wk_lcmp r191_14 (by omega) (by omega) ?_ ?_
  · intro h13
    refine wk_ifne r191_15 (by decide) ?_ ?_
    · intro h19
      exfalso
      omega
    · intro h20
      refine wk_c1 r191_18 (wk_goto r191_19 ?_)
      subst hQ; exact wk_zret r191_23 (by decide) (⟨rfl, _, rfl, hP0, hF0, by omega, by omega⟩)
  · intro h14 v18 h15 h16 h17
    refine wk_ifne r191_15 ⟨by omega, by omega⟩ ?_ ?_
    · intro h21
      refine wk_c1 r191_22 ?_
      subst hQ; exact wk_zret r191_23 (by decide) (⟨rfl, _, rfl, hP0, hF0, by omega, by omega⟩)
    · intro h22
      exfalso
      omega
def fm_m228_138v8 : Nat := 0
/-- IslandHall$Tale.fitOf -/
theorem m228_138v8 {B : eB} (d : Nat) (M0 : Mm) (p1 : Int) (hP0 : Pw M0) (l1 : 0 ≤ p1) (u1 : p1 ≤ 2999) : Ct B (d + 2) 228 [R 138, I p1] M0 (qI fun z M => Pw M ∧ Fr fm_m228_138v8 M0 M ∧ 0 ≤ z ∧ z ≤ 4095) := by
  refine ct_of (d := d + 1) (k := 2) (L := [some (R 138), some (I p1), none, none]) rfl rfl rfl ?_
  have hF0 := Fr.rf fm_m228_138v8 M0
  have hpw0 := pwl_0
  generalize hQ : (qI fun z M => Pw M ∧ Fr fm_m228_138v8 M0 M ∧ 0 ≤ z ∧ z ≤ 4095) = Q
  refine wk_c1 r228_0 (wk_is2 r228_1 rfl (wk_c1 r228_2 (wk_is3 r228_3 rfl ?_)))
  have c4_301 : ∀ (k301 : Nat) (M277 : Mm) (v271 : Int) (v274 : Int), (12 - v274).toNat = k301 → Pw M277 → Fr fm_m228_138v8 M0 M277 → 0 ≤ v271 → v271 ≤ 8191 → 0 ≤ v274 → v274 ≤ 12 → 0 ≤ pw v274 + (-1) * v271 + (-1) → Wp B (d + 1) 228 4 [some (R 138), some (I p1), some (I v271), some (I v274)] [] M277 Q := by
    refine lp_ind ?_
    intro k301 ih301 M277 v271 v274 hk301 hP278 hF279 h272 h273 h275 h276 h280
    have h281 := pw_le (k := v274) (K := 12) (by omega)
    have h282 := pwl_12
    refine wk_il3 r228_4 (wk_al0 r228_5 (wk_getfb r228_6 fd_138_5 (bf_138_5 hP278) ?_))
    intro v283 h285 h286 e284
    refine wk_icge r228_9 ⟨by omega, by omega⟩ ⟨by omega, by omega⟩ ?_ ?_
    · intro h287
      have h288 := pw_le (k := v274) (K := 12) (by omega)
      have h289 := pwl_12
      refine wk_il2 r228_41 ?_
      subst hQ; exact wk_iret r228_42 (⟨rfl, _, rfl, hP278, hF279, by omega, by omega⟩)
    · intro h290
      have h291 := pw_succ (k := v274) (by omega)
      refine wk_c1 r228_12 (wk_il2 r228_13 (wk_imul r228_14 (wk_al0 r228_15 (wk_getfr r228_16 fd_138_2 (br_138_2 hP278) (wk_il3 r228_19 (wk_raldb r228_20 ar_141 ⟨by omega, by omega⟩ (fun q0 q1 => ba_141 hP278 q0 q1) (wk_il1 r228_21 (wk_cs102_2 r228_22 rfl (m191_f142v8 _ M277 (142 + v274) p1 hP278 (by omega) (by omega) (by omega) (by omega)) (cqI ?_)))))))))
      rintro v296 M292 ⟨hP293, hQ294, h297, h298⟩
      obtain rfl := Fr.same hQ294
      refine wk_ifeq r228_25 ⟨by omega, by omega⟩ ?_ ?_
      · intro h299
        refine wk_c1 r228_32 (wk_iadd r228_33 (wk_is2 r228_34 rfl (wk_inc3 r228_35 rfl (wk_goto r228_38 ?_))))
        exact wp_fg (le_s (le_s (le_s (le_s le_0)))) (ih301 (12 - (v274 + 1)).toNat (by omega) M277 ((2 * v271) + 0) (v274 + 1) rfl hP278 hF279 (by omega) (by omega) (by omega) (by omega) (by omega))
      · intro h300
        refine wk_c1 r228_28 (wk_goto r228_29 (wk_iadd r228_33 (wk_is2 r228_34 rfl (wk_inc3 r228_35 rfl (wk_goto r228_38 ?_)))))
        exact wp_fg (le_s (le_s (le_s (le_s le_0)))) (ih301 (12 - (v274 + 1)).toNat (by omega) M277 ((2 * v271) + 1) (v274 + 1) rfl hP278 hF279 (by omega) (by omega) (by omega) (by omega) (by omega))
  exact wp_fg (le_s (le_s (le_s (le_s le_0)))) (c4_301 _ M0 0 0 rfl hP0 hF0 (by omega) (by omega) (by omega) (by omega) (by omega))
def fm_m221_170_138 : Nat := 19811876331844542915084812288
/-- IslandHall$Subsets.leastThatTells -/
theorem m221_170_138 {B : eB} (d : Nat) (M0 : Mm) (p2 : Int) (hP0 : Pw M0) (l2 : 0 ≤ p2) (u2 : p2 ≤ 3) : Ct B (d + 4) 221 [R 170, R 138, I p2] M0 (qI fun z M => Pw M ∧ Fr fm_m221_170_138 M0 M ∧ 0 ≤ z ∧ z ≤ 4095) := by
  refine ct_of (d := d + 3) (k := 3) (L := [some (R 170), some (R 138), some (I p2), none, none, none]) rfl rfl rfl ?_
  have hF0 := Fr.rf fm_m221_170_138 M0
  generalize hQ : (qI fun z M => Pw M ∧ Fr fm_m221_170_138 M0 M ∧ 0 ≤ z ∧ z ≤ 4095) = Q
  refine wk_al1 r221_0 (wk_getfr r221_1 fd_138_0 (br_138_0 hP0) (wk_as3 r221_4 rfl (wk_al1 r221_5 (wk_il2 r221_6 (wk_cv2 r221_7 kc_138_234 rfl (m234_138 _ M0 p2 hP0 (by omega) (by omega)) (cqI ?_))))))
  rintro v5 M1 ⟨hP2, hQ3, h6, h7⟩
  have hF4 : Fr fm_m221_170_138 M0 M1 := hF0.tr hQ3 rfl
  refine wk_popi r221_10 (wk_al0 r221_11 (wk_al1 r221_12 (wk_getfb r221_13 fd_138_5 (bf_138_5 hP2) ?_)))
  intro v8 h10 h11 e9
  refine wk_cv2 r221_16 kc_170_215 rfl (m215_170 _ M1 v8 hP2 (by omega) (by omega)) (cqV ?_)
  rintro M12 ⟨hP13, hQ14⟩
  have hF15 : Fr fm_m221_170_138 M0 M12 := hF4.tr hQ14 rfl
  refine wk_c1 r221_19 (wk_is4 r221_20 rfl ?_)
  have c22_1085 : ∀ (k1085 : Nat) (M985 : Mm) (v982 : Int), (3000 - v982).toNat = k1085 → Pw M985 → Fr fm_m221_170_138 M0 M985 → M985 138 5 = v8 → 0 ≤ v982 → v982 ≤ 3000 → Wp B (d + 3) 221 22 [some (R 170), some (R 138), some (I p2), some (R 10), some (I v982), none] [] M985 Q := by
    refine lp_ind ?_
    intro k1085 ih1085 M985 v982 hk1085 hP986 hF987 e988 h983 h984
    refine wk_il4 r221_22 (wk_al3 r221_24 (wk_getfb r221_25 fd_10_9 (bf_10_9 hP986) ?_))
    intro v989 h991 h992 e990
    refine wk_icge r221_28 ⟨by omega, by omega⟩ ⟨by omega, by omega⟩ ?_ ?_
    · intro h993
      refine wk_al0 r221_71 (wk_al1 r221_72 (wk_getfi r221_73 fd_138_5 e988 (wk_cv2 r221_76 kc_170_222 rfl (m222_170 _ M985 v8 hP986 (by omega) (by omega)) (cqV ?_))))
      rintro M994 ⟨hP995, hQ996⟩
      have hF997 : Fr fm_m221_170_138 M0 M994 := hF987.tr hQ996 rfl
      refine wk_c1 r221_79 (wk_al1 r221_80 (wk_getfi r221_81 fd_138_5 ((hQ996.at g_138_5 rfl).trans e988) (wk_shl1 12 4096 r221_84 ⟨by omega, by omega⟩ ⟨pwl_12, by decide⟩ ?_)))
      intro v998 h999 h1000 h1001
      refine wk_c1 r221_85 (wk_isub r221_86 (wk_is4 r221_87 rfl (wk_il4 r221_89 (wk_is5 r221_91 rfl ?_))))
      have c93_1047 : ∀ (k1047 : Nat) (M1008 : Mm) (v1002 : Int) (v1005 : Int), (v1005 - (-1)).toNat = k1047 → Pw M1008 → Fr fm_m221_170_138 M0 M1008 → M1008 138 5 = v8 → M1008 10 9 = v989 → 0 ≤ v1002 → v1002 ≤ 4095 → (-1) ≤ v1005 → v1005 ≤ 4095 → 0 ≤ (-1) * v1005 + v1002 + 0 → Wp B (d + 3) 221 93 [some (R 170), some (R 138), none, none, some (I v1002), some (I v1005)] [] M1008 Q := by
        refine lp_ind ?_
        intro k1047 ih1047 M1008 v1002 v1005 hk1047 hP1009 hF1010 e1011 e1012 h1003 h1004 h1006 h1007 h1013
        refine wk_il5 r221_93 ?_
        refine wk_iflt r221_95 ⟨by omega, by omega⟩ ?_ ?_
        · intro h1014
          refine wk_il4 r221_131 (wk_al1 r221_133 (wk_getfi r221_134 fd_138_5 e1011 (wk_cs102_2 r221_137 rfl (m223 _ M1008 v1002 v8 hP1009 (by omega) (by omega) (by omega) (by omega)) (cqI ?_))))
          rintro v1019 M1015 ⟨hP1016, hQ1017, h1020, h1021⟩
          obtain rfl := Fr.same hQ1017
          subst hQ; exact wk_iret r221_140 (⟨rfl, _, rfl, hP1009, hF1010, by omega, by omega⟩)
        · intro h1022
          refine wk_al0 r221_98 (wk_getfr r221_99 fd_170_0 (br_170_0 hP1009) (wk_il5 r221_102 (wk_baldb r221_104 ar_171 ⟨by omega, by omega⟩ (fun q0 q1 => ba_171 hP1009 q0 q1) ?_)))
          intro v1023 h1025 h1026 e1024
          refine wk_ifne r221_105 ⟨by omega, by omega⟩ ?_ ?_
          · intro h1027
            refine wk_inc5 r221_125 rfl (wk_goto r221_128 ?_)
            exact wp_fg (le_s (le_s (le_s (le_s (le_s (le_s le_0)))))) (ih1047 ((v1005 + (-1)) - (-1)).toNat (by omega) M1008 v1002 (v1005 + (-1)) rfl hP1009 hF1010 e1011 e1012 (by omega) (by omega) (by omega) (by omega) (by omega))
          · intro h1028
            refine wk_il5 r221_108 (wk_cs102_1 r221_110 rfl (m246 _ M1008 v1005 hP1009 (by omega) (by omega)) (cqI ?_))
            rintro v1034 M1029 ⟨hP1030, hQ1031, h1035, h1036, xh1033⟩
            obtain rfl := Fr.same hQ1031
            refine wk_il4 r221_113 (wk_cs102_1 r221_115 rfl (m246 _ M1008 v1002 hP1009 (by omega) (by omega)) (cqI ?_))
            rintro v1042 M1037 ⟨hP1038, hQ1039, h1043, h1044, xh1041⟩
            obtain rfl := Fr.same hQ1039
            refine wk_icge r221_118 ⟨by omega, by omega⟩ ⟨by omega, by omega⟩ ?_ ?_
            · intro h1045
              refine wk_inc5 r221_125 rfl (wk_goto r221_128 ?_)
              exact wp_fg (le_s (le_s (le_s (le_s (le_s (le_s le_0)))))) (ih1047 ((v1005 + (-1)) - (-1)).toNat (by omega) M1008 v1002 (v1005 + (-1)) rfl hP1009 hF1010 e1011 e1012 (by omega) (by omega) (by omega) (by omega) (by omega))
            · intro h1046
              refine wk_il5 r221_121 (wk_is4 r221_123 rfl (wk_inc5 r221_125 rfl (wk_goto r221_128 ?_)))
              exact wp_fg (le_s (le_s (le_s (le_s (le_s (le_s le_0)))))) (ih1047 ((v1005 + (-1)) - (-1)).toNat (by omega) M1008 v1005 (v1005 + (-1)) rfl hP1009 hF1010 e1011 e1012 (by omega) (by omega) (by omega) (by omega) (by omega))
      exact wp_fg (le_s (le_s (le_n (le_n (le_s (le_s le_0)))))) (c93_1047 _ M994 (v998 - 1) (v998 - 1) rfl hP995 hF997 ((hQ996.at g_138_5 rfl).trans e988) ((hQ996.at g_10_9 rfl).trans e990) (by omega) (by omega) (by omega) (by omega) (by omega))
    · intro h1048
      refine wk_al1 r221_31 (wk_cv1 r221_32 kc_138_233 rfl (m233_138 _ M985 hP986) (cqR ?_))
      rintro v1053 M1049 ⟨hP1050, hQ1051, h1054, h1055⟩
      obtain rfl : v1053 = 155 := by omega
      obtain rfl := Fr.same hQ1051
      refine wk_il4 r221_35 (wk_cs102_2 r221_37 rfl (m191_f155v8 _ M985 155 v982 hP986 (by omega) (by omega) (by omega) (by omega)) (cqI ?_))
      rintro v1060 M1056 ⟨hP1057, hQ1058, h1061, h1062⟩
      obtain rfl := Fr.same hQ1058
      refine wk_ifeq r221_40 ⟨by omega, by omega⟩ ?_ ?_
      · intro h1063
        refine wk_inc4 r221_65 rfl (wk_goto r221_68 ?_)
        exact wp_fg (le_s (le_s (le_s (le_s (le_s (le_s le_0)))))) (ih1085 (3000 - (v982 + 1)).toNat (by omega) M985 (v982 + 1) rfl hP986 hF987 e988 (by omega) (by omega))
      · intro h1064
        refine wk_al1 r221_43 (wk_il4 r221_44 (wk_il2 r221_46 (wk_cv3 r221_47 kc_138_232 rfl (m232_138v8 _ M985 v982 p2 hP986 (by omega) (by omega) (by omega) (by omega)) (cqI ?_))))
        rintro v1069 M1065 ⟨hP1066, hQ1067, h1070, h1071⟩
        obtain rfl := Fr.same hQ1067
        refine wk_ifne r221_50 ⟨by omega, by omega⟩ ?_ ?_
        · intro h1072
          refine wk_inc4 r221_65 rfl (wk_goto r221_68 ?_)
          exact wp_fg (le_s (le_s (le_s (le_s (le_s (le_s le_0)))))) (ih1085 (3000 - (v982 + 1)).toNat (by omega) M985 (v982 + 1) rfl hP986 hF987 e988 (by omega) (by omega))
        · intro h1073
          refine wk_al0 r221_53 (wk_getfr r221_54 fd_170_0 (br_170_0 hP986) (wk_al1 r221_57 (wk_il4 r221_58 (wk_cv2 r221_60 kc_138_228 rfl (m228_138v8 _ M985 v982 hP986 (by omega) (by omega)) (cqI ?_)))))
          rintro v1078 M1074 ⟨hP1075, hQ1076, h1079, h1080⟩
          obtain rfl := Fr.same hQ1076
          refine wk_c1 r221_63 (wk_bast r221_64 ar_171 ⟨by omega, by omega⟩ (by decide) (wk_nw (ga_171 _) rfl hP986 hF987 (ua_171 (by decide)) ?_))
          intro M1081 hP1082 hF1083 e1084
          refine wk_inc4 r221_65 rfl (wk_goto r221_68 ?_)
          exact wp_fg (le_s (le_s (le_s (le_s (le_s (le_s le_0)))))) (ih1085 (3000 - (v982 + 1)).toNat (by omega) M1081 (v982 + 1) rfl hP1082 hF1083 (mUp_no e1084 e988 (Or.inl (by decide))) (by omega) (by omega))
  exact wp_fg (le_s (le_s (le_s (le_s (le_s (le_s le_0)))))) (c22_1085 _ M12 0 rfl hP13 hF15 ((hQ14.at g_138_5 rfl).trans e9) (by omega) (by omega))
def fm_m16_0 : Nat := 19811876331844542915084812288
/-- IslandHall.enough -/
theorem m16_0 {B : eB} (d : Nat) (M0 : Mm) (p1 : Int) (hP0 : Pw M0) (l1 : (-2147483648) ≤ p1) (u1 : p1 ≤ 2147483647) : Ct B (d + 5) 16 [R 0, I p1] M0 (qX 0 (fun M => Pw M ∧ Fr (fm_m16_0 ||| 1) M0 M ∧ M (-1) 0 = M0 (-1) 0 + 1) (qI fun z M => Pw M ∧ Fr fm_m16_0 M0 M ∧ 0 ≤ z ∧ z ≤ 4095)) := by
  refine ct_of (d := d + 4) (k := 0) (L := [some (R 0), some (I p1)]) rfl rfl rfl ?_
  have hF0 := Fr.rf fm_m16_0 M0
  generalize hQ : (qX 0 (fun M => Pw M ∧ Fr (fm_m16_0 ||| 1) M0 M ∧ M (-1) 0 = M0 (-1) 0 + 1) (qI fun z M => Pw M ∧ Fr fm_m16_0 M0 M ∧ 0 ≤ z ∧ z ≤ 4095)) = Q
  refine wk_il1 r16_0 (wk_cs102_1 r16_1 rfl (m29 _ M0 p1 hP0 (by omega) (by omega)) (cqX (fun _ _ x5 => by subst hQ; exact Or.inl ⟨rfl, x5.1, Fr.trx hF0 x5.2.1 rfl, (by rw [x5.2.2, hF0.at g_below rfl])⟩) (cqV ?_)))
  rintro M1 ⟨hP2, hQ3, h8, h9⟩
  obtain rfl := Fr.same hQ3
  refine wk_al0 r16_4 (wk_getfr r16_5 fd_0_12 (br_0_12 hP0) (wk_al0 r16_8 (wk_getfr r16_9 fd_0_7 (br_0_7 hP0) (wk_il1 r16_12 (wk_cv3 r16_13 kc_170_221 rfl (m221_170_138 _ M0 p1 hP0 (by omega) (by omega)) (cqI ?_))))))
  rintro v14 M10 ⟨hP11, hQ12, h15, h16⟩
  have hF13 : Fr fm_m16_0 M0 M10 := hF0.tr hQ12 rfl
  subst hQ; exact wk_iret r16_16 (Or.inr ⟨rfl, _, rfl, hP11, hF13, by omega, by omega⟩)
def fm_m220_170 : Nat := 0
/-- IslandHall$Subsets.isKnot -/
theorem m220_170 {B : eB} (d : Nat) (M0 : Mm) (p1 : Int) (p2 : Int) (hP0 : Pw M0) (l1 : 0 ≤ p1) (u1 : p1 ≤ 4095) (l2 : 0 ≤ p2) (u2 : p2 ≤ 12) : Ct B (d + 1) 220 [R 170, I p1, I p2] M0 (qI fun z M => Pw M ∧ Fr fm_m220_170 M0 M ∧ 0 ≤ z ∧ z ≤ 1) := by
  refine ct_of (d := d + 0) (k := 1) (L := [some (R 170), some (I p1), some (I p2), none]) rfl rfl rfl ?_
  have hF0 := Fr.rf fm_m220_170 M0
  generalize hQ : (qI fun z M => Pw M ∧ Fr fm_m220_170 M0 M ∧ 0 ≤ z ∧ z ≤ 1) = Q
  refine wk_al0 r220_0 (wk_getfr r220_1 fd_170_0 (br_170_0 hP0) (wk_il1 r220_4 (wk_baldb r220_5 ar_171 ⟨by omega, by omega⟩ (fun q0 q1 => ba_171 hP0 q0 q1) ?_)))
  intro v1 h3 h4 e2
  refine wk_c1 r220_6 ?_
  refine wk_icne r220_7 ⟨by omega, by omega⟩ (by decide) ?_ ?_
  · intro h5
    refine wk_c1 r220_12 (wk_is3 r220_13 rfl ?_)
    have c14_214 : ∀ (k214 : Nat) (v188 : Int), (12 - v188).toNat = k214 → 0 ≤ v188 → v188 ≤ 12 → Wp B (d + 0) 220 14 [some (R 170), some (I p1), some (I p2), some (I v188)] [] M0 Q := by
      refine lp_ind ?_
      intro k214 ih214 v188 hk214 h189 h190
      refine wk_il3 r220_14 (wk_il2 r220_15 ?_)
      refine wk_icge r220_16 ⟨by omega, by omega⟩ ⟨by omega, by omega⟩ ?_ ?_
      · intro h191
        refine wk_c1 r220_49 ?_
        subst hQ; exact wk_zret r220_50 (by decide) (⟨rfl, _, rfl, hP0, hF0, by omega, by omega⟩)
      · intro h192
        refine wk_il1 r220_19 (wk_il3 r220_20 (wk_shrb r220_21 ⟨by omega, by omega⟩ ⟨by omega, by omega⟩ ?_))
        intro v193 h194 h195 h196
        refine wk_c1 r220_22 (wk_iandc 1 2 r220_23 ⟨rfl, by decide⟩ rfl (wk_c1 r220_24 ?_))
        refine wk_icne r220_25 ⟨by omega, by omega⟩ (by decide) ?_ ?_
        · intro h198
          refine wk_inc3 r220_43 rfl (wk_goto r220_46 ?_)
          exact wp_fg (le_s (le_s (le_s (le_s le_0)))) (ih214 (12 - (v188 + 1)).toNat (by omega) (v188 + 1) rfl (by omega) (by omega))
        · intro h199
          refine wk_al0 r220_28 (wk_getfr r220_29 fd_170_0 (br_170_0 hP0) (wk_il1 r220_32 (wk_c1 r220_33 (wk_il3 r220_34 (wk_shl1 11 2048 r220_35 ⟨by omega, by omega⟩ ⟨pwl_11, by decide⟩ ?_)))))
          intro v200 h201 h202 h203
          refine wk_ixor 12 4096 r220_36 (by decide) ⟨by omega, by omega⟩ ⟨by omega, by omega⟩ ?_
          intro v204 h205 h206 h207
          refine wk_baldb r220_37 ar_171 ⟨by omega, by omega⟩ (fun q0 q1 => ba_171 hP0 q0 q1) ?_
          intro v208 h210 h211 e209
          refine wk_ifne r220_38 ⟨by omega, by omega⟩ ?_ ?_
          · intro h212
            refine wk_inc3 r220_43 rfl (wk_goto r220_46 ?_)
            exact wp_fg (le_s (le_s (le_s (le_s le_0)))) (ih214 (12 - (v188 + 1)).toNat (by omega) (v188 + 1) rfl (by omega) (by omega))
          · intro h213
            refine wk_c1 r220_41 ?_
            subst hQ; exact wk_zret r220_42 (by decide) (⟨rfl, _, rfl, hP0, hF0, by omega, by omega⟩)
    exact wp_fg (le_s (le_s (le_s (le_s le_0)))) (c14_214 _ 0 rfl (by omega) (by omega))
  · intro h215
    refine wk_c1 r220_10 ?_
    subst hQ; exact wk_zret r220_11 (by decide) (⟨rfl, _, rfl, hP0, hF0, by omega, by omega⟩)
def fm_m218_170 : Nat := 123794003928538027489912422400
/-- IslandHall$Subsets.gatherKnots -/
theorem m218_170 {B : eB} (d : Nat) (M0 : Mm) (p1 : Int) (hP0 : Pw M0) (l1 : 0 ≤ p1) (u1 : p1 ≤ 12) : Ct B (d + 2) 218 [R 170, I p1] M0 (qV fun M => Pw M ∧ Fr fm_m218_170 M0 M) := by
  refine ct_of (d := d + 1) (k := 3) (L := [some (R 170), some (I p1), none, none, none]) rfl rfl rfl ?_
  have hF0 := Fr.rf fm_m218_170 M0
  generalize hQ : (qV fun M => Pw M ∧ Fr fm_m218_170 M0 M) = Q
  refine wk_c1 r218_0 (wk_is2 r218_1 rfl (wk_c1 r218_2 (wk_il1 r218_3 (wk_shl1 12 4096 r218_4 ⟨by omega, by omega⟩ ⟨pwl_12, by decide⟩ ?_))))
  intro v1 h2 h3 h4
  refine wk_c1 r218_5 (wk_isub r218_6 (wk_is3 r218_7 rfl ?_))
  have c8_2711 : ∀ (k2711 : Nat) (M2579 : Mm) (v2573 : Int) (v2576 : Int), (v2576 - (-1)).toNat = k2711 → Pw M2579 → Fr fm_m218_170 M0 M2579 → 0 ≤ v2573 → v2573 ≤ 924 → (-1) ≤ v2576 → v2576 ≤ 4095 → 0 ≤ (-1) * v2576 + v2573 + 4095 → Wp B (d + 1) 218 8 [some (R 170), some (I p1), some (I v2573), some (I v2576), none] [] M2579 Q := by
    refine lp_ind ?_
    intro k2711 ih2711 M2579 v2573 v2576 hk2711 hP2580 hF2581 h2574 h2575 h2577 h2578 h2582
    refine wk_il3 r218_8 ?_
    have c44_2710 : Wp B (d + 1) 218 44 [some (R 170), some (I p1), some (I v2573), none, none] [] M2579 Q := by
      obtain ⟨u2600, hu2601⟩ : ∃ u : Int → Int, ∀ k, M2579 172 k = u k := ⟨fun k => M2579 172 k, fun k => rfl⟩
      refine wk_al0 r218_44 (wk_c1 r218_45 (wk_putfi81 r218_46 fd_170_3 (wk_nw g_170_3 rfl hP2580 hF2581 (uf_170_3 (by decide)) ?_)))
      intro M2602 hP2603 hF2604 e2605
      refine wk_c1 r218_49 (wk_is3 r218_50 rfl ?_)
      have c51_2709 : ∀ (k2709 : Nat) (M2609 : Mm) (v2606 : Int) (v2612 : Int), (13 - v2606).toNat = k2709 → Pw M2609 → Fr fm_m218_170 M0 M2609 → M2609 170 3 = v2612 → 0 ≤ v2606 → v2606 ≤ 13 → 0 ≤ v2612 → v2612 ≤ 2147483647 → (∀ k, M2609 172 k = u2600 k) → (v2612 = Cn (fun k => bcF (u2600 k)) v2606 0 (v2573).toNat) → Wp B (d + 1) 218 51 [some (R 170), some (I p1), some (I v2573), some (I v2606), none] [] M2609 Q := by
        refine lp_ind ?_
        intro k2709 ih2709 M2609 v2606 v2612 hk2709 hP2610 hF2611 e2615 h2607 h2608 h2613 h2614 hu2616 ti2617
        refine wk_il3 r218_51 (wk_il1 r218_52 ?_)
        refine wk_icgt r218_53 ⟨by omega, by omega⟩ ⟨by omega, by omega⟩ ?_ ?_
        · intro h2618
          subst hQ; exact wk_ret r218_121 (⟨rfl, hP2610, hF2611⟩)
        · intro h2619
          refine wk_c1 r218_56 (wk_is4 r218_57 rfl ?_)
          have c59_2708 : ∀ (k2708 : Nat) (M2667 : Mm) (v2664 : Int) (v2670 : Int), (924 - v2664).toNat = k2708 → Pw M2667 → Fr fm_m218_170 M0 M2667 → M2667 170 3 = v2670 → 0 ≤ v2664 → v2664 ≤ 924 → 0 ≤ v2670 → v2670 ≤ 2147483647 → (∀ k, M2667 172 k = u2600 k) → (v2670 = Cn (fun k => bcF (u2600 k)) v2606 v2664 (v2573).toNat) → Wp B (d + 1) 218 59 [some (R 170), some (I p1), some (I v2573), some (I v2606), some (I v2664)] [] M2667 Q := by
            refine lp_ind ?_
            intro k2708 ih2708 M2667 v2664 v2670 hk2708 hP2668 hF2669 e2673 h2665 h2666 h2671 h2672 hu2674 ti2675
            refine wk_il4 r218_59 (wk_il2 r218_61 ?_)
            refine wk_icge r218_62 ⟨by omega, by omega⟩ ⟨by omega, by omega⟩ ?_ ?_
            · intro h2676
              refine wk_inc3 r218_115 rfl (wk_goto r218_118 ?_)
              exact wp_fg (le_s (le_s (le_s (le_s (le_n le_0))))) (ih2709 (13 - (v2606 + 1)).toNat (by omega) M2667 (v2606 + 1) v2670 rfl hP2668 hF2669 e2673 (by omega) (by omega) (by omega) (by omega) hu2674 (by rw [← cn_end (f := fun k => bcF (u2600 k)) (m := v2606) (N := v2664) (v2573).toNat (by omega)]; first | assumption | omega))
            · intro h2677
              refine wk_al0 r218_65 (wk_getfr r218_66 fd_170_1 (br_170_1 hP2668) (wk_il4 r218_69 (wk_ialdb r218_71 ar_172 ⟨by omega, by omega⟩ (fun q0 q1 => ba_172 hP2668 q0 q1) ?_)))
              intro v2678 h2680 h2681 e2679
              refine wk_cs102_1 r218_72 rfl (m246 _ M2667 v2678 hP2668 (by omega) (by omega)) (cqI ?_)
              rintro v2687 M2682 ⟨hP2683, hQ2684, h2688, h2689, xh2686⟩
              obtain rfl := Fr.same hQ2684
              refine wk_il3 r218_75 ?_
              refine wk_icne r218_76 ⟨by omega, by omega⟩ ⟨by omega, by omega⟩ ?_ ?_
              · intro h2690
                refine wk_inc4 r218_109 rfl (wk_goto r218_112 ?_)
                exact wp_fg (le_s (le_s (le_s (le_s (le_s le_0))))) (ih2708 (924 - (v2664 + 1)).toNat (by omega) M2667 (v2664 + 1) v2670 rfl hP2668 hF2669 e2673 (by omega) (by omega) (by omega) (by omega) hu2674 (by first | (rw [cn_ne (by show bcF (u2600 v2664) ≠ v2606; rw [← hu2674 v2664, e2679]; omega)]; first | assumption | omega) | (rw [cn_eq (by omega) (by show bcF (u2600 v2664) = v2606; rw [← hu2674 v2664, e2679]; omega), if_pos (by omega)]; omega)))
              · intro h2691
                have h2692 := cn_lt (f := fun k => bcF (u2600 k)) (m := v2606) (i := v2664) (n := (v2573).toNat) (by omega) (by omega) (by show bcF (u2600 v2664) = v2606; rw [← hu2674 v2664, e2679]; omega)
                refine wk_al0 r218_79 (wk_getfr r218_80 fd_170_2 (br_170_2 hP2668) (wk_al0 r218_83 (wk_getfi r218_84 fd_170_3 e2673 (wk_al0 r218_87 (wk_getfr r218_88 fd_170_1 (br_170_1 hP2668) (wk_il4 r218_91 (wk_iald r218_93 ar_172 ⟨by omega, by omega⟩ e2679 (wk_il1 r218_94 (wk_cs102_2 r218_95 rfl (m223 _ M2667 v2678 p1 hP2668 (by omega) (by omega) (by omega) (by omega)) (cqI ?_))))))))))
                rintro v2697 M2693 ⟨hP2694, hQ2695, h2698, h2699⟩
                obtain rfl := Fr.same hQ2695
                refine wk_iast r218_98 ar_173 ⟨by omega, by omega⟩ (wk_nw (ga_173 _) rfl hP2668 hF2669 (ua_173 ⟨by omega, by omega⟩) ?_)
                intro M2700 hP2701 hF2702 e2703
                refine wk_al0 r218_99 (wk_dupr r218_100 (wk_getfi r218_101 fd_170_3 (mUp_no e2703 e2673 (Or.inl (by decide))) (wk_c1 r218_104 (wk_iadd r218_105 (wk_putfi81 r218_106 fd_170_3 (wk_nw g_170_3 rfl hP2701 hF2702 (uf_170_3 ⟨by omega, by omega⟩) ?_))))))
                intro M2704 hP2705 hF2706 e2707
                refine wk_inc4 r218_109 rfl (wk_goto r218_112 ?_)
                exact wp_fg (le_s (le_s (le_s (le_s (le_s le_0))))) (ih2708 (924 - (v2664 + 1)).toNat (by omega) M2704 (v2664 + 1) (v2670 + 1) rfl hP2705 hF2706 (mUp_at e2707) (by omega) (by omega) (by omega) (by omega) (fun k => mUp_no e2707 ((fun k => mUp_no e2703 (hu2674 k) (Or.inl (by decide))) k) (Or.inl (by decide))) (by first | (rw [cn_ne (by show bcF (u2600 v2664) ≠ v2606; rw [← hu2674 v2664, e2679]; omega)]; first | assumption | omega) | (rw [cn_eq (by omega) (by show bcF (u2600 v2664) = v2606; rw [← hu2674 v2664, e2679]; omega), if_pos (by omega)]; omega)))
          exact wp_fg (le_s (le_s (le_s (le_s (le_s le_0))))) (c59_2708 _ M2609 0 v2612 rfl hP2610 hF2611 e2615 (by omega) (by omega) (by omega) (by omega) hu2616 (by first | assumption | omega))
      exact wp_fg (le_s (le_s (le_s (le_s (le_s le_0))))) (c51_2709 _ M2602 0 0 rfl hP2603 hF2604 (mUp_at e2605) (by omega) (by omega) (by omega) (by omega) (fun k => mUp_no e2605 (hu2601 k) (Or.inl (by decide))) (by rw [cn_zero (fun k => bcF_nn _)]))
    refine wk_iflt r218_9 ⟨by omega, by omega⟩ ?_ ?_
    · intro h2583
      exact wp_fg (le_s (le_s (le_s (le_n (le_s le_0))))) c44_2710
    · intro h2584
      refine wk_il2 r218_12 (wk_c3 r218_13 ?_)
      refine wk_icge r218_16 ⟨by omega, by omega⟩ (by decide) ?_ ?_
      · intro h2585
        exact wp_fg (le_s (le_s (le_s (le_n (le_s le_0))))) c44_2710
      · intro h2586
        refine wk_al0 r218_19 (wk_il3 r218_20 (wk_il1 r218_21 (wk_cv3 r218_22 kc_170_220 rfl (m220_170 _ M2579 v2576 p1 hP2580 (by omega) (by omega) (by omega) (by omega)) (cqI ?_))))
        rintro v2591 M2587 ⟨hP2588, hQ2589, h2592, h2593⟩
        obtain rfl := Fr.same hQ2589
        refine wk_ifeq r218_25 ⟨by omega, by omega⟩ ?_ ?_
        · intro h2594
          refine wk_inc3 r218_38 rfl (wk_goto r218_41 ?_)
          exact wp_fg (le_s (le_s (le_s (le_s (le_s le_0))))) (ih2711 ((v2576 + (-1)) - (-1)).toNat (by omega) M2579 v2573 (v2576 + (-1)) rfl hP2580 hF2581 (by omega) (by omega) (by omega) (by omega) (by omega))
        · intro h2595
          refine wk_al0 r218_28 (wk_getfr r218_29 fd_170_1 (br_170_1 hP2580) (wk_il2 r218_32 (wk_il3 r218_33 (wk_iast r218_34 ar_172 ⟨by omega, by omega⟩ (wk_nw (ga_172 _) rfl hP2580 hF2581 (ua_172 ⟨by omega, by omega⟩) ?_)))))
          intro M2596 hP2597 hF2598 e2599
          refine wk_inc2 r218_35 rfl (wk_inc3 r218_38 rfl (wk_goto r218_41 ?_))
          exact wp_fg (le_s (le_s (le_s (le_s (le_s le_0))))) (ih2711 ((v2576 + (-1)) - (-1)).toNat (by omega) M2596 (v2573 + 1) (v2576 + (-1)) rfl hP2597 hF2598 (by omega) (by omega) (by omega) (by omega) (by omega))
  exact wp_fg (le_s (le_s (le_s (le_s (le_s le_0))))) (c8_2711 _ M0 0 (v1 - 1) rfl hP0 hF0 (by omega) (by omega) (by omega) (by omega) (by omega))
def fm_m216_170_138 : Nat := 153504564871387154087491403776
/-- IslandHall$Subsets.findKnots -/
theorem m216_170_138 {B : eB} (d : Nat) (M0 : Mm) (hP0 : Pw M0)  : Ct B (d + 3) 216 [R 170, R 138] M0 (qV fun M => Pw M ∧ Fr fm_m216_170_138 M0 M) := by
  refine ct_of (d := d + 2) (k := 1) (L := [some (R 170), some (R 138), none]) rfl rfl rfl ?_
  have hF0 := Fr.rf fm_m216_170_138 M0
  generalize hQ : (qV fun M => Pw M ∧ Fr fm_m216_170_138 M0 M) = Q
  refine wk_al0 r216_0 (wk_getfb r216_1 fd_170_4 (bf_170_4 hP0) ?_)
  intro v1 h3 h4 e2
  refine wk_ifeq r216_4 ⟨by omega, by omega⟩ ?_ ?_
  · intro h5
    refine wk_al0 r216_8 (wk_al1 r216_9 (wk_getfb r216_10 fd_138_5 (bf_138_5 hP0) ?_))
    intro v6 h8 h9 e7
    refine wk_cv2 r216_13 kc_170_215 rfl (m215_170 _ M0 v6 hP0 (by omega) (by omega)) (cqV ?_)
    rintro M10 ⟨hP11, hQ12⟩
    have hF13 : Fr fm_m216_170_138 M0 M10 := hF0.tr hQ12 rfl
    refine wk_c1 r216_16 (wk_is2 r216_17 rfl ?_)
    have c18_544 : ∀ (k544 : Nat) (M494 : Mm) (v491 : Int), (3000 - v491).toNat = k544 → Pw M494 → Fr fm_m216_170_138 M0 M494 → M494 170 4 = v1 → M494 138 5 = v6 → 0 ≤ v491 → v491 ≤ 3000 → Wp B (d + 2) 216 18 [some (R 170), some (R 138), some (I v491)] [] M494 Q := by
      refine lp_ind ?_
      intro k544 ih544 M494 v491 hk544 hP495 hF496 e497 e498 h492 h493
      refine wk_il2 r216_18 (wk_al1 r216_19 (wk_getfr r216_20 fd_138_0 (br_138_0 hP495) (wk_getfb r216_23 fd_10_9 (bf_10_9 hP495) ?_)))
      intro v499 h501 h502 e500
      refine wk_icge r216_26 ⟨by omega, by omega⟩ ⟨by omega, by omega⟩ ?_ ?_
      · intro h503
        refine wk_al0 r216_57 (wk_al1 r216_58 (wk_getfi r216_59 fd_138_5 e498 (wk_cv2 r216_62 kc_170_222 rfl (m222_170 _ M494 v6 hP495 (by omega) (by omega)) (cqV ?_))))
        rintro M504 ⟨hP505, hQ506⟩
        have hF507 : Fr fm_m216_170_138 M0 M504 := hF496.tr hQ506 rfl
        refine wk_al0 r216_65 (wk_al1 r216_66 (wk_getfi r216_67 fd_138_5 ((hQ506.at g_138_5 rfl).trans e498) (wk_cv2 r216_70 kc_170_218 rfl (m218_170 _ M504 v6 hP505 (by omega) (by omega)) (cqV ?_))))
        rintro M508 ⟨hP509, hQ510⟩
        have hF511 : Fr fm_m216_170_138 M0 M508 := hF507.tr hQ510 rfl
        refine wk_al0 r216_73 (wk_c1 r216_74 (wk_putfz81 r216_75 fd_170_4 (by decide) (wk_nw g_170_4 rfl hP509 hF511 (uf_170_4 (by decide)) ?_)))
        intro M512 hP513 hF514 e515
        subst hQ; exact wk_ret r216_78 (⟨rfl, hP513, hF514⟩)
      · intro h516
        refine wk_al1 r216_29 (wk_cv1 r216_30 kc_138_233 rfl (m233_138 _ M494 hP495) (cqR ?_))
        rintro v521 M517 ⟨hP518, hQ519, h522, h523⟩
        obtain rfl : v521 = 155 := by omega
        obtain rfl := Fr.same hQ519
        refine wk_il2 r216_33 (wk_cs102_2 r216_34 rfl (m191_f155v8 _ M494 155 v491 hP495 (by omega) (by omega) (by omega) (by omega)) (cqI ?_))
        rintro v528 M524 ⟨hP525, hQ526, h529, h530⟩
        obtain rfl := Fr.same hQ526
        refine wk_ifeq r216_37 ⟨by omega, by omega⟩ ?_ ?_
        · intro h531
          refine wk_inc2 r216_51 rfl (wk_goto r216_54 ?_)
          exact wp_fg (le_s (le_s (le_s le_0))) (ih544 (3000 - (v491 + 1)).toNat (by omega) M494 (v491 + 1) rfl hP495 hF496 e497 e498 (by omega) (by omega))
        · intro h532
          refine wk_al0 r216_40 (wk_getfr r216_41 fd_170_0 (br_170_0 hP495) (wk_al1 r216_44 (wk_il2 r216_45 (wk_cv2 r216_46 kc_138_228 rfl (m228_138v8 _ M494 v491 hP495 (by omega) (by omega)) (cqI ?_)))))
          rintro v537 M533 ⟨hP534, hQ535, h538, h539⟩
          obtain rfl := Fr.same hQ535
          refine wk_c1 r216_49 (wk_bast r216_50 ar_171 ⟨by omega, by omega⟩ (by decide) (wk_nw (ga_171 _) rfl hP495 hF496 (ua_171 (by decide)) ?_))
          intro M540 hP541 hF542 e543
          refine wk_inc2 r216_51 rfl (wk_goto r216_54 ?_)
          exact wp_fg (le_s (le_s (le_s le_0))) (ih544 (3000 - (v491 + 1)).toNat (by omega) M540 (v491 + 1) rfl hP541 hF542 (mUp_no e543 e497 (Or.inl (by decide))) (mUp_no e543 e498 (Or.inl (by decide))) (by omega) (by omega))
    exact wp_fg (le_s (le_s (le_s le_0))) (c18_544 _ M10 0 rfl hP11 hF13 ((hQ12.at g_170_4 rfl).trans e2) ((hQ12.at g_138_5 rfl).trans e7) (by omega) (by omega))
  · intro h545
    subst hQ; exact wk_ret r216_7 (⟨rfl, hP0, hF0⟩)
def fm_m26_0 : Nat := 153504564871387154087491403776
/-- IslandHall.knots -/
theorem m26_0 {B : eB} (d : Nat) (M0 : Mm) (hP0 : Pw M0)  : Ct B (d + 4) 26 [R 0] M0 (qI fun z M => Pw M ∧ Fr fm_m26_0 M0 M ∧ 0 ≤ z ∧ z ≤ 924) := by
  refine ct_of (d := d + 3) (k := 0) (L := [some (R 0)]) rfl rfl rfl ?_
  have hF0 := Fr.rf fm_m26_0 M0
  generalize hQ : (qI fun z M => Pw M ∧ Fr fm_m26_0 M0 M ∧ 0 ≤ z ∧ z ≤ 924) = Q
  refine wk_al0 r26_0 (wk_getfr r26_1 fd_0_12 (br_0_12 hP0) (wk_al0 r26_4 (wk_getfr r26_5 fd_0_7 (br_0_7 hP0) (wk_cv2 r26_8 kc_170_216 rfl (m216_170_138 _ M0 hP0) (cqV ?_)))))
  rintro M1 ⟨hP2, hQ3⟩
  have hF4 : Fr fm_m26_0 M0 M1 := hF0.tr hQ3 rfl
  refine wk_al0 r26_11 (wk_getfr r26_12 fd_0_12 (br_0_12 hP2) (wk_getfb r26_15 fd_170_3 (bf_170_3 hP2) ?_))
  intro v5 h7 h8 e6
  subst hQ; exact wk_iret r26_18 (⟨rfl, _, rfl, hP2, hF4, by omega, by omega⟩)
