/-! ===== methods ===== -/
theorem r19_0 : Rw 19 0 1 1 10 1 0 0 := rw_of (by decide +kernel)
theorem r19_1 : Rw 19 1 4 3 102 29 1 240 := rw_of (by decide +kernel)
theorem r29_0 : Rw 29 0 1 1 10 0 0 0 := rw_of (by decide +kernel)
theorem r29_1 : Rw 29 1 4 3 63 9 0 0 := rw_of (by decide +kernel)
theorem r29_9 : Rw 29 9 12 3 112 0 6 309 := rw_of (by decide +kernel)
theorem r29_4 : Rw 29 4 5 1 10 0 0 0 := rw_of (by decide +kernel)
theorem r29_5 : Rw 29 5 6 1 1 (cd 4) 5 0 := rw_of (by decide +kernel)
theorem r29_6 : Rw 29 6 9 3 69 20 0 0 := rw_of (by decide +kernel)
theorem r29_20 : Rw 29 20 21 1 77 0 0 0 := rw_of (by decide +kernel)
theorem r19_4 : Rw 19 4 5 1 14 0 0 0 := rw_of (by decide +kernel)
theorem r19_5 : Rw 19 5 8 3 80 11 6 48 := rw_of (by decide +kernel)
theorem fd_0_6 : Fdl 0 11 6 6 2 := fd_of (by decide) rfl (by decide +kernel)
theorem bf_0_6 {M : Mm} (h : Pw M) : 10 ≤ M 0 6 ∧ M 0 6 ≤ 10 := (h 0 6 (by decide) (by decide) (by decide) (by decide +kernel)).get0 g_0_6 rfl rfl rfl rfl
theorem br_0_6 {M : Mm} (h : Pw M) : M 0 6 = 10 := by have := bf_0_6 h; omega
theorem r19_8 : Rw 19 8 9 1 14 0 0 0 := rw_of (by decide +kernel)
theorem r19_9 : Rw 19 9 12 3 80 11 7 57 := rw_of (by decide +kernel)
theorem fd_0_7 : Fdl 0 11 7 7 2 := fd_of (by decide) rfl (by decide +kernel)
theorem bf_0_7 {M : Mm} (h : Pw M) : 138 ≤ M 0 7 ∧ M 0 7 ≤ 138 := (h 0 7 (by decide) (by decide) (by decide) (by decide +kernel)).get0 g_0_7 rfl rfl rfl rfl
theorem br_0_7 {M : Mm} (h : Pw M) : M 0 7 = 138 := by have := bf_0_7 h; omega
theorem r19_12 : Rw 19 12 15 3 100 229 1 189 := rw_of (by decide +kernel)
theorem r229_0 : Rw 229 0 1 1 14 0 0 0 := rw_of (by decide +kernel)
theorem r229_1 : Rw 229 1 4 3 80 8 3 32 := rw_of (by decide +kernel)
theorem fd_138_3 : Fdl 138 8 3 3 2 := fd_of (by decide) rfl (by decide +kernel)
theorem bf_138_3 {M : Mm} (h : Pw M) : 154 ≤ M 138 3 ∧ M 138 3 ≤ 154 := (h 138 3 (by decide) (by decide) (by decide) (by decide +kernel)).get0 g_138_3 rfl rfl rfl rfl
theorem br_138_3 {M : Mm} (h : Pw M) : M 138 3 = 154 := by have := bf_138_3 h; omega
theorem r229_4 : Rw 229 4 5 1 14 0 0 0 := rw_of (by decide +kernel)
theorem r229_5 : Rw 229 5 8 3 80 8 5 19 := rw_of (by decide +kernel)
theorem fd_138_5 : Fdl 138 8 5 5 0 := fd_of (by decide) rfl (by decide +kernel)
theorem bf_138_5 {M : Mm} (h : Pw M) : 0 ≤ M 138 5 ∧ M 138 5 ≤ 12 := (h 138 5 (by decide) (by decide) (by decide) (by decide +kernel)).get0 g_138_5 rfl rfl rfl rfl
theorem r229_8 : Rw 229 8 9 1 87 0 0 0 := rw_of (by decide +kernel)
theorem ar_154 : Ar 154 104 13 := ar_of (by decide) (by decide) (by decide +kernel)
theorem ba_154 {M : Mm} (h : Pw M) {i : Int} (h0 : 0 ≤ i) (h1 : i < 13) : M 154 i = 155 + i := by
  have := (h 154 i (by decide) (by decide) h0 (by rw [ar_154.2.2.2.1]; exact h1)).get (l := 155) (u := 155) (c := 1) (s := 0) (gr_154 (by decide) (by decide) i) rfl rfl rfl rfl
  omega
theorem r229_9 : Rw 229 9 10 1 76 0 0 0 := rw_of (by decide +kernel)
theorem kc_138_229 : Kc 138 229 := kc_of (by decide) (by decide +kernel)
theorem r19_15 : Rw 19 15 18 3 100 194 2 218 := rw_of (by decide +kernel)
theorem r194_0 : Rw 194 0 1 1 1 (cd 0) 1 0 := rw_of (by decide +kernel)
theorem r194_1 : Rw 194 1 2 1 16 2 0 0 := rw_of (by decide +kernel)
theorem r194_2 : Rw 194 2 3 1 1 (cd 0) 1 0 := rw_of (by decide +kernel)
theorem r194_3 : Rw 194 3 4 1 16 3 0 0 := rw_of (by decide +kernel)
theorem r194_4 : Rw 194 4 5 1 10 3 0 0 := rw_of (by decide +kernel)
theorem r194_5 : Rw 194 5 6 1 14 0 0 0 := rw_of (by decide +kernel)
theorem r194_6 : Rw 194 6 9 3 80 5 10 39 := rw_of (by decide +kernel)
theorem fd_10_10 : Fdl 10 5 10 10 0 := fd_of (by decide) rfl (by decide +kernel)
theorem bf_10_10 {M : Mm} (h : Pw M) : 0 ≤ M 10 10 ∧ M 10 10 ≤ 47 := (h 10 10 (by decide) (by decide) (by decide) (by decide +kernel)).get0 g_10_10 rfl rfl rfl rfl
theorem r194_9 : Rw 194 9 12 3 70 27 0 0 := rw_of (by decide +kernel)
theorem r194_27 : Rw 194 27 28 1 10 2 0 0 := rw_of (by decide +kernel)
theorem r194_28 : Rw 194 28 29 1 74 0 0 0 := rw_of (by decide +kernel)
theorem r194_12 : Rw 194 12 13 1 10 2 0 0 := rw_of (by decide +kernel)
theorem r194_13 : Rw 194 13 14 1 14 1 0 0 := rw_of (by decide +kernel)
theorem r194_14 : Rw 194 14 15 1 10 3 0 0 := rw_of (by decide +kernel)
theorem r194_15 : Rw 194 15 16 1 84 0 0 0 := rw_of (by decide +kernel)
theorem arb_155 : (List.range 13).all (fun j => arb (155 + j) 102 47) = true := by decide +kernel
theorem arF_155 {a : Int} (h0 : 155 ≤ a) (h1 : a ≤ 167) : Ar a 102 47 := ar_of (by omega) (by decide) (by
  have h := List.all_eq_true.mp arb_155 (a.toNat - 155) (List.mem_range.mpr (by omega))
  rw [show 155 + (a.toNat - 155) = a.toNat by omega] at h
  exact h)
theorem baF_155 {M : Mm} (h : Pw M) {a i : Int} (ha : 155 ≤ a) (hb : a ≤ 167) (h0 : 0 ≤ i) (h1 : i < 47) : 0 ≤ M a i ∧ M a i ≤ 18446744073709551615 := (h a i (by omega) (by omega) h0 (by rw [(arF_155 ha hb).2.2.2.1]; exact h1)).get0 (gr_155 ha hb i) rfl rfl rfl rfl
theorem r194_16 : Rw 194 16 19 3 102 245 1 161 := rw_of (by decide +kernel)
theorem r245_0 : Rw 245 0 1 1 12 0 0 0 := rw_of (by decide +kernel)
theorem r245_1 : Rw 245 1 2 1 12 0 0 0 := rw_of (by decide +kernel)
theorem r245_2 : Rw 245 2 3 1 1 (cd 1) 2 0 := rw_of (by decide +kernel)
theorem r245_3 : Rw 245 3 4 1 47 0 0 0 := rw_of (by decide +kernel)
theorem r245_4 : Rw 245 4 7 3 7 6148914691236517205 314 0 := rw_of (by decide +kernel)
theorem r245_7 : Rw 245 7 8 1 43 0 0 0 := rw_of (by decide +kernel)
theorem r245_8 : Rw 245 8 9 1 42 0 0 0 := rw_of (by decide +kernel)
theorem r245_9 : Rw 245 9 10 1 18 0 0 0 := rw_of (by decide +kernel)
theorem r245_10 : Rw 245 10 11 1 12 0 0 0 := rw_of (by decide +kernel)
theorem r245_11 : Rw 245 11 14 3 7 3689348814741910323 316 0 := rw_of (by decide +kernel)
theorem r245_14 : Rw 245 14 15 1 43 0 0 0 := rw_of (by decide +kernel)
theorem r245_15 : Rw 245 15 16 1 12 0 0 0 := rw_of (by decide +kernel)
theorem r245_16 : Rw 245 16 17 1 1 (cd 2) 3 0 := rw_of (by decide +kernel)
theorem r245_17 : Rw 245 17 18 1 47 0 0 0 := rw_of (by decide +kernel)
theorem r245_18 : Rw 245 18 21 3 7 3689348814741910323 316 0 := rw_of (by decide +kernel)
theorem r245_21 : Rw 245 21 22 1 43 0 0 0 := rw_of (by decide +kernel)
theorem r245_22 : Rw 245 22 23 1 41 0 0 0 := rw_of (by decide +kernel)
theorem r245_23 : Rw 245 23 24 1 18 0 0 0 := rw_of (by decide +kernel)
theorem r245_24 : Rw 245 24 25 1 12 0 0 0 := rw_of (by decide +kernel)
theorem r245_25 : Rw 245 25 26 1 12 0 0 0 := rw_of (by decide +kernel)
theorem r245_26 : Rw 245 26 27 1 1 (cd 4) 5 0 := rw_of (by decide +kernel)
theorem r245_27 : Rw 245 27 28 1 47 0 0 0 := rw_of (by decide +kernel)
theorem r245_28 : Rw 245 28 29 1 41 0 0 0 := rw_of (by decide +kernel)
theorem r245_29 : Rw 245 29 32 3 7 1085102592571150095 318 0 := rw_of (by decide +kernel)
theorem r245_32 : Rw 245 32 33 1 43 0 0 0 := rw_of (by decide +kernel)
theorem r245_33 : Rw 245 33 34 1 18 0 0 0 := rw_of (by decide +kernel)
theorem r245_34 : Rw 245 34 35 1 12 0 0 0 := rw_of (by decide +kernel)
theorem r245_35 : Rw 245 35 36 1 12 0 0 0 := rw_of (by decide +kernel)
theorem r245_36 : Rw 245 36 38 2 2 (cd 8) 136 0 := rw_of (by decide +kernel)
theorem r245_38 : Rw 245 38 39 1 47 0 0 0 := rw_of (by decide +kernel)
theorem r245_39 : Rw 245 39 40 1 41 0 0 0 := rw_of (by decide +kernel)
theorem r245_40 : Rw 245 40 41 1 18 0 0 0 := rw_of (by decide +kernel)
theorem r245_41 : Rw 245 41 42 1 12 0 0 0 := rw_of (by decide +kernel)
theorem r245_42 : Rw 245 42 43 1 12 0 0 0 := rw_of (by decide +kernel)
theorem r245_43 : Rw 245 43 45 2 2 (cd 16) 144 0 := rw_of (by decide +kernel)
theorem r245_45 : Rw 245 45 46 1 47 0 0 0 := rw_of (by decide +kernel)
theorem r245_46 : Rw 245 46 47 1 41 0 0 0 := rw_of (by decide +kernel)
theorem r245_47 : Rw 245 47 48 1 18 0 0 0 := rw_of (by decide +kernel)
theorem r245_48 : Rw 245 48 49 1 12 0 0 0 := rw_of (by decide +kernel)
theorem r245_49 : Rw 245 49 50 1 12 0 0 0 := rw_of (by decide +kernel)
theorem r245_50 : Rw 245 50 52 2 2 (cd 32) 160 0 := rw_of (by decide +kernel)
theorem r245_52 : Rw 245 52 53 1 47 0 0 0 := rw_of (by decide +kernel)
theorem r245_53 : Rw 245 53 54 1 41 0 0 0 := rw_of (by decide +kernel)
theorem r245_54 : Rw 245 54 55 1 18 0 0 0 := rw_of (by decide +kernel)
theorem r245_55 : Rw 245 55 56 1 12 0 0 0 := rw_of (by decide +kernel)
theorem r245_56 : Rw 245 56 57 1 49 0 0 0 := rw_of (by decide +kernel)
theorem r245_57 : Rw 245 57 59 2 2 (cd 127) 255 0 := rw_of (by decide +kernel)
theorem r245_59 : Rw 245 59 60 1 33 0 0 0 := rw_of (by decide +kernel)
theorem r245_60 : Rw 245 60 61 1 74 0 0 0 := rw_of (by decide +kernel)
theorem r194_19 : Rw 194 19 20 1 30 0 0 0 := rw_of (by decide +kernel)
theorem r194_20 : Rw 194 20 21 1 16 2 0 0 := rw_of (by decide +kernel)
theorem r194_21 : Rw 194 21 24 3 22 3 (cd 1) 32769 := rw_of (by decide +kernel)
theorem r194_24 : Rw 194 24 27 3 60 4 0 0 := rw_of (by decide +kernel)
theorem kc_10_194 : Kc 10 194 := kc_of (by decide) (by decide +kernel)
theorem r19_18 : Rw 19 18 20 2 2 (cd 100) 228 0 := rw_of (by decide +kernel)
theorem r19_20 : Rw 19 20 23 3 72 26 0 0 := rw_of (by decide +kernel)
theorem r19_26 : Rw 19 26 27 1 14 0 0 0 := rw_of (by decide +kernel)
theorem r19_27 : Rw 19 27 30 3 80 11 15 91 := rw_of (by decide +kernel)
theorem fd_0_15 : Fdl 0 11 15 15 2 := fd_of (by decide) rfl (by decide +kernel)
theorem bf_0_15 {M : Mm} (h : Pw M) : 174 ≤ M 0 15 ∧ M 0 15 ≤ 174 := (h 0 15 (by decide) (by decide) (by decide) (by decide +kernel)).get0 g_0_15 rfl rfl rfl rfl
theorem br_0_15 {M : Mm} (h : Pw M) : M 0 15 = 174 := by have := bf_0_15 h; omega
theorem r19_30 : Rw 19 30 31 1 14 0 0 0 := rw_of (by decide +kernel)
theorem r19_31 : Rw 19 31 34 3 80 11 7 57 := rw_of (by decide +kernel)
theorem r19_34 : Rw 19 34 35 1 10 1 0 0 := rw_of (by decide +kernel)
theorem r19_35 : Rw 19 35 38 3 100 146 3 286 := rw_of (by decide +kernel)
theorem r146_0 : Rw 146 0 1 1 14 0 0 0 := rw_of (by decide +kernel)
theorem r146_1 : Rw 146 1 4 3 80 2 0 20 := rw_of (by decide +kernel)
theorem fd_174_0 : Fdl 174 2 0 0 2 := fd_of (by decide) rfl (by decide +kernel)
theorem bf_174_0 {M : Mm} (h : Pw M) : 176 ≤ M 174 0 ∧ M 174 0 ≤ 176 := (h 174 0 (by decide) (by decide) (by decide) (by decide +kernel)).get0 g_174_0 rfl rfl rfl rfl
theorem br_174_0 {M : Mm} (h : Pw M) : M 174 0 = 176 := by have := bf_174_0 h; omega
theorem r146_4 : Rw 146 4 5 1 14 1 0 0 := rw_of (by decide +kernel)
theorem r146_5 : Rw 146 5 8 3 80 8 0 40 := rw_of (by decide +kernel)
theorem fd_138_0 : Fdl 138 8 0 0 2 := fd_of (by decide) rfl (by decide +kernel)
theorem bf_138_0 {M : Mm} (h : Pw M) : 10 ≤ M 138 0 ∧ M 138 0 ≤ 10 := (h 138 0 (by decide) (by decide) (by decide) (by decide +kernel)).get0 g_138_0 rfl rfl rfl rfl
theorem br_138_0 {M : Mm} (h : Pw M) : M 138 0 = 10 := by have := bf_138_0 h; omega
theorem r146_8 : Rw 146 8 9 1 14 1 0 0 := rw_of (by decide +kernel)
theorem r146_9 : Rw 146 9 12 3 100 229 1 43 := rw_of (by decide +kernel)
theorem r146_12 : Rw 146 12 13 1 14 1 0 0 := rw_of (by decide +kernel)
theorem r146_13 : Rw 146 13 16 3 80 8 5 47 := rw_of (by decide +kernel)
theorem r146_16 : Rw 146 16 19 3 100 206 4 50 := rw_of (by decide +kernel)
theorem r206_0 : Rw 206 0 1 1 14 0 0 0 := rw_of (by decide +kernel)
theorem r206_1 : Rw 206 1 2 1 14 1 0 0 := rw_of (by decide +kernel)
theorem r206_2 : Rw 206 2 5 3 80 5 7 29 := rw_of (by decide +kernel)
theorem fd_10_7 : Fdl 10 5 7 7 0 := fd_of (by decide) rfl (by decide +kernel)
theorem bf_10_7 {M : Mm} (h : Pw M) : (-1) ≤ M 10 7 ∧ M 10 7 ≤ 7 := (h 10 7 (by decide) (by decide) (by decide) (by decide +kernel)).get0 g_10_7 rfl rfl rfl rfl
theorem r206_5 : Rw 206 5 6 1 14 1 0 0 := rw_of (by decide +kernel)
theorem r206_6 : Rw 206 6 9 3 80 5 8 33 := rw_of (by decide +kernel)
theorem fd_10_8 : Fdl 10 5 8 8 0 := fd_of (by decide) rfl (by decide +kernel)
theorem bf_10_8 {M : Mm} (h : Pw M) : 0 ≤ M 10 8 ∧ M 10 8 ≤ 127 := (h 10 8 (by decide) (by decide) (by decide) (by decide +kernel)).get0 g_10_8 rfl rfl rfl rfl
theorem r206_9 : Rw 206 9 12 3 100 187 3 57 := rw_of (by decide +kernel)
theorem r187_0 : Rw 187 0 1 1 14 0 0 0 := rw_of (by decide +kernel)
theorem r187_1 : Rw 187 1 2 1 10 1 0 0 := rw_of (by decide +kernel)
theorem r187_2 : Rw 187 2 5 3 81 5 7 0 := rw_of (by decide +kernel)
theorem fd_176_7 : Fdl 176 5 7 7 0 := fd_of (by decide) rfl (by decide +kernel)
theorem uf_176_7 {z : Int} (hz : (-1) ≤ z ∧ z ≤ 7) : Bd 176 7 z := Bd.of0 g_176_7 rfl rfl rfl rfl rfl hz
theorem r187_5 : Rw 187 5 6 1 14 0 0 0 := rw_of (by decide +kernel)
theorem r187_6 : Rw 187 6 7 1 10 2 0 0 := rw_of (by decide +kernel)
theorem r187_7 : Rw 187 7 10 3 81 5 8 0 := rw_of (by decide +kernel)
theorem fd_176_8 : Fdl 176 5 8 8 0 := fd_of (by decide) rfl (by decide +kernel)
theorem uf_176_8 {z : Int} (hz : 0 ≤ z ∧ z ≤ 127) : Bd 176 8 z := Bd.of0 g_176_8 rfl rfl rfl rfl rfl hz
theorem r187_10 : Rw 187 10 11 1 14 0 0 0 := rw_of (by decide +kernel)
theorem r187_11 : Rw 187 11 12 1 1 (cd 0) 1 0 := rw_of (by decide +kernel)
theorem r187_12 : Rw 187 12 15 3 81 5 9 0 := rw_of (by decide +kernel)
theorem fd_176_9 : Fdl 176 5 9 9 0 := fd_of (by decide) rfl (by decide +kernel)
theorem uf_176_9 {z : Int} (hz : 0 ≤ z ∧ z ≤ 300) : Bd 176 9 z := Bd.of0 g_176_9 rfl rfl rfl rfl rfl hz
theorem r187_15 : Rw 187 15 16 1 14 0 0 0 := rw_of (by decide +kernel)
theorem r187_16 : Rw 187 16 17 1 1 (cd 0) 1 0 := rw_of (by decide +kernel)
theorem r187_17 : Rw 187 17 20 3 81 5 10 0 := rw_of (by decide +kernel)
theorem fd_176_10 : Fdl 176 5 10 10 0 := fd_of (by decide) rfl (by decide +kernel)
theorem uf_176_10 {z : Int} (hz : 0 ≤ z ∧ z ≤ 5) : Bd 176 10 z := Bd.of0 g_176_10 rfl rfl rfl rfl rfl hz
theorem r187_20 : Rw 187 20 21 1 1 (cd 0) 1 0 := rw_of (by decide +kernel)
theorem r187_21 : Rw 187 21 22 1 16 3 0 0 := rw_of (by decide +kernel)
theorem r187_22 : Rw 187 22 23 1 10 3 0 0 := rw_of (by decide +kernel)
theorem r187_23 : Rw 187 23 25 2 2 (cd 119) 247 0 := rw_of (by decide +kernel)
theorem r187_25 : Rw 187 25 28 3 70 44 0 0 := rw_of (by decide +kernel)
theorem r187_28 : Rw 187 28 29 1 14 0 0 0 := rw_of (by decide +kernel)
theorem r187_29 : Rw 187 29 32 3 80 5 0 44 := rw_of (by decide +kernel)
theorem fd_176_0 : Fdl 176 5 0 0 2 := fd_of (by decide) rfl (by decide +kernel)
theorem bf_176_0 {M : Mm} (h : Pw M) : 182 ≤ M 176 0 ∧ M 176 0 ≤ 182 := (h 176 0 (by decide) (by decide) (by decide) (by decide +kernel)).get0 g_176_0 rfl rfl rfl rfl
theorem br_176_0 {M : Mm} (h : Pw M) : M 176 0 = 182 := by have := bf_176_0 h; omega
theorem r187_32 : Rw 187 32 33 1 10 3 0 0 := rw_of (by decide +kernel)
theorem r187_33 : Rw 187 33 34 1 87 0 0 0 := rw_of (by decide +kernel)
theorem ar_182 : Ar 182 104 119 := ar_of (by decide) (by decide) (by decide +kernel)
theorem ba_182 {M : Mm} (h : Pw M) {i : Int} (h0 : 0 ≤ i) (h1 : i < 119) : M 182 i = 183 + i := by
  have := (h 182 i (by decide) (by decide) h0 (by rw [ar_182.2.2.2.1]; exact h1)).get (l := 183) (u := 183) (c := 1) (s := 0) (gr_182 (by decide) (by decide) i) rfl rfl rfl rfl
  omega
theorem r187_34 : Rw 187 34 35 1 6 0 0 0 := rw_of (by decide +kernel)
theorem r187_35 : Rw 187 35 38 3 102 266 2 98 := rw_of (by decide +kernel)
theorem arb_183 : (List.range 118).all (fun j => arb (183 + j) 102 5) = true := by decide +kernel
theorem arF_183 {a : Int} (h0 : 183 ≤ a) (h1 : a ≤ 300) : Ar a 102 5 := ar_of (by omega) (by decide) (by
  have h := List.all_eq_true.mp arb_183 (a.toNat - 183) (List.mem_range.mpr (by omega))
  rw [show 183 + (a.toNat - 183) = a.toNat by omega] at h
  exact h)
theorem baF_183 {M : Mm} (h : Pw M) {a i : Int} (ha : 183 ≤ a) (hb : a ≤ 300) (h0 : 0 ≤ i) (h1 : i < 5) : 0 ≤ M a i ∧ M a i ≤ 18446744073709551615 := (h a i (by omega) (by omega) h0 (by rw [(arF_183 ha hb).2.2.2.1]; exact h1)).get0 (gr_183 ha hb i) rfl rfl rfl rfl
theorem uaF_183 {a i z : Int} (ha : 183 ≤ a) (hb : a ≤ 300) (hz : 0 ≤ z ∧ z ≤ 18446744073709551615) : Bd a i z := Bd.of0 (gr_183 ha hb i) rfl rfl rfl rfl rfl hz
theorem r187_38 : Rw 187 38 41 3 22 3 (cd 1) 32769 := rw_of (by decide +kernel)
theorem r187_41 : Rw 187 41 44 3 60 22 0 0 := rw_of (by decide +kernel)
theorem r187_44 : Rw 187 44 45 1 14 0 0 0 := rw_of (by decide +kernel)
theorem r187_45 : Rw 187 45 48 3 80 5 3 9 := rw_of (by decide +kernel)
theorem fd_176_3 : Fdl 176 5 3 3 2 := fd_of (by decide) rfl (by decide +kernel)
theorem bf_176_3 {M : Mm} (h : Pw M) : 177 ≤ M 176 3 ∧ M 176 3 ≤ 177 := (h 176 3 (by decide) (by decide) (by decide) (by decide +kernel)).get0 g_176_3 rfl rfl rfl rfl
theorem br_176_3 {M : Mm} (h : Pw M) : M 176 3 = 177 := by have := bf_176_3 h; omega
theorem r187_48 : Rw 187 48 49 1 1 (cd 0) 1 0 := rw_of (by decide +kernel)
theorem r187_49 : Rw 187 49 52 3 102 265 2 104 := rw_of (by decide +kernel)
theorem ar_177 : Ar 177 100 7 := ar_of (by decide) (by decide) (by decide +kernel)
theorem ba_177 {M : Mm} (h : Pw M) {i : Int} (h0 : 0 ≤ i) (h1 : i < 7) : 0 ≤ M 177 i ∧ M 177 i ≤ 1 := (h 177 i (by decide) (by decide) h0 (by rw [ar_177.2.2.2.1]; exact h1)).get0 (gr_177 (by decide) (by decide) i) rfl rfl rfl rfl
theorem ga_177 (i : Int) : grp 177 i = 115 := gr_177 (by decide) (by decide) i
theorem ua_177 {i z : Int} (hz : 0 ≤ z ∧ z ≤ 1) : Bd 177 i z := Bd.of0 (gr_177 (by decide) (by decide) i) rfl rfl rfl rfl rfl hz
theorem r187_52 : Rw 187 52 53 1 77 0 0 0 := rw_of (by decide +kernel)
theorem arb_301 : (List.range 1).all (fun j => arb (301 + j) 102 5) = true := by decide +kernel
theorem arF_301 {a : Int} (h0 : 301 ≤ a) (h1 : a ≤ 301) : Ar a 102 5 := ar_of (by omega) (by decide) (by
  have h := List.all_eq_true.mp arb_301 (a.toNat - 301) (List.mem_range.mpr (by omega))
  rw [show 301 + (a.toNat - 301) = a.toNat by omega] at h
  exact h)
theorem b4_301 {M : Mm} (h : Pw M) {a i : Int} (ha : 301 ≤ a) (hb : a ≤ 301) (h0 : 0 ≤ i) (h1 : i < 5) : 0 ≤ M a i ∧ M a i ≤ 18446744073709551615 ∧ (i = 4 → M a i ≤ 17592186044415) := by
  have hx := h a i (by omega) (by omega) h0 (by rw [(arF_301 ha hb).2.2.2.1]; exact h1)
  by_cases e : i = 4
  · have := hx.get0 (k := 126) (l := 0) (u := 17592186044415) (by rw [gr_301 ha hb, if_pos e]) rfl rfl rfl rfl
    omega
  · have := hx.get0 (k := 125) (l := 0) (u := 18446744073709551615) (by rw [gr_301 ha hb, if_neg e]) rfl rfl rfl rfl
    omega
theorem u4_301 {a i z : Int} (ha : 301 ≤ a) (hb : a ≤ 301) (hz : 0 ≤ z ∧ z ≤ 18446744073709551615 ∧ (i = 4 → z ≤ 17592186044415)) : Bd a i z := by
  by_cases e : i = 4
  · exact Bd.of0 (k := 126) (l := 0) (u := 17592186044415) (by rw [gr_301 ha hb, if_pos e]) rfl rfl rfl rfl rfl ⟨hz.1, hz.2.2 e⟩
  · exact Bd.of0 (k := 125) (l := 0) (u := 18446744073709551615) (by rw [gr_301 ha hb, if_neg e]) rfl rfl rfl rfl rfl ⟨hz.1, hz.2.1⟩
theorem t4_301 {m : Nat} (h1 : Nat.testBit m 125 = true) (h2 : Nat.testBit m 126 = true) {a : Int} (ha : 301 ≤ a) (hb : a ≤ 301) (i : Int) : Nat.testBit m (grp a i) = true := by
  rw [gr_301 ha hb]
  by_cases e : i = 4
  · rw [if_pos e]
    exact h2
  · rw [if_neg e]
    exact h1
theorem kc_176_187 : Kc 176 187 := kc_of (by decide) (by decide +kernel)
theorem bf_176_9 {M : Mm} (h : Pw M) : 0 ≤ M 176 9 ∧ M 176 9 ≤ 300 := (h 176 9 (by decide) (by decide) (by decide) (by decide +kernel)).get0 g_176_9 rfl rfl rfl rfl
theorem r206_12 : Rw 206 12 13 1 14 1 0 0 := rw_of (by decide +kernel)
theorem r206_13 : Rw 206 13 16 3 80 5 3 9 := rw_of (by decide +kernel)
theorem fd_10_3 : Fdl 10 5 3 3 2 := fd_of (by decide) rfl (by decide +kernel)
theorem bf_10_3 {M : Mm} (h : Pw M) : 11 ≤ M 10 3 ∧ M 10 3 ≤ 11 := (h 10 3 (by decide) (by decide) (by decide) (by decide +kernel)).get0 g_10_3 rfl rfl rfl rfl
theorem br_10_3 {M : Mm} (h : Pw M) : M 10 3 = 11 := by have := bf_10_3 h; omega
theorem r206_16 : Rw 206 16 17 1 1 (cd 0) 1 0 := rw_of (by decide +kernel)
theorem r206_17 : Rw 206 17 18 1 14 0 0 0 := rw_of (by decide +kernel)
theorem r206_18 : Rw 206 18 21 3 80 5 3 9 := rw_of (by decide +kernel)
theorem r206_21 : Rw 206 21 22 1 1 (cd 0) 1 0 := rw_of (by decide +kernel)
theorem r206_22 : Rw 206 22 24 2 2 (cd 7) 135 0 := rw_of (by decide +kernel)
theorem r206_24 : Rw 206 24 27 3 109 0 0 85 := rw_of (by decide +kernel)
theorem ar_11 : Ar 11 100 7 := ar_of (by decide) (by decide) (by decide +kernel)
theorem ba_11 {M : Mm} (h : Pw M) {i : Int} (h0 : 0 ≤ i) (h1 : i < 7) : 0 ≤ M 11 i ∧ M 11 i ≤ 1 := (h 11 i (by decide) (by decide) h0 (by rw [ar_11.2.2.2.1]; exact h1)).get0 (gr_11 (by decide) (by decide) i) rfl rfl rfl rfl
theorem r206_27 : Rw 206 27 28 1 1 (cd 0) 1 0 := rw_of (by decide +kernel)
theorem r206_28 : Rw 206 28 30 2 17 4 0 0 := rw_of (by decide +kernel)
theorem r206_30 : Rw 206 30 32 2 11 4 0 0 := rw_of (by decide +kernel)
theorem r206_32 : Rw 206 32 33 1 14 1 0 0 := rw_of (by decide +kernel)
theorem r206_33 : Rw 206 33 36 3 80 5 9 36 := rw_of (by decide +kernel)
theorem fd_10_9 : Fdl 10 5 9 9 0 := fd_of (by decide) rfl (by decide +kernel)
theorem bf_10_9 {M : Mm} (h : Pw M) : 0 ≤ M 10 9 ∧ M 10 9 ≤ 3000 := (h 10 9 (by decide) (by decide) (by decide) (by decide +kernel)).get0 g_10_9 rfl rfl rfl rfl
theorem r206_36 : Rw 206 36 39 3 70 130 0 0 := rw_of (by decide +kernel)
theorem r206_130 : Rw 206 130 131 1 77 0 0 0 := rw_of (by decide +kernel)
theorem r206_39 : Rw 206 39 40 1 14 0 0 0 := rw_of (by decide +kernel)
theorem r206_40 : Rw 206 40 43 3 80 5 9 36 := rw_of (by decide +kernel)
theorem r206_43 : Rw 206 43 44 1 14 0 0 0 := rw_of (by decide +kernel)
theorem r206_44 : Rw 206 44 47 3 80 5 1 47 := rw_of (by decide +kernel)
theorem fd_176_1 : Fdl 176 5 1 1 2 := fd_of (by decide) rfl (by decide +kernel)
theorem bf_176_1 {M : Mm} (h : Pw M) : 302 ≤ M 176 1 ∧ M 176 1 ≤ 302 := (h 176 1 (by decide) (by decide) (by decide) (by decide +kernel)).get0 g_176_1 rfl rfl rfl rfl
theorem br_176_1 {M : Mm} (h : Pw M) : M 176 1 = 302 := by have := bf_176_1 h; omega
theorem r206_47 : Rw 206 47 48 1 92 0 0 0 := rw_of (by decide +kernel)
theorem ar_302 : Ar 302 100 300 := ar_of (by decide) (by decide) (by decide +kernel)
theorem ba_302 {M : Mm} (h : Pw M) {i : Int} (h0 : 0 ≤ i) (h1 : i < 300) : 0 ≤ M 302 i ∧ M 302 i ≤ 134217727 := (h 302 i (by decide) (by decide) h0 (by rw [ar_302.2.2.2.1]; exact h1)).get0 (gr_302 (by decide) (by decide) i) rfl rfl rfl rfl
theorem ga_302 (i : Int) : grp 302 i = 127 := gr_302 (by decide) (by decide) i
theorem r206_48 : Rw 206 48 51 3 70 130 0 0 := rw_of (by decide +kernel)
theorem r206_51 : Rw 206 51 52 1 14 2 0 0 := rw_of (by decide +kernel)
theorem r206_52 : Rw 206 52 54 2 11 4 0 0 := rw_of (by decide +kernel)
theorem r206_54 : Rw 206 54 57 3 102 191 2 91 := rw_of (by decide +kernel)
theorem r191_0 : Rw 191 0 1 1 14 0 0 0 := rw_of (by decide +kernel)
theorem r191_1 : Rw 191 1 2 1 10 1 0 0 := rw_of (by decide +kernel)
theorem r191_2 : Rw 191 2 4 2 2 (cd 6) 134 0 := rw_of (by decide +kernel)
theorem r191_4 : Rw 191 4 5 1 37 0 0 0 := rw_of (by decide +kernel)
theorem pwl_6 : pw 6 = 64 := by decide
theorem r191_5 : Rw 191 5 6 1 84 0 0 0 := rw_of (by decide +kernel)
theorem r191_6 : Rw 191 6 7 1 10 1 0 0 := rw_of (by decide +kernel)
theorem r191_7 : Rw 191 7 9 2 2 (cd 63) 191 0 := rw_of (by decide +kernel)
theorem r191_9 : Rw 191 9 10 1 33 0 0 0 := rw_of (by decide +kernel)
theorem r191_10 : Rw 191 10 11 1 47 0 0 0 := rw_of (by decide +kernel)
theorem r191_11 : Rw 191 11 12 1 6 1 0 0 := rw_of (by decide +kernel)
theorem r191_12 : Rw 191 12 13 1 43 0 0 0 := rw_of (by decide +kernel)
theorem r191_13 : Rw 191 13 14 1 6 1 0 0 := rw_of (by decide +kernel)
theorem r191_14 : Rw 191 14 15 1 51 0 0 0 := rw_of (by decide +kernel)
theorem r191_15 : Rw 191 15 18 3 62 22 0 0 := rw_of (by decide +kernel)
theorem r191_18 : Rw 191 18 19 1 1 (cd 1) 2 0 := rw_of (by decide +kernel)
theorem r191_19 : Rw 191 19 22 3 60 23 0 0 := rw_of (by decide +kernel)
theorem r191_23 : Rw 191 23 24 1 74 1 0 0 := rw_of (by decide +kernel)
theorem r191_22 : Rw 191 22 23 1 1 (cd 0) 1 0 := rw_of (by decide +kernel)
theorem r206_57 : Rw 206 57 60 3 61 124 0 0 := rw_of (by decide +kernel)
theorem r206_124 : Rw 206 124 127 3 22 4 (cd 1) 32769 := rw_of (by decide +kernel)
theorem r206_127 : Rw 206 127 130 3 60 30 0 0 := rw_of (by decide +kernel)
theorem r206_60 : Rw 206 60 61 1 1 (cd 0) 1 0 := rw_of (by decide +kernel)
theorem r206_61 : Rw 206 61 63 2 17 5 0 0 := rw_of (by decide +kernel)
theorem r206_63 : Rw 206 63 65 2 11 5 0 0 := rw_of (by decide +kernel)
theorem r206_65 : Rw 206 65 66 1 10 3 0 0 := rw_of (by decide +kernel)
theorem r206_66 : Rw 206 66 69 3 70 106 0 0 := rw_of (by decide +kernel)
theorem r206_106 : Rw 206 106 107 1 14 0 0 0 := rw_of (by decide +kernel)
theorem r206_107 : Rw 206 107 108 1 14 1 0 0 := rw_of (by decide +kernel)
theorem r206_108 : Rw 206 108 111 3 80 5 1 47 := rw_of (by decide +kernel)
theorem fd_10_1 : Fdl 10 5 1 1 2 := fd_of (by decide) rfl (by decide +kernel)
theorem bf_10_1 {M : Mm} (h : Pw M) : 136 ≤ M 10 1 ∧ M 10 1 ≤ 136 := (h 10 1 (by decide) (by decide) (by decide) (by decide +kernel)).get0 g_10_1 rfl rfl rfl rfl
theorem br_10_1 {M : Mm} (h : Pw M) : M 10 1 = 136 := by have := bf_10_1 h; omega
theorem r206_111 : Rw 206 111 113 2 11 4 0 0 := rw_of (by decide +kernel)
theorem r206_113 : Rw 206 113 114 1 83 0 0 0 := rw_of (by decide +kernel)
theorem ar_136 : Ar 136 100 3000 := ar_of (by decide) (by decide) (by decide +kernel)
theorem ba_136 {M : Mm} (h : Pw M) {i : Int} (h0 : 0 ≤ i) (h1 : i < 3000) : 0 ≤ M 136 i ∧ M 136 i ≤ 134217727 := (h 136 i (by decide) (by decide) h0 (by rw [ar_136.2.2.2.1]; exact h1)).get0 (gr_136 (by decide) (by decide) i) rfl rfl rfl rfl
theorem r206_114 : Rw 206 114 115 1 14 1 0 0 := rw_of (by decide +kernel)
theorem r206_115 : Rw 206 115 118 3 80 5 2 50 := rw_of (by decide +kernel)
theorem fd_10_2 : Fdl 10 5 2 2 2 := fd_of (by decide) rfl (by decide +kernel)
theorem bf_10_2 {M : Mm} (h : Pw M) : 137 ≤ M 10 2 ∧ M 10 2 ≤ 137 := (h 10 2 (by decide) (by decide) (by decide) (by decide +kernel)).get0 g_10_2 rfl rfl rfl rfl
theorem br_10_2 {M : Mm} (h : Pw M) : M 10 2 = 137 := by have := bf_10_2 h; omega
theorem r206_118 : Rw 206 118 120 2 11 4 0 0 := rw_of (by decide +kernel)
theorem r206_120 : Rw 206 120 121 1 83 0 0 0 := rw_of (by decide +kernel)
theorem ar_137 : Ar 137 100 3000 := ar_of (by decide) (by decide) (by decide +kernel)
theorem ba_137 {M : Mm} (h : Pw M) {i : Int} (h0 : 0 ≤ i) (h1 : i < 3000) : 0 ≤ M 137 i ∧ M 137 i ≤ 2999 := (h 137 i (by decide) (by decide) h0 (by rw [ar_137.2.2.2.1]; exact h1)).get0 (gr_137 (by decide) (by decide) i) rfl rfl rfl rfl
theorem r206_121 : Rw 206 121 124 3 100 202 3 79 := rw_of (by decide +kernel)
theorem r202_0 : Rw 202 0 1 1 14 0 0 0 := rw_of (by decide +kernel)
theorem r202_1 : Rw 202 1 4 3 80 5 9 36 := rw_of (by decide +kernel)
theorem r202_4 : Rw 202 4 5 1 16 3 0 0 := rw_of (by decide +kernel)
theorem r202_5 : Rw 202 5 6 1 14 0 0 0 := rw_of (by decide +kernel)
theorem r202_6 : Rw 202 6 9 3 80 5 1 47 := rw_of (by decide +kernel)
theorem r202_9 : Rw 202 9 10 1 10 3 0 0 := rw_of (by decide +kernel)
theorem r202_10 : Rw 202 10 11 1 10 1 0 0 := rw_of (by decide +kernel)
theorem r202_11 : Rw 202 11 12 1 88 0 0 0 := rw_of (by decide +kernel)
theorem ua_302 {i z : Int} (hz : 0 ≤ z ∧ z ≤ 134217727) : Bd 302 i z := Bd.of0 (gr_302 (by decide) (by decide) i) rfl rfl rfl rfl rfl hz
theorem r202_12 : Rw 202 12 13 1 14 0 0 0 := rw_of (by decide +kernel)
theorem r202_13 : Rw 202 13 16 3 80 5 2 50 := rw_of (by decide +kernel)
theorem fd_176_2 : Fdl 176 5 2 2 2 := fd_of (by decide) rfl (by decide +kernel)
theorem bf_176_2 {M : Mm} (h : Pw M) : 303 ≤ M 176 2 ∧ M 176 2 ≤ 303 := (h 176 2 (by decide) (by decide) (by decide) (by decide +kernel)).get0 g_176_2 rfl rfl rfl rfl
theorem br_176_2 {M : Mm} (h : Pw M) : M 176 2 = 303 := by have := bf_176_2 h; omega
theorem r202_16 : Rw 202 16 17 1 10 3 0 0 := rw_of (by decide +kernel)
theorem r202_17 : Rw 202 17 18 1 10 2 0 0 := rw_of (by decide +kernel)
theorem r202_18 : Rw 202 18 19 1 88 0 0 0 := rw_of (by decide +kernel)
theorem ar_303 : Ar 303 100 300 := ar_of (by decide) (by decide) (by decide +kernel)
theorem ba_303 {M : Mm} (h : Pw M) {i : Int} (h0 : 0 ≤ i) (h1 : i < 300) : 0 ≤ M 303 i ∧ M 303 i ≤ 2999 := (h 303 i (by decide) (by decide) h0 (by rw [ar_303.2.2.2.1]; exact h1)).get0 (gr_303 (by decide) (by decide) i) rfl rfl rfl rfl
theorem ga_303 (i : Int) : grp 303 i = 128 := gr_303 (by decide) (by decide) i
theorem ua_303 {i z : Int} (hz : 0 ≤ z ∧ z ≤ 2999) : Bd 303 i z := Bd.of0 (gr_303 (by decide) (by decide) i) rfl rfl rfl rfl rfl hz
theorem r202_19 : Rw 202 19 20 1 14 0 0 0 := rw_of (by decide +kernel)
theorem r202_20 : Rw 202 20 21 1 52 0 0 0 := rw_of (by decide +kernel)
theorem r202_21 : Rw 202 21 24 3 80 5 9 36 := rw_of (by decide +kernel)
theorem r202_24 : Rw 202 24 25 1 1 (cd 1) 2 0 := rw_of (by decide +kernel)
theorem r202_25 : Rw 202 25 26 1 30 0 0 0 := rw_of (by decide +kernel)
theorem r202_26 : Rw 202 26 29 3 81 5 9 0 := rw_of (by decide +kernel)
theorem r202_29 : Rw 202 29 30 1 14 0 0 0 := rw_of (by decide +kernel)
theorem r202_30 : Rw 202 30 31 1 14 0 0 0 := rw_of (by decide +kernel)
theorem r202_31 : Rw 202 31 34 3 80 5 9 36 := rw_of (by decide +kernel)
theorem r202_34 : Rw 202 34 36 2 2 (cd 63) 191 0 := rw_of (by decide +kernel)
theorem r202_36 : Rw 202 36 37 1 30 0 0 0 := rw_of (by decide +kernel)
theorem r202_37 : Rw 202 37 39 2 2 (cd 6) 134 0 := rw_of (by decide +kernel)
theorem r202_39 : Rw 202 39 40 1 37 0 0 0 := rw_of (by decide +kernel)
theorem r202_40 : Rw 202 40 43 3 81 5 10 0 := rw_of (by decide +kernel)
theorem r202_43 : Rw 202 43 44 1 14 0 0 0 := rw_of (by decide +kernel)
theorem r202_44 : Rw 202 44 47 3 80 5 5 19 := rw_of (by decide +kernel)
theorem fd_176_5 : Fdl 176 5 5 5 2 := fd_of (by decide) rfl (by decide +kernel)
theorem bf_176_5 {M : Mm} (h : Pw M) : 179 ≤ M 176 5 ∧ M 176 5 ≤ 179 := (h 176 5 (by decide) (by decide) (by decide) (by decide +kernel)).get0 g_176_5 rfl rfl rfl rfl
theorem br_176_5 {M : Mm} (h : Pw M) : M 176 5 = 179 := by have := bf_176_5 h; omega
theorem r202_47 : Rw 202 47 48 1 1 (cd 0) 1 0 := rw_of (by decide +kernel)
theorem r202_48 : Rw 202 48 51 3 102 265 2 104 := rw_of (by decide +kernel)
theorem ar_179 : Ar 179 100 5 := ar_of (by decide) (by decide) (by decide +kernel)
theorem ba_179 {M : Mm} (h : Pw M) {i : Int} (h0 : 0 ≤ i) (h1 : i < 5) : 0 ≤ M 179 i ∧ M 179 i ≤ 7 := (h 179 i (by decide) (by decide) h0 (by rw [ar_179.2.2.2.1]; exact h1)).get0 (gr_179 (by decide) (by decide) i) rfl rfl rfl rfl
theorem ga_179 (i : Int) : grp 179 i = 117 := gr_179 (by decide) (by decide) i
theorem ua_179 {i z : Int} (hz : 0 ≤ z ∧ z ≤ 7) : Bd 179 i z := Bd.of0 (gr_179 (by decide) (by decide) i) rfl rfl rfl rfl rfl hz
theorem r202_51 : Rw 202 51 52 1 1 (cd 0) 1 0 := rw_of (by decide +kernel)
theorem r202_52 : Rw 202 52 54 2 17 4 0 0 := rw_of (by decide +kernel)
theorem r202_54 : Rw 202 54 56 2 11 4 0 0 := rw_of (by decide +kernel)
theorem r202_56 : Rw 202 56 57 1 14 0 0 0 := rw_of (by decide +kernel)
theorem r202_57 : Rw 202 57 60 3 80 5 7 29 := rw_of (by decide +kernel)
theorem bf_176_7 {M : Mm} (h : Pw M) : (-1) ≤ M 176 7 ∧ M 176 7 ≤ 7 := (h 176 7 (by decide) (by decide) (by decide) (by decide +kernel)).get0 g_176_7 rfl rfl rfl rfl
theorem r202_60 : Rw 202 60 63 3 70 76 0 0 := rw_of (by decide +kernel)
theorem r202_76 : Rw 202 76 77 1 1 (cd 0) 1 0 := rw_of (by decide +kernel)
theorem r202_77 : Rw 202 77 79 2 17 4 0 0 := rw_of (by decide +kernel)
theorem r202_79 : Rw 202 79 81 2 11 4 0 0 := rw_of (by decide +kernel)
theorem r202_81 : Rw 202 81 82 1 1 (cd 5) 6 0 := rw_of (by decide +kernel)
theorem r202_82 : Rw 202 82 85 3 70 112 0 0 := rw_of (by decide +kernel)
theorem r202_85 : Rw 202 85 86 1 14 0 0 0 := rw_of (by decide +kernel)
theorem r202_86 : Rw 202 86 88 2 2 (cd 48) 176 0 := rw_of (by decide +kernel)
theorem r202_88 : Rw 202 88 90 2 11 4 0 0 := rw_of (by decide +kernel)
theorem r202_90 : Rw 202 90 92 2 2 (cd 8) 136 0 := rw_of (by decide +kernel)
theorem r202_92 : Rw 202 92 93 1 32 0 0 0 := rw_of (by decide +kernel)
theorem r202_93 : Rw 202 93 94 1 30 0 0 0 := rw_of (by decide +kernel)
theorem r202_94 : Rw 202 94 95 1 14 0 0 0 := rw_of (by decide +kernel)
theorem r202_95 : Rw 202 95 98 3 80 5 5 19 := rw_of (by decide +kernel)
theorem r202_98 : Rw 202 98 100 2 11 4 0 0 := rw_of (by decide +kernel)
theorem r202_100 : Rw 202 100 101 1 83 0 0 0 := rw_of (by decide +kernel)
theorem r202_101 : Rw 202 101 102 1 30 0 0 0 := rw_of (by decide +kernel)
theorem r202_102 : Rw 202 102 103 1 10 3 0 0 := rw_of (by decide +kernel)
theorem r202_103 : Rw 202 103 106 3 100 204 3 95 := rw_of (by decide +kernel)
theorem r204_0 : Rw 204 0 1 1 14 0 0 0 := rw_of (by decide +kernel)
theorem r204_1 : Rw 204 1 4 3 80 5 0 44 := rw_of (by decide +kernel)
theorem r204_4 : Rw 204 4 5 1 10 1 0 0 := rw_of (by decide +kernel)
theorem r204_5 : Rw 204 5 6 1 87 0 0 0 := rw_of (by decide +kernel)
theorem r204_6 : Rw 204 6 7 1 10 2 0 0 := rw_of (by decide +kernel)
theorem r204_7 : Rw 204 7 9 2 2 (cd 6) 134 0 := rw_of (by decide +kernel)
theorem r204_9 : Rw 204 9 10 1 37 0 0 0 := rw_of (by decide +kernel)
theorem r204_10 : Rw 204 10 11 1 54 0 0 0 := rw_of (by decide +kernel)
theorem r204_11 : Rw 204 11 12 1 84 0 0 0 := rw_of (by decide +kernel)
theorem r204_12 : Rw 204 12 13 1 6 1 0 0 := rw_of (by decide +kernel)
theorem r204_13 : Rw 204 13 14 1 10 2 0 0 := rw_of (by decide +kernel)
theorem r204_14 : Rw 204 14 16 2 2 (cd 63) 191 0 := rw_of (by decide +kernel)
theorem r204_16 : Rw 204 16 17 1 33 0 0 0 := rw_of (by decide +kernel)
theorem r204_17 : Rw 204 17 18 1 46 0 0 0 := rw_of (by decide +kernel)
theorem r204_18 : Rw 204 18 19 1 44 0 0 0 := rw_of (by decide +kernel)
theorem r204_19 : Rw 204 19 20 1 89 0 0 0 := rw_of (by decide +kernel)
theorem r204_20 : Rw 204 20 21 1 77 0 0 0 := rw_of (by decide +kernel)
theorem kc_176_204 : Kc 176 204 := kc_of (by decide) (by decide +kernel)
theorem r202_106 : Rw 202 106 109 3 22 4 (cd 1) 32769 := rw_of (by decide +kernel)
theorem r202_109 : Rw 202 109 112 3 60 79 0 0 := rw_of (by decide +kernel)
theorem r202_112 : Rw 202 112 113 1 14 0 0 0 := rw_of (by decide +kernel)
theorem r202_113 : Rw 202 113 115 2 2 (cd 35) 163 0 := rw_of (by decide +kernel)
theorem r202_115 : Rw 202 115 116 1 14 0 0 0 := rw_of (by decide +kernel)
theorem r202_116 : Rw 202 116 117 1 10 3 0 0 := rw_of (by decide +kernel)
theorem r202_117 : Rw 202 117 118 1 1 (cd 1) 2 0 := rw_of (by decide +kernel)
theorem r202_118 : Rw 202 118 121 3 100 186 3 110 := rw_of (by decide +kernel)
theorem r186_0 : Rw 186 0 1 1 10 2 0 0 := rw_of (by decide +kernel)
theorem r186_1 : Rw 186 1 4 3 73 8 0 0 := rw_of (by decide +kernel)
theorem r186_28 : Rw 186 28 29 1 14 0 0 0 := rw_of (by decide +kernel)
theorem r186_29 : Rw 186 29 32 3 80 5 1 47 := rw_of (by decide +kernel)
theorem r186_32 : Rw 186 32 33 1 10 1 0 0 := rw_of (by decide +kernel)
theorem r186_33 : Rw 186 33 34 1 83 0 0 0 := rw_of (by decide +kernel)
theorem r186_34 : Rw 186 34 36 2 2 (cd 21) 149 0 := rw_of (by decide +kernel)
theorem r186_36 : Rw 186 36 37 1 37 0 0 0 := rw_of (by decide +kernel)
theorem pwl_21 : pw 21 = 2097152 := by decide
theorem r186_37 : Rw 186 37 38 1 1 (cd 3) 4 0 := rw_of (by decide +kernel)
theorem r186_38 : Rw 186 38 39 1 33 0 0 0 := rw_of (by decide +kernel)
theorem r186_39 : Rw 186 39 40 1 74 0 0 0 := rw_of (by decide +kernel)
theorem kc_176_186 : Kc 176 186 := kc_of (by decide) (by decide +kernel)
theorem r202_121 : Rw 202 121 122 1 30 0 0 0 := rw_of (by decide +kernel)
theorem r202_122 : Rw 202 122 123 1 10 3 0 0 := rw_of (by decide +kernel)
theorem r202_123 : Rw 202 123 126 3 100 204 3 95 := rw_of (by decide +kernel)
theorem r202_126 : Rw 202 126 127 1 14 0 0 0 := rw_of (by decide +kernel)
theorem r202_127 : Rw 202 127 129 2 2 (cd 39) 167 0 := rw_of (by decide +kernel)
theorem r202_129 : Rw 202 129 130 1 14 0 0 0 := rw_of (by decide +kernel)
theorem r202_130 : Rw 202 130 131 1 10 3 0 0 := rw_of (by decide +kernel)
theorem r202_131 : Rw 202 131 132 1 1 (cd 2) 3 0 := rw_of (by decide +kernel)
theorem r202_132 : Rw 202 132 135 3 100 186 3 110 := rw_of (by decide +kernel)
theorem r186_40 : Rw 186 40 41 1 14 0 0 0 := rw_of (by decide +kernel)
theorem r186_41 : Rw 186 41 44 3 80 5 1 47 := rw_of (by decide +kernel)
theorem r186_44 : Rw 186 44 45 1 10 1 0 0 := rw_of (by decide +kernel)
theorem r186_45 : Rw 186 45 46 1 83 0 0 0 := rw_of (by decide +kernel)
theorem r186_46 : Rw 186 46 48 2 2 (cd 23) 151 0 := rw_of (by decide +kernel)
theorem r186_48 : Rw 186 48 49 1 37 0 0 0 := rw_of (by decide +kernel)
theorem pwl_23 : pw 23 = 8388608 := by decide
theorem r186_49 : Rw 186 49 51 2 2 (cd 7) 135 0 := rw_of (by decide +kernel)
theorem r186_51 : Rw 186 51 52 1 33 0 0 0 := rw_of (by decide +kernel)
theorem r186_52 : Rw 186 52 53 1 74 0 0 0 := rw_of (by decide +kernel)
theorem r202_135 : Rw 202 135 136 1 30 0 0 0 := rw_of (by decide +kernel)
theorem r202_136 : Rw 202 136 137 1 10 3 0 0 := rw_of (by decide +kernel)
theorem r202_137 : Rw 202 137 140 3 100 204 3 95 := rw_of (by decide +kernel)
theorem r202_140 : Rw 202 140 141 1 14 0 0 0 := rw_of (by decide +kernel)
theorem r202_141 : Rw 202 141 143 2 2 (cd 46) 174 0 := rw_of (by decide +kernel)
theorem r202_143 : Rw 202 143 144 1 14 0 0 0 := rw_of (by decide +kernel)
theorem r202_144 : Rw 202 144 145 1 10 3 0 0 := rw_of (by decide +kernel)
theorem r202_145 : Rw 202 145 146 1 1 (cd 3) 4 0 := rw_of (by decide +kernel)
theorem r202_146 : Rw 202 146 149 3 100 186 3 110 := rw_of (by decide +kernel)
theorem r186_53 : Rw 186 53 54 1 14 0 0 0 := rw_of (by decide +kernel)
theorem r186_54 : Rw 186 54 57 3 80 5 1 47 := rw_of (by decide +kernel)
theorem r186_57 : Rw 186 57 58 1 10 1 0 0 := rw_of (by decide +kernel)
theorem r186_58 : Rw 186 58 59 1 83 0 0 0 := rw_of (by decide +kernel)
theorem r186_59 : Rw 186 59 61 2 2 (cd 26) 154 0 := rw_of (by decide +kernel)
theorem r186_61 : Rw 186 61 62 1 37 0 0 0 := rw_of (by decide +kernel)
theorem pwl_26 : pw 26 = 67108864 := by decide
theorem r186_62 : Rw 186 62 63 1 1 (cd 1) 2 0 := rw_of (by decide +kernel)
theorem r186_63 : Rw 186 63 64 1 33 0 0 0 := rw_of (by decide +kernel)
theorem r186_64 : Rw 186 64 65 1 74 0 0 0 := rw_of (by decide +kernel)
theorem r202_149 : Rw 202 149 150 1 30 0 0 0 := rw_of (by decide +kernel)
theorem r202_150 : Rw 202 150 151 1 10 3 0 0 := rw_of (by decide +kernel)
theorem r202_151 : Rw 202 151 154 3 100 204 3 95 := rw_of (by decide +kernel)
theorem r202_154 : Rw 202 154 155 1 14 0 0 0 := rw_of (by decide +kernel)
theorem r202_155 : Rw 202 155 157 2 2 (cd 118) 246 0 := rw_of (by decide +kernel)
theorem r202_157 : Rw 202 157 158 1 10 3 0 0 := rw_of (by decide +kernel)
theorem r202_158 : Rw 202 158 161 3 100 204 3 95 := rw_of (by decide +kernel)
theorem r202_161 : Rw 202 161 162 1 77 0 0 0 := rw_of (by decide +kernel)
theorem r202_63 : Rw 202 63 64 1 14 0 0 0 := rw_of (by decide +kernel)
theorem r202_64 : Rw 202 64 65 1 10 3 0 0 := rw_of (by decide +kernel)
theorem r202_65 : Rw 202 65 67 2 11 4 0 0 := rw_of (by decide +kernel)
theorem r202_67 : Rw 202 67 70 3 100 203 3 107 := rw_of (by decide +kernel)
theorem r203_0 : Rw 203 0 1 1 14 0 0 0 := rw_of (by decide +kernel)
theorem r203_1 : Rw 203 1 2 1 10 1 0 0 := rw_of (by decide +kernel)
theorem r203_2 : Rw 203 2 3 1 10 2 0 0 := rw_of (by decide +kernel)
theorem r203_3 : Rw 203 3 6 3 100 197 3 113 := rw_of (by decide +kernel)
theorem r197_0 : Rw 197 0 1 1 14 0 0 0 := rw_of (by decide +kernel)
theorem r197_1 : Rw 197 1 2 1 10 1 0 0 := rw_of (by decide +kernel)
theorem r197_2 : Rw 197 2 3 1 10 2 0 0 := rw_of (by decide +kernel)
theorem r197_3 : Rw 197 3 6 3 100 188 3 120 := rw_of (by decide +kernel)
theorem r188_0 : Rw 188 0 1 1 14 0 0 0 := rw_of (by decide +kernel)
theorem r188_1 : Rw 188 1 4 3 80 5 1 47 := rw_of (by decide +kernel)
theorem r188_4 : Rw 188 4 5 1 10 1 0 0 := rw_of (by decide +kernel)
theorem r188_5 : Rw 188 5 6 1 83 0 0 0 := rw_of (by decide +kernel)
theorem r188_6 : Rw 188 6 7 1 1 (cd 3) 4 0 := rw_of (by decide +kernel)
theorem r188_7 : Rw 188 7 8 1 10 2 0 0 := rw_of (by decide +kernel)
theorem r188_8 : Rw 188 8 9 1 32 0 0 0 := rw_of (by decide +kernel)
theorem r188_9 : Rw 188 9 10 1 37 0 0 0 := rw_of (by decide +kernel)
theorem r188_10 : Rw 188 10 12 2 2 (cd 7) 135 0 := rw_of (by decide +kernel)
theorem r188_12 : Rw 188 12 13 1 33 0 0 0 := rw_of (by decide +kernel)
theorem r188_13 : Rw 188 13 14 1 74 0 0 0 := rw_of (by decide +kernel)
theorem kc_176_188 : Kc 176 188 := kc_of (by decide) (by decide +kernel)
theorem r197_6 : Rw 197 6 7 1 16 3 0 0 := rw_of (by decide +kernel)
theorem r197_7 : Rw 197 7 8 1 10 3 0 0 := rw_of (by decide +kernel)
theorem r197_8 : Rw 197 8 10 2 2 (cd 6) 134 0 := rw_of (by decide +kernel)
theorem r197_10 : Rw 197 10 13 3 70 21 0 0 := rw_of (by decide +kernel)
theorem r197_21 : Rw 197 21 22 1 1 (cd 4) 5 0 := rw_of (by decide +kernel)
theorem r197_22 : Rw 197 22 23 1 74 0 0 0 := rw_of (by decide +kernel)
theorem r197_13 : Rw 197 13 16 3 9 0 0 123 := rw_of (by decide +kernel)
theorem r197_16 : Rw 197 16 17 1 10 3 0 0 := rw_of (by decide +kernel)
theorem r197_17 : Rw 197 17 18 1 23 0 0 0 := rw_of (by decide +kernel)
theorem r197_18 : Rw 197 18 21 3 60 22 0 0 := rw_of (by decide +kernel)
theorem kc_176_197 : Kc 176 197 := kc_of (by decide) (by decide +kernel)
theorem r203_6 : Rw 203 6 7 1 16 3 0 0 := rw_of (by decide +kernel)
theorem r203_7 : Rw 203 7 8 1 14 0 0 0 := rw_of (by decide +kernel)
theorem r203_8 : Rw 203 8 11 3 80 5 5 19 := rw_of (by decide +kernel)
theorem r203_11 : Rw 203 11 12 1 10 3 0 0 := rw_of (by decide +kernel)
theorem r203_12 : Rw 203 12 13 1 54 0 0 0 := rw_of (by decide +kernel)
theorem r203_13 : Rw 203 13 14 1 83 0 0 0 := rw_of (by decide +kernel)
theorem r203_14 : Rw 203 14 15 1 1 (cd 1) 2 0 := rw_of (by decide +kernel)
theorem r203_15 : Rw 203 15 16 1 30 0 0 0 := rw_of (by decide +kernel)
theorem r203_16 : Rw 203 16 17 1 88 0 0 0 := rw_of (by decide +kernel)
theorem r203_17 : Rw 203 17 18 1 14 0 0 0 := rw_of (by decide +kernel)
theorem r203_18 : Rw 203 18 19 1 1 (cd 0) 1 0 := rw_of (by decide +kernel)
theorem r203_19 : Rw 203 19 20 1 10 2 0 0 := rw_of (by decide +kernel)
theorem r203_20 : Rw 203 20 21 1 1 (cd 5) 6 0 := rw_of (by decide +kernel)
theorem r203_21 : Rw 203 21 22 1 32 0 0 0 := rw_of (by decide +kernel)
theorem r203_22 : Rw 203 22 23 1 30 0 0 0 := rw_of (by decide +kernel)
theorem r203_23 : Rw 203 23 24 1 10 3 0 0 := rw_of (by decide +kernel)
theorem r203_24 : Rw 203 24 25 1 30 0 0 0 := rw_of (by decide +kernel)
theorem r203_25 : Rw 203 25 26 1 10 1 0 0 := rw_of (by decide +kernel)
theorem r203_26 : Rw 203 26 29 3 100 204 3 95 := rw_of (by decide +kernel)
theorem r203_29 : Rw 203 29 30 1 1 (cd 0) 1 0 := rw_of (by decide +kernel)
theorem r203_30 : Rw 203 30 32 2 17 4 0 0 := rw_of (by decide +kernel)
theorem r203_32 : Rw 203 32 34 2 11 4 0 0 := rw_of (by decide +kernel)
theorem r203_34 : Rw 203 34 35 1 1 (cd 2) 3 0 := rw_of (by decide +kernel)
theorem r203_35 : Rw 203 35 38 3 70 69 0 0 := rw_of (by decide +kernel)
theorem r203_38 : Rw 203 38 39 1 14 0 0 0 := rw_of (by decide +kernel)
theorem r203_39 : Rw 203 39 40 1 10 1 0 0 := rw_of (by decide +kernel)
theorem r203_40 : Rw 203 40 41 1 10 2 0 0 := rw_of (by decide +kernel)
theorem r203_41 : Rw 203 41 43 2 11 4 0 0 := rw_of (by decide +kernel)
theorem r203_43 : Rw 203 43 46 3 100 192 4 116 := rw_of (by decide +kernel)
theorem r192_0 : Rw 192 0 1 1 14 0 0 0 := rw_of (by decide +kernel)
theorem r192_1 : Rw 192 1 2 1 10 1 0 0 := rw_of (by decide +kernel)
theorem r192_2 : Rw 192 2 3 1 10 2 0 0 := rw_of (by decide +kernel)
theorem r192_3 : Rw 192 3 6 3 100 197 3 113 := rw_of (by decide +kernel)
theorem r192_6 : Rw 192 6 9 3 73 9 0 0 := rw_of (by decide +kernel)
theorem r192_94 : Rw 192 94 95 1 1 (cd 0) 1 0 := rw_of (by decide +kernel)
theorem r192_95 : Rw 192 95 96 1 74 1 0 0 := rw_of (by decide +kernel)
theorem r192_36 : Rw 192 36 37 1 1 (cd 1) 2 0 := rw_of (by decide +kernel)
theorem r192_37 : Rw 192 37 38 1 74 1 0 0 := rw_of (by decide +kernel)
theorem r192_38 : Rw 192 38 39 1 14 0 0 0 := rw_of (by decide +kernel)
theorem r192_39 : Rw 192 39 40 1 10 1 0 0 := rw_of (by decide +kernel)
theorem r192_40 : Rw 192 40 41 1 10 2 0 0 := rw_of (by decide +kernel)
theorem r192_41 : Rw 192 41 44 3 100 188 3 120 := rw_of (by decide +kernel)
theorem r192_44 : Rw 192 44 45 1 1 (cd 3) 4 0 := rw_of (by decide +kernel)
theorem r192_45 : Rw 192 45 48 3 68 52 0 0 := rw_of (by decide +kernel)
theorem r192_52 : Rw 192 52 53 1 1 (cd 0) 1 0 := rw_of (by decide +kernel)
theorem r192_53 : Rw 192 53 54 1 10 3 0 0 := rw_of (by decide +kernel)
theorem r192_54 : Rw 192 54 55 1 1 (cd 1) 2 0 := rw_of (by decide +kernel)
theorem r192_55 : Rw 192 55 58 3 68 62 0 0 := rw_of (by decide +kernel)
theorem r192_62 : Rw 192 62 63 1 1 (cd 0) 1 0 := rw_of (by decide +kernel)
theorem r192_63 : Rw 192 63 66 3 68 70 0 0 := rw_of (by decide +kernel)
theorem r192_66 : Rw 192 66 67 1 1 (cd 1) 2 0 := rw_of (by decide +kernel)
theorem r192_67 : Rw 192 67 70 3 60 71 0 0 := rw_of (by decide +kernel)
theorem r192_71 : Rw 192 71 72 1 74 1 0 0 := rw_of (by decide +kernel)
theorem r192_48 : Rw 192 48 49 1 1 (cd 1) 2 0 := rw_of (by decide +kernel)
theorem r192_49 : Rw 192 49 52 3 60 53 0 0 := rw_of (by decide +kernel)
theorem r192_70 : Rw 192 70 71 1 1 (cd 0) 1 0 := rw_of (by decide +kernel)
theorem r192_72 : Rw 192 72 73 1 14 0 0 0 := rw_of (by decide +kernel)
theorem r192_73 : Rw 192 73 76 3 80 5 8 33 := rw_of (by decide +kernel)
theorem bf_176_8 {M : Mm} (h : Pw M) : 0 ≤ M 176 8 ∧ M 176 8 ≤ 127 := (h 176 8 (by decide) (by decide) (by decide) (by decide +kernel)).get0 g_176_8 rfl rfl rfl rfl
theorem r192_76 : Rw 192 76 77 1 14 0 0 0 := rw_of (by decide +kernel)
theorem r192_77 : Rw 192 77 78 1 10 1 0 0 := rw_of (by decide +kernel)
theorem r192_78 : Rw 192 78 79 1 1 (cd 2) 3 0 := rw_of (by decide +kernel)
theorem r192_79 : Rw 192 79 82 3 100 186 3 110 := rw_of (by decide +kernel)
theorem r192_82 : Rw 192 82 83 1 37 0 0 0 := rw_of (by decide +kernel)
theorem r192_83 : Rw 192 83 84 1 1 (cd 1) 2 0 := rw_of (by decide +kernel)
theorem r192_84 : Rw 192 84 85 1 33 0 0 0 := rw_of (by decide +kernel)
theorem r192_85 : Rw 192 85 88 3 62 92 0 0 := rw_of (by decide +kernel)
theorem r192_92 : Rw 192 92 93 1 1 (cd 0) 1 0 := rw_of (by decide +kernel)
theorem r192_93 : Rw 192 93 94 1 74 1 0 0 := rw_of (by decide +kernel)
theorem r192_88 : Rw 192 88 89 1 1 (cd 1) 2 0 := rw_of (by decide +kernel)
theorem r192_89 : Rw 192 89 92 3 60 93 0 0 := rw_of (by decide +kernel)
theorem kc_176_192 : Kc 176 192 := kc_of (by decide) (by decide +kernel)
theorem r203_46 : Rw 203 46 49 3 61 63 0 0 := rw_of (by decide +kernel)
theorem r203_63 : Rw 203 63 66 3 22 4 (cd 1) 32769 := rw_of (by decide +kernel)
theorem r203_66 : Rw 203 66 69 3 60 32 0 0 := rw_of (by decide +kernel)
theorem r203_49 : Rw 203 49 50 1 14 0 0 0 := rw_of (by decide +kernel)
theorem r203_50 : Rw 203 50 52 2 2 (cd 88) 216 0 := rw_of (by decide +kernel)
theorem r203_52 : Rw 203 52 53 1 1 (cd 2) 3 0 := rw_of (by decide +kernel)
theorem r203_53 : Rw 203 53 54 1 10 2 0 0 := rw_of (by decide +kernel)
theorem r203_54 : Rw 203 54 55 1 32 0 0 0 := rw_of (by decide +kernel)
theorem r203_55 : Rw 203 55 56 1 30 0 0 0 := rw_of (by decide +kernel)
theorem r203_56 : Rw 203 56 58 2 11 4 0 0 := rw_of (by decide +kernel)
theorem r203_58 : Rw 203 58 59 1 30 0 0 0 := rw_of (by decide +kernel)
theorem r203_59 : Rw 203 59 60 1 10 1 0 0 := rw_of (by decide +kernel)
theorem r203_60 : Rw 203 60 63 3 100 204 3 95 := rw_of (by decide +kernel)
theorem r192_58 : Rw 192 58 59 1 1 (cd 1) 2 0 := rw_of (by decide +kernel)
theorem r192_59 : Rw 192 59 62 3 60 63 0 0 := rw_of (by decide +kernel)
theorem r203_69 : Rw 203 69 70 1 77 0 0 0 := rw_of (by decide +kernel)
theorem kc_176_203 : Kc 176 203 := kc_of (by decide) (by decide +kernel)
theorem r202_70 : Rw 202 70 73 3 22 4 (cd 1) 32769 := rw_of (by decide +kernel)
theorem r202_73 : Rw 202 73 76 3 60 54 0 0 := rw_of (by decide +kernel)
theorem kc_176_202 : Kc 176 202 := kc_of (by decide) (by decide +kernel)
theorem r206_69 : Rw 206 69 70 1 14 1 0 0 := rw_of (by decide +kernel)
theorem r206_70 : Rw 206 70 73 3 80 5 0 44 := rw_of (by decide +kernel)
theorem fd_10_0 : Fdl 10 5 0 0 2 := fd_of (by decide) rfl (by decide +kernel)
theorem bf_10_0 {M : Mm} (h : Pw M) : 16 ≤ M 10 0 ∧ M 10 0 ≤ 16 := (h 10 0 (by decide) (by decide) (by decide) (by decide +kernel)).get0 g_10_0 rfl rfl rfl rfl
theorem br_10_0 {M : Mm} (h : Pw M) : M 10 0 = 16 := by have := bf_10_0 h; omega
theorem r206_73 : Rw 206 73 75 2 2 (cd 102) 230 0 := rw_of (by decide +kernel)
theorem r206_75 : Rw 206 75 77 2 11 5 0 0 := rw_of (by decide +kernel)
theorem r206_77 : Rw 206 77 78 1 30 0 0 0 := rw_of (by decide +kernel)
theorem r206_78 : Rw 206 78 79 1 87 0 0 0 := rw_of (by decide +kernel)
theorem ar_16 : Ar 16 104 119 := ar_of (by decide) (by decide) (by decide +kernel)
theorem ba_16 {M : Mm} (h : Pw M) {i : Int} (h0 : 0 ≤ i) (h1 : i < 119) : M 16 i = 17 + i := by
  have := (h 16 i (by decide) (by decide) h0 (by rw [ar_16.2.2.2.1]; exact h1)).get (l := 17) (u := 17) (c := 1) (s := 0) (gr_16 (by decide) (by decide) i) rfl rfl rfl rfl
  omega
theorem r206_79 : Rw 206 79 81 2 11 4 0 0 := rw_of (by decide +kernel)
theorem r206_81 : Rw 206 81 84 3 102 191 2 91 := rw_of (by decide +kernel)
theorem arb_17 : (List.range 119).all (fun j => arb (17 + j) 102 47) = true := by decide +kernel
theorem arF_17 {a : Int} (h0 : 17 ≤ a) (h1 : a ≤ 135) : Ar a 102 47 := ar_of (by omega) (by decide) (by
  have h := List.all_eq_true.mp arb_17 (a.toNat - 17) (List.mem_range.mpr (by omega))
  rw [show 17 + (a.toNat - 17) = a.toNat by omega] at h
  exact h)
theorem baF_17 {M : Mm} (h : Pw M) {a i : Int} (ha : 17 ≤ a) (hb : a ≤ 135) (h0 : 0 ≤ i) (h1 : i < 47) : 0 ≤ M a i ∧ M a i ≤ 18446744073709551615 := (h a i (by omega) (by omega) h0 (by rw [(arF_17 ha hb).2.2.2.1]; exact h1)).get0 (gr_17 ha hb i) rfl rfl rfl rfl
theorem r206_84 : Rw 206 84 87 3 61 100 0 0 := rw_of (by decide +kernel)
theorem r206_100 : Rw 206 100 103 3 22 5 (cd 1) 32769 := rw_of (by decide +kernel)
theorem r206_103 : Rw 206 103 106 3 60 63 0 0 := rw_of (by decide +kernel)
theorem r206_87 : Rw 206 87 88 1 14 0 0 0 := rw_of (by decide +kernel)
theorem r206_88 : Rw 206 88 90 2 2 (cd 102) 230 0 := rw_of (by decide +kernel)
theorem r206_90 : Rw 206 90 92 2 11 5 0 0 := rw_of (by decide +kernel)
theorem r206_92 : Rw 206 92 93 1 30 0 0 0 := rw_of (by decide +kernel)
theorem r206_93 : Rw 206 93 94 1 14 0 0 0 := rw_of (by decide +kernel)
theorem r206_94 : Rw 206 94 97 3 80 5 9 36 := rw_of (by decide +kernel)
theorem r206_97 : Rw 206 97 100 3 100 204 3 95 := rw_of (by decide +kernel)
theorem kc_176_206 : Kc 176 206 := kc_of (by decide) (by decide +kernel)
theorem r146_19 : Rw 146 19 20 1 14 0 0 0 := rw_of (by decide +kernel)
theorem r146_20 : Rw 146 20 23 3 80 2 4 9 := rw_of (by decide +kernel)
theorem fd_174_4 : Fdl 174 2 4 4 2 := fd_of (by decide) rfl (by decide +kernel)
theorem bf_174_4 {M : Mm} (h : Pw M) : 175 ≤ M 174 4 ∧ M 174 4 ≤ 175 := (h 174 4 (by decide) (by decide) (by decide) (by decide +kernel)).get0 g_174_4 rfl rfl rfl rfl
theorem br_174_4 {M : Mm} (h : Pw M) : M 174 4 = 175 := by have := bf_174_4 h; omega
theorem r146_23 : Rw 146 23 24 1 1 (cd (-1)) 0 0 := rw_of (by decide +kernel)
theorem r146_24 : Rw 146 24 27 3 102 265 2 54 := rw_of (by decide +kernel)
theorem ar_175 : Ar 175 100 3000 := ar_of (by decide) (by decide) (by decide +kernel)
theorem ba_175 {M : Mm} (h : Pw M) {i : Int} (h0 : 0 ≤ i) (h1 : i < 3000) : (-1) ≤ M 175 i ∧ M 175 i ≤ 299 := (h 175 i (by decide) (by decide) h0 (by rw [ar_175.2.2.2.1]; exact h1)).get0 (gr_175 (by decide) (by decide) i) rfl rfl rfl rfl
theorem ga_175 (i : Int) : grp 175 i = 103 := gr_175 (by decide) (by decide) i
theorem ua_175 {i z : Int} (hz : (-1) ≤ z ∧ z ≤ 299) : Bd 175 i z := Bd.of0 (gr_175 (by decide) (by decide) i) rfl rfl rfl rfl rfl hz
theorem r146_27 : Rw 146 27 28 1 1 (cd 0) 1 0 := rw_of (by decide +kernel)
theorem r146_28 : Rw 146 28 29 1 16 3 0 0 := rw_of (by decide +kernel)
theorem r146_29 : Rw 146 29 30 1 10 3 0 0 := rw_of (by decide +kernel)
theorem r146_30 : Rw 146 30 31 1 14 0 0 0 := rw_of (by decide +kernel)
theorem r146_31 : Rw 146 31 34 3 80 2 0 20 := rw_of (by decide +kernel)
theorem r146_34 : Rw 146 34 37 3 80 5 9 60 := rw_of (by decide +kernel)
theorem r146_37 : Rw 146 37 40 3 70 124 0 0 := rw_of (by decide +kernel)
theorem r146_124 : Rw 146 124 125 1 77 0 0 0 := rw_of (by decide +kernel)
theorem r146_40 : Rw 146 40 41 1 14 0 0 0 := rw_of (by decide +kernel)
theorem r146_41 : Rw 146 41 44 3 80 2 0 20 := rw_of (by decide +kernel)
theorem r146_44 : Rw 146 44 45 1 10 3 0 0 := rw_of (by decide +kernel)
theorem r146_45 : Rw 146 45 46 1 10 2 0 0 := rw_of (by decide +kernel)
theorem r146_46 : Rw 146 46 49 3 100 186 3 63 := rw_of (by decide +kernel)
theorem r186_65 : Rw 186 65 66 1 14 0 0 0 := rw_of (by decide +kernel)
theorem r186_66 : Rw 186 66 69 3 80 5 2 50 := rw_of (by decide +kernel)
theorem r186_69 : Rw 186 69 70 1 10 1 0 0 := rw_of (by decide +kernel)
theorem r186_70 : Rw 186 70 71 1 83 0 0 0 := rw_of (by decide +kernel)
theorem r186_71 : Rw 186 71 72 1 74 0 0 0 := rw_of (by decide +kernel)
theorem r146_49 : Rw 146 49 51 2 17 4 0 0 := rw_of (by decide +kernel)
theorem r146_51 : Rw 146 51 52 1 14 0 0 0 := rw_of (by decide +kernel)
theorem r146_52 : Rw 146 52 55 3 80 2 4 9 := rw_of (by decide +kernel)
theorem r146_55 : Rw 146 55 57 2 11 4 0 0 := rw_of (by decide +kernel)
theorem r146_57 : Rw 146 57 58 1 83 0 0 0 := rw_of (by decide +kernel)
theorem r146_58 : Rw 146 58 59 1 1 (cd (-1)) 0 0 := rw_of (by decide +kernel)
theorem r146_59 : Rw 146 59 62 3 68 80 0 0 := rw_of (by decide +kernel)
theorem r146_80 : Rw 146 80 81 1 14 0 0 0 := rw_of (by decide +kernel)
theorem r146_81 : Rw 146 81 84 3 80 2 2 28 := rw_of (by decide +kernel)
theorem fd_174_2 : Fdl 174 2 2 2 2 := fd_of (by decide) rfl (by decide +kernel)
theorem bf_174_2 {M : Mm} (h : Pw M) : 304 ≤ M 174 2 ∧ M 174 2 ≤ 304 := (h 174 2 (by decide) (by decide) (by decide) (by decide +kernel)).get0 g_174_2 rfl rfl rfl rfl
theorem br_174_2 {M : Mm} (h : Pw M) : M 174 2 = 304 := by have := bf_174_2 h; omega
theorem r146_84 : Rw 146 84 85 1 10 3 0 0 := rw_of (by decide +kernel)
theorem r146_85 : Rw 146 85 86 1 14 0 0 0 := rw_of (by decide +kernel)
theorem r146_86 : Rw 146 86 89 3 80 2 4 9 := rw_of (by decide +kernel)
theorem r146_89 : Rw 146 89 91 2 11 4 0 0 := rw_of (by decide +kernel)
theorem r146_91 : Rw 146 91 92 1 83 0 0 0 := rw_of (by decide +kernel)
theorem r146_92 : Rw 146 92 93 1 88 0 0 0 := rw_of (by decide +kernel)
theorem ar_304 : Ar 304 100 300 := ar_of (by decide) (by decide) (by decide +kernel)
theorem ba_304 {M : Mm} (h : Pw M) {i : Int} (h0 : 0 ≤ i) (h1 : i < 300) : 0 ≤ M 304 i ∧ M 304 i ≤ 299 := (h 304 i (by decide) (by decide) h0 (by rw [ar_304.2.2.2.1]; exact h1)).get0 (gr_304 (by decide) (by decide) i) rfl rfl rfl rfl
theorem ga_304 (i : Int) : grp 304 i = 129 := gr_304 (by decide) (by decide) i
theorem ua_304 {i z : Int} (hz : 0 ≤ z ∧ z ≤ 299) : Bd 304 i z := Bd.of0 (gr_304 (by decide) (by decide) i) rfl rfl rfl rfl rfl hz
theorem r146_93 : Rw 146 93 94 1 14 0 0 0 := rw_of (by decide +kernel)
theorem r146_94 : Rw 146 94 97 3 80 2 3 33 := rw_of (by decide +kernel)
theorem fd_174_3 : Fdl 174 2 3 3 2 := fd_of (by decide) rfl (by decide +kernel)
theorem bf_174_3 {M : Mm} (h : Pw M) : 305 ≤ M 174 3 ∧ M 174 3 ≤ 305 := (h 174 3 (by decide) (by decide) (by decide) (by decide +kernel)).get0 g_174_3 rfl rfl rfl rfl
theorem br_174_3 {M : Mm} (h : Pw M) : M 174 3 = 305 := by have := bf_174_3 h; omega
theorem r146_97 : Rw 146 97 98 1 14 0 0 0 := rw_of (by decide +kernel)
theorem r146_98 : Rw 146 98 101 3 80 2 2 28 := rw_of (by decide +kernel)
theorem r146_101 : Rw 146 101 102 1 10 3 0 0 := rw_of (by decide +kernel)
theorem r146_102 : Rw 146 102 103 1 83 0 0 0 := rw_of (by decide +kernel)
theorem r146_103 : Rw 146 103 104 1 87 0 0 0 := rw_of (by decide +kernel)
theorem ar_305 : Ar 305 104 300 := ar_of (by decide) (by decide) (by decide +kernel)
theorem ba_305 {M : Mm} (h : Pw M) {i : Int} (h0 : 0 ≤ i) (h1 : i < 300) : M 305 i = 306 + i := by
  have := (h 305 i (by decide) (by decide) h0 (by rw [ar_305.2.2.2.1]; exact h1)).get (l := 306) (u := 306) (c := 1) (s := 0) (gr_305 (by decide) (by decide) i) rfl rfl rfl rfl
  omega
theorem r146_104 : Rw 146 104 105 1 10 3 0 0 := rw_of (by decide +kernel)
theorem r146_105 : Rw 146 105 107 2 2 (cd 6) 134 0 := rw_of (by decide +kernel)
theorem r146_107 : Rw 146 107 108 1 37 0 0 0 := rw_of (by decide +kernel)
theorem r146_108 : Rw 146 108 109 1 54 0 0 0 := rw_of (by decide +kernel)
theorem r146_109 : Rw 146 109 110 1 84 0 0 0 := rw_of (by decide +kernel)
theorem arb_306 : (List.range 300).all (fun j => arb (306 + j) 102 5) = true := by decide +kernel
theorem arF_306 {a : Int} (h0 : 306 ≤ a) (h1 : a ≤ 605) : Ar a 102 5 := ar_of (by omega) (by decide) (by
  have h := List.all_eq_true.mp arb_306 (a.toNat - 306) (List.mem_range.mpr (by omega))
  rw [show 306 + (a.toNat - 306) = a.toNat by omega] at h
  exact h)
theorem baF_306 {M : Mm} (h : Pw M) {a i : Int} (ha : 306 ≤ a) (hb : a ≤ 605) (h0 : 0 ≤ i) (h1 : i < 5) : 0 ≤ M a i ∧ M a i ≤ 18446744073709551615 := (h a i (by omega) (by omega) h0 (by rw [(arF_306 ha hb).2.2.2.1]; exact h1)).get0 (gr_306 ha hb i) rfl rfl rfl rfl
theorem r146_110 : Rw 146 110 111 1 6 1 0 0 := rw_of (by decide +kernel)
theorem r146_111 : Rw 146 111 112 1 10 3 0 0 := rw_of (by decide +kernel)
theorem r146_112 : Rw 146 112 114 2 2 (cd 63) 191 0 := rw_of (by decide +kernel)
theorem r146_114 : Rw 146 114 115 1 33 0 0 0 := rw_of (by decide +kernel)
theorem r146_115 : Rw 146 115 116 1 46 0 0 0 := rw_of (by decide +kernel)
theorem r146_116 : Rw 146 116 117 1 44 0 0 0 := rw_of (by decide +kernel)
theorem r146_117 : Rw 146 117 118 1 89 0 0 0 := rw_of (by decide +kernel)
theorem uaF_306 {a i z : Int} (ha : 306 ≤ a) (hb : a ≤ 605) (hz : 0 ≤ z ∧ z ≤ 18446744073709551615) : Bd a i z := Bd.of0 (gr_306 ha hb i) rfl rfl rfl rfl rfl hz
theorem r146_118 : Rw 146 118 121 3 22 3 (cd 1) 32769 := rw_of (by decide +kernel)
theorem r146_121 : Rw 146 121 124 3 60 29 0 0 := rw_of (by decide +kernel)
theorem r146_62 : Rw 146 62 63 1 14 0 0 0 := rw_of (by decide +kernel)
theorem r146_63 : Rw 146 63 66 3 80 2 4 9 := rw_of (by decide +kernel)
theorem r146_66 : Rw 146 66 68 2 11 4 0 0 := rw_of (by decide +kernel)
theorem r146_68 : Rw 146 68 69 1 10 3 0 0 := rw_of (by decide +kernel)
theorem r146_69 : Rw 146 69 70 1 88 0 0 0 := rw_of (by decide +kernel)
theorem r146_70 : Rw 146 70 71 1 14 0 0 0 := rw_of (by decide +kernel)
theorem r146_71 : Rw 146 71 74 3 80 2 3 33 := rw_of (by decide +kernel)
theorem r146_74 : Rw 146 74 75 1 10 3 0 0 := rw_of (by decide +kernel)
theorem r146_75 : Rw 146 75 76 1 87 0 0 0 := rw_of (by decide +kernel)
theorem r146_76 : Rw 146 76 77 1 6 0 0 0 := rw_of (by decide +kernel)
theorem r146_77 : Rw 146 77 80 3 102 266 2 67 := rw_of (by decide +kernel)
theorem kc_174_146 : Kc 174 146 := kc_of (by decide) (by decide +kernel)
theorem r19_38 : Rw 19 38 39 1 14 0 0 0 := rw_of (by decide +kernel)
theorem r19_39 : Rw 19 39 42 3 80 11 16 100 := rw_of (by decide +kernel)
theorem fd_0_16 : Fdl 0 11 16 16 2 := fd_of (by decide) rfl (by decide +kernel)
theorem bf_0_16 {M : Mm} (h : Pw M) : 607 ≤ M 0 16 ∧ M 0 16 ≤ 607 := (h 0 16 (by decide) (by decide) (by decide) (by decide +kernel)).get0 g_0_16 rfl rfl rfl rfl
theorem br_0_16 {M : Mm} (h : Pw M) : M 0 16 = 607 := by have := bf_0_16 h; omega
theorem r19_42 : Rw 19 42 43 1 14 0 0 0 := rw_of (by decide +kernel)
theorem r19_43 : Rw 19 43 46 3 80 11 11 72 := rw_of (by decide +kernel)
theorem fd_0_11 : Fdl 0 11 11 11 0 := fd_of (by decide) rfl (by decide +kernel)
theorem bf_0_11 {M : Mm} (h : Pw M) : 0 ≤ M 0 11 ∧ M 0 11 ≤ 10 := (h 0 11 (by decide) (by decide) (by decide) (by decide +kernel)).get0 g_0_11 rfl rfl rfl rfl
theorem r19_46 : Rw 19 46 47 1 14 0 0 0 := rw_of (by decide +kernel)
theorem r19_47 : Rw 19 47 50 3 80 11 7 57 := rw_of (by decide +kernel)
theorem r19_50 : Rw 19 50 53 3 80 8 5 172 := rw_of (by decide +kernel)
theorem r19_53 : Rw 19 53 56 3 100 4 3 290 := rw_of (by decide +kernel)
theorem r4_0 : Rw 4 0 1 1 14 0 0 0 := rw_of (by decide +kernel)
theorem r4_1 : Rw 4 1 2 1 10 1 0 0 := rw_of (by decide +kernel)
theorem r4_2 : Rw 4 2 5 3 81 0 4 0 := rw_of (by decide +kernel)
theorem fd_607_4 : Fdl 607 0 4 4 0 := fd_of (by decide) rfl (by decide +kernel)
theorem uf_607_4 {z : Int} (hz : 0 ≤ z ∧ z ≤ 10) : Bd 607 4 z := Bd.of0 g_607_4 rfl rfl rfl rfl rfl hz
theorem r4_5 : Rw 4 5 6 1 14 0 0 0 := rw_of (by decide +kernel)
theorem r4_6 : Rw 4 6 7 1 10 2 0 0 := rw_of (by decide +kernel)
theorem r4_7 : Rw 4 7 10 3 81 0 5 0 := rw_of (by decide +kernel)
theorem fd_607_5 : Fdl 607 0 5 5 0 := fd_of (by decide) rfl (by decide +kernel)
theorem uf_607_5 {z : Int} (hz : 0 ≤ z ∧ z ≤ 12) : Bd 607 5 z := Bd.of0 g_607_5 rfl rfl rfl rfl rfl hz
theorem r4_10 : Rw 4 10 11 1 14 0 0 0 := rw_of (by decide +kernel)
theorem r4_11 : Rw 4 11 14 3 80 0 0 21 := rw_of (by decide +kernel)
theorem fd_607_0 : Fdl 607 0 0 0 2 := fd_of (by decide) rfl (by decide +kernel)
theorem bf_607_0 {M : Mm} (h : Pw M) : 174 ≤ M 607 0 ∧ M 607 0 ≤ 174 := (h 607 0 (by decide) (by decide) (by decide) (by decide +kernel)).get0 g_607_0 rfl rfl rfl rfl
theorem br_607_0 {M : Mm} (h : Pw M) : M 607 0 = 174 := by have := bf_607_0 h; omega
theorem r4_14 : Rw 4 14 17 3 100 145 1 43 := rw_of (by decide +kernel)
theorem r145_0 : Rw 145 0 1 1 14 0 0 0 := rw_of (by decide +kernel)
theorem r145_1 : Rw 145 1 4 3 80 2 0 20 := rw_of (by decide +kernel)
theorem r145_4 : Rw 145 4 7 3 80 5 0 70 := rw_of (by decide +kernel)
theorem r145_7 : Rw 145 7 9 2 2 (cd 118) 246 0 := rw_of (by decide +kernel)
theorem r145_9 : Rw 145 9 10 1 87 0 0 0 := rw_of (by decide +kernel)
theorem r145_10 : Rw 145 10 11 1 76 0 0 0 := rw_of (by decide +kernel)
theorem kc_174_145 : Kc 174 145 := kc_of (by decide) (by decide +kernel)
theorem r4_17 : Rw 4 17 18 1 1 (cd 0) 1 0 := rw_of (by decide +kernel)
theorem r4_18 : Rw 4 18 19 1 14 0 0 0 := rw_of (by decide +kernel)
theorem r4_19 : Rw 4 19 22 3 80 0 3 40 := rw_of (by decide +kernel)
theorem fd_607_3 : Fdl 607 0 3 3 2 := fd_of (by decide) rfl (by decide +kernel)
theorem bf_607_3 {M : Mm} (h : Pw M) : 608 ≤ M 607 3 ∧ M 607 3 ≤ 608 := (h 607 3 (by decide) (by decide) (by decide) (by decide +kernel)).get0 g_607_3 rfl rfl rfl rfl
theorem br_607_3 {M : Mm} (h : Pw M) : M 607 3 = 608 := by have := bf_607_3 h; omega
theorem r4_22 : Rw 4 22 23 1 1 (cd 0) 1 0 := rw_of (by decide +kernel)
theorem r4_23 : Rw 4 23 24 1 87 0 0 0 := rw_of (by decide +kernel)
theorem ar_608 : Ar 608 104 4 := ar_of (by decide) (by decide) (by decide +kernel)
theorem ba_608 {M : Mm} (h : Pw M) {i : Int} (h0 : 0 ≤ i) (h1 : i < 4) : M 608 i = 609 + i := by
  have := (h 608 i (by decide) (by decide) h0 (by rw [ar_608.2.2.2.1]; exact h1)).get (l := 609) (u := 609) (c := 1) (s := 0) (gr_608 (by decide) (by decide) i) rfl rfl rfl rfl
  omega
theorem r4_24 : Rw 4 24 25 1 1 (cd 0) 1 0 := rw_of (by decide +kernel)
theorem r4_25 : Rw 4 25 26 1 14 0 0 0 := rw_of (by decide +kernel)
theorem r4_26 : Rw 4 26 29 3 80 0 0 21 := rw_of (by decide +kernel)
theorem r4_29 : Rw 4 29 32 3 80 2 1 33 := rw_of (by decide +kernel)
theorem fd_174_1 : Fdl 174 2 1 1 0 := fd_of (by decide) rfl (by decide +kernel)
theorem bf_174_1 {M : Mm} (h : Pw M) : 5 ≤ M 174 1 ∧ M 174 1 ≤ 5 := (h 174 1 (by decide) (by decide) (by decide) (by decide +kernel)).get0 g_174_1 rfl rfl rfl rfl
theorem br_174_1 {M : Mm} (h : Pw M) : M 174 1 = 5 := by have := bf_174_1 h; omega
theorem r4_32 : Rw 4 32 35 3 110 0 0 47 := rw_of (by decide +kernel)
theorem arb_609 : (List.range 4).all (fun j => arb (609 + j) 102 5) = true := by decide +kernel
theorem arF_609 {a : Int} (h0 : 609 ≤ a) (h1 : a ≤ 612) : Ar a 102 5 := ar_of (by omega) (by decide) (by
  have h := List.all_eq_true.mp arb_609 (a.toNat - 609) (List.mem_range.mpr (by omega))
  rw [show 609 + (a.toNat - 609) = a.toNat by omega] at h
  exact h)
theorem b4_609 {M : Mm} (h : Pw M) {a i : Int} (ha : 609 ≤ a) (hb : a ≤ 612) (h0 : 0 ≤ i) (h1 : i < 5) : 0 ≤ M a i ∧ M a i ≤ 18446744073709551615 ∧ (i = 4 → M a i ≤ 17592186044415) := by
  have hx := h a i (by omega) (by omega) h0 (by rw [(arF_609 ha hb).2.2.2.1]; exact h1)
  by_cases e : i = 4
  · have := hx.get0 (k := 143) (l := 0) (u := 17592186044415) (by rw [gr_609 ha hb, if_pos e]) rfl rfl rfl rfl
    omega
  · have := hx.get0 (k := 142) (l := 0) (u := 18446744073709551615) (by rw [gr_609 ha hb, if_neg e]) rfl rfl rfl rfl
    omega
theorem u4_609 {a i z : Int} (ha : 609 ≤ a) (hb : a ≤ 612) (hz : 0 ≤ z ∧ z ≤ 18446744073709551615 ∧ (i = 4 → z ≤ 17592186044415)) : Bd a i z := by
  by_cases e : i = 4
  · exact Bd.of0 (k := 143) (l := 0) (u := 17592186044415) (by rw [gr_609 ha hb, if_pos e]) rfl rfl rfl rfl rfl ⟨hz.1, hz.2.2 e⟩
  · exact Bd.of0 (k := 142) (l := 0) (u := 18446744073709551615) (by rw [gr_609 ha hb, if_neg e]) rfl rfl rfl rfl rfl ⟨hz.1, hz.2.1⟩
theorem t4_609 {m : Nat} (h1 : Nat.testBit m 142 = true) (h2 : Nat.testBit m 143 = true) {a : Int} (ha : 609 ≤ a) (hb : a ≤ 612) (i : Int) : Nat.testBit m (grp a i) = true := by
  rw [gr_609 ha hb]
  by_cases e : i = 4
  · rw [if_pos e]
    exact h2
  · rw [if_neg e]
    exact h1
theorem r4_35 : Rw 4 35 36 1 14 0 0 0 := rw_of (by decide +kernel)
theorem r4_36 : Rw 4 36 39 3 80 0 0 21 := rw_of (by decide +kernel)
theorem r4_39 : Rw 4 39 40 1 14 0 0 0 := rw_of (by decide +kernel)
theorem r4_40 : Rw 4 40 43 3 80 0 3 40 := rw_of (by decide +kernel)
theorem r4_43 : Rw 4 43 44 1 1 (cd 0) 1 0 := rw_of (by decide +kernel)
theorem r4_44 : Rw 4 44 45 1 87 0 0 0 := rw_of (by decide +kernel)
theorem r4_45 : Rw 4 45 46 1 1 (cd 1) 2 0 := rw_of (by decide +kernel)
theorem r4_46 : Rw 4 46 49 3 100 150 3 53 := rw_of (by decide +kernel)
theorem r150_0 : Rw 150 0 1 1 14 1 0 0 := rw_of (by decide +kernel)
theorem r150_1 : Rw 150 1 2 1 1 (cd 0) 1 0 := rw_of (by decide +kernel)
theorem r150_2 : Rw 150 2 3 1 14 0 0 0 := rw_of (by decide +kernel)
theorem r150_3 : Rw 150 3 6 3 80 2 5 36 := rw_of (by decide +kernel)
theorem fd_174_5 : Fdl 174 2 5 5 2 := fd_of (by decide) rfl (by decide +kernel)
theorem bf_174_5 {M : Mm} (h : Pw M) : 606 ≤ M 174 5 ∧ M 174 5 ≤ 606 := (h 174 5 (by decide) (by decide) (by decide) (by decide +kernel)).get0 g_174_5 rfl rfl rfl rfl
theorem br_174_5 {M : Mm} (h : Pw M) : M 174 5 = 606 := by have := bf_174_5 h; omega
theorem r150_6 : Rw 150 6 7 1 1 (cd 0) 1 0 := rw_of (by decide +kernel)
theorem r150_7 : Rw 150 7 8 1 14 0 0 0 := rw_of (by decide +kernel)
theorem r150_8 : Rw 150 8 11 3 80 2 1 24 := rw_of (by decide +kernel)
theorem r150_11 : Rw 150 11 14 3 110 0 0 73 := rw_of (by decide +kernel)
theorem arb_606 : (List.range 1).all (fun j => arb (606 + j) 102 5) = true := by decide +kernel
theorem arF_606 {a : Int} (h0 : 606 ≤ a) (h1 : a ≤ 606) : Ar a 102 5 := ar_of (by omega) (by decide) (by
  have h := List.all_eq_true.mp arb_606 (a.toNat - 606) (List.mem_range.mpr (by omega))
  rw [show 606 + (a.toNat - 606) = a.toNat by omega] at h
  exact h)
theorem b4_606 {M : Mm} (h : Pw M) {a i : Int} (ha : 606 ≤ a) (hb : a ≤ 606) (h0 : 0 ≤ i) (h1 : i < 5) : 0 ≤ M a i ∧ M a i ≤ 18446744073709551615 ∧ (i = 4 → M a i ≤ 17592186044415) := by
  have hx := h a i (by omega) (by omega) h0 (by rw [(arF_606 ha hb).2.2.2.1]; exact h1)
  by_cases e : i = 4
  · have := hx.get0 (k := 133) (l := 0) (u := 17592186044415) (by rw [gr_606 ha hb, if_pos e]) rfl rfl rfl rfl
    omega
  · have := hx.get0 (k := 132) (l := 0) (u := 18446744073709551615) (by rw [gr_606 ha hb, if_neg e]) rfl rfl rfl rfl
    omega
theorem u4_606 {a i z : Int} (ha : 606 ≤ a) (hb : a ≤ 606) (hz : 0 ≤ z ∧ z ≤ 18446744073709551615 ∧ (i = 4 → z ≤ 17592186044415)) : Bd a i z := by
  by_cases e : i = 4
  · exact Bd.of0 (k := 133) (l := 0) (u := 17592186044415) (by rw [gr_606 ha hb, if_pos e]) rfl rfl rfl rfl rfl ⟨hz.1, hz.2.2 e⟩
  · exact Bd.of0 (k := 132) (l := 0) (u := 18446744073709551615) (by rw [gr_606 ha hb, if_neg e]) rfl rfl rfl rfl rfl ⟨hz.1, hz.2.1⟩
theorem t4_606 {m : Nat} (h1 : Nat.testBit m 132 = true) (h2 : Nat.testBit m 133 = true) {a : Int} (ha : 606 ≤ a) (hb : a ≤ 606) (i : Int) : Nat.testBit m (grp a i) = true := by
  rw [gr_606 ha hb]
  by_cases e : i = 4
  · rw [if_pos e]
    exact h2
  · rw [if_neg e]
    exact h1
theorem r150_14 : Rw 150 14 15 1 1 (cd 0) 1 0 := rw_of (by decide +kernel)
theorem r150_15 : Rw 150 15 16 1 16 3 0 0 := rw_of (by decide +kernel)
theorem r150_16 : Rw 150 16 17 1 10 3 0 0 := rw_of (by decide +kernel)
theorem r150_17 : Rw 150 17 18 1 10 2 0 0 := rw_of (by decide +kernel)
theorem r150_18 : Rw 150 18 21 3 70 99 0 0 := rw_of (by decide +kernel)
theorem r150_21 : Rw 150 21 22 1 14 0 0 0 := rw_of (by decide +kernel)
theorem r150_22 : Rw 150 22 23 1 14 0 0 0 := rw_of (by decide +kernel)
theorem r150_23 : Rw 150 23 26 3 80 2 5 36 := rw_of (by decide +kernel)
theorem r150_26 : Rw 150 26 29 3 100 149 2 79 := rw_of (by decide +kernel)
theorem r149_0 : Rw 149 0 1 1 1 (cd 0) 1 0 := rw_of (by decide +kernel)
theorem r149_1 : Rw 149 1 2 1 16 2 0 0 := rw_of (by decide +kernel)
theorem r149_2 : Rw 149 2 3 1 10 2 0 0 := rw_of (by decide +kernel)
theorem r149_3 : Rw 149 3 4 1 14 0 0 0 := rw_of (by decide +kernel)
theorem r149_4 : Rw 149 4 7 3 80 2 0 20 := rw_of (by decide +kernel)
theorem r149_7 : Rw 149 7 10 3 80 5 10 83 := rw_of (by decide +kernel)
theorem bf_176_10 {M : Mm} (h : Pw M) : 0 ≤ M 176 10 ∧ M 176 10 ≤ 5 := (h 176 10 (by decide) (by decide) (by decide) (by decide +kernel)).get0 g_176_10 rfl rfl rfl rfl
theorem r149_10 : Rw 149 10 13 3 70 49 0 0 := rw_of (by decide +kernel)
theorem r149_49 : Rw 149 49 50 1 1 (cd (-1)) 0 0 := rw_of (by decide +kernel)
theorem r149_50 : Rw 149 50 51 1 74 0 0 0 := rw_of (by decide +kernel)
theorem r149_13 : Rw 149 13 14 1 14 1 0 0 := rw_of (by decide +kernel)
theorem r149_14 : Rw 149 14 15 1 10 2 0 0 := rw_of (by decide +kernel)
theorem r149_15 : Rw 149 15 16 1 84 0 0 0 := rw_of (by decide +kernel)
theorem r149_16 : Rw 149 16 17 1 6 0 0 0 := rw_of (by decide +kernel)
theorem r149_17 : Rw 149 17 18 1 51 0 0 0 := rw_of (by decide +kernel)
theorem r149_18 : Rw 149 18 21 3 61 43 0 0 := rw_of (by decide +kernel)
theorem r149_43 : Rw 149 43 46 3 22 2 (cd 1) 32769 := rw_of (by decide +kernel)
theorem r149_46 : Rw 149 46 49 3 60 2 0 0 := rw_of (by decide +kernel)
theorem r149_21 : Rw 149 21 23 2 2 (cd 64) 192 0 := rw_of (by decide +kernel)
theorem r149_23 : Rw 149 23 24 1 10 2 0 0 := rw_of (by decide +kernel)
theorem r149_24 : Rw 149 24 25 1 32 0 0 0 := rw_of (by decide +kernel)
theorem r149_25 : Rw 149 25 26 1 14 1 0 0 := rw_of (by decide +kernel)
theorem r149_26 : Rw 149 26 27 1 10 2 0 0 := rw_of (by decide +kernel)
theorem r149_27 : Rw 149 27 28 1 84 0 0 0 := rw_of (by decide +kernel)
theorem r149_28 : Rw 149 28 31 3 7 18446744073709551615 84 0 := rw_of (by decide +kernel)
theorem r149_31 : Rw 149 31 32 1 45 0 0 0 := rw_of (by decide +kernel)
theorem r149_32 : Rw 149 32 33 1 14 1 0 0 := rw_of (by decide +kernel)
theorem r149_33 : Rw 149 33 34 1 10 2 0 0 := rw_of (by decide +kernel)
theorem r149_34 : Rw 149 34 35 1 84 0 0 0 := rw_of (by decide +kernel)
theorem r149_35 : Rw 149 35 36 1 6 1 0 0 := rw_of (by decide +kernel)
theorem r149_36 : Rw 149 36 37 1 42 0 0 0 := rw_of (by decide +kernel)
theorem r149_37 : Rw 149 37 38 1 43 0 0 0 := rw_of (by decide +kernel)
theorem r149_38 : Rw 149 38 41 3 102 245 1 86 := rw_of (by decide +kernel)
theorem r149_41 : Rw 149 41 42 1 30 0 0 0 := rw_of (by decide +kernel)
theorem r149_42 : Rw 149 42 43 1 74 0 0 0 := rw_of (by decide +kernel)
theorem kc_174_149 : Kc 174 149 := kc_of (by decide) (by decide +kernel)
theorem r150_29 : Rw 150 29 31 2 17 4 0 0 := rw_of (by decide +kernel)
theorem r150_31 : Rw 150 31 33 2 11 4 0 0 := rw_of (by decide +kernel)
theorem r150_33 : Rw 150 33 34 1 1 (cd (-1)) 0 0 := rw_of (by decide +kernel)
theorem r150_34 : Rw 150 34 37 3 68 39 0 0 := rw_of (by decide +kernel)
theorem r150_39 : Rw 150 39 40 1 14 0 0 0 := rw_of (by decide +kernel)
theorem r150_40 : Rw 150 40 43 3 80 2 3 33 := rw_of (by decide +kernel)
theorem r150_43 : Rw 150 43 44 1 14 0 0 0 := rw_of (by decide +kernel)
theorem r150_44 : Rw 150 44 47 3 80 2 2 28 := rw_of (by decide +kernel)
theorem r150_47 : Rw 150 47 49 2 11 4 0 0 := rw_of (by decide +kernel)
theorem r150_49 : Rw 150 49 50 1 83 0 0 0 := rw_of (by decide +kernel)
theorem r150_50 : Rw 150 50 51 1 87 0 0 0 := rw_of (by decide +kernel)
theorem r150_51 : Rw 150 51 53 2 21 5 0 0 := rw_of (by decide +kernel)
theorem r150_53 : Rw 150 53 54 1 1 (cd 0) 1 0 := rw_of (by decide +kernel)
theorem r150_54 : Rw 150 54 56 2 17 6 0 0 := rw_of (by decide +kernel)
theorem r150_56 : Rw 150 56 58 2 11 6 0 0 := rw_of (by decide +kernel)
theorem r150_58 : Rw 150 58 59 1 14 0 0 0 := rw_of (by decide +kernel)
theorem r150_59 : Rw 150 59 62 3 80 2 0 20 := rw_of (by decide +kernel)
theorem r150_62 : Rw 150 62 65 3 80 5 10 83 := rw_of (by decide +kernel)
theorem r150_65 : Rw 150 65 68 3 70 93 0 0 := rw_of (by decide +kernel)
theorem r150_93 : Rw 150 93 96 3 22 3 (cd 1) 32769 := rw_of (by decide +kernel)
theorem r150_96 : Rw 150 96 99 3 60 16 0 0 := rw_of (by decide +kernel)
theorem r150_68 : Rw 150 68 69 1 14 0 0 0 := rw_of (by decide +kernel)
theorem r150_69 : Rw 150 69 72 3 80 2 5 36 := rw_of (by decide +kernel)
theorem r150_72 : Rw 150 72 74 2 11 6 0 0 := rw_of (by decide +kernel)
theorem r150_74 : Rw 150 74 75 1 54 0 0 0 := rw_of (by decide +kernel)
theorem r150_75 : Rw 150 75 76 1 84 0 0 0 := rw_of (by decide +kernel)
theorem r150_76 : Rw 150 76 78 2 15 5 0 0 := rw_of (by decide +kernel)
theorem r150_78 : Rw 150 78 80 2 11 6 0 0 := rw_of (by decide +kernel)
theorem r150_80 : Rw 150 80 81 1 84 0 0 0 := rw_of (by decide +kernel)
theorem r150_81 : Rw 150 81 84 3 7 18446744073709551615 84 0 := rw_of (by decide +kernel)
theorem r150_84 : Rw 150 84 85 1 45 0 0 0 := rw_of (by decide +kernel)
theorem r150_85 : Rw 150 85 86 1 43 0 0 0 := rw_of (by decide +kernel)
theorem r150_86 : Rw 150 86 87 1 89 0 0 0 := rw_of (by decide +kernel)
theorem r150_87 : Rw 150 87 90 3 22 6 (cd 1) 32769 := rw_of (by decide +kernel)
theorem r150_90 : Rw 150 90 93 3 60 56 0 0 := rw_of (by decide +kernel)
theorem r150_37 : Rw 150 37 38 1 1 (cd 1) 2 0 := rw_of (by decide +kernel)
theorem r150_38 : Rw 150 38 39 1 74 1 0 0 := rw_of (by decide +kernel)
theorem r150_99 : Rw 150 99 100 1 14 0 0 0 := rw_of (by decide +kernel)
theorem r150_100 : Rw 150 100 101 1 14 0 0 0 := rw_of (by decide +kernel)
theorem r150_101 : Rw 150 101 104 3 80 2 5 36 := rw_of (by decide +kernel)
theorem r150_104 : Rw 150 104 107 3 100 149 2 79 := rw_of (by decide +kernel)
theorem r150_107 : Rw 150 107 108 1 1 (cd (-1)) 0 0 := rw_of (by decide +kernel)
theorem r150_108 : Rw 150 108 111 3 68 115 0 0 := rw_of (by decide +kernel)
theorem r150_115 : Rw 150 115 116 1 1 (cd 0) 1 0 := rw_of (by decide +kernel)
theorem r150_116 : Rw 150 116 117 1 74 1 0 0 := rw_of (by decide +kernel)
theorem r150_111 : Rw 150 111 112 1 1 (cd 1) 2 0 := rw_of (by decide +kernel)
theorem r150_112 : Rw 150 112 115 3 60 116 0 0 := rw_of (by decide +kernel)
theorem kc_174_150 : Kc 174 150 := kc_of (by decide) (by decide +kernel)
theorem r4_49 : Rw 4 49 52 3 61 59 0 0 := rw_of (by decide +kernel)
theorem r4_59 : Rw 4 59 60 1 1 (cd 1) 2 0 := rw_of (by decide +kernel)
theorem r4_60 : Rw 4 60 61 1 16 3 0 0 := rw_of (by decide +kernel)
theorem r4_61 : Rw 4 61 62 1 10 3 0 0 := rw_of (by decide +kernel)
theorem r4_62 : Rw 4 62 63 1 1 (cd 3) 4 0 := rw_of (by decide +kernel)
theorem r4_63 : Rw 4 63 66 3 71 94 0 0 := rw_of (by decide +kernel)
theorem r4_66 : Rw 4 66 67 1 14 0 0 0 := rw_of (by decide +kernel)
theorem r4_67 : Rw 4 67 68 1 1 (cd 0) 1 0 := rw_of (by decide +kernel)
theorem r4_68 : Rw 4 68 69 1 10 3 0 0 := rw_of (by decide +kernel)
theorem r4_69 : Rw 4 69 72 3 100 2 3 57 := rw_of (by decide +kernel)
theorem r2_0 : Rw 2 0 1 1 10 2 0 0 := rw_of (by decide +kernel)
theorem r2_1 : Rw 2 1 4 3 66 28 0 0 := rw_of (by decide +kernel)
theorem r2_4 : Rw 2 4 5 1 10 1 0 0 := rw_of (by decide +kernel)
theorem r2_5 : Rw 2 5 6 1 1 (cd 3) 4 0 := rw_of (by decide +kernel)
theorem r2_6 : Rw 2 6 9 3 70 28 0 0 := rw_of (by decide +kernel)
theorem r2_9 : Rw 2 9 10 1 14 0 0 0 := rw_of (by decide +kernel)
theorem r2_10 : Rw 2 10 13 3 80 0 0 21 := rw_of (by decide +kernel)
theorem r2_13 : Rw 2 13 14 1 14 0 0 0 := rw_of (by decide +kernel)
theorem r2_14 : Rw 2 14 17 3 80 0 3 40 := rw_of (by decide +kernel)
theorem r2_17 : Rw 2 17 18 1 10 1 0 0 := rw_of (by decide +kernel)
theorem r2_18 : Rw 2 18 19 1 87 0 0 0 := rw_of (by decide +kernel)
theorem r2_19 : Rw 2 19 20 1 1 (cd 1) 2 0 := rw_of (by decide +kernel)
theorem r2_20 : Rw 2 20 21 1 10 2 0 0 := rw_of (by decide +kernel)
theorem r2_21 : Rw 2 21 22 1 36 0 0 0 := rw_of (by decide +kernel)
theorem pwl_1 : pw 1 = 2 := by decide
theorem r2_22 : Rw 2 22 25 3 100 150 3 53 := rw_of (by decide +kernel)
theorem r2_25 : Rw 2 25 28 3 62 30 0 0 := rw_of (by decide +kernel)
theorem r2_30 : Rw 2 30 31 1 1 (cd 0) 1 0 := rw_of (by decide +kernel)
theorem r2_31 : Rw 2 31 32 1 16 3 0 0 := rw_of (by decide +kernel)
theorem r2_32 : Rw 2 32 33 1 10 3 0 0 := rw_of (by decide +kernel)
theorem r2_33 : Rw 2 33 34 1 14 0 0 0 := rw_of (by decide +kernel)
theorem r2_34 : Rw 2 34 37 3 80 0 4 9 := rw_of (by decide +kernel)
theorem bf_607_4 {M : Mm} (h : Pw M) : 0 ≤ M 607 4 ∧ M 607 4 ≤ 10 := (h 607 4 (by decide) (by decide) (by decide) (by decide +kernel)).get0 g_607_4 rfl rfl rfl rfl
theorem r2_37 : Rw 2 37 40 3 70 58 0 0 := rw_of (by decide +kernel)
theorem r2_58 : Rw 2 58 59 1 1 (cd (-1)) 0 0 := rw_of (by decide +kernel)
theorem r2_59 : Rw 2 59 60 1 74 0 0 0 := rw_of (by decide +kernel)
theorem r2_40 : Rw 2 40 41 1 14 0 0 0 := rw_of (by decide +kernel)
theorem r2_41 : Rw 2 41 42 1 10 3 0 0 := rw_of (by decide +kernel)
theorem r2_42 : Rw 2 42 43 1 10 1 0 0 := rw_of (by decide +kernel)
theorem r2_43 : Rw 2 43 44 1 10 2 0 0 := rw_of (by decide +kernel)
theorem r2_44 : Rw 2 44 47 3 100 3 4 61 := rw_of (by decide +kernel)
theorem r3_0 : Rw 3 0 1 1 14 0 0 0 := rw_of (by decide +kernel)
theorem r3_1 : Rw 3 1 4 3 80 0 0 21 := rw_of (by decide +kernel)
theorem r3_4 : Rw 3 4 7 3 80 2 0 65 := rw_of (by decide +kernel)
theorem r3_7 : Rw 3 7 9 2 21 4 0 0 := rw_of (by decide +kernel)
theorem r3_9 : Rw 3 9 10 1 14 0 0 0 := rw_of (by decide +kernel)
theorem r3_10 : Rw 3 10 13 3 80 0 2 25 := rw_of (by decide +kernel)
theorem fd_607_2 : Fdl 607 0 2 2 2 := fd_of (by decide) rfl (by decide +kernel)
theorem bf_607_2 {M : Mm} (h : Pw M) : 169 ≤ M 607 2 ∧ M 607 2 ≤ 169 := (h 607 2 (by decide) (by decide) (by decide) (by decide +kernel)).get0 g_607_2 rfl rfl rfl rfl
theorem br_607_2 {M : Mm} (h : Pw M) : M 607 2 = 169 := by have := bf_607_2 h; omega
theorem r3_13 : Rw 3 13 14 1 10 1 0 0 := rw_of (by decide +kernel)
theorem r3_14 : Rw 3 14 15 1 83 0 0 0 := rw_of (by decide +kernel)
theorem ar_169 : Ar 169 100 10 := ar_of (by decide) (by decide) (by decide +kernel)
theorem ba_169 {M : Mm} (h : Pw M) {i : Int} (h0 : 0 ≤ i) (h1 : i < 10) : 0 ≤ M 169 i ∧ M 169 i ≤ 209 := (h 169 i (by decide) (by decide) h0 (by rw [ar_169.2.2.2.1]; exact h1)).get0 (gr_169 (by decide) (by decide) i) rfl rfl rfl rfl
theorem r3_15 : Rw 3 15 17 2 2 (cd 30) 158 0 := rw_of (by decide +kernel)
theorem r3_17 : Rw 3 17 18 1 25 0 0 0 := rw_of (by decide +kernel)
theorem r3_18 : Rw 3 18 20 2 17 5 0 0 := rw_of (by decide +kernel)
theorem r3_20 : Rw 3 20 22 2 15 4 0 0 := rw_of (by decide +kernel)
theorem r3_22 : Rw 3 22 25 3 80 5 0 69 := rw_of (by decide +kernel)
theorem r3_25 : Rw 3 25 27 2 2 (cd 102) 230 0 := rw_of (by decide +kernel)
theorem r3_27 : Rw 3 27 28 1 14 0 0 0 := rw_of (by decide +kernel)
theorem r3_28 : Rw 3 28 31 3 80 0 5 15 := rw_of (by decide +kernel)
theorem bf_607_5 {M : Mm} (h : Pw M) : 0 ≤ M 607 5 ∧ M 607 5 ≤ 12 := (h 607 5 (by decide) (by decide) (by decide) (by decide +kernel)).get0 g_607_5 rfl rfl rfl rfl
theorem r3_31 : Rw 3 31 32 1 30 0 0 0 := rw_of (by decide +kernel)
theorem r3_32 : Rw 3 32 33 1 10 2 0 0 := rw_of (by decide +kernel)
theorem r3_33 : Rw 3 33 34 1 30 0 0 0 := rw_of (by decide +kernel)
theorem r3_34 : Rw 3 34 35 1 87 0 0 0 := rw_of (by decide +kernel)
theorem r3_35 : Rw 3 35 37 2 21 6 0 0 := rw_of (by decide +kernel)
theorem r3_37 : Rw 3 37 39 2 15 4 0 0 := rw_of (by decide +kernel)
theorem r3_39 : Rw 3 39 40 1 14 0 0 0 := rw_of (by decide +kernel)
theorem r3_40 : Rw 3 40 43 3 80 0 1 29 := rw_of (by decide +kernel)
theorem fd_607_1 : Fdl 607 0 1 1 2 := fd_of (by decide) rfl (by decide +kernel)
theorem bf_607_1 {M : Mm} (h : Pw M) : 168 ≤ M 607 1 ∧ M 607 1 ≤ 168 := (h 607 1 (by decide) (by decide) (by decide) (by decide +kernel)).get0 g_607_1 rfl rfl rfl rfl
theorem br_607_1 {M : Mm} (h : Pw M) : M 607 1 = 168 := by have := bf_607_1 h; omega
theorem r3_43 : Rw 3 43 44 1 14 0 0 0 := rw_of (by decide +kernel)
theorem r3_44 : Rw 3 44 47 3 80 0 2 25 := rw_of (by decide +kernel)
theorem r3_47 : Rw 3 47 48 1 10 1 0 0 := rw_of (by decide +kernel)
theorem r3_48 : Rw 3 48 49 1 83 0 0 0 := rw_of (by decide +kernel)
theorem r3_49 : Rw 3 49 51 2 2 (cd 30) 158 0 := rw_of (by decide +kernel)
theorem r3_51 : Rw 3 51 52 1 26 0 0 0 := rw_of (by decide +kernel)
theorem r3_52 : Rw 3 52 53 1 86 0 0 0 := rw_of (by decide +kernel)
theorem ar_168 : Ar 168 103 30 := ar_of (by decide) (by decide) (by decide +kernel)
theorem ba_168 {M : Mm} (h : Pw M) {i : Int} (h0 : 0 ≤ i) (h1 : i < 30) : M 168 i = 679 + 2 * i := by
  have := (h 168 i (by decide) (by decide) h0 (by rw [ar_168.2.2.2.1]; exact h1)).get (l := 679) (u := 679) (c := 2) (s := 0) (gr_168 (by decide) (by decide) i) rfl rfl rfl rfl
  omega
theorem r3_53 : Rw 3 53 55 2 15 6 0 0 := rw_of (by decide +kernel)
theorem r3_55 : Rw 3 55 58 3 100 196 3 74 := rw_of (by decide +kernel)
theorem r196_0 : Rw 196 0 1 1 1 (cd 0) 1 0 := rw_of (by decide +kernel)
theorem r196_1 : Rw 196 1 2 1 16 3 0 0 := rw_of (by decide +kernel)
theorem r196_2 : Rw 196 2 3 1 10 3 0 0 := rw_of (by decide +kernel)
theorem r196_3 : Rw 196 3 4 1 14 0 0 0 := rw_of (by decide +kernel)
theorem r196_4 : Rw 196 4 7 3 80 5 10 39 := rw_of (by decide +kernel)
theorem r196_7 : Rw 196 7 10 3 70 25 0 0 := rw_of (by decide +kernel)
theorem r196_25 : Rw 196 25 26 1 77 0 0 0 := rw_of (by decide +kernel)
theorem r196_10 : Rw 196 10 11 1 14 2 0 0 := rw_of (by decide +kernel)
theorem r196_11 : Rw 196 11 12 1 10 3 0 0 := rw_of (by decide +kernel)
theorem r196_12 : Rw 196 12 13 1 14 0 0 0 := rw_of (by decide +kernel)
theorem r196_13 : Rw 196 13 14 1 14 1 0 0 := rw_of (by decide +kernel)
theorem r196_14 : Rw 196 14 15 1 10 3 0 0 := rw_of (by decide +kernel)
theorem r196_15 : Rw 196 15 18 3 100 207 3 147 := rw_of (by decide +kernel)
theorem r207_0 : Rw 207 0 1 1 1 (cd 0) 1 0 := rw_of (by decide +kernel)
theorem r207_1 : Rw 207 1 2 1 16 3 0 0 := rw_of (by decide +kernel)
theorem r207_2 : Rw 207 2 3 1 1 (cd 0) 1 0 := rw_of (by decide +kernel)
theorem r207_3 : Rw 207 3 5 2 17 4 0 0 := rw_of (by decide +kernel)
theorem r207_5 : Rw 207 5 7 2 11 4 0 0 := rw_of (by decide +kernel)
theorem r207_7 : Rw 207 7 8 1 14 1 0 0 := rw_of (by decide +kernel)
theorem r207_8 : Rw 207 8 11 3 80 1 1 126 := rw_of (by decide +kernel)
theorem fdCb_1 : (List.range 30).all (fun j => fdb (679 + 2 * j) 1 1 0) = true := by decide +kernel
theorem fdC_1 {a : Int} (h : isC a) : Fdl a 1 1 1 0 := by
  rcases h with rfl | h
  · exact fd_of (by decide) rfl (by decide +kernel)
  · refine fd_of (by omega) rfl ?_
    have h2 := List.all_eq_true.mp fdCb_1 ((a.toNat - 679) / 2) (List.mem_range.mpr (by omega))
    rw [show 679 + 2 * ((a.toNat - 679) / 2) = a.toNat by omega] at h2
    exact h2
theorem fdCb_0 : (List.range 30).all (fun j => fdb (679 + 2 * j) 1 0 2) = true := by decide +kernel
theorem fdC_0 {a : Int} (h : isC a) : Fdl a 1 0 0 2 := by
  rcases h with rfl | h
  · exact fd_of (by decide) rfl (by decide +kernel)
  · refine fd_of (by omega) rfl ?_
    have h2 := List.all_eq_true.mp fdCb_0 ((a.toNat - 679) / 2) (List.mem_range.mpr (by omega))
    rw [show 679 + 2 * ((a.toNat - 679) / 2) = a.toNat by omega] at h2
    exact h2
theorem lnCb : (List.range 30).all (fun j => Nat.beq (ln (679 + 2 * j)) 4) = true := by decide +kernel
theorem lnC {a : Int} (h : isC a) : (ln a.toNat : Int) = 4 := by
  rcases h with rfl | h
  · decide +kernel
  · have h2 := List.all_eq_true.mp lnCb ((a.toNat - 679) / 2) (List.mem_range.mpr (by omega))
    rw [show 679 + 2 * ((a.toNat - 679) / 2) = a.toNat by omega] at h2
    rw [Nat.eq_of_beq_eq_true h2]
    rfl
theorem isC_rg {a : Int} (h : isC a) : 0 ≤ a ∧ a < 769 := by
  unfold isC at h
  omega
theorem bC_1 {M : Mm} (h : Pw M) {a : Int} (ha : isC a) : 0 ≤ M a 1 ∧ M a 1 ≤ 256 := (h a 1 (isC_rg ha).1 (by have := isC_rg ha; omega) (by decide) (by rw [lnC ha]; decide)).get0 (g_c1 ha) rfl rfl rfl rfl
theorem r207_11 : Rw 207 11 14 3 70 255 0 0 := rw_of (by decide +kernel)
theorem r207_255 : Rw 207 255 256 1 14 0 0 0 := rw_of (by decide +kernel)
theorem r207_256 : Rw 207 256 259 3 80 5 4 15 := rw_of (by decide +kernel)
theorem fd_176_4 : Fdl 176 5 4 4 2 := fd_of (by decide) rfl (by decide +kernel)
theorem bf_176_4 {M : Mm} (h : Pw M) : 178 ≤ M 176 4 ∧ M 176 4 ≤ 178 := (h 176 4 (by decide) (by decide) (by decide) (by decide +kernel)).get0 g_176_4 rfl rfl rfl rfl
theorem br_176_4 {M : Mm} (h : Pw M) : M 176 4 = 178 := by have := bf_176_4 h; omega
theorem r207_259 : Rw 207 259 260 1 1 (cd 0) 1 0 := rw_of (by decide +kernel)
theorem r207_260 : Rw 207 260 261 1 84 0 0 0 := rw_of (by decide +kernel)
theorem ar_178 : Ar 178 102 32 := ar_of (by decide) (by decide) (by decide +kernel)
theorem ba_178 {M : Mm} (h : Pw M) {i : Int} (h0 : 0 ≤ i) (h1 : i < 32) : 0 ≤ M 178 i ∧ M 178 i ≤ 18446744073709551615 := (h 178 i (by decide) (by decide) h0 (by rw [ar_178.2.2.2.1]; exact h1)).get0 (gr_178 (by decide) (by decide) i) rfl rfl rfl rfl
theorem ga_178 (i : Int) : grp 178 i = 116 := gr_178 (by decide) (by decide) i
theorem r207_261 : Rw 207 261 262 1 75 0 0 0 := rw_of (by decide +kernel)
theorem r207_14 : Rw 207 14 15 1 10 3 0 0 := rw_of (by decide +kernel)
theorem r207_15 : Rw 207 15 16 1 1 (cd 1) 2 0 := rw_of (by decide +kernel)
theorem r207_16 : Rw 207 16 17 1 30 0 0 0 := rw_of (by decide +kernel)
theorem r207_17 : Rw 207 17 19 2 2 (cd 32) 160 0 := rw_of (by decide +kernel)
theorem r207_19 : Rw 207 19 22 3 70 255 0 0 := rw_of (by decide +kernel)
theorem r207_22 : Rw 207 22 23 1 14 1 0 0 := rw_of (by decide +kernel)
theorem r207_23 : Rw 207 23 26 3 80 1 0 131 := rw_of (by decide +kernel)
theorem bC_0 {M : Mm} (h : Pw M) {a : Int} (ha : isC a) : M a 0 = a + 1 := by
  have := (h a 0 (isC_rg ha).1 (by have := isC_rg ha; omega) (by decide) (by rw [lnC ha]; decide)).get (l := 1) (u := 1) (c := 0) (s := 1) (g_c0 ha) rfl rfl rfl rfl
  omega
theorem r207_26 : Rw 207 26 28 2 11 4 0 0 := rw_of (by decide +kernel)
theorem r207_28 : Rw 207 28 29 1 83 0 0 0 := rw_of (by decide +kernel)
theorem arCb : (List.range 30).all (fun j => arb (680 + 2 * j) 100 256) = true := by decide +kernel
theorem arC {a : Int} (h : isC a) : Ar (a + 1) 100 256 := by
  rcases h with rfl | h
  · exact ar_of (by decide) (by decide) (by decide +kernel)
  · refine ar_of (by omega) (by decide) ?_
    have h2 := List.all_eq_true.mp arCb ((a.toNat - 679) / 2) (List.mem_range.mpr (by omega))
    rw [show 680 + 2 * ((a.toNat - 679) / 2) = (a + 1).toNat by omega] at h2
    exact h2
theorem baC {M : Mm} (h : Pw M) {a i : Int} (ha : isC a) (h0 : 0 ≤ i) (h1 : i < 256) : 0 ≤ M (a + 1) i ∧ M (a + 1) i ≤ 10239 := (h (a + 1) i (by have := isC_rg ha; omega) (by have := isC_rg ha; omega) h0 (by rw [(arC ha).2.2.2.1]; exact h1)).get0 (g_cs ha i) rfl rfl rfl rfl
theorem exC {M : Mm} (h : Pw M) {a i : Int} (ha : isC a) (h0 : 0 ≤ i) (h1 : i < 256) : stepok (M (a + 1) i) := ((h (a + 1) i (by have := isC_rg ha; omega) (by have := isC_rg ha; omega) h0 (by rw [(arC ha).2.2.2.1]; exact h1)).ex (g_cs ha i)).1 rfl
theorem r207_29 : Rw 207 29 30 1 1 (cd 3) 4 0 := rw_of (by decide +kernel)
theorem r207_30 : Rw 207 30 31 1 37 0 0 0 := rw_of (by decide +kernel)
theorem pwl_3 : pw 3 = 8 := by decide
theorem r207_31 : Rw 207 31 33 2 17 5 0 0 := rw_of (by decide +kernel)
theorem r207_33 : Rw 207 33 34 1 14 1 0 0 := rw_of (by decide +kernel)
theorem r207_34 : Rw 207 34 37 3 80 1 0 131 := rw_of (by decide +kernel)
theorem r207_37 : Rw 207 37 39 2 11 4 0 0 := rw_of (by decide +kernel)
theorem r207_39 : Rw 207 39 40 1 83 0 0 0 := rw_of (by decide +kernel)
theorem r207_40 : Rw 207 40 42 2 2 (cd 7) 135 0 := rw_of (by decide +kernel)
theorem r207_42 : Rw 207 42 43 1 33 0 0 0 := rw_of (by decide +kernel)
theorem r207_43 : Rw 207 43 45 2 17 6 0 0 := rw_of (by decide +kernel)
theorem r207_45 : Rw 207 45 47 2 11 6 0 0 := rw_of (by decide +kernel)
theorem r207_47 : Rw 207 47 48 1 1 (cd 2) 3 0 := rw_of (by decide +kernel)
theorem r207_48 : Rw 207 48 51 3 67 57 0 0 := rw_of (by decide +kernel)
theorem r207_57 : Rw 207 57 58 1 1 (cd 1) 2 0 := rw_of (by decide +kernel)
theorem r207_58 : Rw 207 58 61 3 60 62 0 0 := rw_of (by decide +kernel)
theorem r207_62 : Rw 207 62 64 2 17 7 0 0 := rw_of (by decide +kernel)
theorem r207_64 : Rw 207 64 66 2 11 6 0 0 := rw_of (by decide +kernel)
theorem r207_66 : Rw 207 66 69 3 61 82 0 0 := rw_of (by decide +kernel)
theorem r207_69 : Rw 207 69 71 2 11 6 0 0 := rw_of (by decide +kernel)
theorem r207_71 : Rw 207 71 72 1 1 (cd 5) 6 0 := rw_of (by decide +kernel)
theorem r207_72 : Rw 207 72 75 3 67 82 0 0 := rw_of (by decide +kernel)
theorem r207_75 : Rw 207 75 77 2 11 6 0 0 := rw_of (by decide +kernel)
theorem r207_77 : Rw 207 77 79 2 2 (cd 6) 134 0 := rw_of (by decide +kernel)
theorem r207_79 : Rw 207 79 82 3 68 134 0 0 := rw_of (by decide +kernel)
theorem r207_134 : Rw 207 134 136 2 11 7 0 0 := rw_of (by decide +kernel)
theorem r207_136 : Rw 207 136 139 3 61 197 0 0 := rw_of (by decide +kernel)
theorem r207_197 : Rw 207 197 199 2 11 7 0 0 := rw_of (by decide +kernel)
theorem r207_199 : Rw 207 199 202 3 62 249 0 0 := rw_of (by decide +kernel)
theorem r207_249 : Rw 207 249 252 3 22 4 (cd 1) 32769 := rw_of (by decide +kernel)
theorem r207_252 : Rw 207 252 255 3 60 5 0 0 := rw_of (by decide +kernel)
theorem r207_202 : Rw 207 202 203 1 10 3 0 0 := rw_of (by decide +kernel)
theorem r207_203 : Rw 207 203 206 3 66 249 0 0 := rw_of (by decide +kernel)
theorem r207_139 : Rw 207 139 140 1 10 3 0 0 := rw_of (by decide +kernel)
theorem r207_140 : Rw 207 140 141 1 1 (cd 1) 2 0 := rw_of (by decide +kernel)
theorem r207_141 : Rw 207 141 144 3 72 197 0 0 := rw_of (by decide +kernel)
theorem r207_51 : Rw 207 51 53 2 11 6 0 0 := rw_of (by decide +kernel)
theorem r207_53 : Rw 207 53 54 1 1 (cd 3) 4 0 := rw_of (by decide +kernel)
theorem r207_54 : Rw 207 54 57 3 68 61 0 0 := rw_of (by decide +kernel)
theorem r207_61 : Rw 207 61 62 1 1 (cd 0) 1 0 := rw_of (by decide +kernel)
theorem r207_82 : Rw 207 82 83 1 14 0 0 0 := rw_of (by decide +kernel)
theorem r207_83 : Rw 207 83 86 3 80 5 4 15 := rw_of (by decide +kernel)
theorem r207_86 : Rw 207 86 87 1 10 3 0 0 := rw_of (by decide +kernel)
theorem r207_87 : Rw 207 87 89 2 11 6 0 0 := rw_of (by decide +kernel)
theorem r207_89 : Rw 207 89 92 3 62 104 0 0 := rw_of (by decide +kernel)
theorem r207_92 : Rw 207 92 93 1 14 0 0 0 := rw_of (by decide +kernel)
theorem r207_93 : Rw 207 93 96 3 80 5 0 44 := rw_of (by decide +kernel)
theorem r207_96 : Rw 207 96 98 2 11 5 0 0 := rw_of (by decide +kernel)
theorem r207_98 : Rw 207 98 99 1 87 0 0 0 := rw_of (by decide +kernel)
theorem r207_99 : Rw 207 99 100 1 10 2 0 0 := rw_of (by decide +kernel)
theorem r207_100 : Rw 207 100 101 1 84 0 0 0 := rw_of (by decide +kernel)
theorem r207_101 : Rw 207 101 104 3 60 127 0 0 := rw_of (by decide +kernel)
theorem r207_127 : Rw 207 127 128 1 89 0 0 0 := rw_of (by decide +kernel)
theorem ua_178 {i z : Int} (hz : 0 ≤ z ∧ z ≤ 18446744073709551615) : Bd 178 i z := Bd.of0 (gr_178 (by decide) (by decide) i) rfl rfl rfl rfl rfl hz
theorem r207_128 : Rw 207 128 131 3 22 3 (cd 1) 32769 := rw_of (by decide +kernel)
theorem r207_131 : Rw 207 131 134 3 60 249 0 0 := rw_of (by decide +kernel)
theorem r207_104 : Rw 207 104 106 2 11 6 0 0 := rw_of (by decide +kernel)
theorem r207_106 : Rw 207 106 107 1 1 (cd 5) 6 0 := rw_of (by decide +kernel)
theorem r207_107 : Rw 207 107 110 3 68 120 0 0 := rw_of (by decide +kernel)
theorem r207_110 : Rw 207 110 111 1 14 0 0 0 := rw_of (by decide +kernel)
theorem r207_111 : Rw 207 111 113 2 11 5 0 0 := rw_of (by decide +kernel)
theorem r207_113 : Rw 207 113 114 1 10 2 0 0 := rw_of (by decide +kernel)
theorem r207_114 : Rw 207 114 117 3 100 185 3 134 := rw_of (by decide +kernel)
theorem r185_0 : Rw 185 0 1 1 1 (cd 0) 1 0 := rw_of (by decide +kernel)
theorem r185_1 : Rw 185 1 2 1 10 1 0 0 := rw_of (by decide +kernel)
theorem r185_2 : Rw 185 2 3 1 1 (cd 3) 4 0 := rw_of (by decide +kernel)
theorem r185_3 : Rw 185 3 4 1 37 0 0 0 := rw_of (by decide +kernel)
theorem r185_4 : Rw 185 4 5 1 1 (cd 5) 6 0 := rw_of (by decide +kernel)
theorem r185_5 : Rw 185 5 6 1 32 0 0 0 := rw_of (by decide +kernel)
theorem r185_6 : Rw 185 6 7 1 30 0 0 0 := rw_of (by decide +kernel)
theorem r185_7 : Rw 185 7 8 1 16 3 0 0 := rw_of (by decide +kernel)
theorem r185_8 : Rw 185 8 9 1 1 (cd 0) 1 0 := rw_of (by decide +kernel)
theorem r185_9 : Rw 185 9 10 1 10 1 0 0 := rw_of (by decide +kernel)
theorem r185_10 : Rw 185 10 12 2 2 (cd 7) 135 0 := rw_of (by decide +kernel)
theorem r185_12 : Rw 185 12 13 1 33 0 0 0 := rw_of (by decide +kernel)
theorem r185_13 : Rw 185 13 14 1 1 (cd 5) 6 0 := rw_of (by decide +kernel)
theorem r185_14 : Rw 185 14 15 1 32 0 0 0 := rw_of (by decide +kernel)
theorem r185_15 : Rw 185 15 16 1 30 0 0 0 := rw_of (by decide +kernel)
theorem r185_16 : Rw 185 16 18 2 17 4 0 0 := rw_of (by decide +kernel)
theorem r185_18 : Rw 185 18 19 1 6 0 0 0 := rw_of (by decide +kernel)
theorem r185_19 : Rw 185 19 21 2 19 5 0 0 := rw_of (by decide +kernel)
theorem r185_21 : Rw 185 21 22 1 1 (cd 0) 1 0 := rw_of (by decide +kernel)
theorem r185_22 : Rw 185 22 24 2 17 7 0 0 := rw_of (by decide +kernel)
theorem r185_24 : Rw 185 24 26 2 11 7 0 0 := rw_of (by decide +kernel)
theorem r185_26 : Rw 185 26 27 1 1 (cd 5) 6 0 := rw_of (by decide +kernel)
theorem r185_27 : Rw 185 27 30 3 70 65 0 0 := rw_of (by decide +kernel)
theorem r185_30 : Rw 185 30 32 2 13 5 0 0 := rw_of (by decide +kernel)
theorem r185_32 : Rw 185 32 33 1 14 0 0 0 := rw_of (by decide +kernel)
theorem r185_33 : Rw 185 33 36 3 80 5 0 44 := rw_of (by decide +kernel)
theorem r185_36 : Rw 185 36 37 1 10 3 0 0 := rw_of (by decide +kernel)
theorem r185_37 : Rw 185 37 39 2 11 7 0 0 := rw_of (by decide +kernel)
theorem r185_39 : Rw 185 39 40 1 30 0 0 0 := rw_of (by decide +kernel)
theorem r185_40 : Rw 185 40 41 1 87 0 0 0 := rw_of (by decide +kernel)
theorem r185_41 : Rw 185 41 42 1 10 2 0 0 := rw_of (by decide +kernel)
theorem r185_42 : Rw 185 42 43 1 84 0 0 0 := rw_of (by decide +kernel)
theorem r185_43 : Rw 185 43 44 1 14 0 0 0 := rw_of (by decide +kernel)
theorem r185_44 : Rw 185 44 47 3 80 5 0 44 := rw_of (by decide +kernel)
theorem r185_47 : Rw 185 47 49 2 11 4 0 0 := rw_of (by decide +kernel)
theorem r185_49 : Rw 185 49 51 2 11 7 0 0 := rw_of (by decide +kernel)
theorem r185_51 : Rw 185 51 52 1 30 0 0 0 := rw_of (by decide +kernel)
theorem r185_52 : Rw 185 52 53 1 87 0 0 0 := rw_of (by decide +kernel)
theorem r185_53 : Rw 185 53 54 1 10 2 0 0 := rw_of (by decide +kernel)
theorem r185_54 : Rw 185 54 55 1 84 0 0 0 := rw_of (by decide +kernel)
theorem r185_55 : Rw 185 55 56 1 43 0 0 0 := rw_of (by decide +kernel)
theorem r185_56 : Rw 185 56 57 1 44 0 0 0 := rw_of (by decide +kernel)
theorem r185_57 : Rw 185 57 59 2 19 5 0 0 := rw_of (by decide +kernel)
theorem r185_59 : Rw 185 59 62 3 22 7 (cd 1) 32769 := rw_of (by decide +kernel)
theorem r185_62 : Rw 185 62 65 3 60 24 0 0 := rw_of (by decide +kernel)
theorem r185_65 : Rw 185 65 67 2 13 5 0 0 := rw_of (by decide +kernel)
theorem r185_67 : Rw 185 67 68 1 75 0 0 0 := rw_of (by decide +kernel)
theorem kc_176_185 : Kc 176 185 := kc_of (by decide) (by decide +kernel)
theorem r207_117 : Rw 207 117 120 3 60 127 0 0 := rw_of (by decide +kernel)
theorem r207_120 : Rw 207 120 121 1 14 0 0 0 := rw_of (by decide +kernel)
theorem r207_121 : Rw 207 121 123 2 11 5 0 0 := rw_of (by decide +kernel)
theorem r207_123 : Rw 207 123 124 1 10 2 0 0 := rw_of (by decide +kernel)
theorem r207_124 : Rw 207 124 127 3 100 198 3 138 := rw_of (by decide +kernel)
theorem r198_0 : Rw 198 0 2 2 2 (cd 48) 176 0 := rw_of (by decide +kernel)
theorem r198_2 : Rw 198 2 3 1 10 1 0 0 := rw_of (by decide +kernel)
theorem r198_3 : Rw 198 3 5 2 2 (cd 8) 136 0 := rw_of (by decide +kernel)
theorem r198_5 : Rw 198 5 6 1 37 0 0 0 := rw_of (by decide +kernel)
theorem pwl_8 : pw 8 = 256 := by decide
theorem r198_6 : Rw 198 6 8 2 2 (cd 8) 136 0 := rw_of (by decide +kernel)
theorem r198_8 : Rw 198 8 9 1 32 0 0 0 := rw_of (by decide +kernel)
theorem r198_9 : Rw 198 9 10 1 30 0 0 0 := rw_of (by decide +kernel)
theorem r198_10 : Rw 198 10 11 1 16 3 0 0 := rw_of (by decide +kernel)
theorem r198_11 : Rw 198 11 12 1 6 0 0 0 := rw_of (by decide +kernel)
theorem r198_12 : Rw 198 12 14 2 19 4 0 0 := rw_of (by decide +kernel)
theorem r198_14 : Rw 198 14 15 1 1 (cd 0) 1 0 := rw_of (by decide +kernel)
theorem r198_15 : Rw 198 15 17 2 17 6 0 0 := rw_of (by decide +kernel)
theorem r198_17 : Rw 198 17 19 2 11 6 0 0 := rw_of (by decide +kernel)
theorem r198_19 : Rw 198 19 21 2 2 (cd 7) 135 0 := rw_of (by decide +kernel)
theorem r198_21 : Rw 198 21 24 3 71 56 0 0 := rw_of (by decide +kernel)
theorem r198_24 : Rw 198 24 25 1 10 1 0 0 := rw_of (by decide +kernel)
theorem r198_25 : Rw 198 25 27 2 11 6 0 0 := rw_of (by decide +kernel)
theorem r198_27 : Rw 198 27 28 1 37 0 0 0 := rw_of (by decide +kernel)
theorem r198_28 : Rw 198 28 29 1 1 (cd 1) 2 0 := rw_of (by decide +kernel)
theorem r198_29 : Rw 198 29 30 1 33 0 0 0 := rw_of (by decide +kernel)
theorem r198_30 : Rw 198 30 31 1 1 (cd 1) 2 0 := rw_of (by decide +kernel)
theorem r198_31 : Rw 198 31 34 3 68 50 0 0 := rw_of (by decide +kernel)
theorem r198_50 : Rw 198 50 53 3 22 6 (cd 1) 32769 := rw_of (by decide +kernel)
theorem r198_53 : Rw 198 53 56 3 60 17 0 0 := rw_of (by decide +kernel)
theorem r198_34 : Rw 198 34 36 2 13 4 0 0 := rw_of (by decide +kernel)
theorem r198_36 : Rw 198 36 37 1 14 0 0 0 := rw_of (by decide +kernel)
theorem r198_37 : Rw 198 37 40 3 80 5 0 44 := rw_of (by decide +kernel)
theorem r198_40 : Rw 198 40 41 1 10 3 0 0 := rw_of (by decide +kernel)
theorem r198_41 : Rw 198 41 43 2 11 6 0 0 := rw_of (by decide +kernel)
theorem r198_43 : Rw 198 43 44 1 30 0 0 0 := rw_of (by decide +kernel)
theorem r198_44 : Rw 198 44 45 1 87 0 0 0 := rw_of (by decide +kernel)
theorem r198_45 : Rw 198 45 46 1 10 2 0 0 := rw_of (by decide +kernel)
theorem r198_46 : Rw 198 46 47 1 84 0 0 0 := rw_of (by decide +kernel)
theorem r198_47 : Rw 198 47 48 1 44 0 0 0 := rw_of (by decide +kernel)
theorem r198_48 : Rw 198 48 50 2 19 4 0 0 := rw_of (by decide +kernel)
theorem r198_56 : Rw 198 56 58 2 13 4 0 0 := rw_of (by decide +kernel)
theorem r198_58 : Rw 198 58 59 1 75 0 0 0 := rw_of (by decide +kernel)
theorem kc_176_198 : Kc 176 198 := kc_of (by decide) (by decide +kernel)
theorem r207_206 : Rw 207 206 207 1 14 0 0 0 := rw_of (by decide +kernel)
theorem r207_207 : Rw 207 207 210 3 80 5 4 15 := rw_of (by decide +kernel)
theorem r207_210 : Rw 207 210 211 1 10 3 0 0 := rw_of (by decide +kernel)
theorem r207_211 : Rw 207 211 212 1 1 (cd 1) 2 0 := rw_of (by decide +kernel)
theorem r207_212 : Rw 207 212 213 1 31 0 0 0 := rw_of (by decide +kernel)
theorem r207_213 : Rw 207 213 214 1 84 0 0 0 := rw_of (by decide +kernel)
theorem r207_214 : Rw 207 214 216 2 19 8 0 0 := rw_of (by decide +kernel)
theorem r207_216 : Rw 207 216 217 1 14 0 0 0 := rw_of (by decide +kernel)
theorem r207_217 : Rw 207 217 220 3 80 5 4 15 := rw_of (by decide +kernel)
theorem r207_220 : Rw 207 220 221 1 10 3 0 0 := rw_of (by decide +kernel)
theorem r207_221 : Rw 207 221 222 1 1 (cd 1) 2 0 := rw_of (by decide +kernel)
theorem r207_222 : Rw 207 222 223 1 31 0 0 0 := rw_of (by decide +kernel)
theorem r207_223 : Rw 207 223 225 2 11 6 0 0 := rw_of (by decide +kernel)
theorem r207_225 : Rw 207 225 226 1 1 (cd 1) 2 0 := rw_of (by decide +kernel)
theorem r207_226 : Rw 207 226 229 3 68 238 0 0 := rw_of (by decide +kernel)
theorem r207_238 : Rw 207 238 239 1 14 0 0 0 := rw_of (by decide +kernel)
theorem r207_239 : Rw 207 239 241 2 11 5 0 0 := rw_of (by decide +kernel)
theorem r207_241 : Rw 207 241 242 1 1 (cd (-1)) 0 0 := rw_of (by decide +kernel)
theorem r207_242 : Rw 207 242 244 2 13 8 0 0 := rw_of (by decide +kernel)
theorem r207_244 : Rw 207 244 245 1 10 2 0 0 := rw_of (by decide +kernel)
theorem r207_245 : Rw 207 245 248 3 100 189 5 143 := rw_of (by decide +kernel)
theorem r189_0 : Rw 189 0 1 1 14 0 0 0 := rw_of (by decide +kernel)
theorem r189_1 : Rw 189 1 2 1 10 1 0 0 := rw_of (by decide +kernel)
theorem r189_2 : Rw 189 2 5 3 100 190 2 151 := rw_of (by decide +kernel)
theorem r190_0 : Rw 190 0 1 1 14 0 0 0 := rw_of (by decide +kernel)
theorem r190_1 : Rw 190 1 4 3 80 5 0 44 := rw_of (by decide +kernel)
theorem r190_4 : Rw 190 4 5 1 1 (cd 0) 1 0 := rw_of (by decide +kernel)
theorem r190_5 : Rw 190 5 6 1 10 1 0 0 := rw_of (by decide +kernel)
theorem r190_6 : Rw 190 6 7 1 1 (cd 5) 6 0 := rw_of (by decide +kernel)
theorem r190_7 : Rw 190 7 8 1 32 0 0 0 := rw_of (by decide +kernel)
theorem r190_8 : Rw 190 8 9 1 30 0 0 0 := rw_of (by decide +kernel)
theorem r190_9 : Rw 190 9 10 1 1 (cd 4) 5 0 := rw_of (by decide +kernel)
theorem r190_10 : Rw 190 10 11 1 30 0 0 0 := rw_of (by decide +kernel)
theorem r190_11 : Rw 190 11 12 1 87 0 0 0 := rw_of (by decide +kernel)
theorem r190_12 : Rw 190 12 13 1 76 0 0 0 := rw_of (by decide +kernel)
theorem kc_176_190 : Kc 176 190 := kc_of (by decide) (by decide +kernel)
theorem r189_5 : Rw 189 5 7 2 11 5 0 0 := rw_of (by decide +kernel)
theorem r189_7 : Rw 189 7 8 1 84 0 0 0 := rw_of (by decide +kernel)
theorem r189_8 : Rw 189 8 9 1 14 0 0 0 := rw_of (by decide +kernel)
theorem r189_9 : Rw 189 9 10 1 10 2 0 0 := rw_of (by decide +kernel)
theorem r189_10 : Rw 189 10 13 3 100 208 2 155 := rw_of (by decide +kernel)
theorem r208_0 : Rw 208 0 1 1 14 0 0 0 := rw_of (by decide +kernel)
theorem r208_1 : Rw 208 1 4 3 80 5 0 44 := rw_of (by decide +kernel)
theorem r208_4 : Rw 208 4 5 1 10 1 0 0 := rw_of (by decide +kernel)
theorem r208_5 : Rw 208 5 6 1 1 (cd (-1)) 0 0 := rw_of (by decide +kernel)
theorem r208_6 : Rw 208 6 9 3 68 14 0 0 := rw_of (by decide +kernel)
theorem r208_9 : Rw 208 9 11 2 2 (cd 118) 246 0 := rw_of (by decide +kernel)
theorem r208_11 : Rw 208 11 14 3 60 18 0 0 := rw_of (by decide +kernel)
theorem r208_18 : Rw 208 18 19 1 87 0 0 0 := rw_of (by decide +kernel)
theorem r208_19 : Rw 208 19 20 1 76 0 0 0 := rw_of (by decide +kernel)
theorem kc_176_208 : Kc 176 208 := kc_of (by decide) (by decide +kernel)
theorem r189_13 : Rw 189 13 15 2 11 5 0 0 := rw_of (by decide +kernel)
theorem r189_15 : Rw 189 15 16 1 84 0 0 0 := rw_of (by decide +kernel)
theorem r189_16 : Rw 189 16 17 1 12 3 0 0 := rw_of (by decide +kernel)
theorem r189_17 : Rw 189 17 18 1 45 0 0 0 := rw_of (by decide +kernel)
theorem r189_18 : Rw 189 18 19 1 14 0 0 0 := rw_of (by decide +kernel)
theorem r189_19 : Rw 189 19 20 1 10 1 0 0 := rw_of (by decide +kernel)
theorem r189_20 : Rw 189 20 23 3 100 193 2 158 := rw_of (by decide +kernel)
theorem r193_0 : Rw 193 0 1 1 14 0 0 0 := rw_of (by decide +kernel)
theorem r193_1 : Rw 193 1 4 3 80 5 0 44 := rw_of (by decide +kernel)
theorem r193_4 : Rw 193 4 6 2 2 (cd 88) 216 0 := rw_of (by decide +kernel)
theorem r193_6 : Rw 193 6 7 1 1 (cd 2) 3 0 := rw_of (by decide +kernel)
theorem r193_7 : Rw 193 7 8 1 10 1 0 0 := rw_of (by decide +kernel)
theorem r193_8 : Rw 193 8 9 1 32 0 0 0 := rw_of (by decide +kernel)
theorem r193_9 : Rw 193 9 10 1 30 0 0 0 := rw_of (by decide +kernel)
theorem r193_10 : Rw 193 10 11 1 14 0 0 0 := rw_of (by decide +kernel)
theorem r193_11 : Rw 193 11 14 3 80 5 3 9 := rw_of (by decide +kernel)
theorem r193_14 : Rw 193 14 15 1 10 1 0 0 := rw_of (by decide +kernel)
theorem r193_15 : Rw 193 15 16 1 83 0 0 0 := rw_of (by decide +kernel)
theorem r193_16 : Rw 193 16 17 1 30 0 0 0 := rw_of (by decide +kernel)
theorem r193_17 : Rw 193 17 18 1 87 0 0 0 := rw_of (by decide +kernel)
theorem r193_18 : Rw 193 18 19 1 76 0 0 0 := rw_of (by decide +kernel)
theorem kc_176_193 : Kc 176 193 := kc_of (by decide) (by decide +kernel)
theorem r189_23 : Rw 189 23 25 2 11 5 0 0 := rw_of (by decide +kernel)
theorem r189_25 : Rw 189 25 26 1 84 0 0 0 := rw_of (by decide +kernel)
theorem r189_26 : Rw 189 26 27 1 45 0 0 0 := rw_of (by decide +kernel)
theorem r189_27 : Rw 189 27 28 1 44 0 0 0 := rw_of (by decide +kernel)
theorem r189_28 : Rw 189 28 29 1 75 0 0 0 := rw_of (by decide +kernel)
theorem kc_176_189 : Kc 176 189 := kc_of (by decide) (by decide +kernel)
theorem r207_248 : Rw 207 248 249 1 89 0 0 0 := rw_of (by decide +kernel)
theorem r207_229 : Rw 207 229 231 2 13 8 0 0 := rw_of (by decide +kernel)
theorem r207_231 : Rw 207 231 234 3 7 18446744073709551615 141 0 := rw_of (by decide +kernel)
theorem r207_234 : Rw 207 234 235 1 45 0 0 0 := rw_of (by decide +kernel)
theorem r207_235 : Rw 207 235 238 3 60 248 0 0 := rw_of (by decide +kernel)
theorem r207_144 : Rw 207 144 147 3 22 3 (cd (-1)) 32767 := rw_of (by decide +kernel)
theorem r207_147 : Rw 207 147 148 1 14 0 0 0 := rw_of (by decide +kernel)
theorem r207_148 : Rw 207 148 151 3 80 5 4 15 := rw_of (by decide +kernel)
theorem r207_151 : Rw 207 151 152 1 10 3 0 0 := rw_of (by decide +kernel)
theorem r207_152 : Rw 207 152 153 1 84 0 0 0 := rw_of (by decide +kernel)
theorem r207_153 : Rw 207 153 155 2 19 8 0 0 := rw_of (by decide +kernel)
theorem r207_155 : Rw 207 155 156 1 14 0 0 0 := rw_of (by decide +kernel)
theorem r207_156 : Rw 207 156 159 3 80 5 4 15 := rw_of (by decide +kernel)
theorem r207_159 : Rw 207 159 160 1 10 3 0 0 := rw_of (by decide +kernel)
theorem r207_160 : Rw 207 160 161 1 1 (cd 1) 2 0 := rw_of (by decide +kernel)
theorem r207_161 : Rw 207 161 162 1 31 0 0 0 := rw_of (by decide +kernel)
theorem r207_162 : Rw 207 162 164 2 11 6 0 0 := rw_of (by decide +kernel)
theorem r207_164 : Rw 207 164 165 1 1 (cd 2) 3 0 := rw_of (by decide +kernel)
theorem r207_165 : Rw 207 165 168 3 68 182 0 0 := rw_of (by decide +kernel)
theorem r207_168 : Rw 207 168 169 1 14 0 0 0 := rw_of (by decide +kernel)
theorem r207_169 : Rw 207 169 172 3 80 5 4 15 := rw_of (by decide +kernel)
theorem r207_172 : Rw 207 172 173 1 10 3 0 0 := rw_of (by decide +kernel)
theorem r207_173 : Rw 207 173 174 1 1 (cd 1) 2 0 := rw_of (by decide +kernel)
theorem r207_174 : Rw 207 174 175 1 31 0 0 0 := rw_of (by decide +kernel)
theorem r207_175 : Rw 207 175 176 1 84 0 0 0 := rw_of (by decide +kernel)
theorem r207_176 : Rw 207 176 178 2 13 8 0 0 := rw_of (by decide +kernel)
theorem r207_178 : Rw 207 178 179 1 43 0 0 0 := rw_of (by decide +kernel)
theorem r207_179 : Rw 207 179 182 3 60 193 0 0 := rw_of (by decide +kernel)
theorem r207_193 : Rw 207 193 194 1 89 0 0 0 := rw_of (by decide +kernel)
theorem r207_194 : Rw 207 194 197 3 60 249 0 0 := rw_of (by decide +kernel)
theorem r207_182 : Rw 207 182 183 1 14 0 0 0 := rw_of (by decide +kernel)
theorem r207_183 : Rw 207 183 186 3 80 5 4 15 := rw_of (by decide +kernel)
theorem r207_186 : Rw 207 186 187 1 10 3 0 0 := rw_of (by decide +kernel)
theorem r207_187 : Rw 207 187 188 1 1 (cd 1) 2 0 := rw_of (by decide +kernel)
theorem r207_188 : Rw 207 188 189 1 31 0 0 0 := rw_of (by decide +kernel)
theorem r207_189 : Rw 207 189 190 1 84 0 0 0 := rw_of (by decide +kernel)
theorem r207_190 : Rw 207 190 192 2 13 8 0 0 := rw_of (by decide +kernel)
theorem r207_192 : Rw 207 192 193 1 44 0 0 0 := rw_of (by decide +kernel)
theorem kc_176_207 : Kc 176 207 := kc_of (by decide) (by decide +kernel)
theorem r196_18 : Rw 196 18 19 1 89 0 0 0 := rw_of (by decide +kernel)
theorem r196_19 : Rw 196 19 22 3 22 3 (cd 1) 32769 := rw_of (by decide +kernel)
theorem r196_22 : Rw 196 22 25 3 60 2 0 0 := rw_of (by decide +kernel)
theorem kc_176_196 : Kc 176 196 := kc_of (by decide) (by decide +kernel)
theorem r3_58 : Rw 3 58 59 1 1 (cd 1) 2 0 := rw_of (by decide +kernel)
theorem r3_59 : Rw 3 59 61 2 17 7 0 0 := rw_of (by decide +kernel)
theorem r3_61 : Rw 3 61 62 1 1 (cd 0) 1 0 := rw_of (by decide +kernel)
theorem r3_62 : Rw 3 62 64 2 17 8 0 0 := rw_of (by decide +kernel)
theorem r3_64 : Rw 3 64 66 2 11 8 0 0 := rw_of (by decide +kernel)
theorem r3_66 : Rw 3 66 67 1 1 (cd 2) 3 0 := rw_of (by decide +kernel)
theorem r3_67 : Rw 3 67 70 3 70 162 0 0 := rw_of (by decide +kernel)
theorem r3_70 : Rw 3 70 72 2 11 7 0 0 := rw_of (by decide +kernel)
theorem r3_72 : Rw 3 72 75 3 61 162 0 0 := rw_of (by decide +kernel)
theorem r3_75 : Rw 3 75 76 1 14 0 0 0 := rw_of (by decide +kernel)
theorem r3_76 : Rw 3 76 79 3 80 0 0 21 := rw_of (by decide +kernel)
theorem r3_79 : Rw 3 79 80 1 14 0 0 0 := rw_of (by decide +kernel)
theorem r3_80 : Rw 3 80 83 3 80 0 3 40 := rw_of (by decide +kernel)
theorem r3_83 : Rw 3 83 84 1 10 2 0 0 := rw_of (by decide +kernel)
theorem r3_84 : Rw 3 84 85 1 87 0 0 0 := rw_of (by decide +kernel)
theorem r3_85 : Rw 3 85 87 2 11 5 0 0 := rw_of (by decide +kernel)
theorem r3_87 : Rw 3 87 89 2 11 8 0 0 := rw_of (by decide +kernel)
theorem r3_89 : Rw 3 89 91 2 15 6 0 0 := rw_of (by decide +kernel)
theorem r3_91 : Rw 3 91 92 1 14 0 0 0 := rw_of (by decide +kernel)
theorem r3_92 : Rw 3 92 95 3 80 0 3 40 := rw_of (by decide +kernel)
theorem r3_95 : Rw 3 95 96 1 10 2 0 0 := rw_of (by decide +kernel)
theorem r3_96 : Rw 3 96 97 1 1 (cd 1) 2 0 := rw_of (by decide +kernel)
theorem r3_97 : Rw 3 97 98 1 30 0 0 0 := rw_of (by decide +kernel)
theorem r3_98 : Rw 3 98 99 1 87 0 0 0 := rw_of (by decide +kernel)
theorem r3_99 : Rw 3 99 102 3 100 148 6 78 := rw_of (by decide +kernel)
theorem r148_0 : Rw 148 0 1 1 14 0 0 0 := rw_of (by decide +kernel)
theorem r148_1 : Rw 148 1 4 3 80 2 0 20 := rw_of (by decide +kernel)
theorem r148_4 : Rw 148 4 5 1 10 2 0 0 := rw_of (by decide +kernel)
theorem r148_5 : Rw 148 5 8 3 100 190 2 92 := rw_of (by decide +kernel)
theorem r148_8 : Rw 148 8 10 2 21 6 0 0 := rw_of (by decide +kernel)
theorem r148_10 : Rw 148 10 11 1 14 0 0 0 := rw_of (by decide +kernel)
theorem r148_11 : Rw 148 11 14 3 80 2 0 20 := rw_of (by decide +kernel)
theorem r148_14 : Rw 148 14 15 1 10 2 0 0 := rw_of (by decide +kernel)
theorem r148_15 : Rw 148 15 18 3 100 193 2 96 := rw_of (by decide +kernel)
theorem r148_18 : Rw 148 18 20 2 21 7 0 0 := rw_of (by decide +kernel)
theorem r148_20 : Rw 148 20 21 1 14 0 0 0 := rw_of (by decide +kernel)
theorem r148_21 : Rw 148 21 24 3 80 2 0 20 := rw_of (by decide +kernel)
theorem r148_24 : Rw 148 24 25 1 10 3 0 0 := rw_of (by decide +kernel)
theorem r148_25 : Rw 148 25 28 3 100 208 2 99 := rw_of (by decide +kernel)
theorem r208_14 : Rw 208 14 16 2 2 (cd 46) 174 0 := rw_of (by decide +kernel)
theorem r208_16 : Rw 208 16 17 1 10 1 0 0 := rw_of (by decide +kernel)
theorem r208_17 : Rw 208 17 18 1 30 0 0 0 := rw_of (by decide +kernel)
theorem r148_28 : Rw 148 28 30 2 21 8 0 0 := rw_of (by decide +kernel)
theorem r148_30 : Rw 148 30 31 1 1 (cd 0) 1 0 := rw_of (by decide +kernel)
theorem r148_31 : Rw 148 31 33 2 17 9 0 0 := rw_of (by decide +kernel)
theorem r148_33 : Rw 148 33 35 2 11 9 0 0 := rw_of (by decide +kernel)
theorem r148_35 : Rw 148 35 36 1 14 0 0 0 := rw_of (by decide +kernel)
theorem r148_36 : Rw 148 36 39 3 80 2 0 20 := rw_of (by decide +kernel)
theorem r148_39 : Rw 148 39 42 3 80 5 10 83 := rw_of (by decide +kernel)
theorem r148_42 : Rw 148 42 45 3 70 84 0 0 := rw_of (by decide +kernel)
theorem r148_84 : Rw 148 84 85 1 77 0 0 0 := rw_of (by decide +kernel)
theorem r148_45 : Rw 148 45 47 2 15 5 0 0 := rw_of (by decide +kernel)
theorem r148_47 : Rw 148 47 49 2 11 9 0 0 := rw_of (by decide +kernel)
theorem r148_49 : Rw 148 49 50 1 14 1 0 0 := rw_of (by decide +kernel)
theorem r148_50 : Rw 148 50 52 2 11 9 0 0 := rw_of (by decide +kernel)
theorem r148_52 : Rw 148 52 53 1 84 0 0 0 := rw_of (by decide +kernel)
theorem r148_53 : Rw 148 53 55 2 15 6 0 0 := rw_of (by decide +kernel)
theorem r148_55 : Rw 148 55 57 2 11 9 0 0 := rw_of (by decide +kernel)
theorem r148_57 : Rw 148 57 58 1 84 0 0 0 := rw_of (by decide +kernel)
theorem r148_58 : Rw 148 58 60 2 15 8 0 0 := rw_of (by decide +kernel)
theorem r148_60 : Rw 148 60 62 2 11 9 0 0 := rw_of (by decide +kernel)
theorem r148_62 : Rw 148 62 63 1 84 0 0 0 := rw_of (by decide +kernel)
theorem r148_63 : Rw 148 63 65 2 15 4 0 0 := rw_of (by decide +kernel)
theorem r148_65 : Rw 148 65 67 2 11 9 0 0 := rw_of (by decide +kernel)
theorem r148_67 : Rw 148 67 68 1 84 0 0 0 := rw_of (by decide +kernel)
theorem r148_68 : Rw 148 68 69 1 45 0 0 0 := rw_of (by decide +kernel)
theorem r148_69 : Rw 148 69 71 2 15 7 0 0 := rw_of (by decide +kernel)
theorem r148_71 : Rw 148 71 73 2 11 9 0 0 := rw_of (by decide +kernel)
theorem r148_73 : Rw 148 73 74 1 84 0 0 0 := rw_of (by decide +kernel)
theorem r148_74 : Rw 148 74 75 1 45 0 0 0 := rw_of (by decide +kernel)
theorem r148_75 : Rw 148 75 76 1 44 0 0 0 := rw_of (by decide +kernel)
theorem r148_76 : Rw 148 76 77 1 43 0 0 0 := rw_of (by decide +kernel)
theorem r148_77 : Rw 148 77 78 1 89 0 0 0 := rw_of (by decide +kernel)
theorem r148_78 : Rw 148 78 81 3 22 9 (cd 1) 32769 := rw_of (by decide +kernel)
theorem r148_81 : Rw 148 81 84 3 60 33 0 0 := rw_of (by decide +kernel)
theorem kc_174_148 : Kc 174 148 := kc_of (by decide) (by decide +kernel)
theorem r3_102 : Rw 3 102 103 1 14 0 0 0 := rw_of (by decide +kernel)
theorem r3_103 : Rw 3 103 106 3 80 0 0 21 := rw_of (by decide +kernel)
theorem r3_106 : Rw 3 106 107 1 14 0 0 0 := rw_of (by decide +kernel)
theorem r3_107 : Rw 3 107 110 3 80 0 3 40 := rw_of (by decide +kernel)
theorem r3_110 : Rw 3 110 111 1 10 2 0 0 := rw_of (by decide +kernel)
theorem r3_111 : Rw 3 111 112 1 1 (cd 1) 2 0 := rw_of (by decide +kernel)
theorem r3_112 : Rw 3 112 113 1 30 0 0 0 := rw_of (by decide +kernel)
theorem r3_113 : Rw 3 113 114 1 87 0 0 0 := rw_of (by decide +kernel)
theorem r3_114 : Rw 3 114 115 1 1 (cd 1) 2 0 := rw_of (by decide +kernel)
theorem r3_115 : Rw 3 115 118 3 100 150 3 53 := rw_of (by decide +kernel)
theorem r3_118 : Rw 3 118 121 3 62 156 0 0 := rw_of (by decide +kernel)
theorem r3_156 : Rw 3 156 159 3 22 8 (cd 1) 32769 := rw_of (by decide +kernel)
theorem r3_159 : Rw 3 159 162 3 60 64 0 0 := rw_of (by decide +kernel)
theorem r3_121 : Rw 3 121 123 2 15 4 0 0 := rw_of (by decide +kernel)
theorem r3_123 : Rw 3 123 125 2 11 5 0 0 := rw_of (by decide +kernel)
theorem r3_125 : Rw 3 125 128 3 100 200 2 82 := rw_of (by decide +kernel)
theorem r200_0 : Rw 200 0 1 1 14 0 0 0 := rw_of (by decide +kernel)
theorem r200_1 : Rw 200 1 4 3 80 5 3 9 := rw_of (by decide +kernel)
theorem r200_4 : Rw 200 4 5 1 10 1 0 0 := rw_of (by decide +kernel)
theorem r200_5 : Rw 200 5 6 1 54 0 0 0 := rw_of (by decide +kernel)
theorem r200_6 : Rw 200 6 7 1 83 0 0 0 := rw_of (by decide +kernel)
theorem r200_7 : Rw 200 7 8 1 1 (cd 1) 2 0 := rw_of (by decide +kernel)
theorem r200_8 : Rw 200 8 9 1 35 0 0 0 := rw_of (by decide +kernel)
theorem r200_9 : Rw 200 9 10 1 88 0 0 0 := rw_of (by decide +kernel)
theorem r200_10 : Rw 200 10 11 1 77 0 0 0 := rw_of (by decide +kernel)
theorem kc_176_200 : Kc 176 200 := kc_of (by decide) (by decide +kernel)
theorem r3_128 : Rw 3 128 129 1 14 0 0 0 := rw_of (by decide +kernel)
theorem r3_129 : Rw 3 129 130 1 10 2 0 0 := rw_of (by decide +kernel)
theorem r3_130 : Rw 3 130 131 1 1 (cd 1) 2 0 := rw_of (by decide +kernel)
theorem r3_131 : Rw 3 131 132 1 30 0 0 0 := rw_of (by decide +kernel)
theorem r3_132 : Rw 3 132 133 1 10 3 0 0 := rw_of (by decide +kernel)
theorem r3_133 : Rw 3 133 134 1 1 (cd 1) 2 0 := rw_of (by decide +kernel)
theorem r3_134 : Rw 3 134 135 1 31 0 0 0 := rw_of (by decide +kernel)
theorem r3_135 : Rw 3 135 138 3 100 2 3 57 := rw_of (by decide +kernel)
theorem r2_28 : Rw 2 28 29 1 1 (cd (-1)) 0 0 := rw_of (by decide +kernel)
theorem r2_29 : Rw 2 29 30 1 74 0 0 0 := rw_of (by decide +kernel)
theorem kc_607_2 : Kc 607 2 := kc_of (by decide) (by decide +kernel)
theorem r3_138 : Rw 3 138 139 1 1 (cd (-1)) 0 0 := rw_of (by decide +kernel)
theorem r3_139 : Rw 3 139 142 3 67 146 0 0 := rw_of (by decide +kernel)
theorem r3_146 : Rw 3 146 147 1 1 (cd 0) 1 0 := rw_of (by decide +kernel)
theorem r3_147 : Rw 3 147 149 2 17 7 0 0 := rw_of (by decide +kernel)
theorem r3_149 : Rw 3 149 151 2 15 4 0 0 := rw_of (by decide +kernel)
theorem r3_151 : Rw 3 151 153 2 11 5 0 0 := rw_of (by decide +kernel)
theorem r3_153 : Rw 3 153 156 3 100 200 2 82 := rw_of (by decide +kernel)
theorem r3_162 : Rw 3 162 164 2 15 6 0 0 := rw_of (by decide +kernel)
theorem r3_164 : Rw 3 164 165 1 6 0 0 0 := rw_of (by decide +kernel)
theorem r3_165 : Rw 3 165 168 3 102 266 2 86 := rw_of (by decide +kernel)
theorem r3_168 : Rw 3 168 170 2 11 7 0 0 := rw_of (by decide +kernel)
theorem r3_170 : Rw 3 170 171 1 74 1 0 0 := rw_of (by decide +kernel)
theorem kc_607_3 : Kc 607 3 := kc_of (by decide) (by decide +kernel)
theorem r2_47 : Rw 2 47 50 3 61 52 0 0 := rw_of (by decide +kernel)
theorem r2_52 : Rw 2 52 55 3 22 3 (cd 1) 32769 := rw_of (by decide +kernel)
theorem r2_55 : Rw 2 55 58 3 60 32 0 0 := rw_of (by decide +kernel)
theorem r2_50 : Rw 2 50 51 1 10 3 0 0 := rw_of (by decide +kernel)
theorem r2_51 : Rw 2 51 52 1 74 0 0 0 := rw_of (by decide +kernel)
theorem r4_72 : Rw 4 72 74 2 17 4 0 0 := rw_of (by decide +kernel)
theorem r4_74 : Rw 4 74 76 2 11 4 0 0 := rw_of (by decide +kernel)
theorem r4_76 : Rw 4 76 77 1 1 (cd (-1)) 0 0 := rw_of (by decide +kernel)
theorem r4_77 : Rw 4 77 80 3 67 88 0 0 := rw_of (by decide +kernel)
theorem r4_88 : Rw 4 88 91 3 22 3 (cd 1) 32769 := rw_of (by decide +kernel)
theorem r4_91 : Rw 4 91 94 3 60 61 0 0 := rw_of (by decide +kernel)
theorem r4_80 : Rw 4 80 81 1 14 0 0 0 := rw_of (by decide +kernel)
theorem r4_81 : Rw 4 81 83 2 11 4 0 0 := rw_of (by decide +kernel)
theorem r4_83 : Rw 4 83 86 3 81 0 6 0 := rw_of (by decide +kernel)
theorem fd_607_6 : Fdl 607 0 6 6 0 := fd_of (by decide) rfl (by decide +kernel)
theorem uf_607_6 {z : Int} (hz : (-1) ≤ z ∧ z ≤ 9) : Bd 607 6 z := Bd.of0 g_607_6 rfl rfl rfl rfl rfl hz
theorem r4_86 : Rw 4 86 87 1 10 3 0 0 := rw_of (by decide +kernel)
theorem r4_87 : Rw 4 87 88 1 74 0 0 0 := rw_of (by decide +kernel)
theorem pwl_2 : pw 2 = 4 := by decide
theorem r3_142 : Rw 3 142 143 1 1 (cd 1) 2 0 := rw_of (by decide +kernel)
theorem r3_143 : Rw 3 143 146 3 60 147 0 0 := rw_of (by decide +kernel)
theorem r4_94 : Rw 4 94 95 1 1 (cd (-1)) 0 0 := rw_of (by decide +kernel)
theorem r4_95 : Rw 4 95 96 1 74 0 0 0 := rw_of (by decide +kernel)
theorem r4_52 : Rw 4 52 53 1 14 0 0 0 := rw_of (by decide +kernel)
theorem r4_53 : Rw 4 53 54 1 1 (cd (-1)) 0 0 := rw_of (by decide +kernel)
theorem r4_54 : Rw 4 54 57 3 81 0 6 0 := rw_of (by decide +kernel)
theorem r4_57 : Rw 4 57 58 1 1 (cd 0) 1 0 := rw_of (by decide +kernel)
theorem r4_58 : Rw 4 58 59 1 74 0 0 0 := rw_of (by decide +kernel)
theorem kc_607_4 : Kc 607 4 := kc_of (by decide) (by decide +kernel)
theorem r19_56 : Rw 19 56 57 1 74 0 0 0 := rw_of (by decide +kernel)
theorem r19_23 : Rw 19 23 25 2 2 (cd (-2)) 126 0 := rw_of (by decide +kernel)
theorem r19_25 : Rw 19 25 26 1 74 0 0 0 := rw_of (by decide +kernel)
theorem r37_0 : Rw 37 0 1 1 10 1 0 0 := rw_of (by decide +kernel)
theorem r37_1 : Rw 37 1 4 3 102 29 1 240 := rw_of (by decide +kernel)
theorem r37_4 : Rw 37 4 5 1 14 0 0 0 := rw_of (by decide +kernel)
theorem r37_5 : Rw 37 5 8 3 80 11 7 57 := rw_of (by decide +kernel)
theorem r37_8 : Rw 37 8 11 3 80 8 5 172 := rw_of (by decide +kernel)
theorem r37_11 : Rw 37 11 12 1 1 (cd 2) 3 0 := rw_of (by decide +kernel)
theorem r37_12 : Rw 37 12 13 1 30 0 0 0 := rw_of (by decide +kernel)
theorem r37_13 : Rw 37 13 15 2 2 (cd 12) 140 0 := rw_of (by decide +kernel)
theorem r37_15 : Rw 37 15 18 3 72 20 0 0 := rw_of (by decide +kernel)
theorem r37_20 : Rw 37 20 21 1 14 0 0 0 := rw_of (by decide +kernel)
theorem r37_21 : Rw 37 21 24 3 80 11 6 48 := rw_of (by decide +kernel)
theorem r37_24 : Rw 37 24 25 1 14 0 0 0 := rw_of (by decide +kernel)
theorem r37_25 : Rw 37 25 28 3 80 11 7 57 := rw_of (by decide +kernel)
theorem r37_28 : Rw 37 28 31 3 100 229 1 189 := rw_of (by decide +kernel)
theorem r37_31 : Rw 37 31 34 3 100 194 2 218 := rw_of (by decide +kernel)
theorem r37_34 : Rw 37 34 37 3 3 (cd 300) 33068 0 := rw_of (by decide +kernel)
theorem r37_37 : Rw 37 37 40 3 72 43 0 0 := rw_of (by decide +kernel)
theorem r37_43 : Rw 37 43 44 1 14 0 0 0 := rw_of (by decide +kernel)
theorem r37_44 : Rw 37 44 47 3 80 11 15 91 := rw_of (by decide +kernel)
theorem r37_47 : Rw 37 47 48 1 14 0 0 0 := rw_of (by decide +kernel)
theorem r37_48 : Rw 37 48 51 3 80 11 7 57 := rw_of (by decide +kernel)
theorem r37_51 : Rw 37 51 52 1 10 1 0 0 := rw_of (by decide +kernel)
theorem r37_52 : Rw 37 52 55 3 100 146 3 286 := rw_of (by decide +kernel)
theorem r37_55 : Rw 37 55 56 1 14 0 0 0 := rw_of (by decide +kernel)
theorem r37_56 : Rw 37 56 59 3 80 11 17 109 := rw_of (by decide +kernel)
theorem fd_0_17 : Fdl 0 11 17 17 2 := fd_of (by decide) rfl (by decide +kernel)
theorem bf_0_17 {M : Mm} (h : Pw M) : 613 ≤ M 0 17 ∧ M 0 17 ≤ 613 := (h 0 17 (by decide) (by decide) (by decide) (by decide +kernel)).get0 g_0_17 rfl rfl rfl rfl
theorem br_0_17 {M : Mm} (h : Pw M) : M 0 17 = 613 := by have := bf_0_17 h; omega
theorem r37_59 : Rw 37 59 60 1 14 0 0 0 := rw_of (by decide +kernel)
theorem r37_60 : Rw 37 60 63 3 80 11 9 65 := rw_of (by decide +kernel)
theorem fd_0_9 : Fdl 0 11 9 9 0 := fd_of (by decide) rfl (by decide +kernel)
theorem bf_0_9 {M : Mm} (h : Pw M) : 0 ≤ M 0 9 ∧ M 0 9 ≤ 30 := (h 0 9 (by decide) (by decide) (by decide) (by decide +kernel)).get0 g_0_9 rfl rfl rfl rfl
theorem r37_63 : Rw 37 63 64 1 14 0 0 0 := rw_of (by decide +kernel)
theorem r37_64 : Rw 37 64 67 3 80 11 7 57 := rw_of (by decide +kernel)
theorem r37_67 : Rw 37 67 70 3 80 8 5 172 := rw_of (by decide +kernel)
theorem r37_70 : Rw 37 70 73 3 100 212 3 299 := rw_of (by decide +kernel)
theorem r212_0 : Rw 212 0 1 1 14 0 0 0 := rw_of (by decide +kernel)
theorem r212_1 : Rw 212 1 2 1 10 1 0 0 := rw_of (by decide +kernel)
theorem r212_2 : Rw 212 2 5 3 81 6 6 0 := rw_of (by decide +kernel)
theorem fd_613_6 : Fdl 613 6 6 6 0 := fd_of (by decide) rfl (by decide +kernel)
theorem uf_613_6 {z : Int} (hz : 0 ≤ z ∧ z ≤ 30) : Bd 613 6 z := Bd.of0 g_613_6 rfl rfl rfl rfl rfl hz
theorem r212_5 : Rw 212 5 6 1 14 0 0 0 := rw_of (by decide +kernel)
theorem r212_6 : Rw 212 6 7 1 10 2 0 0 := rw_of (by decide +kernel)
theorem r212_7 : Rw 212 7 10 3 81 6 7 0 := rw_of (by decide +kernel)
theorem fd_613_7 : Fdl 613 6 7 7 0 := fd_of (by decide) rfl (by decide +kernel)
theorem uf_613_7 {z : Int} (hz : 0 ≤ z ∧ z ≤ 12) : Bd 613 7 z := Bd.of0 g_613_7 rfl rfl rfl rfl rfl hz
theorem r212_10 : Rw 212 10 11 1 1 (cd 0) 1 0 := rw_of (by decide +kernel)
theorem r212_11 : Rw 212 11 12 1 16 3 0 0 := rw_of (by decide +kernel)
theorem r212_12 : Rw 212 12 13 1 10 3 0 0 := rw_of (by decide +kernel)
theorem r212_13 : Rw 212 13 14 1 14 0 0 0 := rw_of (by decide +kernel)
theorem r212_14 : Rw 212 14 17 3 80 6 6 9 := rw_of (by decide +kernel)
theorem bf_613_6 {M : Mm} (h : Pw M) : 0 ≤ M 613 6 ∧ M 613 6 ≤ 30 := (h 613 6 (by decide) (by decide) (by decide) (by decide +kernel)).get0 g_613_6 rfl rfl rfl rfl
theorem r212_17 : Rw 212 17 20 3 70 48 0 0 := rw_of (by decide +kernel)
theorem r212_48 : Rw 212 48 49 1 14 0 0 0 := rw_of (by decide +kernel)
theorem r212_49 : Rw 212 49 52 3 100 214 1 63 := rw_of (by decide +kernel)
theorem r214_0 : Rw 214 0 1 1 1 (cd 0) 1 0 := rw_of (by decide +kernel)
theorem r214_1 : Rw 214 1 2 1 16 1 0 0 := rw_of (by decide +kernel)
theorem r214_2 : Rw 214 2 3 1 10 1 0 0 := rw_of (by decide +kernel)
theorem r214_3 : Rw 214 3 4 1 14 0 0 0 := rw_of (by decide +kernel)
theorem r214_4 : Rw 214 4 7 3 80 6 0 25 := rw_of (by decide +kernel)
theorem fd_613_0 : Fdl 613 6 0 0 2 := fd_of (by decide) rfl (by decide +kernel)
theorem bf_613_0 {M : Mm} (h : Pw M) : 174 ≤ M 613 0 ∧ M 613 0 ≤ 174 := (h 613 0 (by decide) (by decide) (by decide) (by decide +kernel)).get0 g_613_0 rfl rfl rfl rfl
theorem br_613_0 {M : Mm} (h : Pw M) : M 613 0 = 174 := by have := bf_613_0 h; omega
theorem r214_7 : Rw 214 7 10 3 80 2 0 53 := rw_of (by decide +kernel)
theorem r214_10 : Rw 214 10 13 3 80 5 7 67 := rw_of (by decide +kernel)
theorem r214_13 : Rw 214 13 16 3 70 97 0 0 := rw_of (by decide +kernel)
theorem r214_97 : Rw 214 97 98 1 1 (cd 0) 1 0 := rw_of (by decide +kernel)
theorem r214_98 : Rw 214 98 99 1 74 1 0 0 := rw_of (by decide +kernel)
theorem r214_16 : Rw 214 16 17 1 1 (cd 0) 1 0 := rw_of (by decide +kernel)
theorem r214_17 : Rw 214 17 18 1 16 2 0 0 := rw_of (by decide +kernel)
theorem r214_18 : Rw 214 18 19 1 10 2 0 0 := rw_of (by decide +kernel)
theorem r214_19 : Rw 214 19 20 1 14 0 0 0 := rw_of (by decide +kernel)
theorem r214_20 : Rw 214 20 23 3 80 6 6 9 := rw_of (by decide +kernel)
theorem r214_23 : Rw 214 23 26 3 70 91 0 0 := rw_of (by decide +kernel)
theorem r214_91 : Rw 214 91 94 3 22 1 (cd 1) 32769 := rw_of (by decide +kernel)
theorem r214_94 : Rw 214 94 97 3 60 2 0 0 := rw_of (by decide +kernel)
theorem r214_26 : Rw 214 26 27 1 14 0 0 0 := rw_of (by decide +kernel)
theorem r214_27 : Rw 214 27 30 3 80 6 0 25 := rw_of (by decide +kernel)
theorem r214_30 : Rw 214 30 31 1 14 0 0 0 := rw_of (by decide +kernel)
theorem r214_31 : Rw 214 31 34 3 80 6 0 25 := rw_of (by decide +kernel)
theorem r214_34 : Rw 214 34 37 3 100 145 1 70 := rw_of (by decide +kernel)
theorem r214_37 : Rw 214 37 38 1 10 1 0 0 := rw_of (by decide +kernel)
theorem r214_38 : Rw 214 38 39 1 1 (cd (-1)) 0 0 := rw_of (by decide +kernel)
theorem r214_39 : Rw 214 39 40 1 14 0 0 0 := rw_of (by decide +kernel)
theorem r214_40 : Rw 214 40 43 3 80 6 2 40 := rw_of (by decide +kernel)
theorem fd_613_2 : Fdl 613 6 2 2 2 := fd_of (by decide) rfl (by decide +kernel)
theorem bf_613_2 {M : Mm} (h : Pw M) : 615 ≤ M 613 2 ∧ M 613 2 ≤ 615 := (h 613 2 (by decide) (by decide) (by decide) (by decide +kernel)).get0 g_613_2 rfl rfl rfl rfl
theorem br_613_2 {M : Mm} (h : Pw M) : M 613 2 = 615 := by have := bf_613_2 h; omega
theorem r214_43 : Rw 214 43 44 1 10 2 0 0 := rw_of (by decide +kernel)
theorem r214_44 : Rw 214 44 45 1 87 0 0 0 := rw_of (by decide +kernel)
theorem ar_615 : Ar 615 104 30 := ar_of (by decide) (by decide) (by decide +kernel)
theorem ba_615 {M : Mm} (h : Pw M) {i : Int} (h0 : 0 ≤ i) (h1 : i < 30) : M 615 i = 616 + i := by
  have := (h 615 i (by decide) (by decide) h0 (by rw [ar_615.2.2.2.1]; exact h1)).get (l := 616) (u := 616) (c := 1) (s := 0) (gr_615 (by decide) (by decide) i) rfl rfl rfl rfl
  omega
theorem r214_45 : Rw 214 45 46 1 14 0 0 0 := rw_of (by decide +kernel)
theorem r214_46 : Rw 214 46 49 3 80 6 4 46 := rw_of (by decide +kernel)
theorem fd_613_4 : Fdl 613 6 4 4 2 := fd_of (by decide) rfl (by decide +kernel)
theorem bf_613_4 {M : Mm} (h : Pw M) : 677 ≤ M 613 4 ∧ M 613 4 ≤ 677 := (h 613 4 (by decide) (by decide) (by decide) (by decide +kernel)).get0 g_613_4 rfl rfl rfl rfl
theorem br_613_4 {M : Mm} (h : Pw M) : M 613 4 = 677 := by have := bf_613_4 h; omega
theorem r214_49 : Rw 214 49 52 3 100 148 6 74 := rw_of (by decide +kernel)
theorem arb_616 : (List.range 30).all (fun j => arb (616 + j) 102 5) = true := by decide +kernel
theorem arF_616 {a : Int} (h0 : 616 ≤ a) (h1 : a ≤ 645) : Ar a 102 5 := ar_of (by omega) (by decide) (by
  have h := List.all_eq_true.mp arb_616 (a.toNat - 616) (List.mem_range.mpr (by omega))
  rw [show 616 + (a.toNat - 616) = a.toNat by omega] at h
  exact h)
theorem baF_616 {M : Mm} (h : Pw M) {a i : Int} (ha : 616 ≤ a) (hb : a ≤ 645) (h0 : 0 ≤ i) (h1 : i < 5) : 0 ≤ M a i ∧ M a i ≤ 18446744073709551615 := (h a i (by omega) (by omega) h0 (by rw [(arF_616 ha hb).2.2.2.1]; exact h1)).get0 (gr_616 ha hb i) rfl rfl rfl rfl
theorem arb_677 : (List.range 1).all (fun j => arb (677 + j) 102 5) = true := by decide +kernel
theorem arF_677 {a : Int} (h0 : 677 ≤ a) (h1 : a ≤ 677) : Ar a 102 5 := ar_of (by omega) (by decide) (by
  have h := List.all_eq_true.mp arb_677 (a.toNat - 677) (List.mem_range.mpr (by omega))
  rw [show 677 + (a.toNat - 677) = a.toNat by omega] at h
  exact h)
theorem b4_677 {M : Mm} (h : Pw M) {a i : Int} (ha : 677 ≤ a) (hb : a ≤ 677) (h0 : 0 ≤ i) (h1 : i < 5) : 0 ≤ M a i ∧ M a i ≤ 18446744073709551615 ∧ (i = 4 → M a i ≤ 17592186044415) := by
  have hx := h a i (by omega) (by omega) h0 (by rw [(arF_677 ha hb).2.2.2.1]; exact h1)
  by_cases e : i = 4
  · have := hx.get0 (k := 160) (l := 0) (u := 17592186044415) (by rw [gr_677 ha hb, if_pos e]) rfl rfl rfl rfl
    omega
  · have := hx.get0 (k := 159) (l := 0) (u := 18446744073709551615) (by rw [gr_677 ha hb, if_neg e]) rfl rfl rfl rfl
    omega
theorem u4_677 {a i z : Int} (ha : 677 ≤ a) (hb : a ≤ 677) (hz : 0 ≤ z ∧ z ≤ 18446744073709551615 ∧ (i = 4 → z ≤ 17592186044415)) : Bd a i z := by
  by_cases e : i = 4
  · exact Bd.of0 (k := 160) (l := 0) (u := 17592186044415) (by rw [gr_677 ha hb, if_pos e]) rfl rfl rfl rfl rfl ⟨hz.1, hz.2.2 e⟩
  · exact Bd.of0 (k := 159) (l := 0) (u := 18446744073709551615) (by rw [gr_677 ha hb, if_neg e]) rfl rfl rfl rfl rfl ⟨hz.1, hz.2.1⟩
theorem t4_677 {m : Nat} (h1 : Nat.testBit m 159 = true) (h2 : Nat.testBit m 160 = true) {a : Int} (ha : 677 ≤ a) (hb : a ≤ 677) (i : Int) : Nat.testBit m (grp a i) = true := by
  rw [gr_677 ha hb]
  by_cases e : i = 4
  · rw [if_pos e]
    exact h2
  · rw [if_neg e]
    exact h1
theorem r214_52 : Rw 214 52 53 1 14 0 0 0 := rw_of (by decide +kernel)
theorem r214_53 : Rw 214 53 56 3 80 6 0 25 := rw_of (by decide +kernel)
theorem r214_56 : Rw 214 56 57 1 14 0 0 0 := rw_of (by decide +kernel)
theorem r214_57 : Rw 214 57 60 3 80 6 4 46 := rw_of (by decide +kernel)
theorem r214_60 : Rw 214 60 63 3 100 151 2 86 := rw_of (by decide +kernel)
theorem r151_0 : Rw 151 0 1 1 14 0 0 0 := rw_of (by decide +kernel)
theorem r151_1 : Rw 151 1 2 1 14 1 0 0 := rw_of (by decide +kernel)
theorem r151_2 : Rw 151 2 5 3 100 149 2 79 := rw_of (by decide +kernel)
theorem r151_5 : Rw 151 5 6 1 16 2 0 0 := rw_of (by decide +kernel)
theorem r151_6 : Rw 151 6 7 1 10 2 0 0 := rw_of (by decide +kernel)
theorem r151_7 : Rw 151 7 8 1 1 (cd (-1)) 0 0 := rw_of (by decide +kernel)
theorem r151_8 : Rw 151 8 11 3 68 13 0 0 := rw_of (by decide +kernel)
theorem r151_13 : Rw 151 13 14 1 14 0 0 0 := rw_of (by decide +kernel)
theorem r151_14 : Rw 151 14 17 3 80 2 3 33 := rw_of (by decide +kernel)
theorem r151_17 : Rw 151 17 18 1 14 0 0 0 := rw_of (by decide +kernel)
theorem r151_18 : Rw 151 18 21 3 80 2 2 28 := rw_of (by decide +kernel)
theorem r151_21 : Rw 151 21 22 1 10 2 0 0 := rw_of (by decide +kernel)
theorem r151_22 : Rw 151 22 23 1 83 0 0 0 := rw_of (by decide +kernel)
theorem r151_23 : Rw 151 23 24 1 87 0 0 0 := rw_of (by decide +kernel)
theorem r151_24 : Rw 151 24 25 1 20 3 0 0 := rw_of (by decide +kernel)
theorem r151_25 : Rw 151 25 26 1 1 (cd 0) 1 0 := rw_of (by decide +kernel)
theorem r151_26 : Rw 151 26 28 2 17 4 0 0 := rw_of (by decide +kernel)
theorem r151_28 : Rw 151 28 30 2 11 4 0 0 := rw_of (by decide +kernel)
theorem r151_30 : Rw 151 30 31 1 14 0 0 0 := rw_of (by decide +kernel)
theorem r151_31 : Rw 151 31 34 3 80 2 0 20 := rw_of (by decide +kernel)
theorem r151_34 : Rw 151 34 37 3 80 5 10 83 := rw_of (by decide +kernel)
theorem r151_37 : Rw 151 37 40 3 70 66 0 0 := rw_of (by decide +kernel)
theorem r151_66 : Rw 151 66 67 1 1 (cd 1) 2 0 := rw_of (by decide +kernel)
theorem r151_67 : Rw 151 67 68 1 74 1 0 0 := rw_of (by decide +kernel)
theorem r151_40 : Rw 151 40 41 1 14 1 0 0 := rw_of (by decide +kernel)
theorem r151_41 : Rw 151 41 43 2 11 4 0 0 := rw_of (by decide +kernel)
theorem r151_43 : Rw 151 43 44 1 84 0 0 0 := rw_of (by decide +kernel)
theorem r151_44 : Rw 151 44 45 1 14 3 0 0 := rw_of (by decide +kernel)
theorem r151_45 : Rw 151 45 47 2 11 4 0 0 := rw_of (by decide +kernel)
theorem r151_47 : Rw 151 47 48 1 84 0 0 0 := rw_of (by decide +kernel)
theorem r151_48 : Rw 151 48 51 3 7 18446744073709551615 84 0 := rw_of (by decide +kernel)
theorem r151_51 : Rw 151 51 52 1 45 0 0 0 := rw_of (by decide +kernel)
theorem r151_52 : Rw 151 52 53 1 43 0 0 0 := rw_of (by decide +kernel)
theorem r151_53 : Rw 151 53 54 1 6 0 0 0 := rw_of (by decide +kernel)
theorem r151_54 : Rw 151 54 55 1 51 0 0 0 := rw_of (by decide +kernel)
theorem r151_55 : Rw 151 55 58 3 61 60 0 0 := rw_of (by decide +kernel)
theorem r151_60 : Rw 151 60 63 3 22 4 (cd 1) 32769 := rw_of (by decide +kernel)
theorem r151_63 : Rw 151 63 66 3 60 28 0 0 := rw_of (by decide +kernel)
theorem r151_58 : Rw 151 58 59 1 1 (cd 0) 1 0 := rw_of (by decide +kernel)
theorem r151_59 : Rw 151 59 60 1 74 1 0 0 := rw_of (by decide +kernel)
theorem r151_11 : Rw 151 11 12 1 1 (cd 0) 1 0 := rw_of (by decide +kernel)
theorem r151_12 : Rw 151 12 13 1 74 1 0 0 := rw_of (by decide +kernel)
theorem kc_174_151 : Kc 174 151 := kc_of (by decide) (by decide +kernel)
theorem r214_63 : Rw 214 63 66 3 61 85 0 0 := rw_of (by decide +kernel)
theorem r214_85 : Rw 214 85 88 3 22 2 (cd 1) 32769 := rw_of (by decide +kernel)
theorem r214_88 : Rw 214 88 91 3 60 18 0 0 := rw_of (by decide +kernel)
theorem r214_66 : Rw 214 66 67 1 14 0 0 0 := rw_of (by decide +kernel)
theorem r214_67 : Rw 214 67 70 3 80 6 8 18 := rw_of (by decide +kernel)
theorem fd_613_8 : Fdl 613 6 8 8 2 := fd_of (by decide) rfl (by decide +kernel)
theorem bf_613_8 {M : Mm} (h : Pw M) : 614 ≤ M 613 8 ∧ M 613 8 ≤ 614 := (h 613 8 (by decide) (by decide) (by decide) (by decide +kernel)).get0 g_613_8 rfl rfl rfl rfl
theorem br_613_8 {M : Mm} (h : Pw M) : M 613 8 = 614 := by have := bf_613_8 h; omega
theorem r214_70 : Rw 214 70 71 1 1 (cd 0) 1 0 := rw_of (by decide +kernel)
theorem r214_71 : Rw 214 71 73 2 2 (cd 30) 158 0 := rw_of (by decide +kernel)
theorem r214_73 : Rw 214 73 74 1 10 1 0 0 := rw_of (by decide +kernel)
theorem r214_74 : Rw 214 74 75 1 32 0 0 0 := rw_of (by decide +kernel)
theorem r214_75 : Rw 214 75 76 1 10 2 0 0 := rw_of (by decide +kernel)
theorem r214_76 : Rw 214 76 77 1 30 0 0 0 := rw_of (by decide +kernel)
theorem r214_77 : Rw 214 77 78 1 88 0 0 0 := rw_of (by decide +kernel)
theorem ar_614 : Ar 614 100 2 := ar_of (by decide) (by decide) (by decide +kernel)
theorem ga_614 (i : Int) : grp 614 i = 154 := gr_614 (by decide) (by decide) i
theorem ua_614 {i z : Int} (hz : 0 ≤ z ∧ z ≤ 209) : Bd 614 i z := Bd.of0 (gr_614 (by decide) (by decide) i) rfl rfl rfl rfl rfl hz
theorem r214_78 : Rw 214 78 79 1 14 0 0 0 := rw_of (by decide +kernel)
theorem r214_79 : Rw 214 79 80 1 1 (cd 1) 2 0 := rw_of (by decide +kernel)
theorem r214_80 : Rw 214 80 83 3 81 6 9 0 := rw_of (by decide +kernel)
theorem fd_613_9 : Fdl 613 6 9 9 0 := fd_of (by decide) rfl (by decide +kernel)
theorem uf_613_9 {z : Int} (hz : 0 ≤ z ∧ z ≤ 2) : Bd 613 9 z := Bd.of0 g_613_9 rfl rfl rfl rfl rfl hz
theorem r214_83 : Rw 214 83 84 1 1 (cd 1) 2 0 := rw_of (by decide +kernel)
theorem r214_84 : Rw 214 84 85 1 74 1 0 0 := rw_of (by decide +kernel)
theorem kc_613_214 : Kc 613 214 := kc_of (by decide) (by decide +kernel)
theorem r212_52 : Rw 212 52 55 3 61 60 0 0 := rw_of (by decide +kernel)
theorem r212_60 : Rw 212 60 61 1 1 (cd 0) 1 0 := rw_of (by decide +kernel)
theorem r212_61 : Rw 212 61 62 1 16 3 0 0 := rw_of (by decide +kernel)
theorem r212_62 : Rw 212 62 63 1 10 3 0 0 := rw_of (by decide +kernel)
theorem r212_63 : Rw 212 63 64 1 14 0 0 0 := rw_of (by decide +kernel)
theorem r212_64 : Rw 212 64 67 3 80 6 0 25 := rw_of (by decide +kernel)
theorem r212_67 : Rw 212 67 70 3 80 2 0 53 := rw_of (by decide +kernel)
theorem r212_70 : Rw 212 70 73 3 80 5 7 67 := rw_of (by decide +kernel)
theorem r212_73 : Rw 212 73 76 3 70 192 0 0 := rw_of (by decide +kernel)
theorem r212_192 : Rw 212 192 193 1 1 (cd (-1)) 0 0 := rw_of (by decide +kernel)
theorem r212_193 : Rw 212 193 194 1 74 0 0 0 := rw_of (by decide +kernel)
theorem r212_76 : Rw 212 76 77 1 1 (cd 0) 1 0 := rw_of (by decide +kernel)
theorem r212_77 : Rw 212 77 79 2 17 4 0 0 := rw_of (by decide +kernel)
theorem r212_79 : Rw 212 79 81 2 11 4 0 0 := rw_of (by decide +kernel)
theorem r212_81 : Rw 212 81 82 1 14 0 0 0 := rw_of (by decide +kernel)
theorem r212_82 : Rw 212 82 85 3 80 6 6 9 := rw_of (by decide +kernel)
theorem r212_85 : Rw 212 85 88 3 70 186 0 0 := rw_of (by decide +kernel)
theorem r212_186 : Rw 212 186 189 3 22 3 (cd 1) 32769 := rw_of (by decide +kernel)
theorem r212_189 : Rw 212 189 192 3 60 62 0 0 := rw_of (by decide +kernel)
theorem r212_55 : Rw 212 55 56 1 14 0 0 0 := rw_of (by decide +kernel)
theorem r212_56 : Rw 212 56 59 3 80 6 9 22 := rw_of (by decide +kernel)
theorem bf_613_9 {M : Mm} (h : Pw M) : 0 ≤ M 613 9 ∧ M 613 9 ≤ 2 := (h 613 9 (by decide) (by decide) (by decide) (by decide +kernel)).get0 g_613_9 rfl rfl rfl rfl
theorem r212_59 : Rw 212 59 60 1 74 0 0 0 := rw_of (by decide +kernel)
theorem r212_20 : Rw 212 20 21 1 14 0 0 0 := rw_of (by decide +kernel)
theorem r212_21 : Rw 212 21 24 3 80 6 0 25 := rw_of (by decide +kernel)
theorem r212_24 : Rw 212 24 27 3 80 2 0 53 := rw_of (by decide +kernel)
theorem r212_27 : Rw 212 27 28 1 14 0 0 0 := rw_of (by decide +kernel)
theorem r212_28 : Rw 212 28 31 3 80 6 1 29 := rw_of (by decide +kernel)
theorem fd_613_1 : Fdl 613 6 1 1 2 := fd_of (by decide) rfl (by decide +kernel)
theorem bf_613_1 {M : Mm} (h : Pw M) : 168 ≤ M 613 1 ∧ M 613 1 ≤ 168 := (h 613 1 (by decide) (by decide) (by decide) (by decide +kernel)).get0 g_613_1 rfl rfl rfl rfl
theorem br_613_1 {M : Mm} (h : Pw M) : M 613 1 = 168 := by have := bf_613_1 h; omega
theorem r212_31 : Rw 212 31 32 1 10 3 0 0 := rw_of (by decide +kernel)
theorem r212_32 : Rw 212 32 33 1 86 0 0 0 := rw_of (by decide +kernel)
theorem r212_33 : Rw 212 33 34 1 14 0 0 0 := rw_of (by decide +kernel)
theorem r212_34 : Rw 212 34 37 3 80 6 2 40 := rw_of (by decide +kernel)
theorem r212_37 : Rw 212 37 38 1 10 3 0 0 := rw_of (by decide +kernel)
theorem r212_38 : Rw 212 38 39 1 87 0 0 0 := rw_of (by decide +kernel)
theorem r212_39 : Rw 212 39 42 3 100 196 3 57 := rw_of (by decide +kernel)
theorem uaF_616 {a i z : Int} (ha : 616 ≤ a) (hb : a ≤ 645) (hz : 0 ≤ z ∧ z ≤ 18446744073709551615) : Bd a i z := Bd.of0 (gr_616 ha hb i) rfl rfl rfl rfl rfl hz
theorem r212_42 : Rw 212 42 45 3 22 3 (cd 1) 32769 := rw_of (by decide +kernel)
theorem r212_45 : Rw 212 45 48 3 60 12 0 0 := rw_of (by decide +kernel)
theorem r212_88 : Rw 212 88 89 1 14 0 0 0 := rw_of (by decide +kernel)
theorem r212_89 : Rw 212 89 92 3 80 6 0 25 := rw_of (by decide +kernel)
theorem r212_92 : Rw 212 92 93 1 14 0 0 0 := rw_of (by decide +kernel)
theorem r212_93 : Rw 212 93 96 3 80 6 0 25 := rw_of (by decide +kernel)
theorem r212_96 : Rw 212 96 99 3 100 145 1 70 := rw_of (by decide +kernel)
theorem r212_99 : Rw 212 99 100 1 10 3 0 0 := rw_of (by decide +kernel)
theorem r212_100 : Rw 212 100 101 1 1 (cd (-1)) 0 0 := rw_of (by decide +kernel)
theorem r212_101 : Rw 212 101 102 1 14 0 0 0 := rw_of (by decide +kernel)
theorem r212_102 : Rw 212 102 105 3 80 6 2 40 := rw_of (by decide +kernel)
theorem r212_105 : Rw 212 105 107 2 11 4 0 0 := rw_of (by decide +kernel)
theorem r212_107 : Rw 212 107 108 1 87 0 0 0 := rw_of (by decide +kernel)
theorem r212_108 : Rw 212 108 109 1 14 0 0 0 := rw_of (by decide +kernel)
theorem r212_109 : Rw 212 109 112 3 80 6 4 46 := rw_of (by decide +kernel)
theorem r212_112 : Rw 212 112 115 3 100 148 6 74 := rw_of (by decide +kernel)
theorem r212_115 : Rw 212 115 116 1 14 0 0 0 := rw_of (by decide +kernel)
theorem r212_116 : Rw 212 116 119 3 80 6 0 25 := rw_of (by decide +kernel)
theorem r212_119 : Rw 212 119 120 1 14 0 0 0 := rw_of (by decide +kernel)
theorem r212_120 : Rw 212 120 123 3 80 6 4 46 := rw_of (by decide +kernel)
theorem r212_123 : Rw 212 123 126 3 100 149 2 78 := rw_of (by decide +kernel)
theorem r212_126 : Rw 212 126 127 1 1 (cd (-1)) 0 0 := rw_of (by decide +kernel)
theorem r212_127 : Rw 212 127 130 3 68 134 0 0 := rw_of (by decide +kernel)
theorem r212_134 : Rw 212 134 135 1 14 0 0 0 := rw_of (by decide +kernel)
theorem r212_135 : Rw 212 135 136 1 10 3 0 0 := rw_of (by decide +kernel)
theorem r212_136 : Rw 212 136 138 2 11 4 0 0 := rw_of (by decide +kernel)
theorem r212_138 : Rw 212 138 141 3 100 213 3 82 := rw_of (by decide +kernel)
theorem r213_0 : Rw 213 0 1 1 14 0 0 0 := rw_of (by decide +kernel)
theorem r213_1 : Rw 213 1 4 3 80 6 0 25 := rw_of (by decide +kernel)
theorem r213_4 : Rw 213 4 7 3 80 2 0 53 := rw_of (by decide +kernel)
theorem r213_7 : Rw 213 7 8 1 20 3 0 0 := rw_of (by decide +kernel)
theorem r213_8 : Rw 213 8 9 1 14 3 0 0 := rw_of (by decide +kernel)
theorem r213_9 : Rw 213 9 12 3 80 5 0 90 := rw_of (by decide +kernel)
theorem r213_12 : Rw 213 12 14 2 2 (cd 102) 230 0 := rw_of (by decide +kernel)
theorem r213_14 : Rw 213 14 15 1 14 0 0 0 := rw_of (by decide +kernel)
theorem r213_15 : Rw 213 15 18 3 80 6 7 15 := rw_of (by decide +kernel)
theorem bf_613_7 {M : Mm} (h : Pw M) : 0 ≤ M 613 7 ∧ M 613 7 ≤ 12 := (h 613 7 (by decide) (by decide) (by decide) (by decide +kernel)).get0 g_613_7 rfl rfl rfl rfl
theorem r213_18 : Rw 213 18 19 1 30 0 0 0 := rw_of (by decide +kernel)
theorem r213_19 : Rw 213 19 20 1 87 0 0 0 := rw_of (by decide +kernel)
theorem r213_20 : Rw 213 20 22 2 21 4 0 0 := rw_of (by decide +kernel)
theorem r213_22 : Rw 213 22 23 1 14 0 0 0 := rw_of (by decide +kernel)
theorem r213_23 : Rw 213 23 26 3 80 6 2 40 := rw_of (by decide +kernel)
theorem r213_26 : Rw 213 26 27 1 10 2 0 0 := rw_of (by decide +kernel)
theorem r213_27 : Rw 213 27 28 1 87 0 0 0 := rw_of (by decide +kernel)
theorem r213_28 : Rw 213 28 29 1 1 (cd 0) 1 0 := rw_of (by decide +kernel)
theorem r213_29 : Rw 213 29 31 2 15 4 0 0 := rw_of (by decide +kernel)
theorem r213_31 : Rw 213 31 32 1 1 (cd 0) 1 0 := rw_of (by decide +kernel)
theorem r213_32 : Rw 213 32 33 1 14 0 0 0 := rw_of (by decide +kernel)
theorem r213_33 : Rw 213 33 36 3 80 6 0 25 := rw_of (by decide +kernel)
theorem r213_36 : Rw 213 36 39 3 80 2 1 33 := rw_of (by decide +kernel)
theorem r213_39 : Rw 213 39 42 3 110 0 0 93 := rw_of (by decide +kernel)
theorem r213_42 : Rw 213 42 43 1 14 3 0 0 := rw_of (by decide +kernel)
theorem r213_43 : Rw 213 43 44 1 10 1 0 0 := rw_of (by decide +kernel)
theorem r213_44 : Rw 213 44 47 3 100 200 2 99 := rw_of (by decide +kernel)
theorem r213_47 : Rw 213 47 48 1 14 0 0 0 := rw_of (by decide +kernel)
theorem r213_48 : Rw 213 48 49 1 10 1 0 0 := rw_of (by decide +kernel)
theorem r213_49 : Rw 213 49 52 3 100 210 2 103 := rw_of (by decide +kernel)
theorem r210_0 : Rw 210 0 1 1 1 (cd 0) 1 0 := rw_of (by decide +kernel)
theorem r210_1 : Rw 210 1 2 1 16 2 0 0 := rw_of (by decide +kernel)
theorem r210_2 : Rw 210 2 3 1 10 2 0 0 := rw_of (by decide +kernel)
theorem r210_3 : Rw 210 3 4 1 14 0 0 0 := rw_of (by decide +kernel)
theorem r210_4 : Rw 210 4 7 3 80 6 6 9 := rw_of (by decide +kernel)
theorem r210_7 : Rw 210 7 10 3 70 82 0 0 := rw_of (by decide +kernel)
theorem r210_82 : Rw 210 82 83 1 77 0 0 0 := rw_of (by decide +kernel)
theorem r210_10 : Rw 210 10 11 1 14 0 0 0 := rw_of (by decide +kernel)
theorem r210_11 : Rw 210 11 14 3 80 6 1 29 := rw_of (by decide +kernel)
theorem r210_14 : Rw 210 14 15 1 10 2 0 0 := rw_of (by decide +kernel)
theorem r210_15 : Rw 210 15 16 1 86 0 0 0 := rw_of (by decide +kernel)
theorem r210_16 : Rw 210 16 17 1 10 1 0 0 := rw_of (by decide +kernel)
theorem r210_17 : Rw 210 17 18 1 14 0 0 0 := rw_of (by decide +kernel)
theorem r210_18 : Rw 210 18 21 3 80 6 7 15 := rw_of (by decide +kernel)
theorem r210_21 : Rw 210 21 24 3 100 142 3 115 := rw_of (by decide +kernel)
theorem r142_0 : Rw 142 0 1 1 14 0 0 0 := rw_of (by decide +kernel)
theorem r142_1 : Rw 142 1 4 3 80 1 2 19 := rw_of (by decide +kernel)
theorem fdCb_2 : (List.range 30).all (fun j => fdb (679 + 2 * j) 1 2 0) = true := by decide +kernel
theorem fdC_2 {a : Int} (h : isC a) : Fdl a 1 2 2 0 := by
  rcases h with rfl | h
  · exact fd_of (by decide) rfl (by decide +kernel)
  · refine fd_of (by omega) rfl ?_
    have h2 := List.all_eq_true.mp fdCb_2 ((a.toNat - 679) / 2) (List.mem_range.mpr (by omega))
    rw [show 679 + 2 * ((a.toNat - 679) / 2) = a.toNat by omega] at h2
    exact h2
theorem bC_2 {M : Mm} (h : Pw M) {a : Int} (ha : isC a) : 0 ≤ M a 2 ∧ M a 2 ≤ 127 := (h a 2 (isC_rg ha).1 (by have := isC_rg ha; omega) (by decide) (by rw [lnC ha]; decide)).get0 (g_c2 ha) rfl rfl rfl rfl
theorem r142_4 : Rw 142 4 5 1 10 1 0 0 := rw_of (by decide +kernel)
theorem r142_5 : Rw 142 5 6 1 37 0 0 0 := rw_of (by decide +kernel)
theorem r142_6 : Rw 142 6 7 1 1 (cd 1) 2 0 := rw_of (by decide +kernel)
theorem r142_7 : Rw 142 7 8 1 33 0 0 0 := rw_of (by decide +kernel)
theorem r142_8 : Rw 142 8 9 1 1 (cd 1) 2 0 := rw_of (by decide +kernel)
theorem r142_9 : Rw 142 9 12 3 67 24 0 0 := rw_of (by decide +kernel)
theorem r142_24 : Rw 142 24 25 1 1 (cd 1) 2 0 := rw_of (by decide +kernel)
theorem r142_25 : Rw 142 25 28 3 60 29 0 0 := rw_of (by decide +kernel)
theorem r142_29 : Rw 142 29 30 1 74 1 0 0 := rw_of (by decide +kernel)
theorem r142_12 : Rw 142 12 13 1 14 0 0 0 := rw_of (by decide +kernel)
theorem r142_13 : Rw 142 13 16 3 80 1 3 22 := rw_of (by decide +kernel)
theorem fdCb_3 : (List.range 30).all (fun j => fdb (679 + 2 * j) 1 3 0) = true := by decide +kernel
theorem fdC_3 {a : Int} (h : isC a) : Fdl a 1 3 3 0 := by
  rcases h with rfl | h
  · exact fd_of (by decide) rfl (by decide +kernel)
  · refine fd_of (by omega) rfl ?_
    have h2 := List.all_eq_true.mp fdCb_3 ((a.toNat - 679) / 2) (List.mem_range.mpr (by omega))
    rw [show 679 + 2 * ((a.toNat - 679) / 2) = a.toNat by omega] at h2
    exact h2
theorem bC_3 {M : Mm} (h : Pw M) {a : Int} (ha : isC a) : 0 ≤ M a 3 ∧ M a 3 ≤ 32767 := (h a 3 (isC_rg ha).1 (by have := isC_rg ha; omega) (by decide) (by rw [lnC ha]; decide)).get0 (g_c3 ha) rfl rfl rfl rfl
theorem r142_16 : Rw 142 16 17 1 10 2 0 0 := rw_of (by decide +kernel)
theorem r142_17 : Rw 142 17 18 1 37 0 0 0 := rw_of (by decide +kernel)
theorem r142_18 : Rw 142 18 19 1 1 (cd 1) 2 0 := rw_of (by decide +kernel)
theorem r142_19 : Rw 142 19 20 1 33 0 0 0 := rw_of (by decide +kernel)
theorem r142_20 : Rw 142 20 21 1 1 (cd 1) 2 0 := rw_of (by decide +kernel)
theorem r142_21 : Rw 142 21 24 3 68 28 0 0 := rw_of (by decide +kernel)
theorem r142_28 : Rw 142 28 29 1 1 (cd 0) 1 0 := rw_of (by decide +kernel)
theorem kcCb_142 : (List.range 30).all (fun j => kcb (679 + 2 * j) 142) = true := by decide +kernel
theorem kcC_142 {a : Int} (h : isC a) : Kc a 142 := by
  rcases h with rfl | h
  · exact kc_of (by decide) (by decide +kernel)
  · refine kc_of (by omega) ?_
    have h2 := List.all_eq_true.mp kcCb_142 ((a.toNat - 679) / 2) (List.mem_range.mpr (by omega))
    rw [show 679 + 2 * ((a.toNat - 679) / 2) = a.toNat by omega] at h2
    exact h2
theorem r210_24 : Rw 210 24 27 3 61 52 0 0 := rw_of (by decide +kernel)
theorem r210_52 : Rw 210 52 53 1 14 0 0 0 := rw_of (by decide +kernel)
theorem r210_53 : Rw 210 53 56 3 80 6 2 40 := rw_of (by decide +kernel)
theorem r210_56 : Rw 210 56 57 1 10 2 0 0 := rw_of (by decide +kernel)
theorem r210_57 : Rw 210 57 58 1 87 0 0 0 := rw_of (by decide +kernel)
theorem r210_58 : Rw 210 58 59 1 1 (cd 0) 1 0 := rw_of (by decide +kernel)
theorem r210_59 : Rw 210 59 60 1 14 0 0 0 := rw_of (by decide +kernel)
theorem r210_60 : Rw 210 60 63 3 80 6 3 43 := rw_of (by decide +kernel)
theorem fd_613_3 : Fdl 613 6 3 3 2 := fd_of (by decide) rfl (by decide +kernel)
theorem bf_613_3 {M : Mm} (h : Pw M) : 646 ≤ M 613 3 ∧ M 613 3 ≤ 646 := (h 613 3 (by decide) (by decide) (by decide) (by decide +kernel)).get0 g_613_3 rfl rfl rfl rfl
theorem br_613_3 {M : Mm} (h : Pw M) : M 613 3 = 646 := by have := bf_613_3 h; omega
theorem r210_63 : Rw 210 63 64 1 10 2 0 0 := rw_of (by decide +kernel)
theorem r210_64 : Rw 210 64 65 1 87 0 0 0 := rw_of (by decide +kernel)
theorem ar_646 : Ar 646 104 30 := ar_of (by decide) (by decide) (by decide +kernel)
theorem ba_646 {M : Mm} (h : Pw M) {i : Int} (h0 : 0 ≤ i) (h1 : i < 30) : M 646 i = 647 + i := by
  have := (h 646 i (by decide) (by decide) h0 (by rw [ar_646.2.2.2.1]; exact h1)).get (l := 647) (u := 647) (c := 1) (s := 0) (gr_646 (by decide) (by decide) i) rfl rfl rfl rfl
  omega
theorem r210_65 : Rw 210 65 66 1 1 (cd 0) 1 0 := rw_of (by decide +kernel)
theorem r210_66 : Rw 210 66 67 1 14 0 0 0 := rw_of (by decide +kernel)
theorem r210_67 : Rw 210 67 70 3 80 6 0 25 := rw_of (by decide +kernel)
theorem r210_70 : Rw 210 70 73 3 80 2 1 33 := rw_of (by decide +kernel)
theorem r210_73 : Rw 210 73 76 3 110 0 0 93 := rw_of (by decide +kernel)
theorem arb_647 : (List.range 30).all (fun j => arb (647 + j) 102 5) = true := by decide +kernel
theorem arF_647 {a : Int} (h0 : 647 ≤ a) (h1 : a ≤ 676) : Ar a 102 5 := ar_of (by omega) (by decide) (by
  have h := List.all_eq_true.mp arb_647 (a.toNat - 647) (List.mem_range.mpr (by omega))
  rw [show 647 + (a.toNat - 647) = a.toNat by omega] at h
  exact h)
theorem baF_647 {M : Mm} (h : Pw M) {a i : Int} (ha : 647 ≤ a) (hb : a ≤ 676) (h0 : 0 ≤ i) (h1 : i < 5) : 0 ≤ M a i ∧ M a i ≤ 18446744073709551615 := (h a i (by omega) (by omega) h0 (by rw [(arF_647 ha hb).2.2.2.1]; exact h1)).get0 (gr_647 ha hb i) rfl rfl rfl rfl
theorem uaF_647 {a i z : Int} (ha : 647 ≤ a) (hb : a ≤ 676) (hz : 0 ≤ z ∧ z ≤ 18446744073709551615) : Bd a i z := Bd.of0 (gr_647 ha hb i) rfl rfl rfl rfl rfl hz
theorem r210_76 : Rw 210 76 79 3 22 2 (cd 1) 32769 := rw_of (by decide +kernel)
theorem r210_79 : Rw 210 79 82 3 60 2 0 0 := rw_of (by decide +kernel)
theorem r210_27 : Rw 210 27 28 1 14 0 0 0 := rw_of (by decide +kernel)
theorem r210_28 : Rw 210 28 31 3 80 6 0 25 := rw_of (by decide +kernel)
theorem r210_31 : Rw 210 31 34 3 80 2 0 53 := rw_of (by decide +kernel)
theorem r210_34 : Rw 210 34 35 1 14 0 0 0 := rw_of (by decide +kernel)
theorem r210_35 : Rw 210 35 38 3 80 6 1 29 := rw_of (by decide +kernel)
theorem r210_38 : Rw 210 38 39 1 10 2 0 0 := rw_of (by decide +kernel)
theorem r210_39 : Rw 210 39 40 1 86 0 0 0 := rw_of (by decide +kernel)
theorem r210_40 : Rw 210 40 41 1 14 0 0 0 := rw_of (by decide +kernel)
theorem r210_41 : Rw 210 41 44 3 80 6 3 43 := rw_of (by decide +kernel)
theorem r210_44 : Rw 210 44 45 1 10 2 0 0 := rw_of (by decide +kernel)
theorem r210_45 : Rw 210 45 46 1 87 0 0 0 := rw_of (by decide +kernel)
theorem r210_46 : Rw 210 46 49 3 100 196 3 57 := rw_of (by decide +kernel)
theorem r210_49 : Rw 210 49 52 3 60 76 0 0 := rw_of (by decide +kernel)
theorem kc_613_210 : Kc 613 210 := kc_of (by decide) (by decide +kernel)
theorem r213_52 : Rw 213 52 53 1 14 0 0 0 := rw_of (by decide +kernel)
theorem r213_53 : Rw 213 53 54 1 10 1 0 0 := rw_of (by decide +kernel)
theorem r213_54 : Rw 213 54 55 1 10 2 0 0 := rw_of (by decide +kernel)
theorem r213_55 : Rw 213 55 58 3 100 211 3 106 := rw_of (by decide +kernel)
theorem r211_0 : Rw 211 0 1 1 10 1 0 0 := rw_of (by decide +kernel)
theorem r211_1 : Rw 211 1 2 1 16 3 0 0 := rw_of (by decide +kernel)
theorem r211_2 : Rw 211 2 3 1 10 3 0 0 := rw_of (by decide +kernel)
theorem r211_3 : Rw 211 3 4 1 14 0 0 0 := rw_of (by decide +kernel)
theorem r211_4 : Rw 211 4 7 3 80 6 0 25 := rw_of (by decide +kernel)
theorem r211_7 : Rw 211 7 10 3 80 2 0 53 := rw_of (by decide +kernel)
theorem r211_10 : Rw 211 10 13 3 80 5 7 67 := rw_of (by decide +kernel)
theorem r211_13 : Rw 211 13 16 3 70 95 0 0 := rw_of (by decide +kernel)
theorem r211_95 : Rw 211 95 96 1 1 (cd (-1)) 0 0 := rw_of (by decide +kernel)
theorem r211_96 : Rw 211 96 97 1 74 0 0 0 := rw_of (by decide +kernel)
theorem r211_16 : Rw 211 16 17 1 10 3 0 0 := rw_of (by decide +kernel)
theorem r211_17 : Rw 211 17 18 1 10 1 0 0 := rw_of (by decide +kernel)
theorem r211_18 : Rw 211 18 21 3 68 25 0 0 := rw_of (by decide +kernel)
theorem r211_25 : Rw 211 25 26 1 1 (cd 0) 1 0 := rw_of (by decide +kernel)
theorem r211_21 : Rw 211 21 22 1 10 2 0 0 := rw_of (by decide +kernel)
theorem r211_22 : Rw 211 22 25 3 60 26 0 0 := rw_of (by decide +kernel)
theorem r211_26 : Rw 211 26 28 2 17 4 0 0 := rw_of (by decide +kernel)
theorem r211_28 : Rw 211 28 30 2 11 4 0 0 := rw_of (by decide +kernel)
theorem r211_30 : Rw 211 30 31 1 14 0 0 0 := rw_of (by decide +kernel)
theorem r211_31 : Rw 211 31 34 3 80 6 6 9 := rw_of (by decide +kernel)
theorem r211_34 : Rw 211 34 37 3 70 89 0 0 := rw_of (by decide +kernel)
theorem r211_89 : Rw 211 89 92 3 22 3 (cd 1) 32769 := rw_of (by decide +kernel)
theorem r211_92 : Rw 211 92 95 3 60 2 0 0 := rw_of (by decide +kernel)
theorem r211_37 : Rw 211 37 38 1 14 0 0 0 := rw_of (by decide +kernel)
theorem r211_38 : Rw 211 38 41 3 80 6 0 25 := rw_of (by decide +kernel)
theorem r211_41 : Rw 211 41 42 1 14 0 0 0 := rw_of (by decide +kernel)
theorem r211_42 : Rw 211 42 45 3 80 6 4 46 := rw_of (by decide +kernel)
theorem r211_45 : Rw 211 45 46 1 10 3 0 0 := rw_of (by decide +kernel)
theorem r211_46 : Rw 211 46 47 1 1 (cd (-1)) 0 0 := rw_of (by decide +kernel)
theorem r211_47 : Rw 211 47 48 1 14 0 0 0 := rw_of (by decide +kernel)
theorem r211_48 : Rw 211 48 51 3 80 6 3 43 := rw_of (by decide +kernel)
theorem r211_51 : Rw 211 51 53 2 11 4 0 0 := rw_of (by decide +kernel)
theorem r211_53 : Rw 211 53 54 1 87 0 0 0 := rw_of (by decide +kernel)
theorem r211_54 : Rw 211 54 55 1 14 0 0 0 := rw_of (by decide +kernel)
theorem r211_55 : Rw 211 55 58 3 80 6 5 50 := rw_of (by decide +kernel)
theorem fd_613_5 : Fdl 613 6 5 5 2 := fd_of (by decide) rfl (by decide +kernel)
theorem bf_613_5 {M : Mm} (h : Pw M) : 678 ≤ M 613 5 ∧ M 613 5 ≤ 678 := (h 613 5 (by decide) (by decide) (by decide) (by decide +kernel)).get0 g_613_5 rfl rfl rfl rfl
theorem br_613_5 {M : Mm} (h : Pw M) : M 613 5 = 678 := by have := bf_613_5 h; omega
theorem r211_58 : Rw 211 58 61 3 100 148 6 74 := rw_of (by decide +kernel)
theorem arb_678 : (List.range 1).all (fun j => arb (678 + j) 102 5) = true := by decide +kernel
theorem arF_678 {a : Int} (h0 : 678 ≤ a) (h1 : a ≤ 678) : Ar a 102 5 := ar_of (by omega) (by decide) (by
  have h := List.all_eq_true.mp arb_678 (a.toNat - 678) (List.mem_range.mpr (by omega))
  rw [show 678 + (a.toNat - 678) = a.toNat by omega] at h
  exact h)
theorem b4_678 {M : Mm} (h : Pw M) {a i : Int} (ha : 678 ≤ a) (hb : a ≤ 678) (h0 : 0 ≤ i) (h1 : i < 5) : 0 ≤ M a i ∧ M a i ≤ 18446744073709551615 ∧ (i = 4 → M a i ≤ 17592186044415) := by
  have hx := h a i (by omega) (by omega) h0 (by rw [(arF_678 ha hb).2.2.2.1]; exact h1)
  by_cases e : i = 4
  · have := hx.get0 (k := 162) (l := 0) (u := 17592186044415) (by rw [gr_678 ha hb, if_pos e]) rfl rfl rfl rfl
    omega
  · have := hx.get0 (k := 161) (l := 0) (u := 18446744073709551615) (by rw [gr_678 ha hb, if_neg e]) rfl rfl rfl rfl
    omega
theorem u4_678 {a i z : Int} (ha : 678 ≤ a) (hb : a ≤ 678) (hz : 0 ≤ z ∧ z ≤ 18446744073709551615 ∧ (i = 4 → z ≤ 17592186044415)) : Bd a i z := by
  by_cases e : i = 4
  · exact Bd.of0 (k := 162) (l := 0) (u := 17592186044415) (by rw [gr_678 ha hb, if_pos e]) rfl rfl rfl rfl rfl ⟨hz.1, hz.2.2 e⟩
  · exact Bd.of0 (k := 161) (l := 0) (u := 18446744073709551615) (by rw [gr_678 ha hb, if_neg e]) rfl rfl rfl rfl rfl ⟨hz.1, hz.2.1⟩
theorem t4_678 {m : Nat} (h1 : Nat.testBit m 161 = true) (h2 : Nat.testBit m 162 = true) {a : Int} (ha : 678 ≤ a) (hb : a ≤ 678) (i : Int) : Nat.testBit m (grp a i) = true := by
  rw [gr_678 ha hb]
  by_cases e : i = 4
  · rw [if_pos e]
    exact h2
  · rw [if_neg e]
    exact h1
theorem r211_61 : Rw 211 61 62 1 14 0 0 0 := rw_of (by decide +kernel)
theorem r211_62 : Rw 211 62 65 3 80 6 0 25 := rw_of (by decide +kernel)
theorem r211_65 : Rw 211 65 66 1 14 0 0 0 := rw_of (by decide +kernel)
theorem r211_66 : Rw 211 66 69 3 80 6 5 50 := rw_of (by decide +kernel)
theorem r211_69 : Rw 211 69 72 3 100 151 2 86 := rw_of (by decide +kernel)
theorem r211_72 : Rw 211 72 75 3 61 83 0 0 := rw_of (by decide +kernel)
theorem r211_83 : Rw 211 83 86 3 22 4 (cd 1) 32769 := rw_of (by decide +kernel)
theorem r211_86 : Rw 211 86 89 3 60 28 0 0 := rw_of (by decide +kernel)
theorem r211_75 : Rw 211 75 77 2 2 (cd 30) 158 0 := rw_of (by decide +kernel)
theorem r211_77 : Rw 211 77 78 1 10 3 0 0 := rw_of (by decide +kernel)
theorem r211_78 : Rw 211 78 79 1 32 0 0 0 := rw_of (by decide +kernel)
theorem r211_79 : Rw 211 79 81 2 11 4 0 0 := rw_of (by decide +kernel)
theorem r211_81 : Rw 211 81 82 1 30 0 0 0 := rw_of (by decide +kernel)
theorem r211_82 : Rw 211 82 83 1 74 0 0 0 := rw_of (by decide +kernel)
theorem kc_613_211 : Kc 613 211 := kc_of (by decide) (by decide +kernel)
theorem r213_58 : Rw 213 58 60 2 17 5 0 0 := rw_of (by decide +kernel)
theorem r213_60 : Rw 213 60 61 1 14 3 0 0 := rw_of (by decide +kernel)
theorem r213_61 : Rw 213 61 62 1 10 1 0 0 := rw_of (by decide +kernel)
theorem r213_62 : Rw 213 62 65 3 100 200 2 99 := rw_of (by decide +kernel)
theorem r213_65 : Rw 213 65 67 2 15 4 0 0 := rw_of (by decide +kernel)
theorem r213_67 : Rw 213 67 68 1 6 0 0 0 := rw_of (by decide +kernel)
theorem r213_68 : Rw 213 68 71 3 102 266 2 109 := rw_of (by decide +kernel)
theorem r213_71 : Rw 213 71 73 2 11 5 0 0 := rw_of (by decide +kernel)
theorem r213_73 : Rw 213 73 74 1 74 0 0 0 := rw_of (by decide +kernel)
theorem kc_613_213 : Kc 613 213 := kc_of (by decide) (by decide +kernel)
theorem r212_130 : Rw 212 130 131 1 1 (cd (-1)) 0 0 := rw_of (by decide +kernel)
theorem r212_131 : Rw 212 131 134 3 60 141 0 0 := rw_of (by decide +kernel)
theorem r212_141 : Rw 212 141 143 2 17 5 0 0 := rw_of (by decide +kernel)
theorem r212_143 : Rw 212 143 145 2 11 5 0 0 := rw_of (by decide +kernel)
theorem r212_145 : Rw 212 145 146 1 1 (cd (-1)) 0 0 := rw_of (by decide +kernel)
theorem r212_146 : Rw 212 146 149 3 67 180 0 0 := rw_of (by decide +kernel)
theorem r212_180 : Rw 212 180 183 3 22 4 (cd 1) 32769 := rw_of (by decide +kernel)
theorem r212_183 : Rw 212 183 186 3 60 79 0 0 := rw_of (by decide +kernel)
theorem r212_149 : Rw 212 149 150 1 14 0 0 0 := rw_of (by decide +kernel)
theorem r212_150 : Rw 212 150 153 3 80 6 8 18 := rw_of (by decide +kernel)
theorem r212_153 : Rw 212 153 154 1 1 (cd 0) 1 0 := rw_of (by decide +kernel)
theorem r212_154 : Rw 212 154 156 2 2 (cd 30) 158 0 := rw_of (by decide +kernel)
theorem r212_156 : Rw 212 156 157 1 10 3 0 0 := rw_of (by decide +kernel)
theorem r212_157 : Rw 212 157 158 1 32 0 0 0 := rw_of (by decide +kernel)
theorem r212_158 : Rw 212 158 160 2 11 4 0 0 := rw_of (by decide +kernel)
theorem r212_160 : Rw 212 160 161 1 30 0 0 0 := rw_of (by decide +kernel)
theorem r212_161 : Rw 212 161 162 1 88 0 0 0 := rw_of (by decide +kernel)
theorem r212_162 : Rw 212 162 163 1 14 0 0 0 := rw_of (by decide +kernel)
theorem r212_163 : Rw 212 163 166 3 80 6 8 18 := rw_of (by decide +kernel)
theorem r212_166 : Rw 212 166 167 1 1 (cd 1) 2 0 := rw_of (by decide +kernel)
theorem r212_167 : Rw 212 167 169 2 11 5 0 0 := rw_of (by decide +kernel)
theorem r212_169 : Rw 212 169 170 1 88 0 0 0 := rw_of (by decide +kernel)
theorem r212_170 : Rw 212 170 171 1 14 0 0 0 := rw_of (by decide +kernel)
theorem r212_171 : Rw 212 171 172 1 1 (cd 2) 3 0 := rw_of (by decide +kernel)
theorem r212_172 : Rw 212 172 175 3 81 6 9 0 := rw_of (by decide +kernel)
theorem r212_175 : Rw 212 175 176 1 14 0 0 0 := rw_of (by decide +kernel)
theorem r212_176 : Rw 212 176 179 3 80 6 9 22 := rw_of (by decide +kernel)
theorem r212_179 : Rw 212 179 180 1 74 0 0 0 := rw_of (by decide +kernel)
theorem kc_613_212 : Kc 613 212 := kc_of (by decide) (by decide +kernel)
theorem r37_73 : Rw 37 73 74 1 74 0 0 0 := rw_of (by decide +kernel)
theorem r37_40 : Rw 37 40 42 2 2 (cd (-2)) 126 0 := rw_of (by decide +kernel)
theorem r37_42 : Rw 37 42 43 1 74 0 0 0 := rw_of (by decide +kernel)
theorem r37_18 : Rw 37 18 19 1 1 (cd (-1)) 0 0 := rw_of (by decide +kernel)
theorem r37_19 : Rw 37 19 20 1 74 0 0 0 := rw_of (by decide +kernel)
def fm_m29 : Nat := 0
/-- IslandHall.needAnswer -/
theorem m29 {B : eB} (d : Nat) (M0 : Mm) (p0 : Int) (hP0 : Pw M0) (l0 : (-2147483648) ≤ p0) (u0 : p0 ≤ 2147483647) : Ct B (d + 1) 29 [I p0] M0 (qX 0 (fun M => Pw M ∧ Fr (fm_m29 ||| 1) M0 M ∧ M (-1) 0 = M0 (-1) 0 + 1) (qV fun M => Pw M ∧ Fr fm_m29 M0 M ∧ 0 ≤ p0 ∧ 0 ≤ (-1) * p0 + 3)) := by
  refine ct_of (d := d + 0) (k := 0) (L := [some (I p0)]) rfl rfl rfl ?_
  have hF0 := Fr.rf fm_m29 M0
  generalize hQ : (qX 0 (fun M => Pw M ∧ Fr (fm_m29 ||| 1) M0 M ∧ M (-1) 0 = M0 (-1) 0 + 1) (qV fun M => Pw M ∧ Fr fm_m29 M0 M ∧ 0 ≤ p0 ∧ 0 ≤ (-1) * p0 + 3)) = Q
  refine wk_il0 r29_0 ?_
  refine wk_iflt r29_1 ⟨by omega, by omega⟩ ?_ ?_
  · intro h1
    subst hQ; exact wk_thr112 r29_9 rfl (Or.inl ⟨rfl, hP0.thr, (Fr.thr hF0), (by rw [mUp_eq, hF0.at g_below rfl])⟩)
  · intro h2
    refine wk_il0 r29_4 (wk_c1 r29_5 ?_)
    refine wk_iclt r29_6 ⟨by omega, by omega⟩ (by decide) ?_ ?_
    · intro h3
      subst hQ; exact wk_ret r29_20 (Or.inr ⟨rfl, hP0, hF0, by omega, by omega⟩)
    · intro h4
      subst hQ; exact wk_thr112 r29_9 rfl (Or.inl ⟨rfl, hP0.thr, (Fr.thr hF0), (by rw [mUp_eq, hF0.at g_below rfl])⟩)
def fm_m229_138 : Nat := 0
/-- IslandHall$Tale.fitting -/
theorem m229_138 {B : eB} (d : Nat) (M0 : Mm) (hP0 : Pw M0)  : Ct B (d + 1) 229 [R 138] M0 (qR fun z M => Pw M ∧ Fr fm_m229_138 M0 M ∧ 155 ≤ z ∧ z ≤ 167) := by
  refine ct_of (d := d + 0) (k := 0) (L := [some (R 138)]) rfl rfl rfl ?_
  have hF0 := Fr.rf fm_m229_138 M0
  generalize hQ : (qR fun z M => Pw M ∧ Fr fm_m229_138 M0 M ∧ 155 ≤ z ∧ z ≤ 167) = Q
  refine wk_al0 r229_0 (wk_getfr r229_1 fd_138_3 (br_138_3 hP0) (wk_al0 r229_4 (wk_getfb r229_5 fd_138_5 (bf_138_5 hP0) ?_)))
  intro v1 h3 h4 e2
  refine wk_raldb r229_8 ar_154 ⟨by omega, by omega⟩ (fun q0 q1 => ba_154 hP0 q0 q1) ?_
  subst hQ; exact wk_aret r229_9 (⟨rfl, _, rfl, hP0, hF0, by omega, by omega⟩)
def lbF_g (p0 : Nat) : Int :=
  let n1 : Nat := p0 / 2 ^ Int.toNat (1)
  let n4 : Nat := (n1 &&& 6148914691236517205) % 18446744073709551616
  let n9 : Nat := (p0 + (18446744073709551616 - n4)) % 18446744073709551616
  let n12 : Nat := (n9 &&& 3689348814741910323) % 18446744073709551616
  let n17 : Nat := n9 / 2 ^ Int.toNat (2)
  let n20 : Nat := (n17 &&& 3689348814741910323) % 18446744073709551616
  let n25 : Nat := (n12 + n20) % 18446744073709551616
  let n28 : Nat := n25 / 2 ^ Int.toNat (4)
  let n31 : Nat := (n25 + n28) % 18446744073709551616
  let n34 : Nat := (n31 &&& 1085102592571150095) % 18446744073709551616
  let n39 : Nat := n34 / 2 ^ Int.toNat (8)
  let n42 : Nat := (n34 + n39) % 18446744073709551616
  let n45 : Nat := n42 / 2 ^ Int.toNat (16)
  let n48 : Nat := (n42 + n45) % 18446744073709551616
  let n51 : Nat := n48 / 2 ^ Int.toNat (32)
  let n54 : Nat := (n48 + n51) % 18446744073709551616
  let v57 : Int := ((n54 : Int) + 2147483648) % 4294967296 - 2147483648
  (v57 % 128)
theorem lbF_ex : ∃ f : Nat → Int, ∀ p0, f p0 = lbF_g p0 := ⟨lbF_g, fun _ => rfl⟩
noncomputable def lbF : Nat → Int := Classical.choose lbF_ex
theorem lbF_eq (p0 : Nat) : lbF p0 = lbF_g p0 := Classical.choose_spec lbF_ex p0
theorem lbF_nn (p0 : Nat) : 0 ≤ lbF p0 := by
  rw [lbF_eq]
  unfold lbF_g
  exact Int.emod_nonneg _ (by decide)
theorem lbF_t : (List.range 64).all (fun t => decide (lbF_g (2 ^ t - 1) = (t : Int))) = true := by decide +kernel
theorem tz_b {n r1 r2 r : Nat} (h0 : 0 < n) (hn : n < 18446744073709551616) (e1 : r1 = (n ^^^ 18446744073709551615) % 18446744073709551616) (e2 : r2 = (n + (18446744073709551616 - 1)) % 18446744073709551616) (e : r = (r1 &&& r2) % 18446744073709551616) : 0 ≤ lbF r ∧ lbF r ≤ 63 ∧ (n ≤ 17592186044415 → lbF r ≤ 43) := by
  obtain ⟨t, k, ht⟩ := tz_ex n h0
  have h1 := tz_bits ht hn
  have hx : n ^^^ 18446744073709551615 < 18446744073709551616 := Nat.xor_lt_two_pow (n := 64) hn (by decide)
  have q1 : r1 = n ^^^ 18446744073709551615 := by rw [e1, Nat.mod_eq_of_lt hx]
  have q2 : r2 = n - 1 := by omega
  have q3 : r1 &&& r2 = 2 ^ t - 1 := by rw [q1, q2]; exact h1
  have hle : 2 ^ t ≤ n := by
    rw [ht]
    exact Nat.le_mul_of_pos_right _ (by omega)
  have q4 : r = 2 ^ t - 1 := by rw [e, q3, Nat.mod_eq_of_lt (by omega)]
  have t64 : t < 64 := (Nat.pow_lt_pow_iff_right (a := 2) (by decide)).mp (Nat.lt_of_le_of_lt hle hn)
  have h2 := of_decide_eq_true (List.all_eq_true.mp lbF_t t (List.mem_range.mpr t64))
  rw [q4, lbF_eq, h2]
  refine ⟨by omega, by omega, fun q => ?_⟩
  have : t < 44 := (Nat.pow_lt_pow_iff_right (a := 2) (by decide)).mp (Nat.lt_of_le_of_lt hle (show n < 2 ^ 44 by omega))
  omega
def fm_m245 : Nat := 0
/-- java/lang/Long.bitCount -/
theorem m245 {B : eB} (d : Nat) (M0 : Mm) (p0 : Nat) (hP0 : Pw M0) (l0 : p0 < 18446744073709551616) : Ct B (d + 1) 245 [J p0] M0 (qI fun z M => Pw M ∧ Fr fm_m245 M0 M ∧ 0 ≤ z ∧ z ≤ 127 ∧ (z = lbF p0)) := by
  refine ct_of (d := d + 0) (k := 0) (L := [some (J p0), none]) rfl rfl rfl ?_
  have hF0 := Fr.rf fm_m245 M0
  generalize hQ : (qI fun z M => Pw M ∧ Fr fm_m245 M0 M ∧ 0 ≤ z ∧ z ≤ 127 ∧ (z = lbF p0)) = Q
  refine wk_ll0 r245_0 (wk_ll0 r245_1 (wk_c1 r245_2 (wk_lushrb r245_3 (by omega) (by decide) ?_)))
  intro n1 h2 h3
  refine wk_c7 r245_4 (wk_land r245_7 ?_)
  intro n4 h5 h6 h7 h8
  refine wk_lsubb r245_8 (by omega) ?_
  intro n9 h11 h10
  refine wk_ls0 r245_9 (wk_ll0 r245_10 (wk_c7 r245_11 (wk_land r245_14 ?_)))
  intro n12 h13 h14 h15 h16
  refine wk_ll0 r245_15 (wk_c1 r245_16 (wk_lushrb r245_17 (by omega) (by decide) ?_))
  intro n17 h18 h19
  refine wk_c7 r245_18 (wk_land r245_21 ?_)
  intro n20 h21 h22 h23 h24
  refine wk_laddb r245_22 ?_
  intro n25 h27 h26
  refine wk_ls0 r245_23 (wk_ll0 r245_24 (wk_ll0 r245_25 (wk_c1 r245_26 (wk_lushrb r245_27 (by omega) (by decide) ?_))))
  intro n28 h29 h30
  refine wk_laddb r245_28 ?_
  intro n31 h33 h32
  refine wk_c7 r245_29 (wk_land r245_32 ?_)
  intro n34 h35 h36 h37 h38
  refine wk_ls0 r245_33 (wk_ll0 r245_34 (wk_ll0 r245_35 (wk_c2 r245_36 (wk_lushrb r245_38 (by omega) (by decide) ?_))))
  intro n39 h40 h41
  refine wk_laddb r245_39 ?_
  intro n42 h44 h43
  refine wk_ls0 r245_40 (wk_ll0 r245_41 (wk_ll0 r245_42 (wk_c2 r245_43 (wk_lushrb r245_45 (by omega) (by decide) ?_))))
  intro n45 h46 h47
  refine wk_laddb r245_46 ?_
  intro n48 h50 h49
  refine wk_ls0 r245_47 (wk_ll0 r245_48 (wk_ll0 r245_49 (wk_c2 r245_50 (wk_lushrb r245_52 (by omega) (by decide) ?_))))
  intro n51 h52 h53
  refine wk_laddb r245_53 ?_
  intro n54 h56 h55
  refine wk_ls0 r245_54 (wk_ll0 r245_55 (wk_l2i r245_56 (wk_wrap ?_)))
  intro v57 h58 h59 h60
  refine wk_c2 r245_57 (wk_iandc 7 128 r245_59 ⟨rfl, by decide⟩ rfl ?_)
  subst hQ; exact wk_iret r245_60 (⟨rfl, _, rfl, hP0, hF0, by omega, by omega, by rw [lbF_eq]; subst_vars; rfl⟩)
def fm_m194_10_f155 : Nat := 0
/-- IslandHall$Realm.howMany -/
theorem m194_10_f155 {B : eB} (d : Nat) (M0 : Mm) (a1 : Int) (hP0 : Pw M0) (ha1 : 155 ≤ a1) (hb1 : a1 ≤ 167) : Ct B (d + 2) 194 [R 10, R a1] M0 (qI fun z M => Pw M ∧ Fr fm_m194_10_f155 M0 M ∧ (-2147483648) ≤ z ∧ z ≤ 2147483647) := by
  refine ct_of (d := d + 1) (k := 2) (L := [some (R 10), some (R a1), none, none]) rfl rfl rfl ?_
  have hF0 := Fr.rf fm_m194_10_f155 M0
  generalize hQ : (qI fun z M => Pw M ∧ Fr fm_m194_10_f155 M0 M ∧ (-2147483648) ≤ z ∧ z ≤ 2147483647) = Q
  refine wk_c1 r194_0 (wk_is2 r194_1 rfl (wk_c1 r194_2 (wk_is3 r194_3 rfl ?_)))
  have c4_312 : ∀ (k312 : Nat) (M287 : Mm) (v281 : Int) (v284 : Int), (47 - v284).toNat = k312 → Pw M287 → Fr fm_m194_10_f155 M0 M287 → (-2147483648) ≤ v281 → v281 ≤ 2147483647 → 0 ≤ v284 → v284 ≤ 47 → Wp B (d + 1) 194 4 [some (R 10), some (R a1), some (I v281), some (I v284)] [] M287 Q := by
    refine lp_ind ?_
    intro k312 ih312 M287 v281 v284 hk312 hP288 hF289 h282 h283 h285 h286
    refine wk_il3 r194_4 (wk_al0 r194_5 (wk_getfb r194_6 fd_10_10 (bf_10_10 hP288) ?_))
    intro v290 h292 h293 e291
    refine wk_icge r194_9 ⟨by omega, by omega⟩ ⟨by omega, by omega⟩ ?_ ?_
    · intro h294
      refine wk_il2 r194_27 ?_
      subst hQ; exact wk_iret r194_28 (⟨rfl, _, rfl, hP288, hF289, by omega, by omega⟩)
    · intro h295
      refine wk_il2 r194_12 (wk_al1 r194_13 (wk_il3 r194_14 (wk_laldb r194_15 (arF_155 (by omega) (by omega)) ⟨by omega, by omega⟩ (fun q0 q1 => baF_155 hP288 (by omega) (by omega) q0 q1) (by decide) ?_)))
      intro n296 h298 h299 e297
      refine wk_cs102_1 r194_16 rfl (m245 _ M287 n296 hP288 (by omega)) (cqI ?_)
      rintro v305 M300 ⟨hP301, hQ302, h306, h307, xh304⟩
      obtain rfl := Fr.same hQ302
      refine wk_iadd r194_19 (wk_wrap ?_)
      intro v308 h309 h310 h311
      refine wk_is2 r194_20 rfl (wk_inc3 r194_21 rfl (wk_goto r194_24 ?_))
      exact wp_fg (le_s (le_s (le_s (le_s le_0)))) (ih312 (47 - (v284 + 1)).toNat (by omega) M287 v308 (v284 + 1) rfl hP288 hF289 (by omega) (by omega) (by omega) (by omega))
  exact wp_fg (le_s (le_s (le_s (le_s le_0)))) (c4_312 _ M0 0 0 rfl hP0 hF0 (by omega) (by omega) (by omega) (by omega))
def fm_m187_176 : Nat := 148954016129217867593468613444501504000
/-- IslandHall$Realm.clear -/
theorem m187_176 {B : eB} (d : Nat) (M0 : Mm) (p1 : Int) (p2 : Int) (hP0 : Pw M0) (l1 : (-1) ≤ p1) (u1 : p1 ≤ 7) (l2 : 0 ≤ p2) (u2 : p2 ≤ 127) : Ct B (d + 2) 187 [R 176, I p1, I p2] M0 (qV fun M => Pw M ∧ Fr fm_m187_176 M0 M ∧ 0 ≤ (-1) * (M 176 9)) := by
  refine ct_of (d := d + 1) (k := 1) (L := [some (R 176), some (I p1), some (I p2), none]) rfl rfl rfl ?_
  have hF0 := Fr.rf fm_m187_176 M0
  generalize hQ : (qV fun M => Pw M ∧ Fr fm_m187_176 M0 M ∧ 0 ≤ (-1) * (M 176 9)) = Q
  refine wk_al0 r187_0 (wk_il1 r187_1 (wk_putfi81 r187_2 fd_176_7 (wk_nw g_176_7 rfl hP0 hF0 (uf_176_7 ⟨by omega, by omega⟩) ?_)))
  intro M1 hP2 hF3 e4
  refine wk_al0 r187_5 (wk_il2 r187_6 (wk_putfi81 r187_7 fd_176_8 (wk_nw g_176_8 rfl hP2 hF3 (uf_176_8 ⟨by omega, by omega⟩) ?_)))
  intro M5 hP6 hF7 e8
  refine wk_al0 r187_10 (wk_c1 r187_11 (wk_putfi81 r187_12 fd_176_9 (wk_nw g_176_9 rfl hP6 hF7 (uf_176_9 (by decide)) ?_)))
  intro M9 hP10 hF11 e12
  refine wk_al0 r187_15 (wk_c1 r187_16 (wk_putfi81 r187_17 fd_176_10 (wk_nw g_176_10 rfl hP10 hF11 (uf_176_10 (by decide)) ?_)))
  intro M13 hP14 hF15 e16
  refine wk_c1 r187_20 (wk_is3 r187_21 rfl ?_)
  have c22_195 : ∀ (k195 : Nat) (M173 : Mm) (v170 : Int), (119 - v170).toNat = k195 → Pw M173 → Fr fm_m187_176 M0 M173 → M173 176 7 = p1 → M173 176 8 = p2 → M173 176 9 = 0 → M173 176 10 = 0 → 0 ≤ v170 → v170 ≤ 119 → Wp B (d + 1) 187 22 [some (R 176), none, none, some (I v170)] [] M173 Q := by
    refine lp_ind ?_
    intro k195 ih195 M173 v170 hk195 hP174 hF175 e176 e177 e178 e179 h171 h172
    refine wk_il3 r187_22 (wk_c2 r187_23 ?_)
    refine wk_icge r187_25 ⟨by omega, by omega⟩ (by decide) ?_ ?_
    · intro h180
      refine wk_al0 r187_44 (wk_getfr r187_45 fd_176_3 (br_176_3 hP174) (wk_c1 r187_48 (wk_cs102_2 r187_49 rfl (ct_fi ar_177) (cqV ?_))))
      intro M181 e182
      have hP183 : Pw M181 := by rw [e182]; exact hP174.fil (fun i => (ua_177 (by decide)))
      have hF184 : Fr fm_m187_176 M0 M181 := by rw [e182]; exact hF175.fil (fun i => by rw [(ga_177 i)]; rfl)
      subst hQ; exact wk_ret r187_52 (⟨rfl, hP183, hF184, by have := (fil_no e182 e178 (by decide)); omega⟩)
    · intro h185
      refine wk_al0 r187_28 (wk_getfr r187_29 fd_176_0 (br_176_0 hP174) (wk_il3 r187_32 ?_))
      rcases Int.lt_or_le v170 118 with h186 | h186
      · refine wk_raldb r187_33 ar_182 ⟨by omega, by omega⟩ (fun q0 q1 => ba_182 hP174 q0 q1) (wk_c6 r187_34 (wk_cs102_2 r187_35 rfl (ct_fl (arF_183 (by omega) (by omega))) (cqV ?_)))
        intro M187 e188
        have hP189 : Pw M187 := by rw [e188]; exact hP174.fil (fun i => (uaF_183 (by omega) (by omega) ⟨by omega, by omega⟩))
        have hF190 : Fr fm_m187_176 M0 M187 := by rw [e188]; exact hF175.fil (fun i => by rw [(gr_183 (by omega) (by omega) i)]; rfl)
        refine wk_inc3 r187_38 rfl (wk_goto r187_41 ?_)
        exact wp_fg (le_s (le_s (le_s (le_s le_0)))) (ih195 (119 - (v170 + 1)).toNat (by omega) M187 (v170 + 1) rfl hP189 hF190 (fil_no e188 e176 (by omega)) (fil_no e188 e177 (by omega)) (fil_no e188 e178 (by omega)) (fil_no e188 e179 (by omega)) (by omega) (by omega))
      · refine wk_raldb r187_33 ar_182 ⟨by omega, by omega⟩ (fun q0 q1 => ba_182 hP174 q0 q1) (wk_c6 r187_34 (wk_cs102_2 r187_35 rfl (ct_fl (arF_301 (by omega) (by omega))) (cqV ?_)))
        intro M191 e192
        have hP193 : Pw M191 := by rw [e192]; exact hP174.fil (fun i => (u4_301 (by omega) (by omega) ⟨by omega, by omega, by omega⟩))
        have hF194 : Fr fm_m187_176 M0 M191 := by rw [e192]; exact hF175.fil (fun i => t4_301 rfl rfl (by omega) (by omega) i)
        refine wk_inc3 r187_38 rfl (wk_goto r187_41 ?_)
        exact wp_fg (le_s (le_s (le_s (le_s le_0)))) (ih195 (119 - (v170 + 1)).toNat (by omega) M191 (v170 + 1) rfl hP193 hF194 (fil_no e192 e176 (by omega)) (fil_no e192 e177 (by omega)) (fil_no e192 e178 (by omega)) (fil_no e192 e179 (by omega)) (by omega) (by omega))
  exact wp_fg (le_s (le_n (le_n (le_s le_0)))) (c22_195 _ M13 0 rfl hP14 hF15 (mUp_no e16 (mUp_no e12 (mUp_no e8 (mUp_at e4) (Or.inr (by decide))) (Or.inr (by decide))) (Or.inr (by decide))) (mUp_no e16 (mUp_no e12 (mUp_at e8) (Or.inr (by decide))) (Or.inr (by decide))) (mUp_no e16 (mUp_at e12) (Or.inr (by decide))) (mUp_at e16) (by omega) (by omega))
def fm_m204_176v4 : Nat := 21267647932558653966460912964485513216
/-- IslandHall$Realm.set -/
theorem m204_176v4 {B : eB} (d : Nat) (M0 : Mm) (p1 : Int) (p2 : Int) (hP0 : Pw M0) (l1 : 48 ≤ p1) (u1 : p1 ≤ 87) (l2 : 0 ≤ p2) (u2 : p2 ≤ 299) : Ct B (d + 1) 204 [R 176, I p1, I p2] M0 (qV fun M => Pw M ∧ Fr fm_m204_176v4 M0 M) := by
  refine ct_of (d := d + 0) (k := 0) (L := [some (R 176), some (I p1), some (I p2)]) rfl rfl rfl ?_
  have hF0 := Fr.rf fm_m204_176v4 M0
  generalize hQ : (qV fun M => Pw M ∧ Fr fm_m204_176v4 M0 M) = Q
  refine wk_al0 r204_0 (wk_getfr r204_1 fd_176_0 (br_176_0 hP0) (wk_il1 r204_4 (wk_raldb r204_5 ar_182 ⟨by omega, by omega⟩ (fun q0 q1 => ba_182 hP0 q0 q1) (wk_il2 r204_6 (wk_c2 r204_7 (wk_ishrc r204_9 ⟨by omega, by omega⟩ (by decide) pwl_6 (wk_dup2 r204_10 (wk_laldb r204_11 (arF_183 (by omega) (by omega)) ⟨by omega, by omega⟩ (fun q0 q1 => baF_183 hP0 (by omega) (by omega) q0 q1) (by decide) ?_))))))))
  intro n2 h4 h5 e3
  refine wk_c6 r204_12 (wk_il2 r204_13 (wk_c2 r204_14 (wk_iandc 6 64 r204_16 ⟨rfl, by decide⟩ rfl (wk_lshlb r204_17 ⟨by omega, by omega⟩ ?_))))
  intro n6 h7 h8 h9
  refine wk_lorb r204_18 ?_
  intro n10 h11 h12 h13
  refine wk_last r204_19 (arF_183 (by omega) (by omega)) ⟨by omega, by omega⟩ (wk_nw (gr_183 (by omega) (by omega) _) rfl hP0 hF0 (uaF_183 (by omega) (by omega) ⟨by omega, by omega⟩) ?_)
  intro M14 hP15 hF16 e17
  subst hQ; exact wk_ret r204_20 (⟨rfl, hP15, hF16⟩)
def fm_m186_176 : Nat := 0
/-- IslandHall$Realm.answerAt -/
theorem m186_176 {B : eB} (d : Nat) (M0 : Mm) (p1 : Int) (p2 : Int) (hP0 : Pw M0) (l1 : 0 ≤ p1) (u1 : p1 ≤ 299) (l2 : 1 ≤ p2) (u2 : p2 ≤ 1) : Ct B (d + 1) 186 [R 176, I p1, I p2] M0 (qI fun z M => Pw M ∧ Fr fm_m186_176 M0 M ∧ 0 ≤ z ∧ z ≤ 3) := by
  refine ct_of (d := d + 0) (k := 0) (L := [some (R 176), some (I p1), some (I p2)]) rfl rfl rfl ?_
  have hF0 := Fr.rf fm_m186_176 M0
  generalize hQ : (qI fun z M => Pw M ∧ Fr fm_m186_176 M0 M ∧ 0 ≤ z ∧ z ≤ 3) = Q
  refine wk_il2 r186_0 ?_
  refine wk_sw8 r186_1 ⟨by omega, by omega⟩ ?_ ?_ ?_ ?_
  · intro h1
    exfalso
    omega
  · intro h2
    refine wk_al0 r186_28 (wk_getfr r186_29 fd_176_1 (br_176_1 hP0) (wk_il1 r186_32 (wk_ialdb r186_33 ar_302 ⟨by omega, by omega⟩ (fun q0 q1 => ba_302 hP0 q0 q1) ?_)))
    intro v3 h5 h6 e4
    refine wk_c2 r186_34 (wk_ishrc r186_36 ⟨by omega, by omega⟩ (by decide) pwl_21 (wk_c1 r186_37 (wk_iandc 2 4 r186_38 ⟨rfl, by decide⟩ rfl ?_)))
    subst hQ; exact wk_iret r186_39 (⟨rfl, _, rfl, hP0, hF0, by omega, by omega⟩)
  · intro h9
    exfalso
    omega
  · intro h10
    exfalso
    omega
def fm_m204_176v5 : Nat := 21267647932558653966460912964485513216
/-- IslandHall$Realm.set -/
theorem m204_176v5 {B : eB} (d : Nat) (M0 : Mm) (p1 : Int) (p2 : Int) (hP0 : Pw M0) (l1 : 35 ≤ p1) (u1 : p1 ≤ 38) (l2 : 0 ≤ p2) (u2 : p2 ≤ 299) : Ct B (d + 1) 204 [R 176, I p1, I p2] M0 (qV fun M => Pw M ∧ Fr fm_m204_176v5 M0 M) := by
  refine ct_of (d := d + 0) (k := 0) (L := [some (R 176), some (I p1), some (I p2)]) rfl rfl rfl ?_
  have hF0 := Fr.rf fm_m204_176v5 M0
  generalize hQ : (qV fun M => Pw M ∧ Fr fm_m204_176v5 M0 M) = Q
  refine wk_al0 r204_0 (wk_getfr r204_1 fd_176_0 (br_176_0 hP0) (wk_il1 r204_4 (wk_raldb r204_5 ar_182 ⟨by omega, by omega⟩ (fun q0 q1 => ba_182 hP0 q0 q1) (wk_il2 r204_6 (wk_c2 r204_7 (wk_ishrc r204_9 ⟨by omega, by omega⟩ (by decide) pwl_6 (wk_dup2 r204_10 (wk_laldb r204_11 (arF_183 (by omega) (by omega)) ⟨by omega, by omega⟩ (fun q0 q1 => baF_183 hP0 (by omega) (by omega) q0 q1) (by decide) ?_))))))))
  intro n2 h4 h5 e3
  refine wk_c6 r204_12 (wk_il2 r204_13 (wk_c2 r204_14 (wk_iandc 6 64 r204_16 ⟨rfl, by decide⟩ rfl (wk_lshlb r204_17 ⟨by omega, by omega⟩ ?_))))
  intro n6 h7 h8 h9
  refine wk_lorb r204_18 ?_
  intro n10 h11 h12 h13
  refine wk_last r204_19 (arF_183 (by omega) (by omega)) ⟨by omega, by omega⟩ (wk_nw (gr_183 (by omega) (by omega) _) rfl hP0 hF0 (uaF_183 (by omega) (by omega) ⟨by omega, by omega⟩) ?_)
  intro M14 hP15 hF16 e17
  subst hQ; exact wk_ret r204_20 (⟨rfl, hP15, hF16⟩)
def fm_m186_176v1 : Nat := 0
/-- IslandHall$Realm.answerAt -/
theorem m186_176v1 {B : eB} (d : Nat) (M0 : Mm) (p1 : Int) (p2 : Int) (hP0 : Pw M0) (l1 : 0 ≤ p1) (u1 : p1 ≤ 299) (l2 : 2 ≤ p2) (u2 : p2 ≤ 2) : Ct B (d + 1) 186 [R 176, I p1, I p2] M0 (qI fun z M => Pw M ∧ Fr fm_m186_176v1 M0 M ∧ 0 ≤ z ∧ z ≤ 7) := by
  refine ct_of (d := d + 0) (k := 0) (L := [some (R 176), some (I p1), some (I p2)]) rfl rfl rfl ?_
  have hF0 := Fr.rf fm_m186_176v1 M0
  generalize hQ : (qI fun z M => Pw M ∧ Fr fm_m186_176v1 M0 M ∧ 0 ≤ z ∧ z ≤ 7) = Q
  refine wk_il2 r186_0 ?_
  refine wk_sw8 r186_1 ⟨by omega, by omega⟩ ?_ ?_ ?_ ?_
  · intro h1
    exfalso
    omega
  · intro h2
    exfalso
    omega
  · intro h3
    refine wk_al0 r186_40 (wk_getfr r186_41 fd_176_1 (br_176_1 hP0) (wk_il1 r186_44 (wk_ialdb r186_45 ar_302 ⟨by omega, by omega⟩ (fun q0 q1 => ba_302 hP0 q0 q1) ?_)))
    intro v4 h6 h7 e5
    refine wk_c2 r186_46 (wk_ishrc r186_48 ⟨by omega, by omega⟩ (by decide) pwl_23 (wk_c2 r186_49 (wk_iandc 3 8 r186_51 ⟨rfl, by decide⟩ rfl ?_)))
    subst hQ; exact wk_iret r186_52 (⟨rfl, _, rfl, hP0, hF0, by omega, by omega⟩)
  · intro h10
    exfalso
    omega
def fm_m204_176v6 : Nat := 21267647932558653966460912964485513216
/-- IslandHall$Realm.set -/
theorem m204_176v6 {B : eB} (d : Nat) (M0 : Mm) (p1 : Int) (p2 : Int) (hP0 : Pw M0) (l1 : 39 ≤ p1) (u1 : p1 ≤ 46) (l2 : 0 ≤ p2) (u2 : p2 ≤ 299) : Ct B (d + 1) 204 [R 176, I p1, I p2] M0 (qV fun M => Pw M ∧ Fr fm_m204_176v6 M0 M) := by
  refine ct_of (d := d + 0) (k := 0) (L := [some (R 176), some (I p1), some (I p2)]) rfl rfl rfl ?_
  have hF0 := Fr.rf fm_m204_176v6 M0
  generalize hQ : (qV fun M => Pw M ∧ Fr fm_m204_176v6 M0 M) = Q
  refine wk_al0 r204_0 (wk_getfr r204_1 fd_176_0 (br_176_0 hP0) (wk_il1 r204_4 (wk_raldb r204_5 ar_182 ⟨by omega, by omega⟩ (fun q0 q1 => ba_182 hP0 q0 q1) (wk_il2 r204_6 (wk_c2 r204_7 (wk_ishrc r204_9 ⟨by omega, by omega⟩ (by decide) pwl_6 (wk_dup2 r204_10 (wk_laldb r204_11 (arF_183 (by omega) (by omega)) ⟨by omega, by omega⟩ (fun q0 q1 => baF_183 hP0 (by omega) (by omega) q0 q1) (by decide) ?_))))))))
  intro n2 h4 h5 e3
  refine wk_c6 r204_12 (wk_il2 r204_13 (wk_c2 r204_14 (wk_iandc 6 64 r204_16 ⟨rfl, by decide⟩ rfl (wk_lshlb r204_17 ⟨by omega, by omega⟩ ?_))))
  intro n6 h7 h8 h9
  refine wk_lorb r204_18 ?_
  intro n10 h11 h12 h13
  refine wk_last r204_19 (arF_183 (by omega) (by omega)) ⟨by omega, by omega⟩ (wk_nw (gr_183 (by omega) (by omega) _) rfl hP0 hF0 (uaF_183 (by omega) (by omega) ⟨by omega, by omega⟩) ?_)
  intro M14 hP15 hF16 e17
  subst hQ; exact wk_ret r204_20 (⟨rfl, hP15, hF16⟩)
def fm_m186_176v2 : Nat := 0
/-- IslandHall$Realm.answerAt -/
theorem m186_176v2 {B : eB} (d : Nat) (M0 : Mm) (p1 : Int) (p2 : Int) (hP0 : Pw M0) (l1 : 0 ≤ p1) (u1 : p1 ≤ 299) (l2 : 3 ≤ p2) (u2 : p2 ≤ 3) : Ct B (d + 1) 186 [R 176, I p1, I p2] M0 (qI fun z M => Pw M ∧ Fr fm_m186_176v2 M0 M ∧ 0 ≤ z ∧ z ≤ 1) := by
  refine ct_of (d := d + 0) (k := 0) (L := [some (R 176), some (I p1), some (I p2)]) rfl rfl rfl ?_
  have hF0 := Fr.rf fm_m186_176v2 M0
  generalize hQ : (qI fun z M => Pw M ∧ Fr fm_m186_176v2 M0 M ∧ 0 ≤ z ∧ z ≤ 1) = Q
  refine wk_il2 r186_0 ?_
  refine wk_sw8 r186_1 ⟨by omega, by omega⟩ ?_ ?_ ?_ ?_
  · intro h1
    exfalso
    omega
  · intro h2
    exfalso
    omega
  · intro h3
    exfalso
    omega
  · intro h4
    refine wk_al0 r186_53 (wk_getfr r186_54 fd_176_1 (br_176_1 hP0) (wk_il1 r186_57 (wk_ialdb r186_58 ar_302 ⟨by omega, by omega⟩ (fun q0 q1 => ba_302 hP0 q0 q1) ?_)))
    intro v5 h7 h8 e6
    refine wk_c2 r186_59 (wk_ishrc r186_61 ⟨by omega, by omega⟩ (by decide) pwl_26 (wk_c1 r186_62 (wk_iandc 1 2 r186_63 ⟨rfl, by decide⟩ rfl ?_)))
    subst hQ; exact wk_iret r186_64 (⟨rfl, _, rfl, hP0, hF0, by omega, by omega⟩)
def fm_m204_176v7 : Nat := 21267647932558653966460912964485513216
/-- IslandHall$Realm.set -/
theorem m204_176v7 {B : eB} (d : Nat) (M0 : Mm) (p1 : Int) (p2 : Int) (hP0 : Pw M0) (l1 : 46 ≤ p1) (u1 : p1 ≤ 47) (l2 : 0 ≤ p2) (u2 : p2 ≤ 299) : Ct B (d + 1) 204 [R 176, I p1, I p2] M0 (qV fun M => Pw M ∧ Fr fm_m204_176v7 M0 M) := by
  refine ct_of (d := d + 0) (k := 0) (L := [some (R 176), some (I p1), some (I p2)]) rfl rfl rfl ?_
  have hF0 := Fr.rf fm_m204_176v7 M0
  generalize hQ : (qV fun M => Pw M ∧ Fr fm_m204_176v7 M0 M) = Q
  refine wk_al0 r204_0 (wk_getfr r204_1 fd_176_0 (br_176_0 hP0) (wk_il1 r204_4 (wk_raldb r204_5 ar_182 ⟨by omega, by omega⟩ (fun q0 q1 => ba_182 hP0 q0 q1) (wk_il2 r204_6 (wk_c2 r204_7 (wk_ishrc r204_9 ⟨by omega, by omega⟩ (by decide) pwl_6 (wk_dup2 r204_10 (wk_laldb r204_11 (arF_183 (by omega) (by omega)) ⟨by omega, by omega⟩ (fun q0 q1 => baF_183 hP0 (by omega) (by omega) q0 q1) (by decide) ?_))))))))
  intro n2 h4 h5 e3
  refine wk_c6 r204_12 (wk_il2 r204_13 (wk_c2 r204_14 (wk_iandc 6 64 r204_16 ⟨rfl, by decide⟩ rfl (wk_lshlb r204_17 ⟨by omega, by omega⟩ ?_))))
  intro n6 h7 h8 h9
  refine wk_lorb r204_18 ?_
  intro n10 h11 h12 h13
  refine wk_last r204_19 (arF_183 (by omega) (by omega)) ⟨by omega, by omega⟩ (wk_nw (gr_183 (by omega) (by omega) _) rfl hP0 hF0 (uaF_183 (by omega) (by omega) ⟨by omega, by omega⟩) ?_)
  intro M14 hP15 hF16 e17
  subst hQ; exact wk_ret r204_20 (⟨rfl, hP15, hF16⟩)
def fm_m204_176v8 : Nat := 127605887595351923798765477786913079296
/-- IslandHall$Realm.set -/
theorem m204_176v8 {B : eB} (d : Nat) (M0 : Mm) (p1 : Int) (p2 : Int) (hP0 : Pw M0) (l1 : 118 ≤ p1) (u1 : p1 ≤ 118) (l2 : 0 ≤ p2) (u2 : p2 ≤ 299) : Ct B (d + 1) 204 [R 176, I p1, I p2] M0 (qV fun M => Pw M ∧ Fr fm_m204_176v8 M0 M) := by
  refine ct_of (d := d + 0) (k := 0) (L := [some (R 176), some (I p1), some (I p2)]) rfl rfl rfl ?_
  have hF0 := Fr.rf fm_m204_176v8 M0
  generalize hQ : (qV fun M => Pw M ∧ Fr fm_m204_176v8 M0 M) = Q
  refine wk_al0 r204_0 (wk_getfr r204_1 fd_176_0 (br_176_0 hP0) (wk_il1 r204_4 (wk_raldb r204_5 ar_182 ⟨by omega, by omega⟩ (fun q0 q1 => ba_182 hP0 q0 q1) (wk_il2 r204_6 (wk_c2 r204_7 (wk_ishrc r204_9 ⟨by omega, by omega⟩ (by decide) pwl_6 (wk_dup2 r204_10 (wk_laldb r204_11 (arF_301 (by omega) (by omega)) ⟨by omega, by omega⟩ (fun q0 q1 => ⟨(b4_301 hP0 (by omega) (by omega) q0 q1).1, (b4_301 hP0 (by omega) (by omega) q0 q1).2.1⟩) (by decide) ?_))))))))
  intro n2 h4 h5 e3
  have h6 : (p2 / 64) = 4 → n2 ≤ 17592186044415 := by have := b4_301 hP0 (a := (183 + p1)) (i := (p2 / 64)) (by omega) (by omega) (by omega) (by omega); omega
  refine wk_c6 r204_12 (wk_il2 r204_13 (wk_c2 r204_14 (wk_iandc 6 64 r204_16 ⟨rfl, by decide⟩ rfl (wk_lshlb r204_17 ⟨by omega, by omega⟩ ?_))))
  intro n7 h8 h9 h10
  refine wk_lorb r204_18 ?_
  intro n11 h12 h13 h14
  refine wk_last r204_19 (arF_301 (by omega) (by omega)) ⟨by omega, by omega⟩ (wk_nwt (t4_301 rfl rfl (by omega) (by omega) _) hP0 hF0 (u4_301 (by omega) (by omega) ⟨by omega, by omega, by omega⟩) ?_)
  intro M15 hP16 hF17 e18
  subst hQ; exact wk_ret r204_20 (⟨rfl, hP16, hF17⟩)
def fm_m188_176 : Nat := 0
/-- IslandHall$Realm.codeAt -/
theorem m188_176 {B : eB} (d : Nat) (M0 : Mm) (p1 : Int) (p2 : Int) (hP0 : Pw M0) (l1 : 0 ≤ p1) (u1 : p1 ≤ 299) (l2 : 0 ≤ p2) (u2 : p2 ≤ 6) : Ct B (d + 1) 188 [R 176, I p1, I p2] M0 (qI fun z M => Pw M ∧ Fr fm_m188_176 M0 M ∧ 0 ≤ z ∧ z ≤ 7) := by
  refine ct_of (d := d + 0) (k := 0) (L := [some (R 176), some (I p1), some (I p2)]) rfl rfl rfl ?_
  have hF0 := Fr.rf fm_m188_176 M0
  generalize hQ : (qI fun z M => Pw M ∧ Fr fm_m188_176 M0 M ∧ 0 ≤ z ∧ z ≤ 7) = Q
  refine wk_al0 r188_0 (wk_getfr r188_1 fd_176_1 (br_176_1 hP0) (wk_il1 r188_4 (wk_ialdb r188_5 ar_302 ⟨by omega, by omega⟩ (fun q0 q1 => ba_302 hP0 q0 q1) ?_)))
  intro v1 h3 h4 e2
  refine wk_c1 r188_6 (wk_il2 r188_7 (wk_imul r188_8 (wk_shrb r188_9 ⟨by omega, by omega⟩ ⟨by omega, by omega⟩ ?_)))
  intro v5 h6 h7 h8
  refine wk_c2 r188_10 (wk_iandc 3 8 r188_12 ⟨rfl, by decide⟩ rfl ?_)
  subst hQ; exact wk_iret r188_13 (⟨rfl, _, rfl, hP0, hF0, by omega, by omega⟩)
def fm_m197_176 : Nat := 0
/-- IslandHall$Realm.kindAt -/
theorem m197_176 {B : eB} (d : Nat) (M0 : Mm) (p1 : Int) (p2 : Int) (hP0 : Pw M0) (l1 : 0 ≤ p1) (u1 : p1 ≤ 299) (l2 : 0 ≤ p2) (u2 : p2 ≤ 6) : Ct B (d + 2) 197 [R 176, I p1, I p2] M0 (qI fun z M => Pw M ∧ Fr fm_m197_176 M0 M ∧ 0 ≤ z ∧ z ≤ 4) := by
  refine ct_of (d := d + 1) (k := 1) (L := [some (R 176), some (I p1), some (I p2), none]) rfl rfl rfl ?_
  have hF0 := Fr.rf fm_m197_176 M0
  generalize hQ : (qI fun z M => Pw M ∧ Fr fm_m197_176 M0 M ∧ 0 ≤ z ∧ z ≤ 4) = Q
  refine wk_al0 r197_0 (wk_il1 r197_1 (wk_il2 r197_2 (wk_cv3 r197_3 kc_176_188 rfl (m188_176 _ M0 p1 p2 hP0 (by omega) (by omega) (by omega) (by omega)) (cqI ?_))))
  rintro v5 M1 ⟨hP2, hQ3, h6, h7⟩
  obtain rfl := Fr.same hQ3
  refine wk_is3 r197_6 rfl (wk_il3 r197_7 (wk_c2 r197_8 ?_))
  refine wk_icge r197_10 ⟨by omega, by omega⟩ (by decide) ?_ ?_
  · intro h8
    refine wk_c1 r197_21 ?_
    subst hQ; exact wk_iret r197_22 (⟨rfl, _, rfl, hP0, hF0, by omega, by omega⟩)
  · intro h9
    refine wk_kget r197_13 (wk_il3 r197_16 (wk_kald r197_17 ⟨by omega, by omega⟩ ?_))
    intro v10 h11 h12 h13
    refine wk_goto r197_18 ?_
    subst hQ; exact wk_iret r197_22 (⟨rfl, _, rfl, hP0, hF0, by omega, by omega⟩)
def fm_m204_176v9 : Nat := 21267647932558653966460912964485513216
/-- IslandHall$Realm.set -/
theorem m204_176v9 {B : eB} (d : Nat) (M0 : Mm) (p1 : Int) (p2 : Int) (hP0 : Pw M0) (l1 : 0 ≤ p1) (u1 : p1 ≤ 34) (l2 : 0 ≤ p2) (u2 : p2 ≤ 299) : Ct B (d + 1) 204 [R 176, I p1, I p2] M0 (qV fun M => Pw M ∧ Fr fm_m204_176v9 M0 M) := by
  refine ct_of (d := d + 0) (k := 0) (L := [some (R 176), some (I p1), some (I p2)]) rfl rfl rfl ?_
  have hF0 := Fr.rf fm_m204_176v9 M0
  generalize hQ : (qV fun M => Pw M ∧ Fr fm_m204_176v9 M0 M) = Q
  refine wk_al0 r204_0 (wk_getfr r204_1 fd_176_0 (br_176_0 hP0) (wk_il1 r204_4 (wk_raldb r204_5 ar_182 ⟨by omega, by omega⟩ (fun q0 q1 => ba_182 hP0 q0 q1) (wk_il2 r204_6 (wk_c2 r204_7 (wk_ishrc r204_9 ⟨by omega, by omega⟩ (by decide) pwl_6 (wk_dup2 r204_10 (wk_laldb r204_11 (arF_183 (by omega) (by omega)) ⟨by omega, by omega⟩ (fun q0 q1 => baF_183 hP0 (by omega) (by omega) q0 q1) (by decide) ?_))))))))
  intro n2 h4 h5 e3
  refine wk_c6 r204_12 (wk_il2 r204_13 (wk_c2 r204_14 (wk_iandc 6 64 r204_16 ⟨rfl, by decide⟩ rfl (wk_lshlb r204_17 ⟨by omega, by omega⟩ ?_))))
  intro n6 h7 h8 h9
  refine wk_lorb r204_18 ?_
  intro n10 h11 h12 h13
  refine wk_last r204_19 (arF_183 (by omega) (by omega)) ⟨by omega, by omega⟩ (wk_nw (gr_183 (by omega) (by omega) _) rfl hP0 hF0 (uaF_183 (by omega) (by omega) ⟨by omega, by omega⟩) ?_)
  intro M14 hP15 hF16 e17
  subst hQ; exact wk_ret r204_20 (⟨rfl, hP15, hF16⟩)
def fm_m192_176v1 : Nat := 0
/-- IslandHall$Realm.honestAt -/
theorem m192_176v1 {B : eB} (d : Nat) (M0 : Mm) (p1 : Int) (p2 : Int) (p3 : Int) (hP0 : Pw M0) (l1 : 0 ≤ p1) (u1 : p1 ≤ 299) (l2 : 0 ≤ p2) (u2 : p2 ≤ 6) (l3 : 0 ≤ p3) (u3 : p3 ≤ 1) : Ct B (d + 3) 192 [R 176, I p1, I p2, I p3] M0 (qI fun z M => Pw M ∧ Fr fm_m192_176v1 M0 M ∧ 0 ≤ z ∧ z ≤ 1) := by
  refine ct_of (d := d + 2) (k := 0) (L := [some (R 176), some (I p1), some (I p2), some (I p3)]) rfl rfl rfl ?_
  have hF0 := Fr.rf fm_m192_176v1 M0
  generalize hQ : (qI fun z M => Pw M ∧ Fr fm_m192_176v1 M0 M ∧ 0 ≤ z ∧ z ≤ 1) = Q
  refine wk_al0 r192_0 (wk_il1 r192_1 (wk_il2 r192_2 (wk_cv3 r192_3 kc_176_197 rfl (m197_176 _ M0 p1 p2 hP0 (by omega) (by omega) (by omega) (by omega)) (cqI ?_))))
  rintro v5 M1 ⟨hP2, hQ3, h6, h7⟩
  obtain rfl := Fr.same hQ3
  refine wk_sw9 r192_6 ⟨by omega, by omega⟩ ?_ ?_ ?_ ?_ ?_
  · intro h8
    refine wk_c1 r192_94 ?_
    subst hQ; exact wk_zret r192_95 (by decide) (⟨rfl, _, rfl, hP0, hF0, by omega, by omega⟩)
  · intro h9
    refine wk_c1 r192_36 ?_
    subst hQ; exact wk_zret r192_37 (by decide) (⟨rfl, _, rfl, hP0, hF0, by omega, by omega⟩)
  · intro h10
    refine wk_c1 r192_94 ?_
    subst hQ; exact wk_zret r192_95 (by decide) (⟨rfl, _, rfl, hP0, hF0, by omega, by omega⟩)
  · intro h11
    refine wk_al0 r192_38 (wk_il1 r192_39 (wk_il2 r192_40 (wk_cv3 r192_41 kc_176_188 rfl (m188_176 _ M0 p1 p2 hP0 (by omega) (by omega) (by omega) (by omega)) (cqI ?_))))
    rintro v16 M12 ⟨hP13, hQ14, h17, h18⟩
    obtain rfl := Fr.same hQ14
    refine wk_c1 r192_44 ?_
    refine wk_icne r192_45 ⟨by omega, by omega⟩ (by decide) ?_ ?_
    · intro h19
      refine wk_c1 r192_52 (wk_il3 r192_53 (wk_c1 r192_54 ?_))
      refine wk_icne r192_55 ⟨by omega, by omega⟩ (by decide) ?_ ?_
      · intro h20
        refine wk_c1 r192_62 ?_
        refine wk_icne r192_63 (by decide) (by decide) ?_ ?_
        · intro h21
          exfalso
          omega
        · intro h22
          refine wk_c1 r192_66 (wk_goto r192_67 ?_)
          subst hQ; exact wk_zret r192_71 (by decide) (⟨rfl, _, rfl, hP0, hF0, by omega, by omega⟩)
      · intro h23
        refine wk_c1 r192_58 (wk_goto r192_59 ?_)
        refine wk_icne r192_63 (by decide) (by decide) ?_ ?_
        · intro h24
          refine wk_c1 r192_70 ?_
          subst hQ; exact wk_zret r192_71 (by decide) (⟨rfl, _, rfl, hP0, hF0, by omega, by omega⟩)
        · intro h25
          refine wk_c1 r192_66 (wk_goto r192_67 ?_)
          subst hQ; exact wk_zret r192_71 (by decide) (⟨rfl, _, rfl, hP0, hF0, by omega, by omega⟩)
    · intro h26
      refine wk_c1 r192_48 (wk_goto r192_49 (wk_il3 r192_53 (wk_c1 r192_54 ?_)))
      refine wk_icne r192_55 ⟨by omega, by omega⟩ (by decide) ?_ ?_
      · intro h27
        refine wk_c1 r192_62 ?_
        refine wk_icne r192_63 (by decide) (by decide) ?_ ?_
        · intro h28
          refine wk_c1 r192_70 ?_
          subst hQ; exact wk_zret r192_71 (by decide) (⟨rfl, _, rfl, hP0, hF0, by omega, by omega⟩)
        · intro h29
          refine wk_c1 r192_66 (wk_goto r192_67 ?_)
          subst hQ; exact wk_zret r192_71 (by decide) (⟨rfl, _, rfl, hP0, hF0, by omega, by omega⟩)
      · intro h30
        refine wk_c1 r192_58 (wk_goto r192_59 ?_)
        refine wk_icne r192_63 (by decide) (by decide) ?_ ?_
        · intro h31
          exfalso
          omega
        · intro h32
          refine wk_c1 r192_66 (wk_goto r192_67 ?_)
          subst hQ; exact wk_zret r192_71 (by decide) (⟨rfl, _, rfl, hP0, hF0, by omega, by omega⟩)
  · intro h33
    refine wk_al0 r192_72 (wk_getfb r192_73 fd_176_8 (bf_176_8 hP0) ?_)
    intro v34 h36 h37 e35
    refine wk_al0 r192_76 (wk_il1 r192_77 (wk_c1 r192_78 (wk_cv3 r192_79 kc_176_186 rfl (m186_176v1 _ M0 p1 2 hP0 (by omega) (by omega) (by decide) (by decide)) (cqI ?_))))
    rintro v42 M38 ⟨hP39, hQ40, h43, h44⟩
    obtain rfl := Fr.same hQ40
    refine wk_shrb r192_82 ⟨by omega, by omega⟩ ⟨by omega, by omega⟩ ?_
    intro v45 h46 h47 h48
    refine wk_c1 r192_83 (wk_iandc 1 2 r192_84 ⟨rfl, by decide⟩ rfl ?_)
    refine wk_ifne r192_85 ⟨by omega, by omega⟩ ?_ ?_
    · intro h50
      refine wk_c1 r192_92 ?_
      subst hQ; exact wk_zret r192_93 (by decide) (⟨rfl, _, rfl, hP0, hF0, by omega, by omega⟩)
    · intro h51
      refine wk_c1 r192_88 (wk_goto r192_89 ?_)
      subst hQ; exact wk_zret r192_93 (by decide) (⟨rfl, _, rfl, hP0, hF0, by omega, by omega⟩)
def fm_m204_176v11 : Nat := 21267647932558653966460912964485513216
/-- IslandHall$Realm.set -/
theorem m204_176v11 {B : eB} (d : Nat) (M0 : Mm) (p1 : Int) (p2 : Int) (hP0 : Pw M0) (l1 : 88 ≤ p1) (u1 : p1 ≤ 101) (l2 : 0 ≤ p2) (u2 : p2 ≤ 299) : Ct B (d + 1) 204 [R 176, I p1, I p2] M0 (qV fun M => Pw M ∧ Fr fm_m204_176v11 M0 M) := by
  refine ct_of (d := d + 0) (k := 0) (L := [some (R 176), some (I p1), some (I p2)]) rfl rfl rfl ?_
  have hF0 := Fr.rf fm_m204_176v11 M0
  generalize hQ : (qV fun M => Pw M ∧ Fr fm_m204_176v11 M0 M) = Q
  refine wk_al0 r204_0 (wk_getfr r204_1 fd_176_0 (br_176_0 hP0) (wk_il1 r204_4 (wk_raldb r204_5 ar_182 ⟨by omega, by omega⟩ (fun q0 q1 => ba_182 hP0 q0 q1) (wk_il2 r204_6 (wk_c2 r204_7 (wk_ishrc r204_9 ⟨by omega, by omega⟩ (by decide) pwl_6 (wk_dup2 r204_10 (wk_laldb r204_11 (arF_183 (by omega) (by omega)) ⟨by omega, by omega⟩ (fun q0 q1 => baF_183 hP0 (by omega) (by omega) q0 q1) (by decide) ?_))))))))
  intro n2 h4 h5 e3
  refine wk_c6 r204_12 (wk_il2 r204_13 (wk_c2 r204_14 (wk_iandc 6 64 r204_16 ⟨rfl, by decide⟩ rfl (wk_lshlb r204_17 ⟨by omega, by omega⟩ ?_))))
  intro n6 h7 h8 h9
  refine wk_lorb r204_18 ?_
  intro n10 h11 h12 h13
  refine wk_last r204_19 (arF_183 (by omega) (by omega)) ⟨by omega, by omega⟩ (wk_nw (gr_183 (by omega) (by omega) _) rfl hP0 hF0 (uaF_183 (by omega) (by omega) ⟨by omega, by omega⟩) ?_)
  intro M14 hP15 hF16 e17
  subst hQ; exact wk_ret r204_20 (⟨rfl, hP15, hF16⟩)
def fm_m203_176 : Nat := 21433801432031768450573888847020556288
/-- IslandHall$Realm.placePerson -/
theorem m203_176 {B : eB} (d : Nat) (M0 : Mm) (p1 : Int) (p2 : Int) (hP0 : Pw M0) (l1 : 0 ≤ p1) (u1 : p1 ≤ 299) (l2 : 0 ≤ p2) (u2 : p2 ≤ 6) (xp0 : ∀ k : Int, 0 ≤ k → k < 5 → M0 179 k ≤ p2) : Ct B (d + 4) 203 [R 176, I p1, I p2] M0 (qV fun M => Pw M ∧ Fr fm_m203_176 M0 M ∧ (∀ k : Int, 0 ≤ k → k < 5 → M 179 k ≤ p2 + 1)) := by
  refine ct_of (d := d + 3) (k := 2) (L := [some (R 176), some (I p1), some (I p2), none, none]) rfl rfl rfl ?_
  have hF0 := Fr.rf fm_m203_176 M0
  generalize hQ : (qV fun M => Pw M ∧ Fr fm_m203_176 M0 M ∧ (∀ k : Int, 0 ≤ k → k < 5 → M 179 k ≤ p2 + 1)) = Q
  refine wk_al0 r203_0 (wk_il1 r203_1 (wk_il2 r203_2 (wk_cv3 r203_3 kc_176_197 rfl (m197_176 _ M0 p1 p2 hP0 (by omega) (by omega) (by omega) (by omega)) (cqI ?_))))
  rintro v5 M1 ⟨hP2, hQ3, h6, h7⟩
  obtain rfl := Fr.same hQ3
  refine wk_is3 r203_6 rfl (wk_al0 r203_7 (wk_getfr r203_8 fd_176_5 (br_176_5 hP0) (wk_il3 r203_11 (wk_dup2 r203_12 (wk_ialdb r203_13 ar_179 ⟨by omega, by omega⟩ (fun q0 q1 => ba_179 hP0 q0 q1) ?_)))))
  intro v8 h10 h11 e9
  have h12 : v8 ≤ p2 := by have q := xp0 v5 (by omega) (by omega); rw [e9] at q; omega
  refine wk_c1 r203_14 (wk_iadd r203_15 (wk_iast r203_16 ar_179 ⟨by omega, by omega⟩ (wk_nw (ga_179 _) rfl hP0 hF0 (ua_179 ⟨by omega, by omega⟩) ?_)))
  intro M13 hP14 hF15 e16
  obtain ⟨u17, hu18⟩ : ∃ u : Int → Int, ∀ k, M13 179 k = u k := ⟨fun k => M13 179 k, fun k => rfl⟩
  have tal : ∀ k : Int, 0 ≤ k → k < 5 → u17 k ≤ p2 + 1 := fun k q0 q1 => by rw [← hu18 k]; exact tally_up e16 (by omega) xp0 k q0 q1
  refine wk_al0 r203_17 (wk_c1 r203_18 (wk_il2 r203_19 (wk_c1 r203_20 (wk_imul r203_21 (wk_iadd r203_22 (wk_il3 r203_23 (wk_iadd r203_24 (wk_il1 r203_25 (wk_cv3 r203_26 kc_176_204 rfl (m204_176v9 _ M13 ((0 + (p2 * 5)) + v5) p1 hP14 (by omega) (by omega) (by omega) (by omega)) (cqV ?_))))))))))
  rintro M19 ⟨hP20, hQ21⟩
  have hF22 : Fr fm_m203_176 M0 M19 := hF15.tr hQ21 rfl
  refine wk_c1 r203_29 (wk_is4 r203_30 rfl ?_)
  have c32_89 : ∀ (k89 : Nat) (M70 : Mm) (v67 : Int), (2 - v67).toNat = k89 → Pw M70 → Fr fm_m203_176 M0 M70 → 0 ≤ v67 → v67 ≤ 2 → (∀ k, M70 179 k = u17 k) → Wp B (d + 3) 203 32 [some (R 176), some (I p1), some (I p2), none, some (I v67)] [] M70 Q := by
    refine lp_ind ?_
    intro k89 ih89 M70 v67 hk89 hP71 hF72 h68 h69 hu73
    refine wk_il4 r203_32 (wk_c1 r203_34 ?_)
    refine wk_icge r203_35 ⟨by omega, by omega⟩ (by decide) ?_ ?_
    · intro h74
      subst hQ; exact wk_ret r203_69 (⟨rfl, hP71, hF72, fun k q0 q1 => by rw [hu73 k]; exact tal k q0 q1⟩)
    · intro h75
      refine wk_al0 r203_38 (wk_il1 r203_39 (wk_il2 r203_40 (wk_il4 r203_41 (wk_cv4 r203_43 kc_176_192 rfl (m192_176v1 _ M70 p1 p2 v67 hP71 (by omega) (by omega) (by omega) (by omega) (by omega) (by omega)) (cqI ?_)))))
      rintro v80 M76 ⟨hP77, hQ78, h81, h82⟩
      obtain rfl := Fr.same hQ78
      refine wk_ifeq r203_46 ⟨by omega, by omega⟩ ?_ ?_
      · intro h83
        refine wk_inc4 r203_63 rfl (wk_goto r203_66 ?_)
        exact wp_fg (le_s (le_s (le_s (le_s (le_s le_0))))) (ih89 (2 - (v67 + 1)).toNat (by omega) M70 (v67 + 1) rfl hP71 hF72 (by omega) (by omega) hu73)
      · intro h84
        refine wk_al0 r203_49 (wk_c2 r203_50 (wk_c1 r203_52 (wk_il2 r203_53 (wk_imul r203_54 (wk_iadd r203_55 (wk_il4 r203_56 (wk_iadd r203_58 (wk_il1 r203_59 (wk_cv3 r203_60 kc_176_204 rfl (m204_176v11 _ M70 ((88 + (2 * p2)) + v67) p1 hP71 (by omega) (by omega) (by omega) (by omega)) (cqV ?_))))))))))
        rintro M85 ⟨hP86, hQ87⟩
        have hF88 : Fr fm_m203_176 M0 M85 := hF72.tr hQ87 rfl
        refine wk_inc4 r203_63 rfl (wk_goto r203_66 ?_)
        exact wp_fg (le_s (le_s (le_s (le_s (le_s le_0))))) (ih89 (2 - (v67 + 1)).toNat (by omega) M85 (v67 + 1) rfl hP86 hF88 (by omega) (by omega) (fun k => (hQ87.at (ga_179 k) rfl).trans (hu73 k)))
  exact wp_fg (le_s (le_s (le_s (le_n (le_s le_0))))) (c32_89 _ M19 0 rfl hP20 hF22 (by omega) (by omega) (fun k => (hQ21.at (ga_179 k) rfl).trans (hu18 k)))
def fm_m202_176 : Nat := 659494393189942596410172460759561273344
/-- IslandHall$Realm.place -/
theorem m202_176 {B : eB} (d : Nat) (M0 : Mm) (p1 : Int) (p2 : Int) (x176_9 : Int) (hP0 : Pw M0) (l1 : 0 ≤ p1) (u1 : p1 ≤ 134217727) (l2 : 0 ≤ p2) (u2 : p2 ≤ 2999) (ex176_9 : M0 176 9 = x176_9) (lx176_9 : 0 ≤ x176_9) (ux176_9 : x176_9 ≤ 299) : Ct B (d + 5) 202 [R 176, I p1, I p2] M0 (qV fun M => Pw M ∧ Fr fm_m202_176 M0 M ∧ 0 ≤ M 176 9 + (-1) * x176_9 + (-1) ∧ 0 ≤ (-1) * (M 176 9) + x176_9 + 1) := by
  refine ct_of (d := d + 4) (k := 2) (L := [some (R 176), some (I p1), some (I p2), none, none]) rfl rfl rfl ?_
  have hF0 := Fr.rf fm_m202_176 M0
  generalize hQ : (qV fun M => Pw M ∧ Fr fm_m202_176 M0 M ∧ 0 ≤ M 176 9 + (-1) * x176_9 + (-1) ∧ 0 ≤ (-1) * (M 176 9) + x176_9 + 1) = Q
  refine wk_al0 r202_0 (wk_getfi r202_1 fd_176_9 ex176_9 (wk_is3 r202_4 rfl (wk_al0 r202_5 (wk_getfr r202_6 fd_176_1 (br_176_1 hP0) (wk_il3 r202_9 (wk_il1 r202_10 (wk_iast r202_11 ar_302 ⟨by omega, by omega⟩ (wk_nw (ga_302 _) rfl hP0 hF0 (ua_302 ⟨by omega, by omega⟩) ?_))))))))
  intro M1 hP2 hF3 e4
  refine wk_al0 r202_12 (wk_getfr r202_13 fd_176_2 (br_176_2 hP2) (wk_il3 r202_16 (wk_il2 r202_17 (wk_iast r202_18 ar_303 ⟨by omega, by omega⟩ (wk_nw (ga_303 _) rfl hP2 hF3 (ua_303 ⟨by omega, by omega⟩) ?_)))))
  intro M5 hP6 hF7 e8
  refine wk_al0 r202_19 (wk_dupr r202_20 (wk_getfi r202_21 fd_176_9 (mUp_no e8 (mUp_no e4 ex176_9 (Or.inl (by decide))) (Or.inl (by decide))) (wk_c1 r202_24 (wk_iadd r202_25 (wk_putfi81 r202_26 fd_176_9 (wk_nw g_176_9 rfl hP6 hF7 (uf_176_9 ⟨by omega, by omega⟩) ?_))))))
  intro M9 hP10 hF11 e12
  refine wk_al0 r202_29 (wk_al0 r202_30 (wk_getfi r202_31 fd_176_9 (mUp_at e12) (wk_c2 r202_34 (wk_iadd r202_36 (wk_c2 r202_37 (wk_ishrc r202_39 ⟨by omega, by omega⟩ (by decide) pwl_6 (wk_putfi81 r202_40 fd_176_10 (wk_nw g_176_10 rfl hP10 hF11 (uf_176_10 ⟨by omega, by omega⟩) ?_))))))))
  intro M14 hP15 hF16 e17
  refine wk_al0 r202_43 (wk_getfr r202_44 fd_176_5 (br_176_5 hP15) (wk_c1 r202_47 (wk_cs102_2 r202_48 rfl (ct_fi ar_179) (cqV ?_))))
  intro M18 e19
  have hP20 : Pw M18 := by rw [e19]; exact hP15.fil (fun i => (ua_179 (by decide)))
  have hF21 : Fr fm_m202_176 M0 M18 := by rw [e19]; exact hF16.fil (fun i => by rw [(ga_179 i)]; rfl)
  refine wk_c1 r202_51 (wk_is4 r202_52 rfl ?_)
  have c54_635 : ∀ (k635 : Nat) (M561 : Mm) (v558 : Int), (7 - v558).toNat = k635 → Pw M561 → Fr fm_m202_176 M0 M561 → M561 176 9 = (x176_9 + 1) → M561 176 10 = (((x176_9 + 1) + 63) / 64) → 0 ≤ v558 → v558 ≤ 7 → (∀ k : Int, 0 ≤ k → k < 5 → M561 179 k ≤ v558) → Wp B (d + 4) 202 54 [some (R 176), none, none, some (I x176_9), some (I v558)] [] M561 Q := by
    refine lp_ind ?_
    intro k635 ih635 M561 v558 hk635 hP562 hF563 e564 e565 h559 h560 ti566
    refine wk_il4 r202_54 (wk_al0 r202_56 (wk_getfb r202_57 fd_176_7 (bf_176_7 hP562) ?_))
    intro v567 h569 h570 e568
    refine wk_icge r202_60 ⟨by omega, by omega⟩ ⟨by omega, by omega⟩ ?_ ?_
    · intro h571
      refine wk_c1 r202_76 (wk_is4 r202_77 rfl ?_)
      have c79_628 : ∀ (k628 : Nat) (M575 : Mm) (v572 : Int), (5 - v572).toNat = k628 → Pw M575 → Fr fm_m202_176 M0 M575 → M575 176 9 = (x176_9 + 1) → M575 176 10 = (((x176_9 + 1) + 63) / 64) → M575 176 7 = v567 → 0 ≤ v572 → v572 ≤ 5 → Wp B (d + 4) 202 79 [some (R 176), none, none, some (I x176_9), some (I v572)] [] M575 Q := by
        refine lp_ind ?_
        intro k628 ih628 M575 v572 hk628 hP576 hF577 e578 e579 e580 h573 h574
        refine wk_il4 r202_79 (wk_c1 r202_81 ?_)
        refine wk_icge r202_82 ⟨by omega, by omega⟩ (by decide) ?_ ?_
        · intro h581
          refine wk_al0 r202_112 (wk_c2 r202_113 (wk_al0 r202_115 (wk_il3 r202_116 (wk_c1 r202_117 (wk_cv3 r202_118 kc_176_186 rfl (m186_176 _ M575 x176_9 1 hP576 (by omega) (by omega) (by decide) (by decide)) (cqI ?_))))))
          rintro v586 M582 ⟨hP583, hQ584, h587, h588⟩
          obtain rfl := Fr.same hQ584
          refine wk_iadd r202_121 (wk_il3 r202_122 (wk_cv3 r202_123 kc_176_204 rfl (m204_176v5 _ M575 (35 + v586) x176_9 hP576 (by omega) (by omega) (by omega) (by omega)) (cqV ?_)))
          rintro M589 ⟨hP590, hQ591⟩
          have hF592 : Fr fm_m202_176 M0 M589 := hF577.tr hQ591 rfl
          refine wk_al0 r202_126 (wk_c2 r202_127 (wk_al0 r202_129 (wk_il3 r202_130 (wk_c1 r202_131 (wk_cv3 r202_132 kc_176_186 rfl (m186_176v1 _ M589 x176_9 2 hP590 (by omega) (by omega) (by decide) (by decide)) (cqI ?_))))))
          rintro v597 M593 ⟨hP594, hQ595, h598, h599⟩
          obtain rfl := Fr.same hQ595
          refine wk_iadd r202_135 (wk_il3 r202_136 (wk_cv3 r202_137 kc_176_204 rfl (m204_176v6 _ M589 (39 + v597) x176_9 hP590 (by omega) (by omega) (by omega) (by omega)) (cqV ?_)))
          rintro M600 ⟨hP601, hQ602⟩
          have hF603 : Fr fm_m202_176 M0 M600 := hF592.tr hQ602 rfl
          refine wk_al0 r202_140 (wk_c2 r202_141 (wk_al0 r202_143 (wk_il3 r202_144 (wk_c1 r202_145 (wk_cv3 r202_146 kc_176_186 rfl (m186_176v2 _ M600 x176_9 3 hP601 (by omega) (by omega) (by decide) (by decide)) (cqI ?_))))))
          rintro v608 M604 ⟨hP605, hQ606, h609, h610⟩
          obtain rfl := Fr.same hQ606
          refine wk_iadd r202_149 (wk_il3 r202_150 (wk_cv3 r202_151 kc_176_204 rfl (m204_176v7 _ M600 (46 + v608) x176_9 hP601 (by omega) (by omega) (by omega) (by omega)) (cqV ?_)))
          rintro M611 ⟨hP612, hQ613⟩
          have hF614 : Fr fm_m202_176 M0 M611 := hF603.tr hQ613 rfl
          refine wk_al0 r202_154 (wk_c2 r202_155 (wk_il3 r202_157 (wk_cv3 r202_158 kc_176_204 rfl (m204_176v8 _ M611 118 x176_9 hP612 (by decide) (by decide) (by omega) (by omega)) (cqV ?_))))
          rintro M615 ⟨hP616, hQ617⟩
          have hF618 : Fr fm_m202_176 M0 M615 := hF614.tr hQ617 rfl
          subst hQ; exact wk_ret r202_161 (⟨rfl, hP616, hF618, by have := ((hQ617.at g_176_9 rfl).trans ((hQ613.at g_176_9 rfl).trans ((hQ602.at g_176_9 rfl).trans ((hQ591.at g_176_9 rfl).trans e578)))); omega, by have := ((hQ617.at g_176_9 rfl).trans ((hQ613.at g_176_9 rfl).trans ((hQ602.at g_176_9 rfl).trans ((hQ591.at g_176_9 rfl).trans e578)))); omega⟩)
        · intro h619
          refine wk_al0 r202_85 (wk_c2 r202_86 (wk_il4 r202_88 (wk_c2 r202_90 (wk_imul r202_92 (wk_iadd r202_93 (wk_al0 r202_94 (wk_getfr r202_95 fd_176_5 (br_176_5 hP576) (wk_il4 r202_98 (wk_ialdb r202_100 ar_179 ⟨by omega, by omega⟩ (fun q0 q1 => ba_179 hP576 q0 q1) ?_)))))))))
          intro v620 h622 h623 e621
          refine wk_iadd r202_101 (wk_il3 r202_102 (wk_cv3 r202_103 kc_176_204 rfl (m204_176v4 _ M575 ((48 + (v572 * 8)) + v620) x176_9 hP576 (by omega) (by omega) (by omega) (by omega)) (cqV ?_)))
          rintro M624 ⟨hP625, hQ626⟩
          have hF627 : Fr fm_m202_176 M0 M624 := hF577.tr hQ626 rfl
          refine wk_inc4 r202_106 rfl (wk_goto r202_109 ?_)
          exact wp_fg (le_s (le_s (le_s (le_s (le_s le_0))))) (ih628 (5 - (v572 + 1)).toNat (by omega) M624 (v572 + 1) rfl hP625 hF627 ((hQ626.at g_176_9 rfl).trans e578) ((hQ626.at g_176_10 rfl).trans e579) ((hQ626.at g_176_7 rfl).trans e580) (by omega) (by omega))
      exact wp_fg (le_s (le_s (le_s (le_s (le_s le_0))))) (c79_628 _ M561 0 rfl hP562 hF563 e564 e565 e568 (by omega) (by omega))
    · intro h629
      refine wk_al0 r202_63 (wk_il3 r202_64 (wk_il4 r202_65 (wk_cv3 r202_67 kc_176_203 rfl (m203_176 _ M561 x176_9 v558 hP562 (by omega) (by omega) (by omega) (by omega) (by first | assumption | omega | (unfold stepok; omega))) (cqV ?_))))
      rintro M630 ⟨hP631, hQ632, xh634⟩
      have hF633 : Fr fm_m202_176 M0 M630 := hF563.tr hQ632 rfl
      refine wk_inc4 r202_70 rfl (wk_goto r202_73 ?_)
      exact wp_fg (le_s (le_s (le_s (le_s (le_s le_0))))) (ih635 (7 - (v558 + 1)).toNat (by omega) M630 (v558 + 1) rfl hP631 hF633 ((hQ632.at g_176_9 rfl).trans e564) ((hQ632.at g_176_10 rfl).trans e565) (by omega) (by omega) (xh634))
  exact wp_fg (le_s (le_n (le_n (le_s (le_s le_0))))) (c54_635 _ M18 0 rfl hP20 hF21 (fil_no e19 (mUp_no e17 (mUp_at e12) (Or.inr (by decide))) (by decide)) (fil_no e19 (mUp_at e17) (by decide)) (by omega) (by omega) (fun k q0 q1 => by rw [e19, fil_eq]; omega))
def fm_m191_f155v8 : Nat := 0
/-- IslandHall$Realm.holds -/
theorem m191_f155v8 {B : eB} (d : Nat) (M0 : Mm) (a0 : Int) (p1 : Int) (hP0 : Pw M0) (ha0 : 155 ≤ a0) (hb0 : a0 ≤ 167) (l1 : 0 ≤ p1) (u1 : p1 ≤ 2999) : Ct B (d + 1) 191 [R a0, I p1] M0 (qI fun z M => Pw M ∧ Fr fm_m191_f155v8 M0 M ∧ 0 ≤ z ∧ z ≤ 1) := by
  refine ct_of (d := d + 0) (k := 0) (L := [some (R a0), some (I p1)]) rfl rfl rfl ?_
  have hF0 := Fr.rf fm_m191_f155v8 M0
  generalize hQ : (qI fun z M => Pw M ∧ Fr fm_m191_f155v8 M0 M ∧ 0 ≤ z ∧ z ≤ 1) = Q
  refine wk_al0 r191_0 (wk_il1 r191_1 (wk_c2 r191_2 (wk_ishrc r191_4 ⟨by omega, by omega⟩ (by decide) pwl_6 (wk_laldb r191_5 (arF_155 (by omega) (by omega)) ⟨by omega, by omega⟩ (fun q0 q1 => baF_155 hP0 (by omega) (by omega) q0 q1) (by decide) ?_))))
  intro n2 h4 h5 e3
  refine wk_il1 r191_6 (wk_c2 r191_7 (wk_iandc 6 64 r191_9 ⟨rfl, by decide⟩ rfl (wk_lushrb r191_10 (by omega) ⟨by omega, by omega⟩ ?_)))
  intro n6 h7 h8
  refine wk_c6 r191_11 (wk_land r191_12 ?_)
  intro n9 h10 h11 h12 h13
  refine wk_c6 r191_13 ?_
  refine wk_lcmp r191_14 (by omega) (by omega) ?_ ?_
  · intro h14
    refine wk_ifne r191_15 (by decide) ?_ ?_
    · intro h20
      exfalso
      omega
    · intro h21
      refine wk_c1 r191_18 (wk_goto r191_19 ?_)
      subst hQ; exact wk_zret r191_23 (by decide) (⟨rfl, _, rfl, hP0, hF0, by omega, by omega⟩)
  · intro h15 v19 h16 h17 h18
    refine wk_ifne r191_15 ⟨by omega, by omega⟩ ?_ ?_
    · intro h22
      refine wk_c1 r191_22 ?_
      subst hQ; exact wk_zret r191_23 (by decide) (⟨rfl, _, rfl, hP0, hF0, by omega, by omega⟩)
    · intro h23
      exfalso
      omega
def fm_m191_f17v8 : Nat := 0
/-- IslandHall$Realm.holds -/
theorem m191_f17v8 {B : eB} (d : Nat) (M0 : Mm) (a0 : Int) (p1 : Int) (hP0 : Pw M0) (ha0 : 17 ≤ a0) (hb0 : a0 ≤ 135) (l1 : 0 ≤ p1) (u1 : p1 ≤ 2999) : Ct B (d + 1) 191 [R a0, I p1] M0 (qI fun z M => Pw M ∧ Fr fm_m191_f17v8 M0 M ∧ 0 ≤ z ∧ z ≤ 1) := by
  refine ct_of (d := d + 0) (k := 0) (L := [some (R a0), some (I p1)]) rfl rfl rfl ?_
  have hF0 := Fr.rf fm_m191_f17v8 M0
  generalize hQ : (qI fun z M => Pw M ∧ Fr fm_m191_f17v8 M0 M ∧ 0 ≤ z ∧ z ≤ 1) = Q
  refine wk_al0 r191_0 (wk_il1 r191_1 (wk_c2 r191_2 (wk_ishrc r191_4 ⟨by omega, by omega⟩ (by decide) pwl_6 (wk_laldb r191_5 (arF_17 (by omega) (by omega)) ⟨by omega, by omega⟩ (fun q0 q1 => baF_17 hP0 (by omega) (by omega) q0 q1) (by decide) ?_))))
  intro n2 h4 h5 e3
  refine wk_il1 r191_6 (wk_c2 r191_7 (wk_iandc 6 64 r191_9 ⟨rfl, by decide⟩ rfl (wk_lushrb r191_10 (by omega) ⟨by omega, by omega⟩ ?_)))
  intro n6 h7 h8
  refine wk_c6 r191_11 (wk_land r191_12 ?_)
  intro n9 h10 h11 h12 h13
  refine wk_c6 r191_13 ?_
  refine wk_lcmp r191_14 (by omega) (by omega) ?_ ?_
  · intro h14
    refine wk_ifne r191_15 (by decide) ?_ ?_
    · intro h20
      exfalso
      omega
    · intro h21
      refine wk_c1 r191_18 (wk_goto r191_19 ?_)
      subst hQ; exact wk_zret r191_23 (by decide) (⟨rfl, _, rfl, hP0, hF0, by omega, by omega⟩)
  · intro h15 v19 h16 h17 h18
    refine wk_ifne r191_15 ⟨by omega, by omega⟩ ?_ ?_
    · intro h22
      refine wk_c1 r191_22 ?_
      subst hQ; exact wk_zret r191_23 (by decide) (⟨rfl, _, rfl, hP0, hF0, by omega, by omega⟩)
    · intro h23
      exfalso
      omega
def fm_m204_176v25 : Nat := 21267647932558653966460912964485513216
/-- IslandHall$Realm.set -/
theorem m204_176v25 {B : eB} (d : Nat) (M0 : Mm) (p1 : Int) (p2 : Int) (hP0 : Pw M0) (l1 : 102 ≤ p1) (u1 : p1 ≤ 113) (l2 : 0 ≤ p2) (u2 : p2 ≤ 299) : Ct B (d + 1) 204 [R 176, I p1, I p2] M0 (qV fun M => Pw M ∧ Fr fm_m204_176v25 M0 M) := by
  refine ct_of (d := d + 0) (k := 0) (L := [some (R 176), some (I p1), some (I p2)]) rfl rfl rfl ?_
  have hF0 := Fr.rf fm_m204_176v25 M0
  generalize hQ : (qV fun M => Pw M ∧ Fr fm_m204_176v25 M0 M) = Q
  refine wk_al0 r204_0 (wk_getfr r204_1 fd_176_0 (br_176_0 hP0) (wk_il1 r204_4 (wk_raldb r204_5 ar_182 ⟨by omega, by omega⟩ (fun q0 q1 => ba_182 hP0 q0 q1) (wk_il2 r204_6 (wk_c2 r204_7 (wk_ishrc r204_9 ⟨by omega, by omega⟩ (by decide) pwl_6 (wk_dup2 r204_10 (wk_laldb r204_11 (arF_183 (by omega) (by omega)) ⟨by omega, by omega⟩ (fun q0 q1 => baF_183 hP0 (by omega) (by omega) q0 q1) (by decide) ?_))))))))
  intro n2 h4 h5 e3
  refine wk_c6 r204_12 (wk_il2 r204_13 (wk_c2 r204_14 (wk_iandc 6 64 r204_16 ⟨rfl, by decide⟩ rfl (wk_lshlb r204_17 ⟨by omega, by omega⟩ ?_))))
  intro n6 h7 h8 h9
  refine wk_lorb r204_18 ?_
  intro n10 h11 h12 h13
  refine wk_last r204_19 (arF_183 (by omega) (by omega)) ⟨by omega, by omega⟩ (wk_nw (gr_183 (by omega) (by omega) _) rfl hP0 hF0 (uaF_183 (by omega) (by omega) ⟨by omega, by omega⟩) ?_)
  intro M14 hP15 hF16 e17
  subst hQ; exact wk_ret r204_20 (⟨rfl, hP15, hF16⟩)
def fm_m206_176_10_f155 : Nat := 659543720010098677272643500474688864256
/-- IslandHall$Realm.take -/
theorem m206_176_10_f155 {B : eB} (d : Nat) (M0 : Mm) (a2 : Int) (p3 : Int) (hP0 : Pw M0) (ha2 : 155 ≤ a2) (hb2 : a2 ≤ 167) (l3 : 0 ≤ p3) (u3 : p3 ≤ 12) : Ct B (d + 6) 206 [R 176, R 10, R a2, I p3] M0 (qV fun M => Pw M ∧ Fr fm_m206_176_10_f155 M0 M) := by
  refine ct_of (d := d + 5) (k := 2) (L := [some (R 176), some (R 10), some (R a2), some (I p3), none, none]) rfl rfl rfl ?_
  have hF0 := Fr.rf fm_m206_176_10_f155 M0
  generalize hQ : (qV fun M => Pw M ∧ Fr fm_m206_176_10_f155 M0 M) = Q
  refine wk_al0 r206_0 (wk_al1 r206_1 (wk_getfb r206_2 fd_10_7 (bf_10_7 hP0) ?_))
  intro v1 h3 h4 e2
  refine wk_al1 r206_5 (wk_getfb r206_6 fd_10_8 (bf_10_8 hP0) ?_)
  intro v5 h7 h8 e6
  refine wk_cv3 r206_9 kc_176_187 rfl (m187_176 _ M0 v1 v5 hP0 (by omega) (by omega) (by omega) (by omega)) (cqV ?_)
  rintro M9 ⟨hP10, hQ11, h13⟩
  have hF12 : Fr fm_m206_176_10_f155 M0 M9 := hF0.tr hQ11 rfl
  obtain ⟨v14, e15⟩ : ∃ v, M9 176 9 = v := ⟨_, rfl⟩
  have h16 := bf_176_9 hP10; rw [e15] at h16
  refine wk_al1 r206_12 (wk_getfr r206_13 fd_10_3 (br_10_3 hP10) (wk_c1 r206_16 (wk_al0 r206_17 (wk_getfr r206_18 fd_176_3 (br_176_3 hP10) (wk_c1 r206_21 (wk_c2 r206_22 (wk_copy109 r206_24 ar_11 ar_177 ⟨by decide, by decide, by decide, by omega, by omega, by omega⟩ rfl (wk_nc (fun i => by rw [(ga_177 i)]; rfl) hP10 hF12 (fun i h0 h1 => by have := (fun q0 q1 => ba_11 hP10 q0 q1) h0 (by omega); exact (ua_177 ⟨by omega, by omega⟩)) ?_))))))))
  intro M17 hP18 hF19 e20
  refine wk_c1 r206_27 (wk_is4 r206_28 rfl ?_)
  have c30_1032 : ∀ (k1032 : Nat) (M963 : Mm) (v960 : Int) (v966 : Int), (3000 - v960).toNat = k1032 → Pw M963 → Fr fm_m206_176_10_f155 M0 M963 → M963 176 9 = v966 → M963 10 7 = v1 → M963 10 8 = v5 → 0 ≤ v960 → v960 ≤ 3000 → 0 ≤ v966 → v966 ≤ 300 → Wp B (d + 5) 206 30 [some (R 176), some (R 10), some (R a2), some (I p3), some (I v960), none] [] M963 Q := by
    refine lp_ind ?_
    intro k1032 ih1032 M963 v960 v966 hk1032 hP964 hF965 e969 e970 e971 h961 h962 h967 h968
    refine wk_il4 r206_30 (wk_al1 r206_32 (wk_getfb r206_33 fd_10_9 (bf_10_9 hP964) ?_))
    intro v972 h974 h975 e973
    refine wk_icge r206_36 ⟨by omega, by omega⟩ ⟨by omega, by omega⟩ ?_ ?_
    · intro h976
      subst hQ; exact wk_ret r206_130 (⟨rfl, hP964, hF965⟩)
    · intro h977
      refine wk_al0 r206_39 (wk_getfi r206_40 fd_176_9 e969 (wk_al0 r206_43 (wk_getfr r206_44 fd_176_1 (br_176_1 hP964) (wk_alen r206_47 ar_302 (by decide) ?_))))
      refine wk_icge r206_48 ⟨by omega, by omega⟩ (by decide) ?_ ?_
      · intro h978
        subst hQ; exact wk_ret r206_130 (⟨rfl, hP964, hF965⟩)
      · intro h979
        refine wk_al2 r206_51 (wk_il4 r206_52 (wk_cs102_2 r206_54 rfl (m191_f155v8 _ M963 a2 v960 hP964 (by omega) (by omega) (by omega) (by omega)) (cqI ?_)))
        rintro v984 M980 ⟨hP981, hQ982, h985, h986⟩
        obtain rfl := Fr.same hQ982
        refine wk_ifeq r206_57 ⟨by omega, by omega⟩ ?_ ?_
        · intro h987
          refine wk_inc4 r206_124 rfl (wk_goto r206_127 ?_)
          exact wp_fg (le_s (le_s (le_s (le_s (le_s (le_s le_0)))))) (ih1032 (3000 - (v960 + 1)).toNat (by omega) M963 (v960 + 1) v966 rfl hP964 hF965 e969 e970 e971 (by omega) (by omega) (by omega) (by omega))
        · intro h988
          refine wk_c1 r206_60 (wk_is5 r206_61 rfl ?_)
          have c63_1031 : ∀ (k1031 : Nat) (M992 : Mm) (v989 : Int), (12 - v989).toNat = k1031 → Pw M992 → Fr fm_m206_176_10_f155 M0 M992 → M992 176 9 = v966 → M992 10 7 = v1 → M992 10 8 = v5 → M992 10 9 = v972 → 0 ≤ v989 → v989 ≤ 12 → Wp B (d + 5) 206 63 [some (R 176), some (R 10), some (R a2), some (I p3), some (I v960), some (I v989)] [] M992 Q := by
            refine lp_ind ?_
            intro k1031 ih1031 M992 v989 hk1031 hP993 hF994 e995 e996 e997 e998 h990 h991
            refine wk_il5 r206_63 (wk_il3 r206_65 ?_)
            refine wk_icge r206_66 ⟨by omega, by omega⟩ ⟨by omega, by omega⟩ ?_ ?_
            · intro h999
              refine wk_al0 r206_106 (wk_al1 r206_107 (wk_getfr r206_108 fd_10_1 (br_10_1 hP993) (wk_il4 r206_111 (wk_ialdb r206_113 ar_136 ⟨by omega, by omega⟩ (fun q0 q1 => ba_136 hP993 q0 q1) ?_))))
              intro v1000 h1002 h1003 e1001
              refine wk_al1 r206_114 (wk_getfr r206_115 fd_10_2 (br_10_2 hP993) (wk_il4 r206_118 (wk_ialdb r206_120 ar_137 ⟨by omega, by omega⟩ (fun q0 q1 => ba_137 hP993 q0 q1) ?_)))
              intro v1004 h1006 h1007 e1005
              refine wk_cv3 r206_121 kc_176_202 rfl (m202_176 _ M992 v1000 v1004 v966 hP993 (by omega) (by omega) (by omega) (by omega) e995 (by omega) (by omega)) (cqV ?_)
              rintro M1008 ⟨hP1009, hQ1010, h1012, h1013⟩
              have hF1011 : Fr fm_m206_176_10_f155 M0 M1008 := hF994.tr hQ1010 rfl
              obtain ⟨v1014, e1015⟩ : ∃ v, M1008 176 9 = v := ⟨_, rfl⟩
              have h1016 := bf_176_9 hP1009; rw [e1015] at h1016
              refine wk_inc4 r206_124 rfl (wk_goto r206_127 ?_)
              exact wp_fg (le_s (le_s (le_s (le_s (le_s (le_n le_0)))))) (ih1032 (3000 - (v960 + 1)).toNat (by omega) M1008 (v960 + 1) v1014 rfl hP1009 hF1011 e1015 ((hQ1010.at g_10_7 rfl).trans e996) ((hQ1010.at g_10_8 rfl).trans e997) (by omega) (by omega) (by omega) (by omega))
            · intro h1017
              refine wk_al1 r206_69 (wk_getfr r206_70 fd_10_0 (br_10_0 hP993) (wk_c2 r206_73 (wk_il5 r206_75 (wk_iadd r206_77 (wk_raldb r206_78 ar_16 ⟨by omega, by omega⟩ (fun q0 q1 => ba_16 hP993 q0 q1) (wk_il4 r206_79 (wk_cs102_2 r206_81 rfl (m191_f17v8 _ M992 (17 + (102 + v989)) v960 hP993 (by omega) (by omega) (by omega) (by omega)) (cqI ?_))))))))
              rintro v1022 M1018 ⟨hP1019, hQ1020, h1023, h1024⟩
              obtain rfl := Fr.same hQ1020
              refine wk_ifeq r206_84 ⟨by omega, by omega⟩ ?_ ?_
              · intro h1025
                refine wk_inc5 r206_100 rfl (wk_goto r206_103 ?_)
                exact wp_fg (le_s (le_s (le_s (le_s (le_s (le_s le_0)))))) (ih1031 (12 - (v989 + 1)).toNat (by omega) M992 (v989 + 1) rfl hP993 hF994 e995 e996 e997 e998 (by omega) (by omega))
              · intro h1026
                refine wk_al0 r206_87 (wk_c2 r206_88 (wk_il5 r206_90 (wk_iadd r206_92 (wk_al0 r206_93 (wk_getfi r206_94 fd_176_9 e995 (wk_cv3 r206_97 kc_176_204 rfl (m204_176v25 _ M992 (102 + v989) v966 hP993 (by omega) (by omega) (by omega) (by omega)) (cqV ?_)))))))
                rintro M1027 ⟨hP1028, hQ1029⟩
                have hF1030 : Fr fm_m206_176_10_f155 M0 M1027 := hF994.tr hQ1029 rfl
                refine wk_inc5 r206_100 rfl (wk_goto r206_103 ?_)
                exact wp_fg (le_s (le_s (le_s (le_s (le_s (le_s le_0)))))) (ih1031 (12 - (v989 + 1)).toNat (by omega) M1027 (v989 + 1) rfl hP1028 hF1030 ((hQ1029.at g_176_9 rfl).trans e995) ((hQ1029.at g_10_7 rfl).trans e996) ((hQ1029.at g_10_8 rfl).trans e997) ((hQ1029.at g_10_9 rfl).trans e998) (by omega) (by omega))
          exact wp_fg (le_s (le_s (le_s (le_s (le_s (le_s le_0)))))) (c63_1031 _ M963 0 rfl hP964 hF965 e969 e970 e971 e973 (by omega) (by omega))
  exact wp_fg (le_s (le_s (le_s (le_s (le_s (le_s le_0)))))) (c30_1032 _ M17 0 v14 rfl hP18 hF19 (cpy_no e20 e15 (by decide)) (cpy_no e20 ((hQ11.at g_10_7 rfl).trans e2) (by decide)) (cpy_no e20 ((hQ11.at g_10_8 rfl).trans e6) (by decide)) (by omega) (by omega) (by omega) (by omega))
def fm_m186_176v11 : Nat := 0
/-- IslandHall$Realm.answerAt -/
theorem m186_176v11 {B : eB} (d : Nat) (M0 : Mm) (p1 : Int) (p2 : Int) (hP0 : Pw M0) (l1 : 0 ≤ p1) (u1 : p1 ≤ 299) (l2 : 0 ≤ p2) (u2 : p2 ≤ 3) : Ct B (d + 1) 186 [R 176, I p1, I p2] M0 (qI fun z M => Pw M ∧ Fr fm_m186_176v11 M0 M ∧ 0 ≤ z ∧ z ≤ 2999) := by
  refine ct_of (d := d + 0) (k := 0) (L := [some (R 176), some (I p1), some (I p2)]) rfl rfl rfl ?_
  have hF0 := Fr.rf fm_m186_176v11 M0
  generalize hQ : (qI fun z M => Pw M ∧ Fr fm_m186_176v11 M0 M ∧ 0 ≤ z ∧ z ≤ 2999) = Q
  refine wk_il2 r186_0 ?_
  refine wk_sw8 r186_1 ⟨by omega, by omega⟩ ?_ ?_ ?_ ?_
  · intro h1
    refine wk_al0 r186_65 (wk_getfr r186_66 fd_176_2 (br_176_2 hP0) (wk_il1 r186_69 (wk_ialdb r186_70 ar_303 ⟨by omega, by omega⟩ (fun q0 q1 => ba_303 hP0 q0 q1) ?_)))
    intro v2 h4 h5 e3
    subst hQ; exact wk_iret r186_71 (⟨rfl, _, rfl, hP0, hF0, by omega, by omega⟩)
  · intro h6
    refine wk_al0 r186_28 (wk_getfr r186_29 fd_176_1 (br_176_1 hP0) (wk_il1 r186_32 (wk_ialdb r186_33 ar_302 ⟨by omega, by omega⟩ (fun q0 q1 => ba_302 hP0 q0 q1) ?_)))
    intro v7 h9 h10 e8
    refine wk_c2 r186_34 (wk_ishrc r186_36 ⟨by omega, by omega⟩ (by decide) pwl_21 (wk_c1 r186_37 (wk_iandc 2 4 r186_38 ⟨rfl, by decide⟩ rfl ?_)))
    subst hQ; exact wk_iret r186_39 (⟨rfl, _, rfl, hP0, hF0, by omega, by omega⟩)
  · intro h13
    refine wk_al0 r186_40 (wk_getfr r186_41 fd_176_1 (br_176_1 hP0) (wk_il1 r186_44 (wk_ialdb r186_45 ar_302 ⟨by omega, by omega⟩ (fun q0 q1 => ba_302 hP0 q0 q1) ?_)))
    intro v14 h16 h17 e15
    refine wk_c2 r186_46 (wk_ishrc r186_48 ⟨by omega, by omega⟩ (by decide) pwl_23 (wk_c2 r186_49 (wk_iandc 3 8 r186_51 ⟨rfl, by decide⟩ rfl ?_)))
    subst hQ; exact wk_iret r186_52 (⟨rfl, _, rfl, hP0, hF0, by omega, by omega⟩)
  · intro h20
    refine wk_al0 r186_53 (wk_getfr r186_54 fd_176_1 (br_176_1 hP0) (wk_il1 r186_57 (wk_ialdb r186_58 ar_302 ⟨by omega, by omega⟩ (fun q0 q1 => ba_302 hP0 q0 q1) ?_)))
    intro v21 h23 h24 e22
    refine wk_c2 r186_59 (wk_ishrc r186_61 ⟨by omega, by omega⟩ (by decide) pwl_26 (wk_c1 r186_62 (wk_iandc 1 2 r186_63 ⟨rfl, by decide⟩ rfl ?_)))
    subst hQ; exact wk_iret r186_64 (⟨rfl, _, rfl, hP0, hF0, by omega, by omega⟩)
def fm_m146_174_138 : Nat := 4062367399360688113732224786765996621824
/-- IslandHall$Crowd.gather -/
theorem m146_174_138 {B : eB} (d : Nat) (M0 : Mm) (p2 : Int) (hP0 : Pw M0) (l2 : 0 ≤ p2) (u2 : p2 ≤ 3) : Ct B (d + 7) 146 [R 174, R 138, I p2] M0 (qV fun M => Pw M ∧ Fr fm_m146_174_138 M0 M) := by
  refine ct_of (d := d + 6) (k := 2) (L := [some (R 174), some (R 138), some (I p2), none, none]) rfl rfl rfl ?_
  have hF0 := Fr.rf fm_m146_174_138 M0
  generalize hQ : (qV fun M => Pw M ∧ Fr fm_m146_174_138 M0 M) = Q
  refine wk_al0 r146_0 (wk_getfr r146_1 fd_174_0 (br_174_0 hP0) (wk_al1 r146_4 (wk_getfr r146_5 fd_138_0 (br_138_0 hP0) (wk_al1 r146_8 (wk_cv1 r146_9 kc_138_229 rfl (m229_138 _ M0 hP0) (cqR ?_))))))
  rintro v5 M1 ⟨hP2, hQ3, h6, h7⟩
  obtain rfl := Fr.same hQ3
  refine wk_al1 r146_12 (wk_getfb r146_13 fd_138_5 (bf_138_5 hP0) ?_)
  intro v8 h10 h11 e9
  refine wk_cv4 r146_16 kc_176_206 rfl (m206_176_10_f155 _ M0 v5 v8 hP0 (by omega) (by omega) (by omega) (by omega)) (cqV ?_)
  rintro M12 ⟨hP13, hQ14⟩
  have hF15 : Fr fm_m146_174_138 M0 M12 := hF0.tr hQ14 rfl
  refine wk_al0 r146_19 (wk_getfr r146_20 fd_174_4 (br_174_4 hP13) (wk_c1 r146_23 (wk_cs102_2 r146_24 rfl (ct_fi ar_175) (cqV ?_))))
  intro M16 e17
  have hP18 : Pw M16 := by rw [e17]; exact hP13.fil (fun i => (ua_175 (by decide)))
  have hF19 : Fr fm_m146_174_138 M0 M16 := by rw [e17]; exact hF15.fil (fun i => by rw [(ga_175 i)]; rfl)
  refine wk_c1 r146_27 (wk_is3 r146_28 rfl ?_)
  have c29_780 : ∀ (k780 : Nat) (M707 : Mm) (v704 : Int), (300 - v704).toNat = k780 → Pw M707 → Fr fm_m146_174_138 M0 M707 → M707 138 5 = v8 → 0 ≤ v704 → v704 ≤ 300 → Wp B (d + 6) 146 29 [some (R 174), none, some (I p2), some (I v704), none] [] M707 Q := by
    refine lp_ind ?_
    intro k780 ih780 M707 v704 hk780 hP708 hF709 e710 h705 h706
    refine wk_il3 r146_29 (wk_al0 r146_30 (wk_getfr r146_31 fd_174_0 (br_174_0 hP708) (wk_getfb r146_34 fd_176_9 (bf_176_9 hP708) ?_)))
    intro v711 h713 h714 e712
    refine wk_icge r146_37 ⟨by omega, by omega⟩ ⟨by omega, by omega⟩ ?_ ?_
    · intro h715
      subst hQ; exact wk_ret r146_124 (⟨rfl, hP708, hF709⟩)
    · intro h716
      refine wk_al0 r146_40 (wk_getfr r146_41 fd_174_0 (br_174_0 hP708) (wk_il3 r146_44 (wk_il2 r146_45 (wk_cv3 r146_46 kc_176_186 rfl (m186_176v11 _ M707 v704 p2 hP708 (by omega) (by omega) (by omega) (by omega)) (cqI ?_)))))
      rintro v721 M717 ⟨hP718, hQ719, h722, h723⟩
      obtain rfl := Fr.same hQ719
      refine wk_is4 r146_49 rfl (wk_al0 r146_51 (wk_getfr r146_52 fd_174_4 (br_174_4 hP708) (wk_il4 r146_55 (wk_ialdb r146_57 ar_175 ⟨by omega, by omega⟩ (fun q0 q1 => ba_175 hP708 q0 q1) ?_))))
      intro v724 h726 h727 e725
      refine wk_c1 r146_58 ?_
      refine wk_icne r146_59 ⟨by omega, by omega⟩ (by decide) ?_ ?_
      · intro h728
        refine wk_al0 r146_80 (wk_getfr r146_81 fd_174_2 (br_174_2 hP708) (wk_il3 r146_84 (wk_al0 r146_85 (wk_getfr r146_86 fd_174_4 (br_174_4 hP708) (wk_il4 r146_89 (wk_iald r146_91 ar_175 ⟨by omega, by omega⟩ e725 (wk_iast r146_92 ar_304 ⟨by omega, by omega⟩ (wk_nw (ga_304 _) rfl hP708 hF709 (ua_304 ⟨by omega, by omega⟩) ?_))))))))
        intro M729 hP730 hF731 e732
        refine wk_al0 r146_93 (wk_getfr r146_94 fd_174_3 (br_174_3 hP730) (wk_al0 r146_97 (wk_getfr r146_98 fd_174_2 (br_174_2 hP730) (wk_il3 r146_101 (wk_iald r146_102 ar_304 ⟨by omega, by omega⟩ (mUp_at e732) (wk_raldb r146_103 ar_305 ⟨by omega, by omega⟩ (fun q0 q1 => ba_305 hP730 q0 q1) (wk_il3 r146_104 (wk_c2 r146_105 (wk_ishrc r146_107 ⟨by omega, by omega⟩ (by decide) pwl_6 (wk_dup2 r146_108 (wk_laldb r146_109 (arF_306 (by omega) (by omega)) ⟨by omega, by omega⟩ (fun q0 q1 => baF_306 hP730 (by omega) (by omega) q0 q1) (by decide) ?_)))))))))))
        intro n734 h736 h737 e735
        refine wk_c6 r146_110 (wk_il3 r146_111 (wk_c2 r146_112 (wk_iandc 6 64 r146_114 ⟨rfl, by decide⟩ rfl (wk_lshlb r146_115 ⟨by omega, by omega⟩ ?_))))
        intro n738 h739 h740 h741
        refine wk_lorb r146_116 ?_
        intro n742 h743 h744 h745
        refine wk_last r146_117 (arF_306 (by omega) (by omega)) ⟨by omega, by omega⟩ (wk_nw (gr_306 (by omega) (by omega) _) rfl hP730 hF731 (uaF_306 (by omega) (by omega) ⟨by omega, by omega⟩) ?_)
        intro M746 hP747 hF748 e749
        refine wk_inc3 r146_118 rfl (wk_goto r146_121 ?_)
        exact wp_fg (le_s (le_s (le_s (le_s (le_n le_0))))) (ih780 (300 - (v704 + 1)).toNat (by omega) M746 (v704 + 1) rfl hP747 hF748 (mUp_no e749 (mUp_no e732 e710 (Or.inl (by decide))) (Or.inl (by omega))) (by omega) (by omega))
      · intro h750
        refine wk_al0 r146_62 (wk_getfr r146_63 fd_174_4 (br_174_4 hP708) (wk_il4 r146_66 (wk_il3 r146_68 (wk_iast r146_69 ar_175 ⟨by omega, by omega⟩ (wk_nw (ga_175 _) rfl hP708 hF709 (ua_175 ⟨by omega, by omega⟩) ?_)))))
        intro M751 hP752 hF753 e754
        refine wk_al0 r146_70 (wk_getfr r146_71 fd_174_3 (br_174_3 hP752) (wk_il3 r146_74 (wk_raldb r146_75 ar_305 ⟨by omega, by omega⟩ (fun q0 q1 => ba_305 hP752 q0 q1) (wk_c6 r146_76 (wk_cs102_2 r146_77 rfl (ct_fl (arF_306 (by omega) (by omega))) (cqV ?_))))))
        intro M755 e756
        have hP757 : Pw M755 := by rw [e756]; exact hP752.fil (fun i => (uaF_306 (by omega) (by omega) ⟨by omega, by omega⟩))
        have hF758 : Fr fm_m146_174_138 M0 M755 := by rw [e756]; exact hF753.fil (fun i => by rw [(gr_306 (by omega) (by omega) i)]; rfl)
        refine wk_al0 r146_80 (wk_getfr r146_81 fd_174_2 (br_174_2 hP757) (wk_il3 r146_84 (wk_al0 r146_85 (wk_getfr r146_86 fd_174_4 (br_174_4 hP757) (wk_il4 r146_89 (wk_iald r146_91 ar_175 ⟨by omega, by omega⟩ (fil_no e756 (mUp_at e754) (by omega)) (wk_iast r146_92 ar_304 ⟨by omega, by omega⟩ (wk_nw (ga_304 _) rfl hP757 hF758 (ua_304 ⟨by omega, by omega⟩) ?_))))))))
        intro M759 hP760 hF761 e762
        refine wk_al0 r146_93 (wk_getfr r146_94 fd_174_3 (br_174_3 hP760) (wk_al0 r146_97 (wk_getfr r146_98 fd_174_2 (br_174_2 hP760) (wk_il3 r146_101 (wk_iald r146_102 ar_304 ⟨by omega, by omega⟩ (mUp_at e762) (wk_raldb r146_103 ar_305 ⟨by omega, by omega⟩ (fun q0 q1 => ba_305 hP760 q0 q1) (wk_il3 r146_104 (wk_c2 r146_105 (wk_ishrc r146_107 ⟨by omega, by omega⟩ (by decide) pwl_6 (wk_dup2 r146_108 (wk_laldb r146_109 (arF_306 (by omega) (by omega)) ⟨by omega, by omega⟩ (fun q0 q1 => baF_306 hP760 (by omega) (by omega) q0 q1) (by decide) ?_)))))))))))
        intro n764 h766 h767 e765
        refine wk_c6 r146_110 (wk_il3 r146_111 (wk_c2 r146_112 (wk_iandc 6 64 r146_114 ⟨rfl, by decide⟩ rfl (wk_lshlb r146_115 ⟨by omega, by omega⟩ ?_))))
        intro n768 h769 h770 h771
        refine wk_lorb r146_116 ?_
        intro n772 h773 h774 h775
        refine wk_last r146_117 (arF_306 (by omega) (by omega)) ⟨by omega, by omega⟩ (wk_nw (gr_306 (by omega) (by omega) _) rfl hP760 hF761 (uaF_306 (by omega) (by omega) ⟨by omega, by omega⟩) ?_)
        intro M776 hP777 hF778 e779
        refine wk_inc3 r146_118 rfl (wk_goto r146_121 ?_)
        exact wp_fg (le_s (le_s (le_s (le_s (le_n le_0))))) (ih780 (300 - (v704 + 1)).toNat (by omega) M776 (v704 + 1) rfl hP777 hF778 (mUp_no e779 (mUp_no e762 (fil_no e756 (mUp_no e754 e710 (Or.inl (by decide))) (by omega)) (Or.inl (by decide))) (Or.inl (by omega))) (by omega) (by omega))
  exact wp_fg (le_s (le_n (le_s (le_s (le_s le_0))))) (c29_780 _ M16 0 rfl hP18 hF19 (fil_no e17 ((hQ14.at g_138_5 rfl).trans e9) (by decide)) (by omega) (by omega))
def fm_m145_174 : Nat := 0
/-- IslandHall$Crowd.everyone -/
theorem m145_174 {B : eB} (d : Nat) (M0 : Mm) (hP0 : Pw M0)  : Ct B (d + 1) 145 [R 174] M0 (qR fun z M => Pw M ∧ Fr fm_m145_174 M0 M ∧ 301 ≤ z ∧ z ≤ 301) := by
  refine ct_of (d := d + 0) (k := 0) (L := [some (R 174)]) rfl rfl rfl ?_
  have hF0 := Fr.rf fm_m145_174 M0
  generalize hQ : (qR fun z M => Pw M ∧ Fr fm_m145_174 M0 M ∧ 301 ≤ z ∧ z ≤ 301) = Q
  refine wk_al0 r145_0 (wk_getfr r145_1 fd_174_0 (br_174_0 hP0) (wk_getfr r145_4 fd_176_0 (br_176_0 hP0) (wk_c2 r145_7 (wk_raldb r145_9 ar_182 (by decide) (fun q0 q1 => ba_182 hP0 q0 q1) ?_))))
  subst hQ; exact wk_aret r145_10 (⟨rfl, _, rfl, hP0, hF0, by omega, by omega⟩)
def fm_m149_174_606 : Nat := 0
/-- IslandHall$Crowd.someOf -/
theorem m149_174_606 {B : eB} (d : Nat) (M0 : Mm) (hP0 : Pw M0)  : Ct B (d + 2) 149 [R 174, R 606] M0 (qI fun z M => Pw M ∧ Fr fm_m149_174_606 M0 M ∧ (-1) ≤ z ∧ z ≤ 299) := by
  refine ct_of (d := d + 1) (k := 1) (L := [some (R 174), some (R 606), none]) rfl rfl rfl ?_
  have hF0 := Fr.rf fm_m149_174_606 M0
  generalize hQ : (qI fun z M => Pw M ∧ Fr fm_m149_174_606 M0 M ∧ (-1) ≤ z ∧ z ≤ 299) = Q
  refine wk_c1 r149_0 (wk_is2 r149_1 rfl ?_)
  have c2_330 : ∀ (k330 : Nat) (v283 : Int), (5 - v283).toNat = k330 → 0 ≤ v283 → v283 ≤ 5 → Wp B (d + 1) 149 2 [some (R 174), some (R 606), some (I v283)] [] M0 Q := by
    refine lp_ind ?_
    intro k330 ih330 v283 hk330 h284 h285
    refine wk_il2 r149_2 (wk_al0 r149_3 (wk_getfr r149_4 fd_174_0 (br_174_0 hP0) (wk_getfb r149_7 fd_176_10 (bf_176_10 hP0) ?_)))
    intro v286 h288 h289 e287
    refine wk_icge r149_10 ⟨by omega, by omega⟩ ⟨by omega, by omega⟩ ?_ ?_
    · intro h290
      refine wk_c1 r149_49 ?_
      subst hQ; exact wk_iret r149_50 (⟨rfl, _, rfl, hP0, hF0, by omega, by omega⟩)
    · intro h291
      refine wk_al1 r149_13 (wk_il2 r149_14 (wk_laldb r149_15 (arF_606 (by omega) (by omega)) ⟨by omega, by omega⟩ (fun q0 q1 => ⟨(b4_606 hP0 (by omega) (by omega) q0 q1).1, (b4_606 hP0 (by omega) (by omega) q0 q1).2.1⟩) (by decide) ?_))
      intro n292 h294 h295 e293
      have h296 : v283 = 4 → n292 ≤ 17592186044415 := by have := b4_606 hP0 (a := 606) (i := v283) (by omega) (by omega) (by omega) (by omega); omega
      refine wk_c6 r149_16 ?_
      refine wk_lcmp r149_17 (by omega) (by omega) ?_ ?_
      · intro h297
        refine wk_ifeq r149_18 (by decide) ?_ ?_
        · intro h303
          refine wk_inc2 r149_43 rfl (wk_goto r149_46 ?_)
          exact wp_fg (le_s (le_s (le_s le_0))) (ih330 (5 - (v283 + 1)).toNat (by omega) (v283 + 1) rfl (by omega) (by omega))
        · intro h304
          exfalso
          omega
      · intro h298 v302 h299 h300 h301
        refine wk_ifeq r149_18 ⟨by omega, by omega⟩ ?_ ?_
        · intro h305
          exfalso
          omega
        · intro h306
          refine wk_c2 r149_21 (wk_il2 r149_23 (wk_imul r149_24 (wk_al1 r149_25 (wk_il2 r149_26 (wk_lald r149_27 (arF_606 (by omega) (by omega)) ⟨by omega, by omega⟩ e293 (wk_c7 r149_28 (wk_lxor r149_31 ?_)))))))
          intro n308 h309 h310
          refine wk_al1 r149_32 (wk_il2 r149_33 (wk_lald r149_34 (arF_606 (by omega) (by omega)) ⟨by omega, by omega⟩ e293 (wk_c6 r149_35 (wk_lsubb r149_36 (by omega) ?_))))
          intro n312 h314 h313
          refine wk_land r149_37 ?_
          intro n315 h316 h317 h318 h319
          refine wk_cs102_1 r149_38 rfl (m245 _ M0 n315 hP0 (by omega)) (cqI ?_)
          rintro v325 M320 ⟨hP321, hQ322, h326, h327, xh324⟩
          obtain rfl := Fr.same hQ322
          have h328 := tz_b (by omega) (by omega) h310 h313 h319
          have h329 : 64 * v283 + v325 ≤ 299 := by omega
          refine wk_iadd r149_41 ?_
          subst hQ; exact wk_iret r149_42 (⟨rfl, _, rfl, hP0, hF0, by omega, by omega⟩)
  exact wp_fg (le_s (le_s (le_s le_0))) (c2_330 _ 0 rfl (by omega) (by omega))
def fm_m150_174_f609 : Nat := 16333553612205046246241981156724874149888
/-- IslandHall$Crowd.tellsAtMost -/
theorem m150_174_f609 {B : eB} (d : Nat) (M0 : Mm) (a1 : Int) (p2 : Int) (hP0 : Pw M0) (ha1 : 609 ≤ a1) (hb1 : a1 ≤ 612) (l2 : 1 ≤ p2) (u2 : p2 ≤ 1) : Ct B (d + 3) 150 [R 174, R a1, I p2] M0 (qI fun z M => Pw M ∧ Fr fm_m150_174_f609 M0 M ∧ 0 ≤ z ∧ z ≤ 1) := by
  refine ct_of (d := d + 2) (k := 4) (L := [some (R 174), some (R a1), some (I p2), none, none, none, none]) rfl rfl rfl ?_
  have hF0 := Fr.rf fm_m150_174_f609 M0
  generalize hQ : (qI fun z M => Pw M ∧ Fr fm_m150_174_f609 M0 M ∧ 0 ≤ z ∧ z ≤ 1) = Q
  refine wk_al1 r150_0 (wk_c1 r150_1 (wk_al0 r150_2 (wk_getfr r150_3 fd_174_5 (br_174_5 hP0) (wk_c1 r150_6 (wk_al0 r150_7 (wk_getfi r150_8 fd_174_1 (br_174_1 hP0) (wk_copy110 r150_11 (arF_609 (by omega) (by omega)) (arF_606 (by omega) (by omega)) ⟨by decide, by decide, by decide, by omega, by omega, by omega⟩ rfl (wk_nc (fun i => t4_606 rfl rfl (by omega) (by omega) i) hP0 hF0 (fun i h0 h1 => by have := b4_609 hP0 (a := a1) (by omega) (by omega) h0 (by omega); exact (u4_606 (by omega) (by omega) ⟨by omega, by omega, by omega⟩)) ?_))))))))
  intro M1 hP2 hF3 e4
  refine wk_c1 r150_14 (wk_is3 r150_15 rfl ?_)
  have c16_322 : ∀ (k322 : Nat) (M261 : Mm) (v258 : Int), (1 - v258).toNat = k322 → Pw M261 → Fr fm_m150_174_f609 M0 M261 → 0 ≤ v258 → v258 ≤ 1 → Wp B (d + 2) 150 16 [some (R 174), none, some (I p2), some (I v258), none, none, none] [] M261 Q := by
    refine lp_ind ?_
    intro k322 ih322 M261 v258 hk322 hP262 hF263 h259 h260
    refine wk_il3 r150_16 (wk_il2 r150_17 ?_)
    refine wk_icge r150_18 ⟨by omega, by omega⟩ ⟨by omega, by omega⟩ ?_ ?_
    · intro h264
      refine wk_al0 r150_99 (wk_al0 r150_100 (wk_getfr r150_101 fd_174_5 (br_174_5 hP262) (wk_cv2 r150_104 kc_174_149 rfl (m149_174_606 _ M261 hP262) (cqI ?_))))
      rintro v269 M265 ⟨hP266, hQ267, h270, h271⟩
      obtain rfl := Fr.same hQ267
      refine wk_c1 r150_107 ?_
      refine wk_icne r150_108 ⟨by omega, by omega⟩ (by decide) ?_ ?_
      · intro h272
        refine wk_c1 r150_115 ?_
        subst hQ; exact wk_zret r150_116 (by decide) (⟨rfl, _, rfl, hP262, hF263, by omega, by omega⟩)
      · intro h273
        refine wk_c1 r150_111 (wk_goto r150_112 ?_)
        subst hQ; exact wk_zret r150_116 (by decide) (⟨rfl, _, rfl, hP262, hF263, by omega, by omega⟩)
    · intro h274
      refine wk_al0 r150_21 (wk_al0 r150_22 (wk_getfr r150_23 fd_174_5 (br_174_5 hP262) (wk_cv2 r150_26 kc_174_149 rfl (m149_174_606 _ M261 hP262) (cqI ?_))))
      rintro v279 M275 ⟨hP276, hQ277, h280, h281⟩
      obtain rfl := Fr.same hQ277
      refine wk_is4 r150_29 rfl (wk_il4 r150_31 (wk_c1 r150_33 ?_))
      refine wk_icne r150_34 ⟨by omega, by omega⟩ (by decide) ?_ ?_
      · intro h282
        refine wk_al0 r150_39 (wk_getfr r150_40 fd_174_3 (br_174_3 hP262) (wk_al0 r150_43 (wk_getfr r150_44 fd_174_2 (br_174_2 hP262) (wk_il4 r150_47 (wk_ialdb r150_49 ar_304 ⟨by omega, by omega⟩ (fun q0 q1 => ba_304 hP262 q0 q1) ?_)))))
        intro v283 h285 h286 e284
        refine wk_raldb r150_50 ar_305 ⟨by omega, by omega⟩ (fun q0 q1 => ba_305 hP262 q0 q1) (wk_as5 r150_51 rfl (wk_c1 r150_53 (wk_is6 r150_54 rfl ?_)))
        have c56_320 : ∀ (k320 : Nat) (M290 : Mm) (v287 : Int), (5 - v287).toNat = k320 → Pw M290 → Fr fm_m150_174_f609 M0 M290 → 0 ≤ v287 → v287 ≤ 5 → Wp B (d + 2) 150 56 [some (R 174), none, some (I p2), some (I v258), none, some (R (306 + v283)), some (I v287)] [] M290 Q := by
          refine lp_ind ?_
          intro k320 ih320 M290 v287 hk320 hP291 hF292 h288 h289
          refine wk_il6 r150_56 (wk_al0 r150_58 (wk_getfr r150_59 fd_174_0 (br_174_0 hP291) (wk_getfb r150_62 fd_176_10 (bf_176_10 hP291) ?_)))
          intro v293 h295 h296 e294
          refine wk_icge r150_65 ⟨by omega, by omega⟩ ⟨by omega, by omega⟩ ?_ ?_
          · intro h297
            refine wk_inc3 r150_93 rfl (wk_goto r150_96 ?_)
            exact wp_fg (le_s (le_s (le_s (le_s (le_s (le_n (le_n le_0))))))) (ih322 (1 - (v258 + 1)).toNat (by omega) M290 (v258 + 1) rfl hP291 hF292 (by omega) (by omega))
          · intro h298
            refine wk_al0 r150_68 (wk_getfr r150_69 fd_174_5 (br_174_5 hP291) (wk_il6 r150_72 (wk_dup2 r150_74 (wk_laldb r150_75 (arF_606 (by omega) (by omega)) ⟨by omega, by omega⟩ (fun q0 q1 => ⟨(b4_606 hP291 (by omega) (by omega) q0 q1).1, (b4_606 hP291 (by omega) (by omega) q0 q1).2.1⟩) (by decide) ?_))))
            intro n299 h301 h302 e300
            have h303 : v287 = 4 → n299 ≤ 17592186044415 := by have := b4_606 hP291 (a := 606) (i := v287) (by omega) (by omega) (by omega) (by omega); omega
            refine wk_al5 r150_76 (wk_il6 r150_78 (wk_laldb r150_80 (arF_306 (by omega) (by omega)) ⟨by omega, by omega⟩ (fun q0 q1 => baF_306 hP291 (by omega) (by omega) q0 q1) (by decide) ?_))
            intro n304 h306 h307 e305
            refine wk_c7 r150_81 (wk_lxor r150_84 ?_)
            intro n308 h309 h310
            refine wk_land r150_85 ?_
            intro n311 h312 h313 h314 h315
            refine wk_last r150_86 (arF_606 (by omega) (by omega)) ⟨by omega, by omega⟩ (wk_nwt (t4_606 rfl rfl (by omega) (by omega) _) hP291 hF292 (u4_606 (by omega) (by omega) ⟨by omega, by omega, by omega⟩) ?_)
            intro M316 hP317 hF318 e319
            refine wk_inc6 r150_87 rfl (wk_goto r150_90 ?_)
            exact wp_fg (le_s (le_s (le_s (le_s (le_s (le_s (le_s le_0))))))) (ih320 (5 - (v287 + 1)).toNat (by omega) M316 (v287 + 1) rfl hP317 hF318 (by omega) (by omega))
        exact wp_fg (le_s (le_s (le_s (le_s (le_n (le_s (le_s le_0))))))) (c56_320 _ M261 0 rfl hP262 hF263 (by omega) (by omega))
      · intro h321
        refine wk_c1 r150_37 ?_
        subst hQ; exact wk_zret r150_38 (by decide) (⟨rfl, _, rfl, hP262, hF263, by omega, by omega⟩)
  exact wp_fg (le_s (le_n (le_s (le_s (le_s (le_s (le_s le_0))))))) (c16_322 _ M1 0 rfl hP2 hF3 (by omega) (by omega))
def fm_m150_174_f609v1 : Nat := 16333553612205046246241981156724874149888
/-- IslandHall$Crowd.tellsAtMost -/
theorem m150_174_f609v1 {B : eB} (d : Nat) (M0 : Mm) (a1 : Int) (p2 : Int) (hP0 : Pw M0) (ha1 : 609 ≤ a1) (hb1 : a1 ≤ 612) (l2 : 1 ≤ p2) (u2 : p2 ≤ 2) : Ct B (d + 3) 150 [R 174, R a1, I p2] M0 (qI fun z M => Pw M ∧ Fr fm_m150_174_f609v1 M0 M ∧ 0 ≤ z ∧ z ≤ 1) := by
  refine ct_of (d := d + 2) (k := 4) (L := [some (R 174), some (R a1), some (I p2), none, none, none, none]) rfl rfl rfl ?_
  have hF0 := Fr.rf fm_m150_174_f609v1 M0
  generalize hQ : (qI fun z M => Pw M ∧ Fr fm_m150_174_f609v1 M0 M ∧ 0 ≤ z ∧ z ≤ 1) = Q
  refine wk_al1 r150_0 (wk_c1 r150_1 (wk_al0 r150_2 (wk_getfr r150_3 fd_174_5 (br_174_5 hP0) (wk_c1 r150_6 (wk_al0 r150_7 (wk_getfi r150_8 fd_174_1 (br_174_1 hP0) (wk_copy110 r150_11 (arF_609 (by omega) (by omega)) (arF_606 (by omega) (by omega)) ⟨by decide, by decide, by decide, by omega, by omega, by omega⟩ rfl (wk_nc (fun i => t4_606 rfl rfl (by omega) (by omega) i) hP0 hF0 (fun i h0 h1 => by have := b4_609 hP0 (a := a1) (by omega) (by omega) h0 (by omega); exact (u4_606 (by omega) (by omega) ⟨by omega, by omega, by omega⟩)) ?_))))))))
  intro M1 hP2 hF3 e4
  refine wk_c1 r150_14 (wk_is3 r150_15 rfl ?_)
  have c16_386 : ∀ (k386 : Nat) (M325 : Mm) (v322 : Int), (2 - v322).toNat = k386 → Pw M325 → Fr fm_m150_174_f609v1 M0 M325 → 0 ≤ v322 → v322 ≤ 2 → Wp B (d + 2) 150 16 [some (R 174), none, some (I p2), some (I v322), none, none, none] [] M325 Q := by
    refine lp_ind ?_
    intro k386 ih386 M325 v322 hk386 hP326 hF327 h323 h324
    refine wk_il3 r150_16 (wk_il2 r150_17 ?_)
    refine wk_icge r150_18 ⟨by omega, by omega⟩ ⟨by omega, by omega⟩ ?_ ?_
    · intro h328
      refine wk_al0 r150_99 (wk_al0 r150_100 (wk_getfr r150_101 fd_174_5 (br_174_5 hP326) (wk_cv2 r150_104 kc_174_149 rfl (m149_174_606 _ M325 hP326) (cqI ?_))))
      rintro v333 M329 ⟨hP330, hQ331, h334, h335⟩
      obtain rfl := Fr.same hQ331
      refine wk_c1 r150_107 ?_
      refine wk_icne r150_108 ⟨by omega, by omega⟩ (by decide) ?_ ?_
      · intro h336
        refine wk_c1 r150_115 ?_
        subst hQ; exact wk_zret r150_116 (by decide) (⟨rfl, _, rfl, hP326, hF327, by omega, by omega⟩)
      · intro h337
        refine wk_c1 r150_111 (wk_goto r150_112 ?_)
        subst hQ; exact wk_zret r150_116 (by decide) (⟨rfl, _, rfl, hP326, hF327, by omega, by omega⟩)
    · intro h338
      refine wk_al0 r150_21 (wk_al0 r150_22 (wk_getfr r150_23 fd_174_5 (br_174_5 hP326) (wk_cv2 r150_26 kc_174_149 rfl (m149_174_606 _ M325 hP326) (cqI ?_))))
      rintro v343 M339 ⟨hP340, hQ341, h344, h345⟩
      obtain rfl := Fr.same hQ341
      refine wk_is4 r150_29 rfl (wk_il4 r150_31 (wk_c1 r150_33 ?_))
      refine wk_icne r150_34 ⟨by omega, by omega⟩ (by decide) ?_ ?_
      · intro h346
        refine wk_al0 r150_39 (wk_getfr r150_40 fd_174_3 (br_174_3 hP326) (wk_al0 r150_43 (wk_getfr r150_44 fd_174_2 (br_174_2 hP326) (wk_il4 r150_47 (wk_ialdb r150_49 ar_304 ⟨by omega, by omega⟩ (fun q0 q1 => ba_304 hP326 q0 q1) ?_)))))
        intro v347 h349 h350 e348
        refine wk_raldb r150_50 ar_305 ⟨by omega, by omega⟩ (fun q0 q1 => ba_305 hP326 q0 q1) (wk_as5 r150_51 rfl (wk_c1 r150_53 (wk_is6 r150_54 rfl ?_)))
        have c56_384 : ∀ (k384 : Nat) (M354 : Mm) (v351 : Int), (5 - v351).toNat = k384 → Pw M354 → Fr fm_m150_174_f609v1 M0 M354 → 0 ≤ v351 → v351 ≤ 5 → Wp B (d + 2) 150 56 [some (R 174), none, some (I p2), some (I v322), none, some (R (306 + v347)), some (I v351)] [] M354 Q := by
          refine lp_ind ?_
          intro k384 ih384 M354 v351 hk384 hP355 hF356 h352 h353
          refine wk_il6 r150_56 (wk_al0 r150_58 (wk_getfr r150_59 fd_174_0 (br_174_0 hP355) (wk_getfb r150_62 fd_176_10 (bf_176_10 hP355) ?_)))
          intro v357 h359 h360 e358
          refine wk_icge r150_65 ⟨by omega, by omega⟩ ⟨by omega, by omega⟩ ?_ ?_
          · intro h361
            refine wk_inc3 r150_93 rfl (wk_goto r150_96 ?_)
            exact wp_fg (le_s (le_s (le_s (le_s (le_s (le_n (le_n le_0))))))) (ih386 (2 - (v322 + 1)).toNat (by omega) M354 (v322 + 1) rfl hP355 hF356 (by omega) (by omega))
          · intro h362
            refine wk_al0 r150_68 (wk_getfr r150_69 fd_174_5 (br_174_5 hP355) (wk_il6 r150_72 (wk_dup2 r150_74 (wk_laldb r150_75 (arF_606 (by omega) (by omega)) ⟨by omega, by omega⟩ (fun q0 q1 => ⟨(b4_606 hP355 (by omega) (by omega) q0 q1).1, (b4_606 hP355 (by omega) (by omega) q0 q1).2.1⟩) (by decide) ?_))))
            intro n363 h365 h366 e364
            have h367 : v351 = 4 → n363 ≤ 17592186044415 := by have := b4_606 hP355 (a := 606) (i := v351) (by omega) (by omega) (by omega) (by omega); omega
            refine wk_al5 r150_76 (wk_il6 r150_78 (wk_laldb r150_80 (arF_306 (by omega) (by omega)) ⟨by omega, by omega⟩ (fun q0 q1 => baF_306 hP355 (by omega) (by omega) q0 q1) (by decide) ?_))
            intro n368 h370 h371 e369
            refine wk_c7 r150_81 (wk_lxor r150_84 ?_)
            intro n372 h373 h374
            refine wk_land r150_85 ?_
            intro n375 h376 h377 h378 h379
            refine wk_last r150_86 (arF_606 (by omega) (by omega)) ⟨by omega, by omega⟩ (wk_nwt (t4_606 rfl rfl (by omega) (by omega) _) hP355 hF356 (u4_606 (by omega) (by omega) ⟨by omega, by omega, by omega⟩) ?_)
            intro M380 hP381 hF382 e383
            refine wk_inc6 r150_87 rfl (wk_goto r150_90 ?_)
            exact wp_fg (le_s (le_s (le_s (le_s (le_s (le_s (le_s le_0))))))) (ih384 (5 - (v351 + 1)).toNat (by omega) M380 (v351 + 1) rfl hP381 hF382 (by omega) (by omega))
        exact wp_fg (le_s (le_s (le_s (le_s (le_n (le_s (le_s le_0))))))) (c56_384 _ M325 0 rfl hP326 hF327 (by omega) (by omega))
      · intro h385
        refine wk_c1 r150_37 ?_
        subst hQ; exact wk_zret r150_38 (by decide) (⟨rfl, _, rfl, hP326, hF327, by omega, by omega⟩)
  exact wp_fg (le_s (le_n (le_s (le_s (le_s (le_s (le_s le_0))))))) (c16_386 _ M1 0 rfl hP2 hF3 (by omega) (by omega))
def fm_m190_176 : Nat := 0
/-- IslandHall$Realm.freeRow -/
theorem m190_176 {B : eB} (d : Nat) (M0 : Mm) (p1 : Int) (hP0 : Pw M0) (l1 : 0 ≤ p1) (u1 : p1 ≤ 6) : Ct B (d + 1) 190 [R 176, I p1] M0 (qR fun z M => Pw M ∧ Fr fm_m190_176 M0 M ∧ 187 ≤ z ∧ z ≤ 217) := by
  refine ct_of (d := d + 0) (k := 0) (L := [some (R 176), some (I p1)]) rfl rfl rfl ?_
  have hF0 := Fr.rf fm_m190_176 M0
  generalize hQ : (qR fun z M => Pw M ∧ Fr fm_m190_176 M0 M ∧ 187 ≤ z ∧ z ≤ 217) = Q
  refine wk_al0 r190_0 (wk_getfr r190_1 fd_176_0 (br_176_0 hP0) (wk_c1 r190_4 (wk_il1 r190_5 (wk_c1 r190_6 (wk_imul r190_7 (wk_iadd r190_8 (wk_c1 r190_9 (wk_iadd r190_10 (wk_raldb r190_11 ar_182 ⟨by omega, by omega⟩ (fun q0 q1 => ba_182 hP0 q0 q1) ?_)))))))))
  subst hQ; exact wk_aret r190_12 (⟨rfl, _, rfl, hP0, hF0, by omega, by omega⟩)
def fm_m208_176 : Nat := 0
/-- IslandHall$Realm.yesRow -/
theorem m208_176 {B : eB} (d : Nat) (M0 : Mm) (p1 : Int) (hP0 : Pw M0) (l1 : (-1) ≤ p1) (u1 : p1 ≤ (-1)) : Ct B (d + 1) 208 [R 176, I p1] M0 (qR fun z M => Pw M ∧ Fr fm_m208_176 M0 M ∧ 301 ≤ z ∧ z ≤ 301) := by
  refine ct_of (d := d + 0) (k := 0) (L := [some (R 176), some (I p1)]) rfl rfl rfl ?_
  have hF0 := Fr.rf fm_m208_176 M0
  generalize hQ : (qR fun z M => Pw M ∧ Fr fm_m208_176 M0 M ∧ 301 ≤ z ∧ z ≤ 301) = Q
  refine wk_al0 r208_0 (wk_getfr r208_1 fd_176_0 (br_176_0 hP0) (wk_il1 r208_4 (wk_c1 r208_5 ?_)))
  refine wk_icne r208_6 ⟨by omega, by omega⟩ (by decide) ?_ ?_
  · intro h1
    exfalso
    omega
  · intro h2
    refine wk_c2 r208_9 (wk_goto r208_11 (wk_raldb r208_18 ar_182 (by decide) (fun q0 q1 => ba_182 hP0 q0 q1) ?_))
    subst hQ; exact wk_aret r208_19 (⟨rfl, _, rfl, hP0, hF0, by omega, by omega⟩)
def fm_m193_176 : Nat := 0
/-- IslandHall$Realm.honestRow -/
theorem m193_176 {B : eB} (d : Nat) (M0 : Mm) (p1 : Int) (hP0 : Pw M0) (l1 : 0 ≤ p1) (u1 : p1 ≤ 6) : Ct B (d + 1) 193 [R 176, I p1] M0 (qR fun z M => Pw M ∧ Fr fm_m193_176 M0 M ∧ 271 ≤ z ∧ z ≤ 284) := by
  refine ct_of (d := d + 0) (k := 0) (L := [some (R 176), some (I p1)]) rfl rfl rfl ?_
  have hF0 := Fr.rf fm_m193_176 M0
  generalize hQ : (qR fun z M => Pw M ∧ Fr fm_m193_176 M0 M ∧ 271 ≤ z ∧ z ≤ 284) = Q
  refine wk_al0 r193_0 (wk_getfr r193_1 fd_176_0 (br_176_0 hP0) (wk_c2 r193_4 (wk_c1 r193_6 (wk_il1 r193_7 (wk_imul r193_8 (wk_iadd r193_9 (wk_al0 r193_10 (wk_getfr r193_11 fd_176_3 (br_176_3 hP0) (wk_il1 r193_14 (wk_ialdb r193_15 ar_177 ⟨by omega, by omega⟩ (fun q0 q1 => ba_177 hP0 q0 q1) ?_))))))))))
  intro v1 h3 h4 e2
  refine wk_iadd r193_16 (wk_raldb r193_17 ar_182 ⟨by omega, by omega⟩ (fun q0 q1 => ba_182 hP0 q0 q1) ?_)
  subst hQ; exact wk_aret r193_18 (⟨rfl, _, rfl, hP0, hF0, by omega, by omega⟩)
def fm_m185_176v4 : Nat := 0
/-- IslandHall$Realm.alike -/
theorem m185_176v4 {B : eB} (d : Nat) (M0 : Mm) (p1 : Int) (p2 : Int) (hP0 : Pw M0) (l1 : 0 ≤ p1) (u1 : p1 ≤ 54) (l2 : 0 ≤ p2) (u2 : p2 ≤ 4) (xp0 : p1 % 8 ≤ 6) : Ct B (d + 1) 185 [R 176, I p1, I p2] M0 (qL fun z M => Pw M ∧ Fr fm_m185_176v4 M0 M ∧ z < 18446744073709551616) := by
  refine ct_of (d := d + 0) (k := 5) (L := [some (R 176), some (I p1), some (I p2), none, none, none, none, none]) rfl rfl rfl ?_
  have hF0 := Fr.rf fm_m185_176v4 M0
  generalize hQ : (qL fun z M => Pw M ∧ Fr fm_m185_176v4 M0 M ∧ z < 18446744073709551616) = Q
  refine wk_c1 r185_0 (wk_il1 r185_1 (wk_c1 r185_2 (wk_ishrc r185_3 ⟨by omega, by omega⟩ (by decide) pwl_3 (wk_c1 r185_4 (wk_imul r185_5 (wk_iadd r185_6 (wk_is3 r185_7 rfl (wk_c1 r185_8 (wk_il1 r185_9 (wk_c2 r185_10 (wk_iandc 3 8 r185_12 ⟨rfl, by decide⟩ rfl (wk_c1 r185_13 (wk_imul r185_14 (wk_iadd r185_15 (wk_is4 r185_16 rfl (wk_c6 r185_18 (wk_ls5 r185_19 rfl (wk_c1 r185_21 (wk_is7 r185_22 rfl ?_)))))))))))))))))))
  have c24_170 : ∀ (k170 : Nat) (n146 : Nat) (v148 : Int), (5 - v148).toNat = k170 → n146 < 18446744073709551616 → 0 ≤ v148 → v148 ≤ 5 → Wp B (d + 0) 185 24 [some (R 176), none, some (I p2), some (I (0 + ((p1 / 8) * 5))), some (I (0 + ((p1 % 8) * 5))), some (J n146), none, some (I v148)] [] M0 Q := by
    refine lp_ind ?_
    intro k170 ih170 n146 v148 hk170 h147 h149 h150
    refine wk_il7 r185_24 (wk_c1 r185_26 ?_)
    refine wk_icge r185_27 ⟨by omega, by omega⟩ (by decide) ?_ ?_
    · intro h151
      refine wk_ll5 r185_65 ?_
      subst hQ; exact wk_lret r185_67 (⟨rfl, _, rfl, hP0, hF0, by omega⟩)
    · intro h152
      refine wk_ll5 r185_30 (wk_al0 r185_32 (wk_getfr r185_33 fd_176_0 (br_176_0 hP0) (wk_il3 r185_36 (wk_il7 r185_37 (wk_iadd r185_39 (wk_raldb r185_40 ar_182 ⟨by omega, by omega⟩ (fun q0 q1 => ba_182 hP0 q0 q1) (wk_il2 r185_41 (wk_laldb r185_42 (arF_183 (by omega) (by omega)) ⟨by omega, by omega⟩ (fun q0 q1 => baF_183 hP0 (by omega) (by omega) q0 q1) (by decide) ?_))))))))
      intro n153 h155 h156 e154
      refine wk_al0 r185_43 (wk_getfr r185_44 fd_176_0 (br_176_0 hP0) (wk_il4 r185_47 (wk_il7 r185_49 (wk_iadd r185_51 (wk_raldb r185_52 ar_182 ⟨by omega, by omega⟩ (fun q0 q1 => ba_182 hP0 q0 q1) (wk_il2 r185_53 (wk_laldb r185_54 (arF_183 (by omega) (by omega)) ⟨by omega, by omega⟩ (fun q0 q1 => baF_183 hP0 (by omega) (by omega) q0 q1) (by decide) ?_)))))))
      intro n157 h159 h160 e158
      refine wk_land r185_55 ?_
      intro n161 h162 h163 h164 h165
      refine wk_lorb r185_56 ?_
      intro n166 h167 h168 h169
      refine wk_ls5 r185_57 rfl (wk_inc7 r185_59 rfl (wk_goto r185_62 ?_))
      exact wp_fg (le_s (le_s (le_s (le_s (le_s (le_s (le_s (le_s le_0)))))))) (ih170 (5 - (v148 + 1)).toNat (by omega) n166 (v148 + 1) rfl (by omega) (by omega) (by omega))
  exact wp_fg (le_s (le_n (le_s (le_s (le_s (le_s (le_s (le_s le_0)))))))) (c24_170 _ 0 0 rfl (by omega) (by omega) (by omega))
def fm_m198_176v4 : Nat := 0
/-- IslandHall$Realm.many -/
theorem m198_176v4 {B : eB} (d : Nat) (M0 : Mm) (p1 : Int) (p2 : Int) (hP0 : Pw M0) (l1 : 0 ≤ p1) (u1 : p1 ≤ 1279) (l2 : 0 ≤ p2) (u2 : p2 ≤ 4) : Ct B (d + 1) 198 [R 176, I p1, I p2] M0 (qL fun z M => Pw M ∧ Fr fm_m198_176v4 M0 M ∧ z < 18446744073709551616) := by
  refine ct_of (d := d + 0) (k := 4) (L := [some (R 176), some (I p1), some (I p2), none, none, none, none]) rfl rfl rfl ?_
  have hF0 := Fr.rf fm_m198_176v4 M0
  generalize hQ : (qL fun z M => Pw M ∧ Fr fm_m198_176v4 M0 M ∧ z < 18446744073709551616) = Q
  refine wk_c2 r198_0 (wk_il1 r198_2 (wk_c2 r198_3 (wk_ishrc r198_5 ⟨by omega, by omega⟩ (by decide) pwl_8 (wk_c2 r198_6 (wk_imul r198_8 (wk_iadd r198_9 (wk_is3 r198_10 rfl (wk_c6 r198_11 (wk_ls4 r198_12 rfl (wk_c1 r198_14 (wk_is6 r198_15 rfl ?_)))))))))))
  have c17_178 : ∀ (k178 : Nat) (n156 : Nat) (v158 : Int), (8 - v158).toNat = k178 → n156 < 18446744073709551616 → 0 ≤ v158 → v158 ≤ 8 → Wp B (d + 0) 198 17 [some (R 176), some (I p1), some (I p2), some (I (48 + ((p1 / 256) * 8))), some (J n156), none, some (I v158)] [] M0 Q := by
    refine lp_ind ?_
    intro k178 ih178 n156 v158 hk178 h157 h159 h160
    refine wk_il6 r198_17 (wk_c2 r198_19 ?_)
    refine wk_icgt r198_21 ⟨by omega, by omega⟩ (by decide) ?_ ?_
    · intro h161
      refine wk_ll4 r198_56 ?_
      subst hQ; exact wk_lret r198_58 (⟨rfl, _, rfl, hP0, hF0, by omega⟩)
    · intro h162
      refine wk_il1 r198_24 (wk_il6 r198_25 (wk_shrb r198_27 ⟨by omega, by omega⟩ ⟨by omega, by omega⟩ ?_))
      intro v163 h164 h165 h166
      refine wk_c1 r198_28 (wk_iandc 1 2 r198_29 ⟨rfl, by decide⟩ rfl (wk_c1 r198_30 ?_))
      refine wk_icne r198_31 ⟨by omega, by omega⟩ (by decide) ?_ ?_
      · intro h168
        refine wk_inc6 r198_50 rfl (wk_goto r198_53 ?_)
        exact wp_fg (le_s (le_s (le_s (le_s (le_s (le_s (le_s le_0))))))) (ih178 (8 - (v158 + 1)).toNat (by omega) n156 (v158 + 1) rfl (by omega) (by omega) (by omega))
      · intro h169
        refine wk_ll4 r198_34 (wk_al0 r198_36 (wk_getfr r198_37 fd_176_0 (br_176_0 hP0) (wk_il3 r198_40 (wk_il6 r198_41 (wk_iadd r198_43 (wk_raldb r198_44 ar_182 ⟨by omega, by omega⟩ (fun q0 q1 => ba_182 hP0 q0 q1) (wk_il2 r198_45 (wk_laldb r198_46 (arF_183 (by omega) (by omega)) ⟨by omega, by omega⟩ (fun q0 q1 => baF_183 hP0 (by omega) (by omega) q0 q1) (by decide) ?_))))))))
        intro n170 h172 h173 e171
        refine wk_lorb r198_47 ?_
        intro n174 h175 h176 h177
        refine wk_ls4 r198_48 rfl (wk_inc6 r198_50 rfl (wk_goto r198_53 ?_))
        exact wp_fg (le_s (le_s (le_s (le_s (le_s (le_s (le_s le_0))))))) (ih178 (8 - (v158 + 1)).toNat (by omega) n174 (v158 + 1) rfl (by omega) (by omega) (by omega))
  exact wp_fg (le_s (le_s (le_s (le_s (le_s (le_s (le_s le_0))))))) (c17_178 _ 0 0 rfl (by omega) (by omega) (by omega))
def fm_m189_176v4 : Nat := 0
/-- IslandHall$Realm.fits -/
theorem m189_176v4 {B : eB} (d : Nat) (M0 : Mm) (p1 : Int) (p2 : Int) (p3 : Nat) (p4 : Int) (hP0 : Pw M0) (l1 : 0 ≤ p1) (u1 : p1 ≤ 6) (l2 : (-1) ≤ p2) (u2 : p2 ≤ (-1)) (l3 : p3 < 18446744073709551616) (l4 : 0 ≤ p4) (u4 : p4 ≤ 4) : Ct B (d + 2) 189 [R 176, I p1, I p2, J p3, I p4] M0 (qL fun z M => Pw M ∧ Fr fm_m189_176v4 M0 M ∧ z < 18446744073709551616) := by
  refine ct_of (d := d + 1) (k := 0) (L := [some (R 176), some (I p1), some (I p2), some (J p3), none, some (I p4)]) rfl rfl rfl ?_
  have hF0 := Fr.rf fm_m189_176v4 M0
  generalize hQ : (qL fun z M => Pw M ∧ Fr fm_m189_176v4 M0 M ∧ z < 18446744073709551616) = Q
  refine wk_al0 r189_0 (wk_il1 r189_1 (wk_cv2 r189_2 kc_176_190 rfl (m190_176 _ M0 p1 hP0 (by omega) (by omega)) (cqR ?_)))
  rintro v5 M1 ⟨hP2, hQ3, h6, h7⟩
  obtain rfl := Fr.same hQ3
  refine wk_il5 r189_5 (wk_laldb r189_7 (arF_183 (by omega) (by omega)) ⟨by omega, by omega⟩ (fun q0 q1 => baF_183 hP0 (by omega) (by omega) q0 q1) (by decide) ?_)
  intro n8 h10 h11 e9
  refine wk_al0 r189_8 (wk_il2 r189_9 (wk_cv2 r189_10 kc_176_208 rfl (m208_176 _ M0 p2 hP0 (by omega) (by omega)) (cqR ?_)))
  rintro v16 M12 ⟨hP13, hQ14, h17, h18⟩
  obtain rfl : v16 = 301 := by omega
  obtain rfl := Fr.same hQ14
  refine wk_il5 r189_13 (wk_laldb r189_15 (arF_301 (by omega) (by omega)) ⟨by omega, by omega⟩ (fun q0 q1 => ⟨(b4_301 hP0 (by omega) (by omega) q0 q1).1, (b4_301 hP0 (by omega) (by omega) q0 q1).2.1⟩) (by decide) ?_)
  intro n19 h21 h22 e20
  have h23 : p4 = 4 → n19 ≤ 17592186044415 := by have := b4_301 hP0 (a := 301) (i := p4) (by omega) (by omega) (by omega) (by omega); omega
  refine wk_ll3 r189_16 (wk_lxor r189_17 ?_)
  intro n24 h25 h26
  refine wk_al0 r189_18 (wk_il1 r189_19 (wk_cv2 r189_20 kc_176_193 rfl (m193_176 _ M0 p1 hP0 (by omega) (by omega)) (cqR ?_)))
  rintro v31 M27 ⟨hP28, hQ29, h32, h33⟩
  obtain rfl := Fr.same hQ29
  refine wk_il5 r189_23 (wk_laldb r189_25 (arF_183 (by omega) (by omega)) ⟨by omega, by omega⟩ (fun q0 q1 => baF_183 hP0 (by omega) (by omega) q0 q1) (by decide) ?_)
  intro n34 h36 h37 e35
  refine wk_lxor r189_26 ?_
  intro n38 h39 h40
  refine wk_lorb r189_27 ?_
  intro n41 h42 h43 h44
  subst hQ; exact wk_lret r189_28 (⟨rfl, _, rfl, hP0, hF0, by omega⟩)
def fm_m207_176v4 : Nat := 83076749736557242056487941267521536
/-- IslandHall$Realm.truth -/
theorem m207_176v4 {B : eB} (d : Nat) (M0 : Mm) (c1 : Int) (p2 : Int) (hP0 : Pw M0) (hC1 : isC c1) (l2 : 0 ≤ p2) (u2 : p2 ≤ 4) : Ct B (d + 3) 207 [R 176, R c1, I p2] M0 (qL fun z M => Pw M ∧ Fr fm_m207_176v4 M0 M ∧ z < 18446744073709551616) := by
  refine ct_of (d := d + 2) (k := 7) (L := [some (R 176), some (R c1), some (I p2), none, none, none, none, none, none, none]) rfl rfl rfl ?_
  have hF0 := Fr.rf fm_m207_176v4 M0
  generalize hQ : (qL fun z M => Pw M ∧ Fr fm_m207_176v4 M0 M ∧ z < 18446744073709551616) = Q
  refine wk_c1 r207_0 (wk_is3 r207_1 rfl (wk_c1 r207_2 (wk_is4 r207_3 rfl ?_)))
  have c5_2432 : ∀ (k2432 : Nat) (M2176 : Mm) (v2170 : Int) (v2173 : Int), (256 - v2173).toNat = k2432 → Pw M2176 → Fr fm_m207_176v4 M0 M2176 → 0 ≤ v2170 → v2170 ≤ 31 → 0 ≤ v2173 → v2173 ≤ 256 → 0 ≤ (-1) * v2170 + v2173 + 0 → Wp B (d + 2) 207 5 [some (R 176), some (R c1), some (I p2), some (I v2170), some (I v2173), none, none, none, none, none] [] M2176 Q := by
    refine lp_ind ?_
    intro k2432 ih2432 M2176 v2170 v2173 hk2432 hP2177 hF2178 h2171 h2172 h2174 h2175 h2179
    refine wk_il4 r207_5 (wk_al1 r207_7 (wk_getfb r207_8 (fdC_1 hC1) (bC_1 hP2177 hC1) ?_))
    intro v2180 h2182 h2183 e2181
    refine wk_icge r207_11 ⟨by omega, by omega⟩ ⟨by omega, by omega⟩ ?_ ?_
    · intro h2184
      refine wk_al0 r207_255 (wk_getfr r207_256 fd_176_4 (br_176_4 hP2177) (wk_c1 r207_259 (wk_laldb r207_260 ar_178 (by decide) (fun q0 q1 => ba_178 hP2177 q0 q1) (by decide) ?_)))
      intro n2185 h2187 h2188 e2186
      subst hQ; exact wk_lret r207_261 (⟨rfl, _, rfl, hP2177, hF2178, by omega⟩)
    · intro h2189
      refine wk_il3 r207_14 (wk_c1 r207_15 (wk_iadd r207_16 (wk_c2 r207_17 ?_)))
      refine wk_icge r207_19 ⟨by omega, by omega⟩ (by decide) ?_ ?_
      · intro h2190
        refine wk_al0 r207_255 (wk_getfr r207_256 fd_176_4 (br_176_4 hP2177) (wk_c1 r207_259 (wk_laldb r207_260 ar_178 (by decide) (fun q0 q1 => ba_178 hP2177 q0 q1) (by decide) ?_)))
        intro n2191 h2193 h2194 e2192
        subst hQ; exact wk_lret r207_261 (⟨rfl, _, rfl, hP2177, hF2178, by omega⟩)
      · intro h2195
        refine wk_al1 r207_22 (wk_getfr r207_23 (fdC_0 hC1) (bC_0 hP2177 hC1) (wk_il4 r207_26 (wk_ialdb r207_28 (arC hC1) ⟨by omega, by omega⟩ (fun q0 q1 => baC hP2177 hC1 q0 q1) ?_)))
        intro v2196 h2198 h2199 e2197
        have h2200 := exC hP2177 hC1 (i := v2173) (by omega) (by omega); rw [e2197] at h2200; unfold stepok at h2200
        refine wk_c1 r207_29 (wk_ishrc r207_30 ⟨by omega, by omega⟩ (by decide) pwl_3 (wk_is5 r207_31 rfl (wk_al1 r207_33 (wk_getfr r207_34 (fdC_0 hC1) (bC_0 hP2177 hC1) (wk_il4 r207_37 (wk_iald r207_39 (arC hC1) ⟨by omega, by omega⟩ e2197 (wk_c2 r207_40 (wk_iandc 3 8 r207_42 ⟨rfl, by decide⟩ rfl (wk_is6 r207_43 rfl (wk_il6 r207_45 (wk_c1 r207_47 ?_)))))))))))
        refine wk_iceq r207_48 ⟨by omega, by omega⟩ (by decide) ?_ ?_
        · intro h2203
          refine wk_c1 r207_57 (wk_goto r207_58 (wk_is7 r207_62 rfl (wk_il6 r207_64 ?_)))
          refine wk_ifeq r207_66 ⟨by omega, by omega⟩ ?_ ?_
          · intro h2204
            exfalso
            omega
          · intro h2205
            refine wk_il6 r207_69 (wk_c1 r207_71 ?_)
            refine wk_iceq r207_72 ⟨by omega, by omega⟩ (by decide) ?_ ?_
            · intro h2206
              exfalso
              omega
            · intro h2207
              refine wk_il6 r207_75 (wk_c2 r207_77 ?_)
              refine wk_icne r207_79 ⟨by omega, by omega⟩ (by decide) ?_ ?_
              · intro h2208
                refine wk_il7 r207_134 ?_
                refine wk_ifeq r207_136 (by decide) ?_ ?_
                · intro h2209
                  refine wk_il7 r207_197 ?_
                  refine wk_ifne r207_199 (by decide) ?_ ?_
                  · intro h2210
                    refine wk_inc4 r207_249 rfl (wk_goto r207_252 ?_)
                    exact wp_fg (le_s (le_s (le_s (le_s (le_s (le_n (le_n (le_n (le_s (le_s le_0)))))))))) (ih2432 (256 - (v2173 + 1)).toNat (by omega) M2176 v2170 (v2173 + 1) rfl hP2177 hF2178 (by omega) (by omega) (by omega) (by omega) (by omega))
                  · intro h2211
                    refine wk_il3 r207_202 ?_
                    refine wk_ifle r207_203 ⟨by omega, by omega⟩ ?_ ?_
                    · intro h2212
                      refine wk_inc4 r207_249 rfl (wk_goto r207_252 ?_)
                      exact wp_fg (le_s (le_s (le_s (le_s (le_s (le_n (le_n (le_n (le_s (le_s le_0)))))))))) (ih2432 (256 - (v2173 + 1)).toNat (by omega) M2176 v2170 (v2173 + 1) rfl hP2177 hF2178 (by omega) (by omega) (by omega) (by omega) (by omega))
                    · intro h2213
                      refine wk_al0 r207_206 (wk_getfr r207_207 fd_176_4 (br_176_4 hP2177) (wk_il3 r207_210 (wk_c1 r207_211 (wk_isub r207_212 (wk_laldb r207_213 ar_178 ⟨by omega, by omega⟩ (fun q0 q1 => ba_178 hP2177 q0 q1) (by decide) ?_)))))
                      intro n2214 h2216 h2217 e2215
                      refine wk_ls8 r207_214 rfl (wk_al0 r207_216 (wk_getfr r207_217 fd_176_4 (br_176_4 hP2177) (wk_il3 r207_220 (wk_c1 r207_221 (wk_isub r207_222 (wk_il6 r207_223 (wk_c1 r207_225 ?_)))))))
                      refine wk_icne r207_226 ⟨by omega, by omega⟩ (by decide) ?_ ?_
                      · intro h2218
                        have h2219 : (v2196 / 8) ≤ 6 := by omega
                        refine wk_al0 r207_238 (wk_il5 r207_239 (wk_c1 r207_241 (wk_ll8 r207_242 (wk_il2 r207_244 (wk_cv5 r207_245 kc_176_189 rfl (m189_176v4 _ M2176 (v2196 / 8) (-1) n2214 p2 hP2177 (by omega) (by omega) (by decide) (by decide) (by omega) (by omega) (by omega)) (cqL ?_))))))
                        rintro n2224 M2220 ⟨hP2221, hQ2222, h2225⟩
                        obtain rfl := Fr.same hQ2222
                        refine wk_last r207_248 ar_178 ⟨by omega, by omega⟩ (wk_nw (ga_178 _) rfl hP2177 hF2178 (ua_178 ⟨by omega, by omega⟩) ?_)
                        intro M2226 hP2227 hF2228 e2229
                        refine wk_inc4 r207_249 rfl (wk_goto r207_252 ?_)
                        exact wp_fg (le_s (le_s (le_s (le_s (le_s (le_n (le_n (le_n (le_n (le_s le_0)))))))))) (ih2432 (256 - (v2173 + 1)).toNat (by omega) M2226 v2170 (v2173 + 1) rfl hP2227 hF2228 (by omega) (by omega) (by omega) (by omega) (by omega))
                      · intro h2230
                        exfalso
                        omega
                · intro h2231
                  refine wk_il3 r207_139 (wk_c1 r207_140 ?_)
                  refine wk_icle r207_141 ⟨by omega, by omega⟩ (by decide) ?_ ?_
                  · intro h2232
                    refine wk_il7 r207_197 ?_
                    refine wk_ifne r207_199 (by decide) ?_ ?_
                    · intro h2233
                      refine wk_inc4 r207_249 rfl (wk_goto r207_252 ?_)
                      exact wp_fg (le_s (le_s (le_s (le_s (le_s (le_n (le_n (le_n (le_s (le_s le_0)))))))))) (ih2432 (256 - (v2173 + 1)).toNat (by omega) M2176 v2170 (v2173 + 1) rfl hP2177 hF2178 (by omega) (by omega) (by omega) (by omega) (by omega))
                    · intro h2234
                      refine wk_il3 r207_202 ?_
                      refine wk_ifle r207_203 ⟨by omega, by omega⟩ ?_ ?_
                      · intro h2235
                        refine wk_inc4 r207_249 rfl (wk_goto r207_252 ?_)
                        exact wp_fg (le_s (le_s (le_s (le_s (le_s (le_n (le_n (le_n (le_s (le_s le_0)))))))))) (ih2432 (256 - (v2173 + 1)).toNat (by omega) M2176 v2170 (v2173 + 1) rfl hP2177 hF2178 (by omega) (by omega) (by omega) (by omega) (by omega))
                      · intro h2236
                        refine wk_al0 r207_206 (wk_getfr r207_207 fd_176_4 (br_176_4 hP2177) (wk_il3 r207_210 (wk_c1 r207_211 (wk_isub r207_212 (wk_laldb r207_213 ar_178 ⟨by omega, by omega⟩ (fun q0 q1 => ba_178 hP2177 q0 q1) (by decide) ?_)))))
                        intro n2237 h2239 h2240 e2238
                        refine wk_ls8 r207_214 rfl (wk_al0 r207_216 (wk_getfr r207_217 fd_176_4 (br_176_4 hP2177) (wk_il3 r207_220 (wk_c1 r207_221 (wk_isub r207_222 (wk_il6 r207_223 (wk_c1 r207_225 ?_)))))))
                        refine wk_icne r207_226 ⟨by omega, by omega⟩ (by decide) ?_ ?_
                        · intro h2241
                          have h2242 : (v2196 / 8) ≤ 6 := by omega
                          refine wk_al0 r207_238 (wk_il5 r207_239 (wk_c1 r207_241 (wk_ll8 r207_242 (wk_il2 r207_244 (wk_cv5 r207_245 kc_176_189 rfl (m189_176v4 _ M2176 (v2196 / 8) (-1) n2237 p2 hP2177 (by omega) (by omega) (by decide) (by decide) (by omega) (by omega) (by omega)) (cqL ?_))))))
                          rintro n2247 M2243 ⟨hP2244, hQ2245, h2248⟩
                          obtain rfl := Fr.same hQ2245
                          refine wk_last r207_248 ar_178 ⟨by omega, by omega⟩ (wk_nw (ga_178 _) rfl hP2177 hF2178 (ua_178 ⟨by omega, by omega⟩) ?_)
                          intro M2249 hP2250 hF2251 e2252
                          refine wk_inc4 r207_249 rfl (wk_goto r207_252 ?_)
                          exact wp_fg (le_s (le_s (le_s (le_s (le_s (le_n (le_n (le_n (le_n (le_s le_0)))))))))) (ih2432 (256 - (v2173 + 1)).toNat (by omega) M2249 v2170 (v2173 + 1) rfl hP2250 hF2251 (by omega) (by omega) (by omega) (by omega) (by omega))
                        · intro h2253
                          exfalso
                          omega
                  · intro h2254
                    refine wk_inc3 r207_144 rfl (wk_al0 r207_147 (wk_getfr r207_148 fd_176_4 (br_176_4 hP2177) (wk_il3 r207_151 (wk_laldb r207_152 ar_178 ⟨by omega, by omega⟩ (fun q0 q1 => ba_178 hP2177 q0 q1) (by decide) ?_))))
                    intro n2255 h2257 h2258 e2256
                    refine wk_ls8 r207_153 rfl (wk_al0 r207_155 (wk_getfr r207_156 fd_176_4 (br_176_4 hP2177) (wk_il3 r207_159 (wk_c1 r207_160 (wk_isub r207_161 (wk_il6 r207_162 (wk_c1 r207_164 ?_)))))))
                    refine wk_icne r207_165 ⟨by omega, by omega⟩ (by decide) ?_ ?_
                    · intro h2259
                      exfalso
                      omega
                    · intro h2260
                      refine wk_al0 r207_168 (wk_getfr r207_169 fd_176_4 (br_176_4 hP2177) (wk_il3 r207_172 (wk_c1 r207_173 (wk_isub r207_174 (wk_laldb r207_175 ar_178 ⟨by omega, by omega⟩ (fun q0 q1 => ba_178 hP2177 q0 q1) (by decide) ?_)))))
                      intro n2261 h2263 h2264 e2262
                      refine wk_ll8 r207_176 (wk_land r207_178 ?_)
                      intro n2265 h2266 h2267 h2268 h2269
                      refine wk_goto r207_179 (wk_last r207_193 ar_178 ⟨by omega, by omega⟩ (wk_nw (ga_178 _) rfl hP2177 hF2178 (ua_178 ⟨by omega, by omega⟩) ?_))
                      intro M2270 hP2271 hF2272 e2273
                      refine wk_goto r207_194 (wk_inc4 r207_249 rfl (wk_goto r207_252 ?_))
                      exact wp_fg (le_s (le_s (le_s (le_s (le_s (le_n (le_n (le_n (le_n (le_s le_0)))))))))) (ih2432 (256 - (v2173 + 1)).toNat (by omega) M2270 (v2170 + (-1)) (v2173 + 1) rfl hP2271 hF2272 (by omega) (by omega) (by omega) (by omega) (by omega))
              · intro h2274
                exfalso
                omega
        · intro h2275
          refine wk_il6 r207_51 (wk_c1 r207_53 ?_)
          refine wk_icne r207_54 ⟨by omega, by omega⟩ (by decide) ?_ ?_
          · intro h2276
            refine wk_c1 r207_61 (wk_is7 r207_62 rfl (wk_il6 r207_64 ?_))
            refine wk_ifeq r207_66 ⟨by omega, by omega⟩ ?_ ?_
            · intro h2277
              refine wk_al0 r207_82 (wk_getfr r207_83 fd_176_4 (br_176_4 hP2177) (wk_il3 r207_86 (wk_il6 r207_87 ?_)))
              refine wk_ifne r207_89 ⟨by omega, by omega⟩ ?_ ?_
              · intro h2278
                exfalso
                omega
              · intro h2279
                refine wk_al0 r207_92 (wk_getfr r207_93 fd_176_0 (br_176_0 hP2177) (wk_il5 r207_96 ?_))
                rcases Int.lt_or_le (v2196 / 8) 118 with h2280 | h2280
                · refine wk_raldb r207_98 ar_182 ⟨by omega, by omega⟩ (fun q0 q1 => ba_182 hP2177 q0 q1) (wk_il2 r207_99 (wk_laldb r207_100 (arF_183 (by omega) (by omega)) ⟨by omega, by omega⟩ (fun q0 q1 => baF_183 hP2177 (by omega) (by omega) q0 q1) (by decide) ?_))
                  intro n2281 h2283 h2284 e2282
                  refine wk_goto r207_101 (wk_last r207_127 ar_178 ⟨by omega, by omega⟩ (wk_nw (ga_178 _) rfl hP2177 hF2178 (ua_178 ⟨by omega, by omega⟩) ?_))
                  intro M2285 hP2286 hF2287 e2288
                  refine wk_inc3 r207_128 rfl (wk_goto r207_131 (wk_inc4 r207_249 rfl (wk_goto r207_252 ?_)))
                  exact wp_fg (le_s (le_s (le_s (le_s (le_s (le_n (le_n (le_n (le_s (le_s le_0)))))))))) (ih2432 (256 - (v2173 + 1)).toNat (by omega) M2285 (v2170 + 1) (v2173 + 1) rfl hP2286 hF2287 (by omega) (by omega) (by omega) (by omega) (by omega))
                · refine wk_raldb r207_98 ar_182 ⟨by omega, by omega⟩ (fun q0 q1 => ba_182 hP2177 q0 q1) (wk_il2 r207_99 (wk_laldb r207_100 (arF_301 (by omega) (by omega)) ⟨by omega, by omega⟩ (fun q0 q1 => ⟨(b4_301 hP2177 (by omega) (by omega) q0 q1).1, (b4_301 hP2177 (by omega) (by omega) q0 q1).2.1⟩) (by decide) ?_))
                  intro n2289 h2291 h2292 e2290
                  have h2293 : p2 = 4 → n2289 ≤ 17592186044415 := by have := b4_301 hP2177 (a := (183 + (v2196 / 8))) (i := p2) (by omega) (by omega) (by omega) (by omega); omega
                  refine wk_goto r207_101 (wk_last r207_127 ar_178 ⟨by omega, by omega⟩ (wk_nw (ga_178 _) rfl hP2177 hF2178 (ua_178 ⟨by omega, by omega⟩) ?_))
                  intro M2294 hP2295 hF2296 e2297
                  refine wk_inc3 r207_128 rfl (wk_goto r207_131 (wk_inc4 r207_249 rfl (wk_goto r207_252 ?_)))
                  exact wp_fg (le_s (le_s (le_s (le_s (le_s (le_n (le_n (le_n (le_s (le_s le_0)))))))))) (ih2432 (256 - (v2173 + 1)).toNat (by omega) M2294 (v2170 + 1) (v2173 + 1) rfl hP2295 hF2296 (by omega) (by omega) (by omega) (by omega) (by omega))
            · intro h2298
              refine wk_il6 r207_69 (wk_c1 r207_71 ?_)
              refine wk_iceq r207_72 ⟨by omega, by omega⟩ (by decide) ?_ ?_
              · intro h2299
                refine wk_al0 r207_82 (wk_getfr r207_83 fd_176_4 (br_176_4 hP2177) (wk_il3 r207_86 (wk_il6 r207_87 ?_)))
                refine wk_ifne r207_89 ⟨by omega, by omega⟩ ?_ ?_
                · intro h2300
                  refine wk_il6 r207_104 (wk_c1 r207_106 ?_)
                  refine wk_icne r207_107 ⟨by omega, by omega⟩ (by decide) ?_ ?_
                  · intro h2301
                    exfalso
                    omega
                  · intro h2302
                    refine wk_al0 r207_110 (wk_il5 r207_111 (wk_il2 r207_113 (wk_cv3 r207_114 kc_176_185 rfl (m185_176v4 _ M2176 (v2196 / 8) p2 hP2177 (by omega) (by omega) (by omega) (by omega) (by first | assumption | omega | (unfold stepok; omega))) (cqL ?_))))
                    rintro n2307 M2303 ⟨hP2304, hQ2305, h2308⟩
                    obtain rfl := Fr.same hQ2305
                    refine wk_goto r207_117 (wk_last r207_127 ar_178 ⟨by omega, by omega⟩ (wk_nw (ga_178 _) rfl hP2177 hF2178 (ua_178 ⟨by omega, by omega⟩) ?_))
                    intro M2309 hP2310 hF2311 e2312
                    refine wk_inc3 r207_128 rfl (wk_goto r207_131 (wk_inc4 r207_249 rfl (wk_goto r207_252 ?_)))
                    exact wp_fg (le_s (le_s (le_s (le_s (le_s (le_n (le_n (le_n (le_s (le_s le_0)))))))))) (ih2432 (256 - (v2173 + 1)).toNat (by omega) M2309 (v2170 + 1) (v2173 + 1) rfl hP2310 hF2311 (by omega) (by omega) (by omega) (by omega) (by omega))
                · intro h2313
                  exfalso
                  omega
              · intro h2314
                refine wk_il6 r207_75 (wk_c2 r207_77 ?_)
                refine wk_icne r207_79 ⟨by omega, by omega⟩ (by decide) ?_ ?_
                · intro h2315
                  refine wk_il7 r207_134 ?_
                  refine wk_ifeq r207_136 (by decide) ?_ ?_
                  · intro h2316
                    refine wk_il7 r207_197 ?_
                    refine wk_ifne r207_199 (by decide) ?_ ?_
                    · intro h2317
                      exfalso
                      omega
                    · intro h2318
                      refine wk_il3 r207_202 ?_
                      refine wk_ifle r207_203 ⟨by omega, by omega⟩ ?_ ?_
                      · intro h2319
                        refine wk_inc4 r207_249 rfl (wk_goto r207_252 ?_)
                        exact wp_fg (le_s (le_s (le_s (le_s (le_s (le_n (le_n (le_n (le_s (le_s le_0)))))))))) (ih2432 (256 - (v2173 + 1)).toNat (by omega) M2176 v2170 (v2173 + 1) rfl hP2177 hF2178 (by omega) (by omega) (by omega) (by omega) (by omega))
                      · intro h2320
                        refine wk_al0 r207_206 (wk_getfr r207_207 fd_176_4 (br_176_4 hP2177) (wk_il3 r207_210 (wk_c1 r207_211 (wk_isub r207_212 (wk_laldb r207_213 ar_178 ⟨by omega, by omega⟩ (fun q0 q1 => ba_178 hP2177 q0 q1) (by decide) ?_)))))
                        intro n2321 h2323 h2324 e2322
                        refine wk_ls8 r207_214 rfl (wk_al0 r207_216 (wk_getfr r207_217 fd_176_4 (br_176_4 hP2177) (wk_il3 r207_220 (wk_c1 r207_221 (wk_isub r207_222 (wk_il6 r207_223 (wk_c1 r207_225 ?_)))))))
                        refine wk_icne r207_226 ⟨by omega, by omega⟩ (by decide) ?_ ?_
                        · intro h2325
                          have h2326 : (v2196 / 8) ≤ 6 := by omega
                          refine wk_al0 r207_238 (wk_il5 r207_239 (wk_c1 r207_241 (wk_ll8 r207_242 (wk_il2 r207_244 (wk_cv5 r207_245 kc_176_189 rfl (m189_176v4 _ M2176 (v2196 / 8) (-1) n2321 p2 hP2177 (by omega) (by omega) (by decide) (by decide) (by omega) (by omega) (by omega)) (cqL ?_))))))
                          rintro n2331 M2327 ⟨hP2328, hQ2329, h2332⟩
                          obtain rfl := Fr.same hQ2329
                          refine wk_last r207_248 ar_178 ⟨by omega, by omega⟩ (wk_nw (ga_178 _) rfl hP2177 hF2178 (ua_178 ⟨by omega, by omega⟩) ?_)
                          intro M2333 hP2334 hF2335 e2336
                          refine wk_inc4 r207_249 rfl (wk_goto r207_252 ?_)
                          exact wp_fg (le_s (le_s (le_s (le_s (le_s (le_n (le_n (le_n (le_n (le_s le_0)))))))))) (ih2432 (256 - (v2173 + 1)).toNat (by omega) M2333 v2170 (v2173 + 1) rfl hP2334 hF2335 (by omega) (by omega) (by omega) (by omega) (by omega))
                        · intro h2337
                          refine wk_ll8 r207_229 (wk_c7 r207_231 (wk_lxor r207_234 ?_))
                          intro n2338 h2339 h2340
                          refine wk_goto r207_235 (wk_last r207_248 ar_178 ⟨by omega, by omega⟩ (wk_nw (ga_178 _) rfl hP2177 hF2178 (ua_178 ⟨by omega, by omega⟩) ?_))
                          intro M2341 hP2342 hF2343 e2344
                          refine wk_inc4 r207_249 rfl (wk_goto r207_252 ?_)
                          exact wp_fg (le_s (le_s (le_s (le_s (le_s (le_n (le_n (le_n (le_n (le_s le_0)))))))))) (ih2432 (256 - (v2173 + 1)).toNat (by omega) M2341 v2170 (v2173 + 1) rfl hP2342 hF2343 (by omega) (by omega) (by omega) (by omega) (by omega))
                  · intro h2345
                    exfalso
                    omega
                · intro h2346
                  refine wk_al0 r207_82 (wk_getfr r207_83 fd_176_4 (br_176_4 hP2177) (wk_il3 r207_86 (wk_il6 r207_87 ?_)))
                  refine wk_ifne r207_89 ⟨by omega, by omega⟩ ?_ ?_
                  · intro h2347
                    refine wk_il6 r207_104 (wk_c1 r207_106 ?_)
                    refine wk_icne r207_107 ⟨by omega, by omega⟩ (by decide) ?_ ?_
                    · intro h2348
                      refine wk_al0 r207_120 (wk_il5 r207_121 (wk_il2 r207_123 (wk_cv3 r207_124 kc_176_198 rfl (m198_176v4 _ M2176 (v2196 / 8) p2 hP2177 (by omega) (by omega) (by omega) (by omega)) (cqL ?_))))
                      rintro n2353 M2349 ⟨hP2350, hQ2351, h2354⟩
                      obtain rfl := Fr.same hQ2351
                      refine wk_last r207_127 ar_178 ⟨by omega, by omega⟩ (wk_nw (ga_178 _) rfl hP2177 hF2178 (ua_178 ⟨by omega, by omega⟩) ?_)
                      intro M2355 hP2356 hF2357 e2358
                      refine wk_inc3 r207_128 rfl (wk_goto r207_131 (wk_inc4 r207_249 rfl (wk_goto r207_252 ?_)))
                      exact wp_fg (le_s (le_s (le_s (le_s (le_s (le_n (le_n (le_n (le_s (le_s le_0)))))))))) (ih2432 (256 - (v2173 + 1)).toNat (by omega) M2355 (v2170 + 1) (v2173 + 1) rfl hP2356 hF2357 (by omega) (by omega) (by omega) (by omega) (by omega))
                    · intro h2359
                      exfalso
                      omega
                  · intro h2360
                    exfalso
                    omega
          · intro h2361
            refine wk_c1 r207_57 (wk_goto r207_58 (wk_is7 r207_62 rfl (wk_il6 r207_64 ?_)))
            refine wk_ifeq r207_66 ⟨by omega, by omega⟩ ?_ ?_
            · intro h2362
              exfalso
              omega
            · intro h2363
              refine wk_il6 r207_69 (wk_c1 r207_71 ?_)
              refine wk_iceq r207_72 ⟨by omega, by omega⟩ (by decide) ?_ ?_
              · intro h2364
                exfalso
                omega
              · intro h2365
                refine wk_il6 r207_75 (wk_c2 r207_77 ?_)
                refine wk_icne r207_79 ⟨by omega, by omega⟩ (by decide) ?_ ?_
                · intro h2366
                  refine wk_il7 r207_134 ?_
                  refine wk_ifeq r207_136 (by decide) ?_ ?_
                  · intro h2367
                    refine wk_il7 r207_197 ?_
                    refine wk_ifne r207_199 (by decide) ?_ ?_
                    · intro h2368
                      refine wk_inc4 r207_249 rfl (wk_goto r207_252 ?_)
                      exact wp_fg (le_s (le_s (le_s (le_s (le_s (le_n (le_n (le_n (le_s (le_s le_0)))))))))) (ih2432 (256 - (v2173 + 1)).toNat (by omega) M2176 v2170 (v2173 + 1) rfl hP2177 hF2178 (by omega) (by omega) (by omega) (by omega) (by omega))
                    · intro h2369
                      refine wk_il3 r207_202 ?_
                      refine wk_ifle r207_203 ⟨by omega, by omega⟩ ?_ ?_
                      · intro h2370
                        refine wk_inc4 r207_249 rfl (wk_goto r207_252 ?_)
                        exact wp_fg (le_s (le_s (le_s (le_s (le_s (le_n (le_n (le_n (le_s (le_s le_0)))))))))) (ih2432 (256 - (v2173 + 1)).toNat (by omega) M2176 v2170 (v2173 + 1) rfl hP2177 hF2178 (by omega) (by omega) (by omega) (by omega) (by omega))
                      · intro h2371
                        refine wk_al0 r207_206 (wk_getfr r207_207 fd_176_4 (br_176_4 hP2177) (wk_il3 r207_210 (wk_c1 r207_211 (wk_isub r207_212 (wk_laldb r207_213 ar_178 ⟨by omega, by omega⟩ (fun q0 q1 => ba_178 hP2177 q0 q1) (by decide) ?_)))))
                        intro n2372 h2374 h2375 e2373
                        refine wk_ls8 r207_214 rfl (wk_al0 r207_216 (wk_getfr r207_217 fd_176_4 (br_176_4 hP2177) (wk_il3 r207_220 (wk_c1 r207_221 (wk_isub r207_222 (wk_il6 r207_223 (wk_c1 r207_225 ?_)))))))
                        refine wk_icne r207_226 ⟨by omega, by omega⟩ (by decide) ?_ ?_
                        · intro h2376
                          have h2377 : (v2196 / 8) ≤ 6 := by omega
                          refine wk_al0 r207_238 (wk_il5 r207_239 (wk_c1 r207_241 (wk_ll8 r207_242 (wk_il2 r207_244 (wk_cv5 r207_245 kc_176_189 rfl (m189_176v4 _ M2176 (v2196 / 8) (-1) n2372 p2 hP2177 (by omega) (by omega) (by decide) (by decide) (by omega) (by omega) (by omega)) (cqL ?_))))))
                          rintro n2382 M2378 ⟨hP2379, hQ2380, h2383⟩
                          obtain rfl := Fr.same hQ2380
                          refine wk_last r207_248 ar_178 ⟨by omega, by omega⟩ (wk_nw (ga_178 _) rfl hP2177 hF2178 (ua_178 ⟨by omega, by omega⟩) ?_)
                          intro M2384 hP2385 hF2386 e2387
                          refine wk_inc4 r207_249 rfl (wk_goto r207_252 ?_)
                          exact wp_fg (le_s (le_s (le_s (le_s (le_s (le_n (le_n (le_n (le_n (le_s le_0)))))))))) (ih2432 (256 - (v2173 + 1)).toNat (by omega) M2384 v2170 (v2173 + 1) rfl hP2385 hF2386 (by omega) (by omega) (by omega) (by omega) (by omega))
                        · intro h2388
                          exfalso
                          omega
                  · intro h2389
                    refine wk_il3 r207_139 (wk_c1 r207_140 ?_)
                    refine wk_icle r207_141 ⟨by omega, by omega⟩ (by decide) ?_ ?_
                    · intro h2390
                      refine wk_il7 r207_197 ?_
                      refine wk_ifne r207_199 (by decide) ?_ ?_
                      · intro h2391
                        refine wk_inc4 r207_249 rfl (wk_goto r207_252 ?_)
                        exact wp_fg (le_s (le_s (le_s (le_s (le_s (le_n (le_n (le_n (le_s (le_s le_0)))))))))) (ih2432 (256 - (v2173 + 1)).toNat (by omega) M2176 v2170 (v2173 + 1) rfl hP2177 hF2178 (by omega) (by omega) (by omega) (by omega) (by omega))
                      · intro h2392
                        refine wk_il3 r207_202 ?_
                        refine wk_ifle r207_203 ⟨by omega, by omega⟩ ?_ ?_
                        · intro h2393
                          refine wk_inc4 r207_249 rfl (wk_goto r207_252 ?_)
                          exact wp_fg (le_s (le_s (le_s (le_s (le_s (le_n (le_n (le_n (le_s (le_s le_0)))))))))) (ih2432 (256 - (v2173 + 1)).toNat (by omega) M2176 v2170 (v2173 + 1) rfl hP2177 hF2178 (by omega) (by omega) (by omega) (by omega) (by omega))
                        · intro h2394
                          refine wk_al0 r207_206 (wk_getfr r207_207 fd_176_4 (br_176_4 hP2177) (wk_il3 r207_210 (wk_c1 r207_211 (wk_isub r207_212 (wk_laldb r207_213 ar_178 ⟨by omega, by omega⟩ (fun q0 q1 => ba_178 hP2177 q0 q1) (by decide) ?_)))))
                          intro n2395 h2397 h2398 e2396
                          refine wk_ls8 r207_214 rfl (wk_al0 r207_216 (wk_getfr r207_217 fd_176_4 (br_176_4 hP2177) (wk_il3 r207_220 (wk_c1 r207_221 (wk_isub r207_222 (wk_il6 r207_223 (wk_c1 r207_225 ?_)))))))
                          refine wk_icne r207_226 ⟨by omega, by omega⟩ (by decide) ?_ ?_
                          · intro h2399
                            have h2400 : (v2196 / 8) ≤ 6 := by omega
                            refine wk_al0 r207_238 (wk_il5 r207_239 (wk_c1 r207_241 (wk_ll8 r207_242 (wk_il2 r207_244 (wk_cv5 r207_245 kc_176_189 rfl (m189_176v4 _ M2176 (v2196 / 8) (-1) n2395 p2 hP2177 (by omega) (by omega) (by decide) (by decide) (by omega) (by omega) (by omega)) (cqL ?_))))))
                            rintro n2405 M2401 ⟨hP2402, hQ2403, h2406⟩
                            obtain rfl := Fr.same hQ2403
                            refine wk_last r207_248 ar_178 ⟨by omega, by omega⟩ (wk_nw (ga_178 _) rfl hP2177 hF2178 (ua_178 ⟨by omega, by omega⟩) ?_)
                            intro M2407 hP2408 hF2409 e2410
                            refine wk_inc4 r207_249 rfl (wk_goto r207_252 ?_)
                            exact wp_fg (le_s (le_s (le_s (le_s (le_s (le_n (le_n (le_n (le_n (le_s le_0)))))))))) (ih2432 (256 - (v2173 + 1)).toNat (by omega) M2407 v2170 (v2173 + 1) rfl hP2408 hF2409 (by omega) (by omega) (by omega) (by omega) (by omega))
                          · intro h2411
                            exfalso
                            omega
                    · intro h2412
                      refine wk_inc3 r207_144 rfl (wk_al0 r207_147 (wk_getfr r207_148 fd_176_4 (br_176_4 hP2177) (wk_il3 r207_151 (wk_laldb r207_152 ar_178 ⟨by omega, by omega⟩ (fun q0 q1 => ba_178 hP2177 q0 q1) (by decide) ?_))))
                      intro n2413 h2415 h2416 e2414
                      refine wk_ls8 r207_153 rfl (wk_al0 r207_155 (wk_getfr r207_156 fd_176_4 (br_176_4 hP2177) (wk_il3 r207_159 (wk_c1 r207_160 (wk_isub r207_161 (wk_il6 r207_162 (wk_c1 r207_164 ?_)))))))
                      refine wk_icne r207_165 ⟨by omega, by omega⟩ (by decide) ?_ ?_
                      · intro h2417
                        refine wk_al0 r207_182 (wk_getfr r207_183 fd_176_4 (br_176_4 hP2177) (wk_il3 r207_186 (wk_c1 r207_187 (wk_isub r207_188 (wk_laldb r207_189 ar_178 ⟨by omega, by omega⟩ (fun q0 q1 => ba_178 hP2177 q0 q1) (by decide) ?_)))))
                        intro n2418 h2420 h2421 e2419
                        refine wk_ll8 r207_190 (wk_lorb r207_192 ?_)
                        intro n2422 h2423 h2424 h2425
                        refine wk_last r207_193 ar_178 ⟨by omega, by omega⟩ (wk_nw (ga_178 _) rfl hP2177 hF2178 (ua_178 ⟨by omega, by omega⟩) ?_)
                        intro M2426 hP2427 hF2428 e2429
                        refine wk_goto r207_194 (wk_inc4 r207_249 rfl (wk_goto r207_252 ?_))
                        exact wp_fg (le_s (le_s (le_s (le_s (le_s (le_n (le_n (le_n (le_n (le_s le_0)))))))))) (ih2432 (256 - (v2173 + 1)).toNat (by omega) M2426 (v2170 + (-1)) (v2173 + 1) rfl hP2427 hF2428 (by omega) (by omega) (by omega) (by omega) (by omega))
                      · intro h2430
                        exfalso
                        omega
                · intro h2431
                  exfalso
                  omega
  exact wp_fg (le_s (le_s (le_s (le_s (le_s (le_s (le_s (le_s (le_s (le_s le_0)))))))))) (c5_2432 _ M0 0 0 rfl hP0 hF0 (by omega) (by omega) (by omega) (by omega) (by omega))
def fm_m196_176_f183 : Nat := 21350724682295211208517400905753034752
/-- IslandHall$Realm.judge -/
theorem m196_176_f183 {B : eB} (d : Nat) (M0 : Mm) (c1 : Int) (a2 : Int) (hP0 : Pw M0) (hC1 : isC c1) (ha2 : 183 ≤ a2) (hb2 : a2 ≤ 300) : Ct B (d + 4) 196 [R 176, R c1, R a2] M0 (qV fun M => Pw M ∧ Fr fm_m196_176_f183 M0 M) := by
  refine ct_of (d := d + 3) (k := 1) (L := [some (R 176), some (R c1), some (R a2), none]) rfl rfl rfl ?_
  have hF0 := Fr.rf fm_m196_176_f183 M0
  generalize hQ : (qV fun M => Pw M ∧ Fr fm_m196_176_f183 M0 M) = Q
  refine wk_c1 r196_0 (wk_is3 r196_1 rfl ?_)
  have c2_155 : ∀ (k155 : Nat) (M136 : Mm) (v133 : Int), (5 - v133).toNat = k155 → Pw M136 → Fr fm_m196_176_f183 M0 M136 → 0 ≤ v133 → v133 ≤ 5 → Wp B (d + 3) 196 2 [some (R 176), some (R c1), some (R a2), some (I v133)] [] M136 Q := by
    refine lp_ind ?_
    intro k155 ih155 M136 v133 hk155 hP137 hF138 h134 h135
    refine wk_il3 r196_2 (wk_al0 r196_3 (wk_getfb r196_4 fd_176_10 (bf_176_10 hP137) ?_))
    intro v139 h141 h142 e140
    refine wk_icge r196_7 ⟨by omega, by omega⟩ ⟨by omega, by omega⟩ ?_ ?_
    · intro h143
      subst hQ; exact wk_ret r196_25 (⟨rfl, hP137, hF138⟩)
    · intro h144
      refine wk_al2 r196_10 (wk_il3 r196_11 (wk_al0 r196_12 (wk_al1 r196_13 (wk_il3 r196_14 (wk_cv3 r196_15 kc_176_207 rfl (m207_176v4 _ M136 c1 v133 hP137 hC1 (by omega) (by omega)) (cqL ?_))))))
      rintro n149 M145 ⟨hP146, hQ147, h150⟩
      have hF148 : Fr fm_m196_176_f183 M0 M145 := hF138.tr hQ147 rfl
      refine wk_last r196_18 (arF_183 (by omega) (by omega)) ⟨by omega, by omega⟩ (wk_nw (gr_183 (by omega) (by omega) _) rfl hP146 hF148 (uaF_183 (by omega) (by omega) ⟨by omega, by omega⟩) ?_)
      intro M151 hP152 hF153 e154
      refine wk_inc3 r196_19 rfl (wk_goto r196_22 ?_)
      exact wp_fg (le_s (le_s (le_s (le_s le_0)))) (ih155 (5 - (v133 + 1)).toNat (by omega) M151 (v133 + 1) rfl hP152 hF153 (by omega) (by omega))
  exact wp_fg (le_s (le_s (le_s (le_s le_0)))) (c2_155 _ M0 0 rfl hP0 hF0 (by omega) (by omega))
def fm_m200_176 : Nat := 41538374868278621028243970633760768
/-- IslandHall$Realm.pass -/
theorem m200_176 {B : eB} (d : Nat) (M0 : Mm) (p1 : Int) (hP0 : Pw M0) (l1 : 0 ≤ p1) (u1 : p1 ≤ 6) : Ct B (d + 1) 200 [R 176, I p1] M0 (qV fun M => Pw M ∧ Fr fm_m200_176 M0 M) := by
  refine ct_of (d := d + 0) (k := 0) (L := [some (R 176), some (I p1)]) rfl rfl rfl ?_
  have hF0 := Fr.rf fm_m200_176 M0
  generalize hQ : (qV fun M => Pw M ∧ Fr fm_m200_176 M0 M) = Q
  refine wk_al0 r200_0 (wk_getfr r200_1 fd_176_3 (br_176_3 hP0) (wk_il1 r200_4 (wk_dup2 r200_5 (wk_ialdb r200_6 ar_177 ⟨by omega, by omega⟩ (fun q0 q1 => ba_177 hP0 q0 q1) ?_))))
  intro v1 h3 h4 e2
  refine wk_c1 r200_7 (wk_ixor 1 2 r200_8 (by decide) ⟨by omega, by omega⟩ ⟨by omega, by omega⟩ ?_)
  intro v5 h6 h7 h8
  refine wk_iast r200_9 ar_177 ⟨by omega, by omega⟩ (wk_nw (ga_177 _) rfl hP0 hF0 (ua_177 ⟨by omega, by omega⟩) ?_)
  intro M9 hP10 hF11 e12
  subst hQ; exact wk_ret r200_10 (⟨rfl, hP10, hF11⟩)
def fm_m208_176v2 : Nat := 0
/-- IslandHall$Realm.yesRow -/
theorem m208_176v2 {B : eB} (d : Nat) (M0 : Mm) (p1 : Int) (hP0 : Pw M0) (l1 : (-1) ≤ p1) (u1 : p1 ≤ 1) : Ct B (d + 1) 208 [R 176, I p1] M0 (qR fun z M => Pw M ∧ Fr fm_m208_176v2 M0 M ∧ 229 ≤ z ∧ z ≤ 301) := by
  refine ct_of (d := d + 0) (k := 0) (L := [some (R 176), some (I p1)]) rfl rfl rfl ?_
  have hF0 := Fr.rf fm_m208_176v2 M0
  generalize hQ : (qR fun z M => Pw M ∧ Fr fm_m208_176v2 M0 M ∧ 229 ≤ z ∧ z ≤ 301) = Q
  refine wk_al0 r208_0 (wk_getfr r208_1 fd_176_0 (br_176_0 hP0) (wk_il1 r208_4 (wk_c1 r208_5 ?_)))
  refine wk_icne r208_6 ⟨by omega, by omega⟩ (by decide) ?_ ?_
  · intro h1
    refine wk_c2 r208_14 (wk_il1 r208_16 (wk_iadd r208_17 (wk_raldb r208_18 ar_182 ⟨by omega, by omega⟩ (fun q0 q1 => ba_182 hP0 q0 q1) ?_)))
    subst hQ; exact wk_aret r208_19 (⟨rfl, _, rfl, hP0, hF0, by omega, by omega⟩)
  · intro h2
    refine wk_c2 r208_9 (wk_goto r208_11 (wk_raldb r208_18 ar_182 (by decide) (fun q0 q1 => ba_182 hP0 q0 q1) ?_))
    subst hQ; exact wk_aret r208_19 (⟨rfl, _, rfl, hP0, hF0, by omega, by omega⟩)
def fm_m148_174_f609_f183_f609v1 : Nat := 16725558898897967356151788704486271129485312
/-- IslandHall$Crowd.narrow -/
theorem m148_174_f609_f183_f609v1 {B : eB} (d : Nat) (M0 : Mm) (a1 : Int) (p2 : Int) (p3 : Int) (a4 : Int) (a5 : Int) (hP0 : Pw M0) (ha1 : 609 ≤ a1) (hb1 : a1 ≤ 612) (l2 : 0 ≤ p2) (u2 : p2 ≤ 6) (l3 : 0 ≤ p3) (u3 : p3 ≤ 1) (ha4 : 183 ≤ a4) (hb4 : a4 ≤ 300) (ha5 : 609 ≤ a5) (hb5 : a5 ≤ 612) : Ct B (d + 2) 148 [R 174, R a1, I p2, I p3, R a4, R a5] M0 (qV fun M => Pw M ∧ Fr fm_m148_174_f609_f183_f609v1 M0 M) := by
  refine ct_of (d := d + 1) (k := 4) (L := [some (R 174), some (R a1), some (I p2), some (I p3), some (R a4), some (R a5), none, none, none, none]) rfl rfl rfl ?_
  have hF0 := Fr.rf fm_m148_174_f609_f183_f609v1 M0
  generalize hQ : (qV fun M => Pw M ∧ Fr fm_m148_174_f609_f183_f609v1 M0 M) = Q
  refine wk_al0 r148_0 (wk_getfr r148_1 fd_174_0 (br_174_0 hP0) (wk_il2 r148_4 (wk_cv2 r148_5 kc_176_190 rfl (m190_176 _ M0 p2 hP0 (by omega) (by omega)) (cqR ?_))))
  rintro v5 M1 ⟨hP2, hQ3, h6, h7⟩
  obtain rfl := Fr.same hQ3
  refine wk_as6 r148_8 rfl (wk_al0 r148_10 (wk_getfr r148_11 fd_174_0 (br_174_0 hP0) (wk_il2 r148_14 (wk_cv2 r148_15 kc_176_193 rfl (m193_176 _ M0 p2 hP0 (by omega) (by omega)) (cqR ?_)))))
  rintro v12 M8 ⟨hP9, hQ10, h13, h14⟩
  obtain rfl := Fr.same hQ10
  refine wk_as7 r148_18 rfl (wk_al0 r148_20 (wk_getfr r148_21 fd_174_0 (br_174_0 hP0) (wk_il3 r148_24 (wk_cv2 r148_25 kc_176_208 rfl (m208_176v2 _ M0 p3 hP0 (by omega) (by omega)) (cqR ?_)))))
  rintro v19 M15 ⟨hP16, hQ17, h20, h21⟩
  obtain rfl := Fr.same hQ17
  refine wk_as8 r148_28 rfl (wk_c1 r148_30 (wk_is9 r148_31 rfl ?_))
  have c33_386 : ∀ (k386 : Nat) (M337 : Mm) (v334 : Int), (5 - v334).toNat = k386 → Pw M337 → Fr fm_m148_174_f609_f183_f609v1 M0 M337 → 0 ≤ v334 → v334 ≤ 5 → Wp B (d + 1) 148 33 [some (R 174), some (R a1), none, none, some (R a4), some (R a5), some (R v5), some (R v12), some (R v19), some (I v334)] [] M337 Q := by
    refine lp_ind ?_
    intro k386 ih386 M337 v334 hk386 hP338 hF339 h335 h336
    refine wk_il9 r148_33 (wk_al0 r148_35 (wk_getfr r148_36 fd_174_0 (br_174_0 hP338) (wk_getfb r148_39 fd_176_10 (bf_176_10 hP338) ?_)))
    intro v340 h342 h343 e341
    refine wk_icge r148_42 ⟨by omega, by omega⟩ ⟨by omega, by omega⟩ ?_ ?_
    · intro h344
      subst hQ; exact wk_ret r148_84 (⟨rfl, hP338, hF339⟩)
    · intro h345
      refine wk_al5 r148_45 (wk_il9 r148_47 (wk_al1 r148_49 (wk_il9 r148_50 (wk_laldb r148_52 (arF_609 (by omega) (by omega)) ⟨by omega, by omega⟩ (fun q0 q1 => ⟨(b4_609 hP338 (by omega) (by omega) q0 q1).1, (b4_609 hP338 (by omega) (by omega) q0 q1).2.1⟩) (by decide) ?_))))
      intro n346 h348 h349 e347
      have h350 : v334 = 4 → n346 ≤ 17592186044415 := by have := b4_609 hP338 (a := a1) (i := v334) (by omega) (by omega) (by omega) (by omega); omega
      refine wk_al6 r148_53 (wk_il9 r148_55 (wk_laldb r148_57 (arF_183 (by omega) (by omega)) ⟨by omega, by omega⟩ (fun q0 q1 => baF_183 hP338 (by omega) (by omega) q0 q1) (by decide) ?_))
      intro n351 h353 h354 e352
      refine wk_al8 r148_58 (wk_il9 r148_60 (wk_laldb r148_62 (arF_183 (by omega) (by omega)) ⟨by omega, by omega⟩ (fun q0 q1 => baF_183 hP338 (by omega) (by omega) q0 q1) (by decide) ?_))
      intro n355 h357 h358 e356
      refine wk_al4 r148_63 (wk_il9 r148_65 (wk_laldb r148_67 (arF_183 (by omega) (by omega)) ⟨by omega, by omega⟩ (fun q0 q1 => baF_183 hP338 (by omega) (by omega) q0 q1) (by decide) ?_))
      intro n359 h361 h362 e360
      refine wk_lxor r148_68 ?_
      intro n363 h364 h365
      refine wk_al7 r148_69 (wk_il9 r148_71 (wk_laldb r148_73 (arF_183 (by omega) (by omega)) ⟨by omega, by omega⟩ (fun q0 q1 => baF_183 hP338 (by omega) (by omega) q0 q1) (by decide) ?_))
      intro n366 h368 h369 e367
      refine wk_lxor r148_74 ?_
      intro n370 h371 h372
      refine wk_lorb r148_75 ?_
      intro n373 h374 h375 h376
      refine wk_land r148_76 ?_
      intro n377 h378 h379 h380 h381
      refine wk_last r148_77 (arF_609 (by omega) (by omega)) ⟨by omega, by omega⟩ (wk_nwt (t4_609 rfl rfl (by omega) (by omega) _) hP338 hF339 (u4_609 (by omega) (by omega) ⟨by omega, by omega, by omega⟩) ?_)
      intro M382 hP383 hF384 e385
      refine wk_inc9 r148_78 rfl (wk_goto r148_81 ?_)
      exact wp_fg (le_s (le_s (le_s (le_s (le_s (le_s (le_s (le_s (le_s (le_s le_0)))))))))) (ih386 (5 - (v334 + 1)).toNat (by omega) M382 (v334 + 1) rfl hP383 hF384 (by omega) (by omega))
  exact wp_fg (le_s (le_s (le_n (le_n (le_s (le_s (le_s (le_s (le_s (le_s le_0)))))))))) (c33_386 _ M0 0 rfl hP0 hF0 (by omega) (by omega))
def fm_m150_174_f609v2 : Nat := 16333553612205046246241981156724874149888
/-- IslandHall$Crowd.tellsAtMost -/
theorem m150_174_f609v2 {B : eB} (d : Nat) (M0 : Mm) (a1 : Int) (p2 : Int) (hP0 : Pw M0) (ha1 : 609 ≤ a1) (hb1 : a1 ≤ 612) (l2 : 1 ≤ p2) (u2 : p2 ≤ 4) : Ct B (d + 3) 150 [R 174, R a1, I p2] M0 (qI fun z M => Pw M ∧ Fr fm_m150_174_f609v2 M0 M ∧ 0 ≤ z ∧ z ≤ 1) := by
  refine ct_of (d := d + 2) (k := 4) (L := [some (R 174), some (R a1), some (I p2), none, none, none, none]) rfl rfl rfl ?_
  have hF0 := Fr.rf fm_m150_174_f609v2 M0
  generalize hQ : (qI fun z M => Pw M ∧ Fr fm_m150_174_f609v2 M0 M ∧ 0 ≤ z ∧ z ≤ 1) = Q
  refine wk_al1 r150_0 (wk_c1 r150_1 (wk_al0 r150_2 (wk_getfr r150_3 fd_174_5 (br_174_5 hP0) (wk_c1 r150_6 (wk_al0 r150_7 (wk_getfi r150_8 fd_174_1 (br_174_1 hP0) (wk_copy110 r150_11 (arF_609 (by omega) (by omega)) (arF_606 (by omega) (by omega)) ⟨by decide, by decide, by decide, by omega, by omega, by omega⟩ rfl (wk_nc (fun i => t4_606 rfl rfl (by omega) (by omega) i) hP0 hF0 (fun i h0 h1 => by have := b4_609 hP0 (a := a1) (by omega) (by omega) h0 (by omega); exact (u4_606 (by omega) (by omega) ⟨by omega, by omega, by omega⟩)) ?_))))))))
  intro M1 hP2 hF3 e4
  refine wk_c1 r150_14 (wk_is3 r150_15 rfl ?_)
  have c16_514 : ∀ (k514 : Nat) (M453 : Mm) (v450 : Int), (4 - v450).toNat = k514 → Pw M453 → Fr fm_m150_174_f609v2 M0 M453 → 0 ≤ v450 → v450 ≤ 4 → Wp B (d + 2) 150 16 [some (R 174), none, some (I p2), some (I v450), none, none, none] [] M453 Q := by
    refine lp_ind ?_
    intro k514 ih514 M453 v450 hk514 hP454 hF455 h451 h452
    refine wk_il3 r150_16 (wk_il2 r150_17 ?_)
    refine wk_icge r150_18 ⟨by omega, by omega⟩ ⟨by omega, by omega⟩ ?_ ?_
    · intro h456
      refine wk_al0 r150_99 (wk_al0 r150_100 (wk_getfr r150_101 fd_174_5 (br_174_5 hP454) (wk_cv2 r150_104 kc_174_149 rfl (m149_174_606 _ M453 hP454) (cqI ?_))))
      rintro v461 M457 ⟨hP458, hQ459, h462, h463⟩
      obtain rfl := Fr.same hQ459
      refine wk_c1 r150_107 ?_
      refine wk_icne r150_108 ⟨by omega, by omega⟩ (by decide) ?_ ?_
      · intro h464
        refine wk_c1 r150_115 ?_
        subst hQ; exact wk_zret r150_116 (by decide) (⟨rfl, _, rfl, hP454, hF455, by omega, by omega⟩)
      · intro h465
        refine wk_c1 r150_111 (wk_goto r150_112 ?_)
        subst hQ; exact wk_zret r150_116 (by decide) (⟨rfl, _, rfl, hP454, hF455, by omega, by omega⟩)
    · intro h466
      refine wk_al0 r150_21 (wk_al0 r150_22 (wk_getfr r150_23 fd_174_5 (br_174_5 hP454) (wk_cv2 r150_26 kc_174_149 rfl (m149_174_606 _ M453 hP454) (cqI ?_))))
      rintro v471 M467 ⟨hP468, hQ469, h472, h473⟩
      obtain rfl := Fr.same hQ469
      refine wk_is4 r150_29 rfl (wk_il4 r150_31 (wk_c1 r150_33 ?_))
      refine wk_icne r150_34 ⟨by omega, by omega⟩ (by decide) ?_ ?_
      · intro h474
        refine wk_al0 r150_39 (wk_getfr r150_40 fd_174_3 (br_174_3 hP454) (wk_al0 r150_43 (wk_getfr r150_44 fd_174_2 (br_174_2 hP454) (wk_il4 r150_47 (wk_ialdb r150_49 ar_304 ⟨by omega, by omega⟩ (fun q0 q1 => ba_304 hP454 q0 q1) ?_)))))
        intro v475 h477 h478 e476
        refine wk_raldb r150_50 ar_305 ⟨by omega, by omega⟩ (fun q0 q1 => ba_305 hP454 q0 q1) (wk_as5 r150_51 rfl (wk_c1 r150_53 (wk_is6 r150_54 rfl ?_)))
        have c56_512 : ∀ (k512 : Nat) (M482 : Mm) (v479 : Int), (5 - v479).toNat = k512 → Pw M482 → Fr fm_m150_174_f609v2 M0 M482 → 0 ≤ v479 → v479 ≤ 5 → Wp B (d + 2) 150 56 [some (R 174), none, some (I p2), some (I v450), none, some (R (306 + v475)), some (I v479)] [] M482 Q := by
          refine lp_ind ?_
          intro k512 ih512 M482 v479 hk512 hP483 hF484 h480 h481
          refine wk_il6 r150_56 (wk_al0 r150_58 (wk_getfr r150_59 fd_174_0 (br_174_0 hP483) (wk_getfb r150_62 fd_176_10 (bf_176_10 hP483) ?_)))
          intro v485 h487 h488 e486
          refine wk_icge r150_65 ⟨by omega, by omega⟩ ⟨by omega, by omega⟩ ?_ ?_
          · intro h489
            refine wk_inc3 r150_93 rfl (wk_goto r150_96 ?_)
            exact wp_fg (le_s (le_s (le_s (le_s (le_s (le_n (le_n le_0))))))) (ih514 (4 - (v450 + 1)).toNat (by omega) M482 (v450 + 1) rfl hP483 hF484 (by omega) (by omega))
          · intro h490
            refine wk_al0 r150_68 (wk_getfr r150_69 fd_174_5 (br_174_5 hP483) (wk_il6 r150_72 (wk_dup2 r150_74 (wk_laldb r150_75 (arF_606 (by omega) (by omega)) ⟨by omega, by omega⟩ (fun q0 q1 => ⟨(b4_606 hP483 (by omega) (by omega) q0 q1).1, (b4_606 hP483 (by omega) (by omega) q0 q1).2.1⟩) (by decide) ?_))))
            intro n491 h493 h494 e492
            have h495 : v479 = 4 → n491 ≤ 17592186044415 := by have := b4_606 hP483 (a := 606) (i := v479) (by omega) (by omega) (by omega) (by omega); omega
            refine wk_al5 r150_76 (wk_il6 r150_78 (wk_laldb r150_80 (arF_306 (by omega) (by omega)) ⟨by omega, by omega⟩ (fun q0 q1 => baF_306 hP483 (by omega) (by omega) q0 q1) (by decide) ?_))
            intro n496 h498 h499 e497
            refine wk_c7 r150_81 (wk_lxor r150_84 ?_)
            intro n500 h501 h502
            refine wk_land r150_85 ?_
            intro n503 h504 h505 h506 h507
            refine wk_last r150_86 (arF_606 (by omega) (by omega)) ⟨by omega, by omega⟩ (wk_nwt (t4_606 rfl rfl (by omega) (by omega) _) hP483 hF484 (u4_606 (by omega) (by omega) ⟨by omega, by omega, by omega⟩) ?_)
            intro M508 hP509 hF510 e511
            refine wk_inc6 r150_87 rfl (wk_goto r150_90 ?_)
            exact wp_fg (le_s (le_s (le_s (le_s (le_s (le_s (le_s le_0))))))) (ih512 (5 - (v479 + 1)).toNat (by omega) M508 (v479 + 1) rfl hP509 hF510 (by omega) (by omega))
        exact wp_fg (le_s (le_s (le_s (le_s (le_n (le_s (le_s le_0))))))) (c56_512 _ M453 0 rfl hP454 hF455 (by omega) (by omega))
      · intro h513
        refine wk_c1 r150_37 ?_
        subst hQ; exact wk_zret r150_38 (by decide) (⟨rfl, _, rfl, hP454, hF455, by omega, by omega⟩)
  exact wp_fg (le_s (le_n (le_s (le_s (le_s (le_s (le_s le_0))))))) (c16_514 _ M1 0 rfl hP2 hF3 (by omega) (by omega))
def fm_m150_174_f609v3 : Nat := 16333553612205046246241981156724874149888
/-- IslandHall$Crowd.tellsAtMost -/
theorem m150_174_f609v3 {B : eB} (d : Nat) (M0 : Mm) (a1 : Int) (p2 : Int) (hP0 : Pw M0) (ha1 : 609 ≤ a1) (hb1 : a1 ≤ 612) (l2 : 1 ≤ p2) (u2 : p2 ≤ 8) : Ct B (d + 3) 150 [R 174, R a1, I p2] M0 (qI fun z M => Pw M ∧ Fr fm_m150_174_f609v3 M0 M ∧ 0 ≤ z ∧ z ≤ 1) := by
  refine ct_of (d := d + 2) (k := 4) (L := [some (R 174), some (R a1), some (I p2), none, none, none, none]) rfl rfl rfl ?_
  have hF0 := Fr.rf fm_m150_174_f609v3 M0
  generalize hQ : (qI fun z M => Pw M ∧ Fr fm_m150_174_f609v3 M0 M ∧ 0 ≤ z ∧ z ≤ 1) = Q
  refine wk_al1 r150_0 (wk_c1 r150_1 (wk_al0 r150_2 (wk_getfr r150_3 fd_174_5 (br_174_5 hP0) (wk_c1 r150_6 (wk_al0 r150_7 (wk_getfi r150_8 fd_174_1 (br_174_1 hP0) (wk_copy110 r150_11 (arF_609 (by omega) (by omega)) (arF_606 (by omega) (by omega)) ⟨by decide, by decide, by decide, by omega, by omega, by omega⟩ rfl (wk_nc (fun i => t4_606 rfl rfl (by omega) (by omega) i) hP0 hF0 (fun i h0 h1 => by have := b4_609 hP0 (a := a1) (by omega) (by omega) h0 (by omega); exact (u4_606 (by omega) (by omega) ⟨by omega, by omega, by omega⟩)) ?_))))))))
  intro M1 hP2 hF3 e4
  refine wk_c1 r150_14 (wk_is3 r150_15 rfl ?_)
  have c16_706 : ∀ (k706 : Nat) (M645 : Mm) (v642 : Int), (8 - v642).toNat = k706 → Pw M645 → Fr fm_m150_174_f609v3 M0 M645 → 0 ≤ v642 → v642 ≤ 8 → Wp B (d + 2) 150 16 [some (R 174), none, some (I p2), some (I v642), none, none, none] [] M645 Q := by
    refine lp_ind ?_
    intro k706 ih706 M645 v642 hk706 hP646 hF647 h643 h644
    refine wk_il3 r150_16 (wk_il2 r150_17 ?_)
    refine wk_icge r150_18 ⟨by omega, by omega⟩ ⟨by omega, by omega⟩ ?_ ?_
    · intro h648
      refine wk_al0 r150_99 (wk_al0 r150_100 (wk_getfr r150_101 fd_174_5 (br_174_5 hP646) (wk_cv2 r150_104 kc_174_149 rfl (m149_174_606 _ M645 hP646) (cqI ?_))))
      rintro v653 M649 ⟨hP650, hQ651, h654, h655⟩
      obtain rfl := Fr.same hQ651
      refine wk_c1 r150_107 ?_
      refine wk_icne r150_108 ⟨by omega, by omega⟩ (by decide) ?_ ?_
      · intro h656
        refine wk_c1 r150_115 ?_
        subst hQ; exact wk_zret r150_116 (by decide) (⟨rfl, _, rfl, hP646, hF647, by omega, by omega⟩)
      · intro h657
        refine wk_c1 r150_111 (wk_goto r150_112 ?_)
        subst hQ; exact wk_zret r150_116 (by decide) (⟨rfl, _, rfl, hP646, hF647, by omega, by omega⟩)
    · intro h658
      refine wk_al0 r150_21 (wk_al0 r150_22 (wk_getfr r150_23 fd_174_5 (br_174_5 hP646) (wk_cv2 r150_26 kc_174_149 rfl (m149_174_606 _ M645 hP646) (cqI ?_))))
      rintro v663 M659 ⟨hP660, hQ661, h664, h665⟩
      obtain rfl := Fr.same hQ661
      refine wk_is4 r150_29 rfl (wk_il4 r150_31 (wk_c1 r150_33 ?_))
      refine wk_icne r150_34 ⟨by omega, by omega⟩ (by decide) ?_ ?_
      · intro h666
        refine wk_al0 r150_39 (wk_getfr r150_40 fd_174_3 (br_174_3 hP646) (wk_al0 r150_43 (wk_getfr r150_44 fd_174_2 (br_174_2 hP646) (wk_il4 r150_47 (wk_ialdb r150_49 ar_304 ⟨by omega, by omega⟩ (fun q0 q1 => ba_304 hP646 q0 q1) ?_)))))
        intro v667 h669 h670 e668
        refine wk_raldb r150_50 ar_305 ⟨by omega, by omega⟩ (fun q0 q1 => ba_305 hP646 q0 q1) (wk_as5 r150_51 rfl (wk_c1 r150_53 (wk_is6 r150_54 rfl ?_)))
        have c56_704 : ∀ (k704 : Nat) (M674 : Mm) (v671 : Int), (5 - v671).toNat = k704 → Pw M674 → Fr fm_m150_174_f609v3 M0 M674 → 0 ≤ v671 → v671 ≤ 5 → Wp B (d + 2) 150 56 [some (R 174), none, some (I p2), some (I v642), none, some (R (306 + v667)), some (I v671)] [] M674 Q := by
          refine lp_ind ?_
          intro k704 ih704 M674 v671 hk704 hP675 hF676 h672 h673
          refine wk_il6 r150_56 (wk_al0 r150_58 (wk_getfr r150_59 fd_174_0 (br_174_0 hP675) (wk_getfb r150_62 fd_176_10 (bf_176_10 hP675) ?_)))
          intro v677 h679 h680 e678
          refine wk_icge r150_65 ⟨by omega, by omega⟩ ⟨by omega, by omega⟩ ?_ ?_
          · intro h681
            refine wk_inc3 r150_93 rfl (wk_goto r150_96 ?_)
            exact wp_fg (le_s (le_s (le_s (le_s (le_s (le_n (le_n le_0))))))) (ih706 (8 - (v642 + 1)).toNat (by omega) M674 (v642 + 1) rfl hP675 hF676 (by omega) (by omega))
          · intro h682
            refine wk_al0 r150_68 (wk_getfr r150_69 fd_174_5 (br_174_5 hP675) (wk_il6 r150_72 (wk_dup2 r150_74 (wk_laldb r150_75 (arF_606 (by omega) (by omega)) ⟨by omega, by omega⟩ (fun q0 q1 => ⟨(b4_606 hP675 (by omega) (by omega) q0 q1).1, (b4_606 hP675 (by omega) (by omega) q0 q1).2.1⟩) (by decide) ?_))))
            intro n683 h685 h686 e684
            have h687 : v671 = 4 → n683 ≤ 17592186044415 := by have := b4_606 hP675 (a := 606) (i := v671) (by omega) (by omega) (by omega) (by omega); omega
            refine wk_al5 r150_76 (wk_il6 r150_78 (wk_laldb r150_80 (arF_306 (by omega) (by omega)) ⟨by omega, by omega⟩ (fun q0 q1 => baF_306 hP675 (by omega) (by omega) q0 q1) (by decide) ?_))
            intro n688 h690 h691 e689
            refine wk_c7 r150_81 (wk_lxor r150_84 ?_)
            intro n692 h693 h694
            refine wk_land r150_85 ?_
            intro n695 h696 h697 h698 h699
            refine wk_last r150_86 (arF_606 (by omega) (by omega)) ⟨by omega, by omega⟩ (wk_nwt (t4_606 rfl rfl (by omega) (by omega) _) hP675 hF676 (u4_606 (by omega) (by omega) ⟨by omega, by omega, by omega⟩) ?_)
            intro M700 hP701 hF702 e703
            refine wk_inc6 r150_87 rfl (wk_goto r150_90 ?_)
            exact wp_fg (le_s (le_s (le_s (le_s (le_s (le_s (le_s le_0))))))) (ih704 (5 - (v671 + 1)).toNat (by omega) M700 (v671 + 1) rfl hP701 hF702 (by omega) (by omega))
        exact wp_fg (le_s (le_s (le_s (le_s (le_n (le_s (le_s le_0))))))) (c56_704 _ M645 0 rfl hP646 hF647 (by omega) (by omega))
      · intro h705
        refine wk_c1 r150_37 ?_
        subst hQ; exact wk_zret r150_38 (by decide) (⟨rfl, _, rfl, hP646, hF647, by omega, by omega⟩)
  exact wp_fg (le_s (le_n (le_s (le_s (le_s (le_s (le_s le_0))))))) (c16_706 _ M1 0 rfl hP2 hF3 (by omega) (by omega))
def fm_m2_607v8 : Nat := 0
/-- IslandHall$Asker.opener -/
theorem m2_607v8 {B : eB} (d : Nat) (M0 : Mm) (p1 : Int) (p2 : Int) (hP0 : Pw M0) (l1 : 3 ≤ p1) (u1 : p1 ≤ 3) (l2 : 0 ≤ p2) (u2 : p2 ≤ 0) : Ct B (d + 1) 2 [R 607, I p1, I p2] M0 (qI fun z M => Pw M ∧ Fr fm_m2_607v8 M0 M ∧ (-1) ≤ z ∧ z ≤ (-1)) := by
  refine ct_of (d := d + 0) (k := 1) (L := [some (R 607), some (I p1), some (I p2), none]) rfl rfl rfl ?_
  have hF0 := Fr.rf fm_m2_607v8 M0
  generalize hQ : (qI fun z M => Pw M ∧ Fr fm_m2_607v8 M0 M ∧ (-1) ≤ z ∧ z ≤ (-1)) = Q
  refine wk_il2 r2_0 ?_
  refine wk_ifle r2_1 ⟨by omega, by omega⟩ ?_ ?_
  · intro h1
    refine wk_c1 r2_28 ?_
    subst hQ; exact wk_iret r2_29 (⟨rfl, _, rfl, hP0, hF0, by omega, by omega⟩)
  · intro h2
    exfalso
    omega
def fm_m3_607v29 : Nat := 16741913844773229565887860231287872390430720
/-- IslandHall$Asker.opens -/
theorem m3_607v29 {B : eB} (d : Nat) (M0 : Mm) (p1 : Int) (p2 : Int) (p3 : Int) (hP0 : Pw M0) (l1 : 0 ≤ p1) (u1 : p1 ≤ 9) (l2 : 2 ≤ p2) (u2 : p2 ≤ 2) (l3 : 1 ≤ p3) (u3 : p3 ≤ 1) : Ct B (d + 5) 3 [R 607, I p1, I p2, I p3] M0 (qI fun z M => Pw M ∧ Fr fm_m3_607v29 M0 M ∧ 0 ≤ z ∧ z ≤ 1) := by
  refine ct_of (d := d + 4) (k := 5) (L := [some (R 607), some (I p1), some (I p2), some (I p3), none, none, none, none, none]) rfl rfl rfl ?_
  have hF0 := Fr.rf fm_m3_607v29 M0
  generalize hQ : (qI fun z M => Pw M ∧ Fr fm_m3_607v29 M0 M ∧ 0 ≤ z ∧ z ≤ 1) = Q
  refine wk_al0 r3_0 (wk_getfr r3_1 fd_607_0 (br_607_0 hP0) (wk_getfr r3_4 fd_174_0 (br_174_0 hP0) (wk_as4 r3_7 rfl (wk_al0 r3_9 (wk_getfr r3_10 fd_607_2 (br_607_2 hP0) (wk_il1 r3_13 (wk_ialdb r3_14 ar_169 ⟨by omega, by omega⟩ (fun q0 q1 => ba_169 hP0 q0 q1) ?_)))))))
  intro v1 h3 h4 e2
  refine wk_c2 r3_15 (wk_idiv r3_17 ⟨by omega, by omega⟩ (by decide) (wk_is5 r3_18 rfl (wk_al4 r3_20 (wk_getfr r3_22 fd_176_0 (br_176_0 hP0) (wk_c2 r3_25 (wk_al0 r3_27 (wk_getfb r3_28 fd_607_5 (bf_607_5 hP0) ?_)))))))
  intro v6 h8 h9 e7
  refine wk_iadd r3_31 (wk_il2 r3_32 (wk_iadd r3_33 (wk_raldb r3_34 ar_182 ⟨by omega, by omega⟩ (fun q0 q1 => ba_182 hP0 q0 q1) (wk_as6 r3_35 rfl (wk_al4 r3_37 (wk_al0 r3_39 (wk_getfr r3_40 fd_607_1 (br_607_1 hP0) (wk_al0 r3_43 (wk_getfr r3_44 fd_607_2 (br_607_2 hP0) (wk_il1 r3_47 (wk_iald r3_48 ar_169 ⟨by omega, by omega⟩ e2 (wk_c2 r3_49 (wk_irem r3_51 ⟨by omega, by omega⟩ (by decide) (wk_caldb r3_52 ar_168 ⟨by omega, by omega⟩ (fun q0 q1 => ba_168 hP0 q0 q1) ?_))))))))))))))
  intro v10 e11
  have hC12 : isC v10 := Or.inr (by omega)
  refine wk_al6 r3_53 (wk_cv3 r3_55 kc_176_196 rfl (m196_176_f183 _ M0 v10 (183 + ((102 + v6) + p2)) hP0 hC12 (by omega) (by omega)) (cqV ?_))
  rintro M13 ⟨hP14, hQ15⟩
  have hF16 : Fr fm_m3_607v29 M0 M13 := hF0.tr hQ15 rfl
  refine wk_c1 r3_58 (wk_is7 r3_59 rfl (wk_c1 r3_61 (wk_is8 r3_62 rfl ?_)))
  have c64_165 : ∀ (k165 : Nat) (M118 : Mm) (v112 : Int) (v115 : Int), (2 - v115).toNat = k165 → Pw M118 → Fr fm_m3_607v29 M0 M118 → M118 607 5 = v6 → 0 ≤ v112 → v112 ≤ 1 → 0 ≤ v115 → v115 ≤ 2 → 0 ≤ (-1) * v112 + v115 + 1 → Wp B (d + 4) 3 64 [some (R 607), none, some (I p2), some (I p3), some (R 176), some (I (v1 / 30)), some (R (183 + ((102 + v6) + p2))), some (I v112), some (I v115)] [] M118 Q := by
    refine lp_ind ?_
    intro k165 ih165 M118 v112 v115 hk165 hP119 hF120 e121 h113 h114 h116 h117 h122
    refine wk_il8 r3_64 (wk_c1 r3_66 ?_)
    refine wk_icge r3_67 ⟨by omega, by omega⟩ (by decide) ?_ ?_
    · intro h123
      refine wk_al6 r3_162 (wk_c6 r3_164 (wk_cs102_2 r3_165 rfl (ct_fl (arF_183 (by omega) (by omega))) (cqV ?_)))
      intro M124 e125
      have hP126 : Pw M124 := by rw [e125]; exact hP119.fil (fun i => (uaF_183 (by omega) (by omega) ⟨by omega, by omega⟩))
      have hF127 : Fr fm_m3_607v29 M0 M124 := by rw [e125]; exact hF120.fil (fun i => by rw [(gr_183 (by omega) (by omega) i)]; rfl)
      refine wk_il7 r3_168 ?_
      subst hQ; exact wk_zret r3_170 ⟨by omega, by omega⟩ (⟨rfl, _, rfl, hP126, hF127, by omega, by omega⟩)
    · intro h128
      refine wk_il7 r3_70 ?_
      refine wk_ifeq r3_72 ⟨by omega, by omega⟩ ?_ ?_
      · intro h129
        refine wk_al6 r3_162 (wk_c6 r3_164 (wk_cs102_2 r3_165 rfl (ct_fl (arF_183 (by omega) (by omega))) (cqV ?_)))
        intro M130 e131
        have hP132 : Pw M130 := by rw [e131]; exact hP119.fil (fun i => (uaF_183 (by omega) (by omega) ⟨by omega, by omega⟩))
        have hF133 : Fr fm_m3_607v29 M0 M130 := by rw [e131]; exact hF120.fil (fun i => by rw [(gr_183 (by omega) (by omega) i)]; rfl)
        refine wk_il7 r3_168 ?_
        subst hQ; exact wk_zret r3_170 ⟨by omega, by omega⟩ (⟨rfl, _, rfl, hP132, hF133, by omega, by omega⟩)
      · intro h134
        refine wk_al0 r3_75 (wk_getfr r3_76 fd_607_0 (br_607_0 hP119) (wk_al0 r3_79 (wk_getfr r3_80 fd_607_3 (br_607_3 hP119) (wk_il2 r3_83 (wk_raldb r3_84 ar_608 ⟨by omega, by omega⟩ (fun q0 q1 => ba_608 hP119 q0 q1) (wk_il5 r3_85 (wk_il8 r3_87 (wk_al6 r3_89 (wk_al0 r3_91 (wk_getfr r3_92 fd_607_3 (br_607_3 hP119) (wk_il2 r3_95 (wk_c1 r3_96 (wk_iadd r3_97 (wk_raldb r3_98 ar_608 ⟨by omega, by omega⟩ (fun q0 q1 => ba_608 hP119 q0 q1) (wk_cv6 r3_99 kc_174_148 rfl (m148_174_f609_f183_f609v1 _ M118 (609 + p2) (v1 / 30) v115 (183 + ((102 + v6) + p2)) (609 + (p2 + 1)) hP119 (by omega) (by omega) (by omega) (by omega) (by omega) (by omega) (by omega) (by omega) (by omega) (by omega)) (cqV ?_))))))))))))))))
        rintro M135 ⟨hP136, hQ137⟩
        have hF138 : Fr fm_m3_607v29 M0 M135 := hF120.tr hQ137 rfl
        refine wk_al0 r3_102 (wk_getfr r3_103 fd_607_0 (br_607_0 hP136) (wk_al0 r3_106 (wk_getfr r3_107 fd_607_3 (br_607_3 hP136) (wk_il2 r3_110 (wk_c1 r3_111 (wk_iadd r3_112 (wk_raldb r3_113 ar_608 ⟨by omega, by omega⟩ (fun q0 q1 => ba_608 hP136 q0 q1) (wk_c1 r3_114 (wk_cv3 r3_115 kc_174_150 rfl (m150_174_f609 _ M135 (609 + (p2 + 1)) 1 hP136 (by omega) (by omega) (by decide) (by decide)) (cqI ?_))))))))))
        rintro v143 M139 ⟨hP140, hQ141, h144, h145⟩
        have hF142 : Fr fm_m3_607v29 M0 M139 := hF138.tr hQ141 rfl
        refine wk_ifne r3_118 ⟨by omega, by omega⟩ ?_ ?_
        · intro h146
          refine wk_inc8 r3_156 rfl (wk_goto r3_159 ?_)
          exact wp_fg (le_s (le_s (le_s (le_s (le_s (le_s (le_s (le_s (le_s le_0))))))))) (ih165 (2 - (v115 + 1)).toNat (by omega) M139 v112 (v115 + 1) rfl hP140 hF142 ((hQ141.at g_607_5 rfl).trans ((hQ137.at g_607_5 rfl).trans e121)) (by omega) (by omega) (by omega) (by omega) (by omega))
        · intro h147
          refine wk_al4 r3_121 (wk_il5 r3_123 (wk_cv2 r3_125 kc_176_200 rfl (m200_176 _ M139 (v1 / 30) hP140 (by omega) (by omega)) (cqV ?_)))
          rintro M148 ⟨hP149, hQ150⟩
          have hF151 : Fr fm_m3_607v29 M0 M148 := hF142.tr hQ150 rfl
          refine wk_al0 r3_128 (wk_il2 r3_129 (wk_c1 r3_130 (wk_iadd r3_131 (wk_il3 r3_132 (wk_c1 r3_133 (wk_isub r3_134 (wk_cv3 r3_135 kc_607_2 rfl (m2_607v8 _ M148 (p2 + 1) (p3 - 1) hP149 (by omega) (by omega) (by omega) (by omega)) (cqI ?_))))))))
          rintro v156 M152 ⟨hP153, hQ154, h157, h158⟩
          obtain rfl := Fr.same hQ154
          refine wk_c1 r3_138 ?_
          refine wk_iceq r3_139 ⟨by omega, by omega⟩ (by decide) ?_ ?_
          · intro h159
            refine wk_c1 r3_146 (wk_is7 r3_147 rfl (wk_al4 r3_149 (wk_il5 r3_151 (wk_cv2 r3_153 kc_176_200 rfl (m200_176 _ M148 (v1 / 30) hP149 (by omega) (by omega)) (cqV ?_)))))
            rintro M160 ⟨hP161, hQ162⟩
            have hF163 : Fr fm_m3_607v29 M0 M160 := hF151.tr hQ162 rfl
            refine wk_inc8 r3_156 rfl (wk_goto r3_159 ?_)
            exact wp_fg (le_s (le_s (le_s (le_s (le_s (le_s (le_s (le_s (le_s le_0))))))))) (ih165 (2 - (v115 + 1)).toNat (by omega) M160 0 (v115 + 1) rfl hP161 hF163 ((hQ162.at g_607_5 rfl).trans ((hQ150.at g_607_5 rfl).trans ((hQ141.at g_607_5 rfl).trans ((hQ137.at g_607_5 rfl).trans e121)))) (by omega) (by omega) (by omega) (by omega) (by omega))
          · intro h164
            exfalso
            omega
  exact wp_fg (le_s (le_n (le_s (le_s (le_s (le_s (le_s (le_s (le_s le_0))))))))) (c64_165 _ M13 1 0 rfl hP14 hF16 ((hQ15.at g_607_5 rfl).trans e7) (by omega) (by omega) (by omega) (by omega) (by omega))
def fm_m2_607v7 : Nat := 16741913844773229565887860231287872390430720
/-- IslandHall$Asker.opener -/
theorem m2_607v7 {B : eB} (d : Nat) (M0 : Mm) (p1 : Int) (p2 : Int) (hP0 : Pw M0) (l1 : 2 ≤ p1) (u1 : p1 ≤ 2) (l2 : 0 ≤ p2) (u2 : p2 ≤ 1) : Ct B (d + 6) 2 [R 607, I p1, I p2] M0 (qI fun z M => Pw M ∧ Fr fm_m2_607v7 M0 M ∧ (-1) ≤ z ∧ z ≤ 9) := by
  refine ct_of (d := d + 5) (k := 1) (L := [some (R 607), some (I p1), some (I p2), none]) rfl rfl rfl ?_
  have hF0 := Fr.rf fm_m2_607v7 M0
  generalize hQ : (qI fun z M => Pw M ∧ Fr fm_m2_607v7 M0 M ∧ (-1) ≤ z ∧ z ≤ 9) = Q
  refine wk_il2 r2_0 ?_
  refine wk_ifle r2_1 ⟨by omega, by omega⟩ ?_ ?_
  · intro h1
    refine wk_c1 r2_28 ?_
    subst hQ; exact wk_iret r2_29 (⟨rfl, _, rfl, hP0, hF0, by omega, by omega⟩)
  · intro h2
    refine wk_il1 r2_4 (wk_c1 r2_5 ?_)
    refine wk_icge r2_6 ⟨by omega, by omega⟩ (by decide) ?_ ?_
    · intro h3
      exfalso
      omega
    · intro h4
      refine wk_al0 r2_9 (wk_getfr r2_10 fd_607_0 (br_607_0 hP0) (wk_al0 r2_13 (wk_getfr r2_14 fd_607_3 (br_607_3 hP0) (wk_il1 r2_17 (wk_raldb r2_18 ar_608 ⟨by omega, by omega⟩ (fun q0 q1 => ba_608 hP0 q0 q1) (wk_c1 r2_19 (wk_il2 r2_20 (wk_shl1 1 2 r2_21 ⟨by omega, by omega⟩ ⟨pwl_1, by decide⟩ ?_))))))))
      intro v5 h6 h7 h8
      refine wk_cv3 r2_22 kc_174_150 rfl (m150_174_f609v1 _ M0 (609 + p1) v5 hP0 (by omega) (by omega) (by omega) (by omega)) (cqI ?_)
      rintro v13 M9 ⟨hP10, hQ11, h14, h15⟩
      have hF12 : Fr fm_m2_607v7 M0 M9 := hF0.tr hQ11 rfl
      refine wk_ifne r2_25 ⟨by omega, by omega⟩ ?_ ?_
      · intro h16
        refine wk_c1 r2_30 (wk_is3 r2_31 rfl ?_)
        have c32_185 : ∀ (k185 : Nat) (M167 : Mm) (v164 : Int), (10 - v164).toNat = k185 → Pw M167 → Fr fm_m2_607v7 M0 M167 → 0 ≤ v164 → v164 ≤ 10 → Wp B (d + 5) 2 32 [some (R 607), some (I p1), some (I p2), some (I v164)] [] M167 Q := by
          refine lp_ind ?_
          intro k185 ih185 M167 v164 hk185 hP168 hF169 h165 h166
          refine wk_il3 r2_32 (wk_al0 r2_33 (wk_getfb r2_34 fd_607_4 (bf_607_4 hP168) ?_))
          intro v170 h172 h173 e171
          refine wk_icge r2_37 ⟨by omega, by omega⟩ ⟨by omega, by omega⟩ ?_ ?_
          · intro h174
            refine wk_c1 r2_58 ?_
            subst hQ; exact wk_iret r2_59 (⟨rfl, _, rfl, hP168, hF169, by omega, by omega⟩)
          · intro h175
            refine wk_al0 r2_40 (wk_il3 r2_41 (wk_il1 r2_42 (wk_il2 r2_43 (wk_cv4 r2_44 kc_607_3 rfl (m3_607v29 _ M167 v164 p1 p2 hP168 (by omega) (by omega) (by omega) (by omega) (by omega) (by omega)) (cqI ?_)))))
            rintro v180 M176 ⟨hP177, hQ178, h181, h182⟩
            have hF179 : Fr fm_m2_607v7 M0 M176 := hF169.tr hQ178 rfl
            refine wk_ifeq r2_47 ⟨by omega, by omega⟩ ?_ ?_
            · intro h183
              refine wk_inc3 r2_52 rfl (wk_goto r2_55 ?_)
              exact wp_fg (le_s (le_s (le_s (le_s le_0)))) (ih185 (10 - (v164 + 1)).toNat (by omega) M176 (v164 + 1) rfl hP177 hF179 (by omega) (by omega))
            · intro h184
              refine wk_il3 r2_50 ?_
              subst hQ; exact wk_iret r2_51 (⟨rfl, _, rfl, hP177, hF179, by omega, by omega⟩)
        exact wp_fg (le_s (le_s (le_s (le_s le_0)))) (c32_185 _ M9 0 rfl hP10 hF12 (by omega) (by omega))
      · intro h186
        refine wk_c1 r2_28 ?_
        subst hQ; exact wk_iret r2_29 (⟨rfl, _, rfl, hP10, hF12, by omega, by omega⟩)
def fm_m3_607v35 : Nat := 16741913844773229565887860231287872390430720
/-- IslandHall$Asker.opens -/
theorem m3_607v35 {B : eB} (d : Nat) (M0 : Mm) (p1 : Int) (p2 : Int) (p3 : Int) (hP0 : Pw M0) (l1 : 0 ≤ p1) (u1 : p1 ≤ 9) (l2 : 1 ≤ p2) (u2 : p2 ≤ 1) (l3 : 1 ≤ p3) (u3 : p3 ≤ 2) : Ct B (d + 7) 3 [R 607, I p1, I p2, I p3] M0 (qI fun z M => Pw M ∧ Fr fm_m3_607v35 M0 M ∧ 0 ≤ z ∧ z ≤ 1) := by
  refine ct_of (d := d + 6) (k := 5) (L := [some (R 607), some (I p1), some (I p2), some (I p3), none, none, none, none, none]) rfl rfl rfl ?_
  have hF0 := Fr.rf fm_m3_607v35 M0
  generalize hQ : (qI fun z M => Pw M ∧ Fr fm_m3_607v35 M0 M ∧ 0 ≤ z ∧ z ≤ 1) = Q
  refine wk_al0 r3_0 (wk_getfr r3_1 fd_607_0 (br_607_0 hP0) (wk_getfr r3_4 fd_174_0 (br_174_0 hP0) (wk_as4 r3_7 rfl (wk_al0 r3_9 (wk_getfr r3_10 fd_607_2 (br_607_2 hP0) (wk_il1 r3_13 (wk_ialdb r3_14 ar_169 ⟨by omega, by omega⟩ (fun q0 q1 => ba_169 hP0 q0 q1) ?_)))))))
  intro v1 h3 h4 e2
  refine wk_c2 r3_15 (wk_idiv r3_17 ⟨by omega, by omega⟩ (by decide) (wk_is5 r3_18 rfl (wk_al4 r3_20 (wk_getfr r3_22 fd_176_0 (br_176_0 hP0) (wk_c2 r3_25 (wk_al0 r3_27 (wk_getfb r3_28 fd_607_5 (bf_607_5 hP0) ?_)))))))
  intro v6 h8 h9 e7
  refine wk_iadd r3_31 (wk_il2 r3_32 (wk_iadd r3_33 (wk_raldb r3_34 ar_182 ⟨by omega, by omega⟩ (fun q0 q1 => ba_182 hP0 q0 q1) (wk_as6 r3_35 rfl (wk_al4 r3_37 (wk_al0 r3_39 (wk_getfr r3_40 fd_607_1 (br_607_1 hP0) (wk_al0 r3_43 (wk_getfr r3_44 fd_607_2 (br_607_2 hP0) (wk_il1 r3_47 (wk_iald r3_48 ar_169 ⟨by omega, by omega⟩ e2 (wk_c2 r3_49 (wk_irem r3_51 ⟨by omega, by omega⟩ (by decide) (wk_caldb r3_52 ar_168 ⟨by omega, by omega⟩ (fun q0 q1 => ba_168 hP0 q0 q1) ?_))))))))))))))
  intro v10 e11
  have hC12 : isC v10 := Or.inr (by omega)
  refine wk_al6 r3_53 (wk_cv3 r3_55 kc_176_196 rfl (m196_176_f183 _ M0 v10 (183 + ((102 + v6) + p2)) hP0 hC12 (by omega) (by omega)) (cqV ?_))
  rintro M13 ⟨hP14, hQ15⟩
  have hF16 : Fr fm_m3_607v35 M0 M13 := hF0.tr hQ15 rfl
  refine wk_c1 r3_58 (wk_is7 r3_59 rfl (wk_c1 r3_61 (wk_is8 r3_62 rfl ?_)))
  have c64_177 : ∀ (k177 : Nat) (M126 : Mm) (v120 : Int) (v123 : Int), (2 - v123).toNat = k177 → Pw M126 → Fr fm_m3_607v35 M0 M126 → M126 607 5 = v6 → 0 ≤ v120 → v120 ≤ 1 → 0 ≤ v123 → v123 ≤ 2 → 0 ≤ (-1) * v120 + v123 + 1 → Wp B (d + 6) 3 64 [some (R 607), none, some (I p2), some (I p3), some (R 176), some (I (v1 / 30)), some (R (183 + ((102 + v6) + p2))), some (I v120), some (I v123)] [] M126 Q := by
    refine lp_ind ?_
    intro k177 ih177 M126 v120 v123 hk177 hP127 hF128 e129 h121 h122 h124 h125 h130
    refine wk_il8 r3_64 (wk_c1 r3_66 ?_)
    refine wk_icge r3_67 ⟨by omega, by omega⟩ (by decide) ?_ ?_
    · intro h131
      refine wk_al6 r3_162 (wk_c6 r3_164 (wk_cs102_2 r3_165 rfl (ct_fl (arF_183 (by omega) (by omega))) (cqV ?_)))
      intro M132 e133
      have hP134 : Pw M132 := by rw [e133]; exact hP127.fil (fun i => (uaF_183 (by omega) (by omega) ⟨by omega, by omega⟩))
      have hF135 : Fr fm_m3_607v35 M0 M132 := by rw [e133]; exact hF128.fil (fun i => by rw [(gr_183 (by omega) (by omega) i)]; rfl)
      refine wk_il7 r3_168 ?_
      subst hQ; exact wk_zret r3_170 ⟨by omega, by omega⟩ (⟨rfl, _, rfl, hP134, hF135, by omega, by omega⟩)
    · intro h136
      refine wk_il7 r3_70 ?_
      refine wk_ifeq r3_72 ⟨by omega, by omega⟩ ?_ ?_
      · intro h137
        refine wk_al6 r3_162 (wk_c6 r3_164 (wk_cs102_2 r3_165 rfl (ct_fl (arF_183 (by omega) (by omega))) (cqV ?_)))
        intro M138 e139
        have hP140 : Pw M138 := by rw [e139]; exact hP127.fil (fun i => (uaF_183 (by omega) (by omega) ⟨by omega, by omega⟩))
        have hF141 : Fr fm_m3_607v35 M0 M138 := by rw [e139]; exact hF128.fil (fun i => by rw [(gr_183 (by omega) (by omega) i)]; rfl)
        refine wk_il7 r3_168 ?_
        subst hQ; exact wk_zret r3_170 ⟨by omega, by omega⟩ (⟨rfl, _, rfl, hP140, hF141, by omega, by omega⟩)
      · intro h142
        refine wk_al0 r3_75 (wk_getfr r3_76 fd_607_0 (br_607_0 hP127) (wk_al0 r3_79 (wk_getfr r3_80 fd_607_3 (br_607_3 hP127) (wk_il2 r3_83 (wk_raldb r3_84 ar_608 ⟨by omega, by omega⟩ (fun q0 q1 => ba_608 hP127 q0 q1) (wk_il5 r3_85 (wk_il8 r3_87 (wk_al6 r3_89 (wk_al0 r3_91 (wk_getfr r3_92 fd_607_3 (br_607_3 hP127) (wk_il2 r3_95 (wk_c1 r3_96 (wk_iadd r3_97 (wk_raldb r3_98 ar_608 ⟨by omega, by omega⟩ (fun q0 q1 => ba_608 hP127 q0 q1) (wk_cv6 r3_99 kc_174_148 rfl (m148_174_f609_f183_f609v1 _ M126 (609 + p2) (v1 / 30) v123 (183 + ((102 + v6) + p2)) (609 + (p2 + 1)) hP127 (by omega) (by omega) (by omega) (by omega) (by omega) (by omega) (by omega) (by omega) (by omega) (by omega)) (cqV ?_))))))))))))))))
        rintro M143 ⟨hP144, hQ145⟩
        have hF146 : Fr fm_m3_607v35 M0 M143 := hF128.tr hQ145 rfl
        refine wk_al0 r3_102 (wk_getfr r3_103 fd_607_0 (br_607_0 hP144) (wk_al0 r3_106 (wk_getfr r3_107 fd_607_3 (br_607_3 hP144) (wk_il2 r3_110 (wk_c1 r3_111 (wk_iadd r3_112 (wk_raldb r3_113 ar_608 ⟨by omega, by omega⟩ (fun q0 q1 => ba_608 hP144 q0 q1) (wk_c1 r3_114 (wk_cv3 r3_115 kc_174_150 rfl (m150_174_f609 _ M143 (609 + (p2 + 1)) 1 hP144 (by omega) (by omega) (by decide) (by decide)) (cqI ?_))))))))))
        rintro v151 M147 ⟨hP148, hQ149, h152, h153⟩
        have hF150 : Fr fm_m3_607v35 M0 M147 := hF146.tr hQ149 rfl
        refine wk_ifne r3_118 ⟨by omega, by omega⟩ ?_ ?_
        · intro h154
          refine wk_inc8 r3_156 rfl (wk_goto r3_159 ?_)
          exact wp_fg (le_s (le_s (le_s (le_s (le_s (le_s (le_s (le_s (le_s le_0))))))))) (ih177 (2 - (v123 + 1)).toNat (by omega) M147 v120 (v123 + 1) rfl hP148 hF150 ((hQ149.at g_607_5 rfl).trans ((hQ145.at g_607_5 rfl).trans e129)) (by omega) (by omega) (by omega) (by omega) (by omega))
        · intro h155
          refine wk_al4 r3_121 (wk_il5 r3_123 (wk_cv2 r3_125 kc_176_200 rfl (m200_176 _ M147 (v1 / 30) hP148 (by omega) (by omega)) (cqV ?_)))
          rintro M156 ⟨hP157, hQ158⟩
          have hF159 : Fr fm_m3_607v35 M0 M156 := hF150.tr hQ158 rfl
          refine wk_al0 r3_128 (wk_il2 r3_129 (wk_c1 r3_130 (wk_iadd r3_131 (wk_il3 r3_132 (wk_c1 r3_133 (wk_isub r3_134 (wk_cv3 r3_135 kc_607_2 rfl (m2_607v7 _ M156 (p2 + 1) (p3 - 1) hP157 (by omega) (by omega) (by omega) (by omega)) (cqI ?_))))))))
          rintro v164 M160 ⟨hP161, hQ162, h165, h166⟩
          have hF163 : Fr fm_m3_607v35 M0 M160 := hF159.tr hQ162 rfl
          refine wk_c1 r3_138 ?_
          refine wk_iceq r3_139 ⟨by omega, by omega⟩ (by decide) ?_ ?_
          · intro h167
            refine wk_c1 r3_146 (wk_is7 r3_147 rfl (wk_al4 r3_149 (wk_il5 r3_151 (wk_cv2 r3_153 kc_176_200 rfl (m200_176 _ M160 (v1 / 30) hP161 (by omega) (by omega)) (cqV ?_)))))
            rintro M168 ⟨hP169, hQ170⟩
            have hF171 : Fr fm_m3_607v35 M0 M168 := hF163.tr hQ170 rfl
            refine wk_inc8 r3_156 rfl (wk_goto r3_159 ?_)
            exact wp_fg (le_s (le_s (le_s (le_s (le_s (le_s (le_s (le_s (le_s le_0))))))))) (ih177 (2 - (v123 + 1)).toNat (by omega) M168 0 (v123 + 1) rfl hP169 hF171 ((hQ170.at g_607_5 rfl).trans ((hQ162.at g_607_5 rfl).trans ((hQ158.at g_607_5 rfl).trans ((hQ149.at g_607_5 rfl).trans ((hQ145.at g_607_5 rfl).trans e129))))) (by omega) (by omega) (by omega) (by omega) (by omega))
          · intro h172
            refine wk_c1 r3_142 (wk_goto r3_143 (wk_is7 r3_147 rfl (wk_al4 r3_149 (wk_il5 r3_151 (wk_cv2 r3_153 kc_176_200 rfl (m200_176 _ M160 (v1 / 30) hP161 (by omega) (by omega)) (cqV ?_))))))
            rintro M173 ⟨hP174, hQ175⟩
            have hF176 : Fr fm_m3_607v35 M0 M173 := hF163.tr hQ175 rfl
            refine wk_inc8 r3_156 rfl (wk_goto r3_159 ?_)
            exact wp_fg (le_s (le_s (le_s (le_s (le_s (le_s (le_s (le_s (le_s le_0))))))))) (ih177 (2 - (v123 + 1)).toNat (by omega) M173 1 (v123 + 1) rfl hP174 hF176 ((hQ175.at g_607_5 rfl).trans ((hQ162.at g_607_5 rfl).trans ((hQ158.at g_607_5 rfl).trans ((hQ149.at g_607_5 rfl).trans ((hQ145.at g_607_5 rfl).trans e129))))) (by omega) (by omega) (by omega) (by omega) (by omega))
  exact wp_fg (le_s (le_n (le_s (le_s (le_s (le_s (le_s (le_s (le_s le_0))))))))) (c64_177 _ M13 1 0 rfl hP14 hF16 ((hQ15.at g_607_5 rfl).trans e7) (by omega) (by omega) (by omega) (by omega) (by omega))
def fm_m2_607v6 : Nat := 16741913844773229565887860231287872390430720
/-- IslandHall$Asker.opener -/
theorem m2_607v6 {B : eB} (d : Nat) (M0 : Mm) (p1 : Int) (p2 : Int) (hP0 : Pw M0) (l1 : 1 ≤ p1) (u1 : p1 ≤ 1) (l2 : 0 ≤ p2) (u2 : p2 ≤ 2) : Ct B (d + 8) 2 [R 607, I p1, I p2] M0 (qI fun z M => Pw M ∧ Fr fm_m2_607v6 M0 M ∧ (-1) ≤ z ∧ z ≤ 9) := by
  refine ct_of (d := d + 7) (k := 1) (L := [some (R 607), some (I p1), some (I p2), none]) rfl rfl rfl ?_
  have hF0 := Fr.rf fm_m2_607v6 M0
  generalize hQ : (qI fun z M => Pw M ∧ Fr fm_m2_607v6 M0 M ∧ (-1) ≤ z ∧ z ≤ 9) = Q
  refine wk_il2 r2_0 ?_
  refine wk_ifle r2_1 ⟨by omega, by omega⟩ ?_ ?_
  · intro h1
    refine wk_c1 r2_28 ?_
    subst hQ; exact wk_iret r2_29 (⟨rfl, _, rfl, hP0, hF0, by omega, by omega⟩)
  · intro h2
    refine wk_il1 r2_4 (wk_c1 r2_5 ?_)
    refine wk_icge r2_6 ⟨by omega, by omega⟩ (by decide) ?_ ?_
    · intro h3
      exfalso
      omega
    · intro h4
      refine wk_al0 r2_9 (wk_getfr r2_10 fd_607_0 (br_607_0 hP0) (wk_al0 r2_13 (wk_getfr r2_14 fd_607_3 (br_607_3 hP0) (wk_il1 r2_17 (wk_raldb r2_18 ar_608 ⟨by omega, by omega⟩ (fun q0 q1 => ba_608 hP0 q0 q1) (wk_c1 r2_19 (wk_il2 r2_20 (wk_shl1 2 4 r2_21 ⟨by omega, by omega⟩ ⟨pwl_2, by decide⟩ ?_))))))))
      intro v5 h6 h7 h8
      refine wk_cv3 r2_22 kc_174_150 rfl (m150_174_f609v2 _ M0 (609 + p1) v5 hP0 (by omega) (by omega) (by omega) (by omega)) (cqI ?_)
      rintro v13 M9 ⟨hP10, hQ11, h14, h15⟩
      have hF12 : Fr fm_m2_607v6 M0 M9 := hF0.tr hQ11 rfl
      refine wk_ifne r2_25 ⟨by omega, by omega⟩ ?_ ?_
      · intro h16
        refine wk_c1 r2_30 (wk_is3 r2_31 rfl ?_)
        have c32_185 : ∀ (k185 : Nat) (M167 : Mm) (v164 : Int), (10 - v164).toNat = k185 → Pw M167 → Fr fm_m2_607v6 M0 M167 → 0 ≤ v164 → v164 ≤ 10 → Wp B (d + 7) 2 32 [some (R 607), some (I p1), some (I p2), some (I v164)] [] M167 Q := by
          refine lp_ind ?_
          intro k185 ih185 M167 v164 hk185 hP168 hF169 h165 h166
          refine wk_il3 r2_32 (wk_al0 r2_33 (wk_getfb r2_34 fd_607_4 (bf_607_4 hP168) ?_))
          intro v170 h172 h173 e171
          refine wk_icge r2_37 ⟨by omega, by omega⟩ ⟨by omega, by omega⟩ ?_ ?_
          · intro h174
            refine wk_c1 r2_58 ?_
            subst hQ; exact wk_iret r2_59 (⟨rfl, _, rfl, hP168, hF169, by omega, by omega⟩)
          · intro h175
            refine wk_al0 r2_40 (wk_il3 r2_41 (wk_il1 r2_42 (wk_il2 r2_43 (wk_cv4 r2_44 kc_607_3 rfl (m3_607v35 _ M167 v164 p1 p2 hP168 (by omega) (by omega) (by omega) (by omega) (by omega) (by omega)) (cqI ?_)))))
            rintro v180 M176 ⟨hP177, hQ178, h181, h182⟩
            have hF179 : Fr fm_m2_607v6 M0 M176 := hF169.tr hQ178 rfl
            refine wk_ifeq r2_47 ⟨by omega, by omega⟩ ?_ ?_
            · intro h183
              refine wk_inc3 r2_52 rfl (wk_goto r2_55 ?_)
              exact wp_fg (le_s (le_s (le_s (le_s le_0)))) (ih185 (10 - (v164 + 1)).toNat (by omega) M176 (v164 + 1) rfl hP177 hF179 (by omega) (by omega))
            · intro h184
              refine wk_il3 r2_50 ?_
              subst hQ; exact wk_iret r2_51 (⟨rfl, _, rfl, hP177, hF179, by omega, by omega⟩)
        exact wp_fg (le_s (le_s (le_s (le_s le_0)))) (c32_185 _ M9 0 rfl hP10 hF12 (by omega) (by omega))
      · intro h186
        refine wk_c1 r2_28 ?_
        subst hQ; exact wk_iret r2_29 (⟨rfl, _, rfl, hP10, hF12, by omega, by omega⟩)
def fm_m3_607v41 : Nat := 16741913844773229565887860231287872390430720
/-- IslandHall$Asker.opens -/
theorem m3_607v41 {B : eB} (d : Nat) (M0 : Mm) (p1 : Int) (p2 : Int) (p3 : Int) (hP0 : Pw M0) (l1 : 0 ≤ p1) (u1 : p1 ≤ 9) (l2 : 0 ≤ p2) (u2 : p2 ≤ 0) (l3 : 1 ≤ p3) (u3 : p3 ≤ 3) : Ct B (d + 9) 3 [R 607, I p1, I p2, I p3] M0 (qI fun z M => Pw M ∧ Fr fm_m3_607v41 M0 M ∧ 0 ≤ z ∧ z ≤ 1) := by
  refine ct_of (d := d + 8) (k := 5) (L := [some (R 607), some (I p1), some (I p2), some (I p3), none, none, none, none, none]) rfl rfl rfl ?_
  have hF0 := Fr.rf fm_m3_607v41 M0
  generalize hQ : (qI fun z M => Pw M ∧ Fr fm_m3_607v41 M0 M ∧ 0 ≤ z ∧ z ≤ 1) = Q
  refine wk_al0 r3_0 (wk_getfr r3_1 fd_607_0 (br_607_0 hP0) (wk_getfr r3_4 fd_174_0 (br_174_0 hP0) (wk_as4 r3_7 rfl (wk_al0 r3_9 (wk_getfr r3_10 fd_607_2 (br_607_2 hP0) (wk_il1 r3_13 (wk_ialdb r3_14 ar_169 ⟨by omega, by omega⟩ (fun q0 q1 => ba_169 hP0 q0 q1) ?_)))))))
  intro v1 h3 h4 e2
  refine wk_c2 r3_15 (wk_idiv r3_17 ⟨by omega, by omega⟩ (by decide) (wk_is5 r3_18 rfl (wk_al4 r3_20 (wk_getfr r3_22 fd_176_0 (br_176_0 hP0) (wk_c2 r3_25 (wk_al0 r3_27 (wk_getfb r3_28 fd_607_5 (bf_607_5 hP0) ?_)))))))
  intro v6 h8 h9 e7
  refine wk_iadd r3_31 (wk_il2 r3_32 (wk_iadd r3_33 (wk_raldb r3_34 ar_182 ⟨by omega, by omega⟩ (fun q0 q1 => ba_182 hP0 q0 q1) (wk_as6 r3_35 rfl (wk_al4 r3_37 (wk_al0 r3_39 (wk_getfr r3_40 fd_607_1 (br_607_1 hP0) (wk_al0 r3_43 (wk_getfr r3_44 fd_607_2 (br_607_2 hP0) (wk_il1 r3_47 (wk_iald r3_48 ar_169 ⟨by omega, by omega⟩ e2 (wk_c2 r3_49 (wk_irem r3_51 ⟨by omega, by omega⟩ (by decide) (wk_caldb r3_52 ar_168 ⟨by omega, by omega⟩ (fun q0 q1 => ba_168 hP0 q0 q1) ?_))))))))))))))
  intro v10 e11
  have hC12 : isC v10 := Or.inr (by omega)
  refine wk_al6 r3_53 (wk_cv3 r3_55 kc_176_196 rfl (m196_176_f183 _ M0 v10 (183 + ((102 + v6) + p2)) hP0 hC12 (by omega) (by omega)) (cqV ?_))
  rintro M13 ⟨hP14, hQ15⟩
  have hF16 : Fr fm_m3_607v41 M0 M13 := hF0.tr hQ15 rfl
  refine wk_c1 r3_58 (wk_is7 r3_59 rfl (wk_c1 r3_61 (wk_is8 r3_62 rfl ?_)))
  have c64_177 : ∀ (k177 : Nat) (M126 : Mm) (v120 : Int) (v123 : Int), (2 - v123).toNat = k177 → Pw M126 → Fr fm_m3_607v41 M0 M126 → M126 607 5 = v6 → 0 ≤ v120 → v120 ≤ 1 → 0 ≤ v123 → v123 ≤ 2 → 0 ≤ (-1) * v120 + v123 + 1 → Wp B (d + 8) 3 64 [some (R 607), none, some (I p2), some (I p3), some (R 176), some (I (v1 / 30)), some (R (183 + ((102 + v6) + p2))), some (I v120), some (I v123)] [] M126 Q := by
    refine lp_ind ?_
    intro k177 ih177 M126 v120 v123 hk177 hP127 hF128 e129 h121 h122 h124 h125 h130
    refine wk_il8 r3_64 (wk_c1 r3_66 ?_)
    refine wk_icge r3_67 ⟨by omega, by omega⟩ (by decide) ?_ ?_
    · intro h131
      refine wk_al6 r3_162 (wk_c6 r3_164 (wk_cs102_2 r3_165 rfl (ct_fl (arF_183 (by omega) (by omega))) (cqV ?_)))
      intro M132 e133
      have hP134 : Pw M132 := by rw [e133]; exact hP127.fil (fun i => (uaF_183 (by omega) (by omega) ⟨by omega, by omega⟩))
      have hF135 : Fr fm_m3_607v41 M0 M132 := by rw [e133]; exact hF128.fil (fun i => by rw [(gr_183 (by omega) (by omega) i)]; rfl)
      refine wk_il7 r3_168 ?_
      subst hQ; exact wk_zret r3_170 ⟨by omega, by omega⟩ (⟨rfl, _, rfl, hP134, hF135, by omega, by omega⟩)
    · intro h136
      refine wk_il7 r3_70 ?_
      refine wk_ifeq r3_72 ⟨by omega, by omega⟩ ?_ ?_
      · intro h137
        refine wk_al6 r3_162 (wk_c6 r3_164 (wk_cs102_2 r3_165 rfl (ct_fl (arF_183 (by omega) (by omega))) (cqV ?_)))
        intro M138 e139
        have hP140 : Pw M138 := by rw [e139]; exact hP127.fil (fun i => (uaF_183 (by omega) (by omega) ⟨by omega, by omega⟩))
        have hF141 : Fr fm_m3_607v41 M0 M138 := by rw [e139]; exact hF128.fil (fun i => by rw [(gr_183 (by omega) (by omega) i)]; rfl)
        refine wk_il7 r3_168 ?_
        subst hQ; exact wk_zret r3_170 ⟨by omega, by omega⟩ (⟨rfl, _, rfl, hP140, hF141, by omega, by omega⟩)
      · intro h142
        refine wk_al0 r3_75 (wk_getfr r3_76 fd_607_0 (br_607_0 hP127) (wk_al0 r3_79 (wk_getfr r3_80 fd_607_3 (br_607_3 hP127) (wk_il2 r3_83 (wk_raldb r3_84 ar_608 ⟨by omega, by omega⟩ (fun q0 q1 => ba_608 hP127 q0 q1) (wk_il5 r3_85 (wk_il8 r3_87 (wk_al6 r3_89 (wk_al0 r3_91 (wk_getfr r3_92 fd_607_3 (br_607_3 hP127) (wk_il2 r3_95 (wk_c1 r3_96 (wk_iadd r3_97 (wk_raldb r3_98 ar_608 ⟨by omega, by omega⟩ (fun q0 q1 => ba_608 hP127 q0 q1) (wk_cv6 r3_99 kc_174_148 rfl (m148_174_f609_f183_f609v1 _ M126 (609 + p2) (v1 / 30) v123 (183 + ((102 + v6) + p2)) (609 + (p2 + 1)) hP127 (by omega) (by omega) (by omega) (by omega) (by omega) (by omega) (by omega) (by omega) (by omega) (by omega)) (cqV ?_))))))))))))))))
        rintro M143 ⟨hP144, hQ145⟩
        have hF146 : Fr fm_m3_607v41 M0 M143 := hF128.tr hQ145 rfl
        refine wk_al0 r3_102 (wk_getfr r3_103 fd_607_0 (br_607_0 hP144) (wk_al0 r3_106 (wk_getfr r3_107 fd_607_3 (br_607_3 hP144) (wk_il2 r3_110 (wk_c1 r3_111 (wk_iadd r3_112 (wk_raldb r3_113 ar_608 ⟨by omega, by omega⟩ (fun q0 q1 => ba_608 hP144 q0 q1) (wk_c1 r3_114 (wk_cv3 r3_115 kc_174_150 rfl (m150_174_f609 _ M143 (609 + (p2 + 1)) 1 hP144 (by omega) (by omega) (by decide) (by decide)) (cqI ?_))))))))))
        rintro v151 M147 ⟨hP148, hQ149, h152, h153⟩
        have hF150 : Fr fm_m3_607v41 M0 M147 := hF146.tr hQ149 rfl
        refine wk_ifne r3_118 ⟨by omega, by omega⟩ ?_ ?_
        · intro h154
          refine wk_inc8 r3_156 rfl (wk_goto r3_159 ?_)
          exact wp_fg (le_s (le_s (le_s (le_s (le_s (le_s (le_s (le_s (le_s le_0))))))))) (ih177 (2 - (v123 + 1)).toNat (by omega) M147 v120 (v123 + 1) rfl hP148 hF150 ((hQ149.at g_607_5 rfl).trans ((hQ145.at g_607_5 rfl).trans e129)) (by omega) (by omega) (by omega) (by omega) (by omega))
        · intro h155
          refine wk_al4 r3_121 (wk_il5 r3_123 (wk_cv2 r3_125 kc_176_200 rfl (m200_176 _ M147 (v1 / 30) hP148 (by omega) (by omega)) (cqV ?_)))
          rintro M156 ⟨hP157, hQ158⟩
          have hF159 : Fr fm_m3_607v41 M0 M156 := hF150.tr hQ158 rfl
          refine wk_al0 r3_128 (wk_il2 r3_129 (wk_c1 r3_130 (wk_iadd r3_131 (wk_il3 r3_132 (wk_c1 r3_133 (wk_isub r3_134 (wk_cv3 r3_135 kc_607_2 rfl (m2_607v6 _ M156 (p2 + 1) (p3 - 1) hP157 (by omega) (by omega) (by omega) (by omega)) (cqI ?_))))))))
          rintro v164 M160 ⟨hP161, hQ162, h165, h166⟩
          have hF163 : Fr fm_m3_607v41 M0 M160 := hF159.tr hQ162 rfl
          refine wk_c1 r3_138 ?_
          refine wk_iceq r3_139 ⟨by omega, by omega⟩ (by decide) ?_ ?_
          · intro h167
            refine wk_c1 r3_146 (wk_is7 r3_147 rfl (wk_al4 r3_149 (wk_il5 r3_151 (wk_cv2 r3_153 kc_176_200 rfl (m200_176 _ M160 (v1 / 30) hP161 (by omega) (by omega)) (cqV ?_)))))
            rintro M168 ⟨hP169, hQ170⟩
            have hF171 : Fr fm_m3_607v41 M0 M168 := hF163.tr hQ170 rfl
            refine wk_inc8 r3_156 rfl (wk_goto r3_159 ?_)
            exact wp_fg (le_s (le_s (le_s (le_s (le_s (le_s (le_s (le_s (le_s le_0))))))))) (ih177 (2 - (v123 + 1)).toNat (by omega) M168 0 (v123 + 1) rfl hP169 hF171 ((hQ170.at g_607_5 rfl).trans ((hQ162.at g_607_5 rfl).trans ((hQ158.at g_607_5 rfl).trans ((hQ149.at g_607_5 rfl).trans ((hQ145.at g_607_5 rfl).trans e129))))) (by omega) (by omega) (by omega) (by omega) (by omega))
          · intro h172
            refine wk_c1 r3_142 (wk_goto r3_143 (wk_is7 r3_147 rfl (wk_al4 r3_149 (wk_il5 r3_151 (wk_cv2 r3_153 kc_176_200 rfl (m200_176 _ M160 (v1 / 30) hP161 (by omega) (by omega)) (cqV ?_))))))
            rintro M173 ⟨hP174, hQ175⟩
            have hF176 : Fr fm_m3_607v41 M0 M173 := hF163.tr hQ175 rfl
            refine wk_inc8 r3_156 rfl (wk_goto r3_159 ?_)
            exact wp_fg (le_s (le_s (le_s (le_s (le_s (le_s (le_s (le_s (le_s le_0))))))))) (ih177 (2 - (v123 + 1)).toNat (by omega) M173 1 (v123 + 1) rfl hP174 hF176 ((hQ175.at g_607_5 rfl).trans ((hQ162.at g_607_5 rfl).trans ((hQ158.at g_607_5 rfl).trans ((hQ149.at g_607_5 rfl).trans ((hQ145.at g_607_5 rfl).trans e129))))) (by omega) (by omega) (by omega) (by omega) (by omega))
  exact wp_fg (le_s (le_n (le_s (le_s (le_s (le_s (le_s (le_s (le_s le_0))))))))) (c64_177 _ M13 1 0 rfl hP14 hF16 ((hQ15.at g_607_5 rfl).trans e7) (by omega) (by omega) (by omega) (by omega) (by omega))
def fm_m2_607v5 : Nat := 16741913844773229565887860231287872390430720
/-- IslandHall$Asker.opener -/
theorem m2_607v5 {B : eB} (d : Nat) (M0 : Mm) (p1 : Int) (p2 : Int) (hP0 : Pw M0) (l1 : 0 ≤ p1) (u1 : p1 ≤ 0) (l2 : 1 ≤ p2) (u2 : p2 ≤ 3) : Ct B (d + 10) 2 [R 607, I p1, I p2] M0 (qI fun z M => Pw M ∧ Fr fm_m2_607v5 M0 M ∧ (-1) ≤ z ∧ z ≤ 9) := by
  refine ct_of (d := d + 9) (k := 1) (L := [some (R 607), some (I p1), some (I p2), none]) rfl rfl rfl ?_
  have hF0 := Fr.rf fm_m2_607v5 M0
  generalize hQ : (qI fun z M => Pw M ∧ Fr fm_m2_607v5 M0 M ∧ (-1) ≤ z ∧ z ≤ 9) = Q
  refine wk_il2 r2_0 ?_
  refine wk_ifle r2_1 ⟨by omega, by omega⟩ ?_ ?_
  · intro h1
    exfalso
    omega
  · intro h2
    refine wk_il1 r2_4 (wk_c1 r2_5 ?_)
    refine wk_icge r2_6 ⟨by omega, by omega⟩ (by decide) ?_ ?_
    · intro h3
      exfalso
      omega
    · intro h4
      refine wk_al0 r2_9 (wk_getfr r2_10 fd_607_0 (br_607_0 hP0) (wk_al0 r2_13 (wk_getfr r2_14 fd_607_3 (br_607_3 hP0) (wk_il1 r2_17 (wk_raldb r2_18 ar_608 ⟨by omega, by omega⟩ (fun q0 q1 => ba_608 hP0 q0 q1) (wk_c1 r2_19 (wk_il2 r2_20 (wk_shl1 3 8 r2_21 ⟨by omega, by omega⟩ ⟨pwl_3, by decide⟩ ?_))))))))
      intro v5 h6 h7 h8
      refine wk_cv3 r2_22 kc_174_150 rfl (m150_174_f609v3 _ M0 (609 + p1) v5 hP0 (by omega) (by omega) (by omega) (by omega)) (cqI ?_)
      rintro v13 M9 ⟨hP10, hQ11, h14, h15⟩
      have hF12 : Fr fm_m2_607v5 M0 M9 := hF0.tr hQ11 rfl
      refine wk_ifne r2_25 ⟨by omega, by omega⟩ ?_ ?_
      · intro h16
        refine wk_c1 r2_30 (wk_is3 r2_31 rfl ?_)
        have c32_185 : ∀ (k185 : Nat) (M167 : Mm) (v164 : Int), (10 - v164).toNat = k185 → Pw M167 → Fr fm_m2_607v5 M0 M167 → 0 ≤ v164 → v164 ≤ 10 → Wp B (d + 9) 2 32 [some (R 607), some (I p1), some (I p2), some (I v164)] [] M167 Q := by
          refine lp_ind ?_
          intro k185 ih185 M167 v164 hk185 hP168 hF169 h165 h166
          refine wk_il3 r2_32 (wk_al0 r2_33 (wk_getfb r2_34 fd_607_4 (bf_607_4 hP168) ?_))
          intro v170 h172 h173 e171
          refine wk_icge r2_37 ⟨by omega, by omega⟩ ⟨by omega, by omega⟩ ?_ ?_
          · intro h174
            refine wk_c1 r2_58 ?_
            subst hQ; exact wk_iret r2_59 (⟨rfl, _, rfl, hP168, hF169, by omega, by omega⟩)
          · intro h175
            refine wk_al0 r2_40 (wk_il3 r2_41 (wk_il1 r2_42 (wk_il2 r2_43 (wk_cv4 r2_44 kc_607_3 rfl (m3_607v41 _ M167 v164 p1 p2 hP168 (by omega) (by omega) (by omega) (by omega) (by omega) (by omega)) (cqI ?_)))))
            rintro v180 M176 ⟨hP177, hQ178, h181, h182⟩
            have hF179 : Fr fm_m2_607v5 M0 M176 := hF169.tr hQ178 rfl
            refine wk_ifeq r2_47 ⟨by omega, by omega⟩ ?_ ?_
            · intro h183
              refine wk_inc3 r2_52 rfl (wk_goto r2_55 ?_)
              exact wp_fg (le_s (le_s (le_s (le_s le_0)))) (ih185 (10 - (v164 + 1)).toNat (by omega) M176 (v164 + 1) rfl hP177 hF179 (by omega) (by omega))
            · intro h184
              refine wk_il3 r2_50 ?_
              subst hQ; exact wk_iret r2_51 (⟨rfl, _, rfl, hP177, hF179, by omega, by omega⟩)
        exact wp_fg (le_s (le_s (le_s (le_s le_0)))) (c32_185 _ M9 0 rfl hP10 hF12 (by omega) (by omega))
      · intro h186
        refine wk_c1 r2_28 ?_
        subst hQ; exact wk_iret r2_29 (⟨rfl, _, rfl, hP10, hF12, by omega, by omega⟩)
def fm_m4_607 : Nat := 19181057850862516471993329417358786930147328
/-- IslandHall$Asker.search -/
theorem m4_607 {B : eB} (d : Nat) (M0 : Mm) (p1 : Int) (p2 : Int) (hP0 : Pw M0) (l1 : 0 ≤ p1) (u1 : p1 ≤ 10) (l2 : 0 ≤ p2) (u2 : p2 ≤ 12) : Ct B (d + 11) 4 [R 607, I p1, I p2] M0 (qI fun z M => Pw M ∧ Fr fm_m4_607 M0 M ∧ (-1) ≤ z ∧ z ≤ 3) := by
  refine ct_of (d := d + 10) (k := 2) (L := [some (R 607), some (I p1), some (I p2), none, none]) rfl rfl rfl ?_
  have hF0 := Fr.rf fm_m4_607 M0
  generalize hQ : (qI fun z M => Pw M ∧ Fr fm_m4_607 M0 M ∧ (-1) ≤ z ∧ z ≤ 3) = Q
  refine wk_al0 r4_0 (wk_il1 r4_1 (wk_putfi81 r4_2 fd_607_4 (wk_nw g_607_4 rfl hP0 hF0 (uf_607_4 ⟨by omega, by omega⟩) ?_)))
  intro M1 hP2 hF3 e4
  refine wk_al0 r4_5 (wk_il2 r4_6 (wk_putfi81 r4_7 fd_607_5 (wk_nw g_607_5 rfl hP2 hF3 (uf_607_5 ⟨by omega, by omega⟩) ?_)))
  intro M5 hP6 hF7 e8
  refine wk_al0 r4_10 (wk_getfr r4_11 fd_607_0 (br_607_0 hP6) (wk_cv1 r4_14 kc_174_145 rfl (m145_174 _ M5 hP6) (cqR ?_)))
  rintro v13 M9 ⟨hP10, hQ11, h14, h15⟩
  obtain rfl : v13 = 301 := by omega
  obtain rfl := Fr.same hQ11
  refine wk_c1 r4_17 (wk_al0 r4_18 (wk_getfr r4_19 fd_607_3 (br_607_3 hP6) (wk_c1 r4_22 (wk_raldb r4_23 ar_608 (by decide) (fun q0 q1 => ba_608 hP6 q0 q1) (wk_c1 r4_24 (wk_al0 r4_25 (wk_getfr r4_26 fd_607_0 (br_607_0 hP6) (wk_getfi r4_29 fd_174_1 (br_174_1 hP6) (wk_copy110 r4_32 (arF_301 (by omega) (by omega)) (arF_609 (by omega) (by omega)) ⟨by decide, by decide, by decide, by omega, by omega, by omega⟩ rfl (wk_nc (fun i => t4_609 rfl rfl (by omega) (by omega) i) hP6 hF7 (fun i h0 h1 => by have := b4_301 hP6 (a := 301) (by omega) (by omega) h0 (by omega); exact (u4_609 (by omega) (by omega) ⟨by omega, by omega, by omega⟩)) ?_))))))))))
  intro M16 hP17 hF18 e19
  refine wk_al0 r4_35 (wk_getfr r4_36 fd_607_0 (br_607_0 hP17) (wk_al0 r4_39 (wk_getfr r4_40 fd_607_3 (br_607_3 hP17) (wk_c1 r4_43 (wk_raldb r4_44 ar_608 (by decide) (fun q0 q1 => ba_608 hP17 q0 q1) (wk_c1 r4_45 (wk_cv3 r4_46 kc_174_150 rfl (m150_174_f609 _ M16 (609 + 0) 1 hP17 (by omega) (by omega) (by decide) (by decide)) (cqI ?_))))))))
  rintro v24 M20 ⟨hP21, hQ22, h25, h26⟩
  have hF23 : Fr fm_m4_607 M0 M20 := hF18.tr hQ22 rfl
  refine wk_ifeq r4_49 ⟨by omega, by omega⟩ ?_ ?_
  · intro h27
    refine wk_c1 r4_59 (wk_is3 r4_60 rfl ?_)
    have c61_120 : ∀ (k120 : Nat) (M100 : Mm) (v97 : Int), (4 - v97).toNat = k120 → Pw M100 → Fr fm_m4_607 M0 M100 → M100 607 4 = p1 → M100 607 5 = p2 → 1 ≤ v97 → v97 ≤ 4 → Wp B (d + 10) 4 61 [some (R 607), none, none, some (I v97), none] [] M100 Q := by
      refine lp_ind ?_
      intro k120 ih120 M100 v97 hk120 hP101 hF102 e103 e104 h98 h99
      refine wk_il3 r4_61 (wk_c1 r4_62 ?_)
      refine wk_icgt r4_63 ⟨by omega, by omega⟩ (by decide) ?_ ?_
      · intro h105
        refine wk_c1 r4_94 ?_
        subst hQ; exact wk_iret r4_95 (⟨rfl, _, rfl, hP101, hF102, by omega, by omega⟩)
      · intro h106
        refine wk_al0 r4_66 (wk_c1 r4_67 (wk_il3 r4_68 (wk_cv3 r4_69 kc_607_2 rfl (m2_607v5 _ M100 0 v97 hP101 (by decide) (by decide) (by omega) (by omega)) (cqI ?_))))
        rintro v111 M107 ⟨hP108, hQ109, h112, h113⟩
        have hF110 : Fr fm_m4_607 M0 M107 := hF102.tr hQ109 rfl
        refine wk_is4 r4_72 rfl (wk_il4 r4_74 (wk_c1 r4_76 ?_))
        refine wk_iceq r4_77 ⟨by omega, by omega⟩ (by decide) ?_ ?_
        · intro h114
          refine wk_inc3 r4_88 rfl (wk_goto r4_91 ?_)
          exact wp_fg (le_s (le_s (le_s (le_s (le_n le_0))))) (ih120 (4 - (v97 + 1)).toNat (by omega) M107 (v97 + 1) rfl hP108 hF110 ((hQ109.at g_607_4 rfl).trans e103) ((hQ109.at g_607_5 rfl).trans e104) (by omega) (by omega))
        · intro h115
          refine wk_al0 r4_80 (wk_il4 r4_81 (wk_putfi81 r4_83 fd_607_6 (wk_nw g_607_6 rfl hP108 hF110 (uf_607_6 ⟨by omega, by omega⟩) ?_)))
          intro M116 hP117 hF118 e119
          refine wk_il3 r4_86 ?_
          subst hQ; exact wk_iret r4_87 (⟨rfl, _, rfl, hP117, hF118, by omega, by omega⟩)
    exact wp_fg (le_s (le_n (le_n (le_s (le_s le_0))))) (c61_120 _ M20 1 rfl hP21 hF23 ((hQ22.at g_607_4 rfl).trans (cpy_no e19 (mUp_no e8 (mUp_at e4) (Or.inr (by decide))) (by decide))) ((hQ22.at g_607_5 rfl).trans (cpy_no e19 (mUp_at e8) (by decide))) (by omega) (by omega))
  · intro h121
    refine wk_al0 r4_52 (wk_c1 r4_53 (wk_putfi81 r4_54 fd_607_6 (wk_nw g_607_6 rfl hP21 hF23 (uf_607_6 (by decide)) ?_)))
    intro M122 hP123 hF124 e125
    refine wk_c1 r4_57 ?_
    subst hQ; exact wk_iret r4_58 (⟨rfl, _, rfl, hP123, hF124, by omega, by omega⟩)
def fm_m19_0 : Nat := 19185098909075569733174474152988617807495168
/-- IslandHall.fewest -/
theorem m19_0 {B : eB} (d : Nat) (M0 : Mm) (p1 : Int) (hP0 : Pw M0) (l1 : (-2147483648) ≤ p1) (u1 : p1 ≤ 2147483647) : Ct B (d + 12) 19 [R 0, I p1] M0 (qX 0 (fun M => Pw M ∧ Fr (fm_m19_0 ||| 1) M0 M ∧ M (-1) 0 = M0 (-1) 0 + 1) (qI fun z M => Pw M ∧ Fr fm_m19_0 M0 M ∧ (-2) ≤ z ∧ z ≤ 3)) := by
  refine ct_of (d := d + 11) (k := 0) (L := [some (R 0), some (I p1)]) rfl rfl rfl ?_
  have hF0 := Fr.rf fm_m19_0 M0
  generalize hQ : (qX 0 (fun M => Pw M ∧ Fr (fm_m19_0 ||| 1) M0 M ∧ M (-1) 0 = M0 (-1) 0 + 1) (qI fun z M => Pw M ∧ Fr fm_m19_0 M0 M ∧ (-2) ≤ z ∧ z ≤ 3)) = Q
  refine wk_il1 r19_0 (wk_cs102_1 r19_1 rfl (m29 _ M0 p1 hP0 (by omega) (by omega)) (cqX (fun _ _ x5 => by subst hQ; exact Or.inl ⟨rfl, x5.1, Fr.trx hF0 x5.2.1 rfl, (by rw [x5.2.2, hF0.at g_below rfl])⟩) (cqV ?_)))
  rintro M1 ⟨hP2, hQ3, h8, h9⟩
  obtain rfl := Fr.same hQ3
  refine wk_al0 r19_4 (wk_getfr r19_5 fd_0_6 (br_0_6 hP0) (wk_al0 r19_8 (wk_getfr r19_9 fd_0_7 (br_0_7 hP0) (wk_cv1 r19_12 kc_138_229 rfl (m229_138 _ M0 hP0) (cqR ?_)))))
  rintro v14 M10 ⟨hP11, hQ12, h15, h16⟩
  obtain rfl := Fr.same hQ12
  refine wk_cv2 r19_15 kc_10_194 rfl (m194_10_f155 _ M0 v14 hP0 (by omega) (by omega)) (cqI ?_)
  rintro v21 M17 ⟨hP18, hQ19, h22, h23⟩
  obtain rfl := Fr.same hQ19
  refine wk_c2 r19_18 ?_
  refine wk_icle r19_20 ⟨by omega, by omega⟩ (by decide) ?_ ?_
  · intro h24
    refine wk_al0 r19_26 (wk_getfr r19_27 fd_0_15 (br_0_15 hP0) (wk_al0 r19_30 (wk_getfr r19_31 fd_0_7 (br_0_7 hP0) (wk_il1 r19_34 (wk_cv3 r19_35 kc_174_146 rfl (m146_174_138 _ M0 p1 hP0 (by omega) (by omega)) (cqV ?_))))))
    rintro M25 ⟨hP26, hQ27⟩
    have hF28 : Fr fm_m19_0 M0 M25 := hF0.tr hQ27 rfl
    refine wk_al0 r19_38 (wk_getfr r19_39 fd_0_16 (br_0_16 hP26) (wk_al0 r19_42 (wk_getfb r19_43 fd_0_11 (bf_0_11 hP26) ?_)))
    intro v29 h31 h32 e30
    refine wk_al0 r19_46 (wk_getfr r19_47 fd_0_7 (br_0_7 hP26) (wk_getfb r19_50 fd_138_5 (bf_138_5 hP26) ?_))
    intro v33 h35 h36 e34
    refine wk_cv3 r19_53 kc_607_4 rfl (m4_607 _ M25 v29 v33 hP26 (by omega) (by omega) (by omega) (by omega)) (cqI ?_)
    rintro v41 M37 ⟨hP38, hQ39, h42, h43⟩
    have hF40 : Fr fm_m19_0 M0 M37 := hF28.tr hQ39 rfl
    subst hQ; exact wk_iret r19_56 (Or.inr ⟨rfl, _, rfl, hP38, hF40, by omega, by omega⟩)
  · intro h44
    refine wk_c2 r19_23 ?_
    subst hQ; exact wk_iret r19_25 (Or.inr ⟨rfl, _, rfl, hP0, hF0, by omega, by omega⟩)
def fm_m149_174_677 : Nat := 0
/-- IslandHall$Crowd.someOf -/
theorem m149_174_677 {B : eB} (d : Nat) (M0 : Mm) (hP0 : Pw M0)  : Ct B (d + 2) 149 [R 174, R 677] M0 (qI fun z M => Pw M ∧ Fr fm_m149_174_677 M0 M ∧ (-1) ≤ z ∧ z ≤ 299) := by
  refine ct_of (d := d + 1) (k := 1) (L := [some (R 174), some (R 677), none]) rfl rfl rfl ?_
  have hF0 := Fr.rf fm_m149_174_677 M0
  generalize hQ : (qI fun z M => Pw M ∧ Fr fm_m149_174_677 M0 M ∧ (-1) ≤ z ∧ z ≤ 299) = Q
  refine wk_c1 r149_0 (wk_is2 r149_1 rfl ?_)
  have c2_330 : ∀ (k330 : Nat) (v283 : Int), (5 - v283).toNat = k330 → 0 ≤ v283 → v283 ≤ 5 → Wp B (d + 1) 149 2 [some (R 174), some (R 677), some (I v283)] [] M0 Q := by
    refine lp_ind ?_
    intro k330 ih330 v283 hk330 h284 h285
    refine wk_il2 r149_2 (wk_al0 r149_3 (wk_getfr r149_4 fd_174_0 (br_174_0 hP0) (wk_getfb r149_7 fd_176_10 (bf_176_10 hP0) ?_)))
    intro v286 h288 h289 e287
    refine wk_icge r149_10 ⟨by omega, by omega⟩ ⟨by omega, by omega⟩ ?_ ?_
    · intro h290
      refine wk_c1 r149_49 ?_
      subst hQ; exact wk_iret r149_50 (⟨rfl, _, rfl, hP0, hF0, by omega, by omega⟩)
    · intro h291
      refine wk_al1 r149_13 (wk_il2 r149_14 (wk_laldb r149_15 (arF_677 (by omega) (by omega)) ⟨by omega, by omega⟩ (fun q0 q1 => ⟨(b4_677 hP0 (by omega) (by omega) q0 q1).1, (b4_677 hP0 (by omega) (by omega) q0 q1).2.1⟩) (by decide) ?_))
      intro n292 h294 h295 e293
      have h296 : v283 = 4 → n292 ≤ 17592186044415 := by have := b4_677 hP0 (a := 677) (i := v283) (by omega) (by omega) (by omega) (by omega); omega
      refine wk_c6 r149_16 ?_
      refine wk_lcmp r149_17 (by omega) (by omega) ?_ ?_
      · intro h297
        refine wk_ifeq r149_18 (by decide) ?_ ?_
        · intro h303
          refine wk_inc2 r149_43 rfl (wk_goto r149_46 ?_)
          exact wp_fg (le_s (le_s (le_s le_0))) (ih330 (5 - (v283 + 1)).toNat (by omega) (v283 + 1) rfl (by omega) (by omega))
        · intro h304
          exfalso
          omega
      · intro h298 v302 h299 h300 h301
        refine wk_ifeq r149_18 ⟨by omega, by omega⟩ ?_ ?_
        · intro h305
          exfalso
          omega
        · intro h306
          refine wk_c2 r149_21 (wk_il2 r149_23 (wk_imul r149_24 (wk_al1 r149_25 (wk_il2 r149_26 (wk_lald r149_27 (arF_677 (by omega) (by omega)) ⟨by omega, by omega⟩ e293 (wk_c7 r149_28 (wk_lxor r149_31 ?_)))))))
          intro n308 h309 h310
          refine wk_al1 r149_32 (wk_il2 r149_33 (wk_lald r149_34 (arF_677 (by omega) (by omega)) ⟨by omega, by omega⟩ e293 (wk_c6 r149_35 (wk_lsubb r149_36 (by omega) ?_))))
          intro n312 h314 h313
          refine wk_land r149_37 ?_
          intro n315 h316 h317 h318 h319
          refine wk_cs102_1 r149_38 rfl (m245 _ M0 n315 hP0 (by omega)) (cqI ?_)
          rintro v325 M320 ⟨hP321, hQ322, h326, h327, xh324⟩
          obtain rfl := Fr.same hQ322
          have h328 := tz_b (by omega) (by omega) h310 h313 h319
          have h329 : 64 * v283 + v325 ≤ 299 := by omega
          refine wk_iadd r149_41 ?_
          subst hQ; exact wk_iret r149_42 (⟨rfl, _, rfl, hP0, hF0, by omega, by omega⟩)
  exact wp_fg (le_s (le_s (le_s le_0))) (c2_330 _ 0 rfl (by omega) (by omega))
def fm_m151_174_677 : Nat := 0
/-- IslandHall$Crowd.tellsOne -/
theorem m151_174_677 {B : eB} (d : Nat) (M0 : Mm) (hP0 : Pw M0)  : Ct B (d + 3) 151 [R 174, R 677] M0 (qI fun z M => Pw M ∧ Fr fm_m151_174_677 M0 M ∧ 0 ≤ z ∧ z ≤ 1) := by
  refine ct_of (d := d + 2) (k := 3) (L := [some (R 174), some (R 677), none, none, none]) rfl rfl rfl ?_
  have hF0 := Fr.rf fm_m151_174_677 M0
  generalize hQ : (qI fun z M => Pw M ∧ Fr fm_m151_174_677 M0 M ∧ 0 ≤ z ∧ z ≤ 1) = Q
  refine wk_al0 r151_0 (wk_al1 r151_1 (wk_cv2 r151_2 kc_174_149 rfl (m149_174_677 _ M0 hP0) (cqI ?_)))
  rintro v5 M1 ⟨hP2, hQ3, h6, h7⟩
  obtain rfl := Fr.same hQ3
  refine wk_is2 r151_5 rfl (wk_il2 r151_6 (wk_c1 r151_7 ?_))
  refine wk_icne r151_8 ⟨by omega, by omega⟩ (by decide) ?_ ?_
  · intro h8
    refine wk_al0 r151_13 (wk_getfr r151_14 fd_174_3 (br_174_3 hP0) (wk_al0 r151_17 (wk_getfr r151_18 fd_174_2 (br_174_2 hP0) (wk_il2 r151_21 (wk_ialdb r151_22 ar_304 ⟨by omega, by omega⟩ (fun q0 q1 => ba_304 hP0 q0 q1) ?_)))))
    intro v9 h11 h12 e10
    refine wk_raldb r151_23 ar_305 ⟨by omega, by omega⟩ (fun q0 q1 => ba_305 hP0 q0 q1) (wk_as3 r151_24 rfl (wk_c1 r151_25 (wk_is4 r151_26 rfl ?_)))
    have c28_265 : ∀ (k265 : Nat) (v229 : Int), (5 - v229).toNat = k265 → 0 ≤ v229 → v229 ≤ 5 → Wp B (d + 2) 151 28 [some (R 174), some (R 677), none, some (R (306 + v9)), some (I v229)] [] M0 Q := by
      refine lp_ind ?_
      intro k265 ih265 v229 hk265 h230 h231
      refine wk_il4 r151_28 (wk_al0 r151_30 (wk_getfr r151_31 fd_174_0 (br_174_0 hP0) (wk_getfb r151_34 fd_176_10 (bf_176_10 hP0) ?_)))
      intro v232 h234 h235 e233
      refine wk_icge r151_37 ⟨by omega, by omega⟩ ⟨by omega, by omega⟩ ?_ ?_
      · intro h236
        refine wk_c1 r151_66 ?_
        subst hQ; exact wk_zret r151_67 (by decide) (⟨rfl, _, rfl, hP0, hF0, by omega, by omega⟩)
      · intro h237
        refine wk_al1 r151_40 (wk_il4 r151_41 (wk_laldb r151_43 (arF_677 (by omega) (by omega)) ⟨by omega, by omega⟩ (fun q0 q1 => ⟨(b4_677 hP0 (by omega) (by omega) q0 q1).1, (b4_677 hP0 (by omega) (by omega) q0 q1).2.1⟩) (by decide) ?_))
        intro n238 h240 h241 e239
        have h242 : v229 = 4 → n238 ≤ 17592186044415 := by have := b4_677 hP0 (a := 677) (i := v229) (by omega) (by omega) (by omega) (by omega); omega
        refine wk_al3 r151_44 (wk_il4 r151_45 (wk_laldb r151_47 (arF_306 (by omega) (by omega)) ⟨by omega, by omega⟩ (fun q0 q1 => baF_306 hP0 (by omega) (by omega) q0 q1) (by decide) ?_))
        intro n243 h245 h246 e244
        refine wk_c7 r151_48 (wk_lxor r151_51 ?_)
        intro n247 h248 h249
        refine wk_land r151_52 ?_
        intro n250 h251 h252 h253 h254
        refine wk_c6 r151_53 ?_
        refine wk_lcmp r151_54 (by omega) (by omega) ?_ ?_
        · intro h255
          refine wk_ifeq r151_55 (by decide) ?_ ?_
          · intro h261
            refine wk_inc4 r151_60 rfl (wk_goto r151_63 ?_)
            exact wp_fg (le_s (le_s (le_s (le_s (le_s le_0))))) (ih265 (5 - (v229 + 1)).toNat (by omega) (v229 + 1) rfl (by omega) (by omega))
          · intro h262
            exfalso
            omega
        · intro h256 v260 h257 h258 h259
          refine wk_ifeq r151_55 ⟨by omega, by omega⟩ ?_ ?_
          · intro h263
            exfalso
            omega
          · intro h264
            refine wk_c1 r151_58 ?_
            subst hQ; exact wk_zret r151_59 (by decide) (⟨rfl, _, rfl, hP0, hF0, by omega, by omega⟩)
    exact wp_fg (le_s (le_s (le_n (le_s (le_s le_0))))) (c28_265 _ 0 rfl (by omega) (by omega))
  · intro h266
    refine wk_c1 r151_11 ?_
    subst hQ; exact wk_zret r151_12 (by decide) (⟨rfl, _, rfl, hP0, hF0, by omega, by omega⟩)
def fm_m148_174_301_f616_677v5 : Nat := 2192252455996354377305527249074424529483898814464
/-- IslandHall$Crowd.narrow -/
theorem m148_174_301_f616_677v5 {B : eB} (d : Nat) (M0 : Mm) (p2 : Int) (p3 : Int) (a4 : Int) (hP0 : Pw M0) (l2 : 0 ≤ p2) (u2 : p2 ≤ 6) (l3 : (-1) ≤ p3) (u3 : p3 ≤ (-1)) (ha4 : 616 ≤ a4) (hb4 : a4 ≤ 645) : Ct B (d + 2) 148 [R 174, R 301, I p2, I p3, R a4, R 677] M0 (qV fun M => Pw M ∧ Fr fm_m148_174_301_f616_677v5 M0 M) := by
  refine ct_of (d := d + 1) (k := 4) (L := [some (R 174), some (R 301), some (I p2), some (I p3), some (R a4), some (R 677), none, none, none, none]) rfl rfl rfl ?_
  have hF0 := Fr.rf fm_m148_174_301_f616_677v5 M0
  generalize hQ : (qV fun M => Pw M ∧ Fr fm_m148_174_301_f616_677v5 M0 M) = Q
  refine wk_al0 r148_0 (wk_getfr r148_1 fd_174_0 (br_174_0 hP0) (wk_il2 r148_4 (wk_cv2 r148_5 kc_176_190 rfl (m190_176 _ M0 p2 hP0 (by omega) (by omega)) (cqR ?_))))
  rintro v5 M1 ⟨hP2, hQ3, h6, h7⟩
  obtain rfl := Fr.same hQ3
  refine wk_as6 r148_8 rfl (wk_al0 r148_10 (wk_getfr r148_11 fd_174_0 (br_174_0 hP0) (wk_il2 r148_14 (wk_cv2 r148_15 kc_176_193 rfl (m193_176 _ M0 p2 hP0 (by omega) (by omega)) (cqR ?_)))))
  rintro v12 M8 ⟨hP9, hQ10, h13, h14⟩
  obtain rfl := Fr.same hQ10
  refine wk_as7 r148_18 rfl (wk_al0 r148_20 (wk_getfr r148_21 fd_174_0 (br_174_0 hP0) (wk_il3 r148_24 (wk_cv2 r148_25 kc_176_208 rfl (m208_176 _ M0 p3 hP0 (by omega) (by omega)) (cqR ?_)))))
  rintro v19 M15 ⟨hP16, hQ17, h20, h21⟩
  obtain rfl : v19 = 301 := by omega
  obtain rfl := Fr.same hQ17
  refine wk_as8 r148_28 rfl (wk_c1 r148_30 (wk_is9 r148_31 rfl ?_))
  have c33_365 : ∀ (k365 : Nat) (M319 : Mm) (v316 : Int), (5 - v316).toNat = k365 → Pw M319 → Fr fm_m148_174_301_f616_677v5 M0 M319 → 0 ≤ v316 → v316 ≤ 5 → Wp B (d + 1) 148 33 [some (R 174), some (R 301), none, none, some (R a4), some (R 677), some (R v5), some (R v12), some (R 301), some (I v316)] [] M319 Q := by
    refine lp_ind ?_
    intro k365 ih365 M319 v316 hk365 hP320 hF321 h317 h318
    refine wk_il9 r148_33 (wk_al0 r148_35 (wk_getfr r148_36 fd_174_0 (br_174_0 hP320) (wk_getfb r148_39 fd_176_10 (bf_176_10 hP320) ?_)))
    intro v322 h324 h325 e323
    refine wk_icge r148_42 ⟨by omega, by omega⟩ ⟨by omega, by omega⟩ ?_ ?_
    · intro h326
      subst hQ; exact wk_ret r148_84 (⟨rfl, hP320, hF321⟩)
    · intro h327
      refine wk_al5 r148_45 (wk_il9 r148_47 (wk_al1 r148_49 (wk_il9 r148_50 (wk_laldb r148_52 (arF_301 (by omega) (by omega)) ⟨by omega, by omega⟩ (fun q0 q1 => ⟨(b4_301 hP320 (by omega) (by omega) q0 q1).1, (b4_301 hP320 (by omega) (by omega) q0 q1).2.1⟩) (by decide) ?_))))
      intro n328 h330 h331 e329
      have h332 : v316 = 4 → n328 ≤ 17592186044415 := by have := b4_301 hP320 (a := 301) (i := v316) (by omega) (by omega) (by omega) (by omega); omega
      refine wk_al6 r148_53 (wk_il9 r148_55 (wk_laldb r148_57 (arF_183 (by omega) (by omega)) ⟨by omega, by omega⟩ (fun q0 q1 => baF_183 hP320 (by omega) (by omega) q0 q1) (by decide) ?_))
      intro n333 h335 h336 e334
      refine wk_al8 r148_58 (wk_il9 r148_60 (wk_lald r148_62 (arF_301 (by omega) (by omega)) ⟨by omega, by omega⟩ e329 (wk_al4 r148_63 (wk_il9 r148_65 (wk_laldb r148_67 (arF_616 (by omega) (by omega)) ⟨by omega, by omega⟩ (fun q0 q1 => baF_616 hP320 (by omega) (by omega) q0 q1) (by decide) ?_)))))
      intro n338 h340 h341 e339
      refine wk_lxor r148_68 ?_
      intro n342 h343 h344
      refine wk_al7 r148_69 (wk_il9 r148_71 (wk_laldb r148_73 (arF_183 (by omega) (by omega)) ⟨by omega, by omega⟩ (fun q0 q1 => baF_183 hP320 (by omega) (by omega) q0 q1) (by decide) ?_))
      intro n345 h347 h348 e346
      refine wk_lxor r148_74 ?_
      intro n349 h350 h351
      refine wk_lorb r148_75 ?_
      intro n352 h353 h354 h355
      refine wk_land r148_76 ?_
      intro n356 h357 h358 h359 h360
      refine wk_last r148_77 (arF_677 (by omega) (by omega)) ⟨by omega, by omega⟩ (wk_nwt (t4_677 rfl rfl (by omega) (by omega) _) hP320 hF321 (u4_677 (by omega) (by omega) ⟨by omega, by omega, by omega⟩) ?_)
      intro M361 hP362 hF363 e364
      refine wk_inc9 r148_78 rfl (wk_goto r148_81 ?_)
      exact wp_fg (le_s (le_s (le_s (le_s (le_s (le_s (le_s (le_s (le_s (le_s le_0)))))))))) (ih365 (5 - (v316 + 1)).toNat (by omega) M361 (v316 + 1) rfl hP362 hF363 (by omega) (by omega))
  exact wp_fg (le_s (le_s (le_n (le_n (le_s (le_s (le_s (le_s (le_s (le_s le_0)))))))))) (c33_365 _ M0 0 rfl hP0 hF0 (by omega) (by omega))
def fm_m214_613 : Nat := 2226506400621297414450926112341212412757084733440
/-- IslandHall$Riddler.tellsAlone -/
theorem m214_613 {B : eB} (d : Nat) (M0 : Mm) (hP0 : Pw M0)  : Ct B (d + 4) 214 [R 613] M0 (qI fun z M => Pw M ∧ Fr fm_m214_613 M0 M ∧ 0 ≤ z ∧ z ≤ 1) := by
  refine ct_of (d := d + 3) (k := 2) (L := [some (R 613), none, none]) rfl rfl rfl ?_
  have hF0 := Fr.rf fm_m214_613 M0
  generalize hQ : (qI fun z M => Pw M ∧ Fr fm_m214_613 M0 M ∧ 0 ≤ z ∧ z ≤ 1) = Q
  refine wk_c1 r214_0 (wk_is1 r214_1 rfl ?_)
  have c2_612 : ∀ (k612 : Nat) (M561 : Mm) (v558 : Int), (7 - v558).toNat = k612 → Pw M561 → Fr fm_m214_613 M0 M561 → 0 ≤ v558 → v558 ≤ 7 → Wp B (d + 3) 214 2 [some (R 613), some (I v558), none] [] M561 Q := by
    refine lp_ind ?_
    intro k612 ih612 M561 v558 hk612 hP562 hF563 h559 h560
    refine wk_il1 r214_2 (wk_al0 r214_3 (wk_getfr r214_4 fd_613_0 (br_613_0 hP562) (wk_getfr r214_7 fd_174_0 (br_174_0 hP562) (wk_getfb r214_10 fd_176_7 (bf_176_7 hP562) ?_))))
    intro v564 h566 h567 e565
    refine wk_icge r214_13 ⟨by omega, by omega⟩ ⟨by omega, by omega⟩ ?_ ?_
    · intro h568
      refine wk_c1 r214_97 ?_
      subst hQ; exact wk_zret r214_98 (by decide) (⟨rfl, _, rfl, hP562, hF563, by omega, by omega⟩)
    · intro h569
      refine wk_c1 r214_16 (wk_is2 r214_17 rfl ?_)
      have c18_611 : ∀ (k611 : Nat) (M573 : Mm) (v570 : Int), (30 - v570).toNat = k611 → Pw M573 → Fr fm_m214_613 M0 M573 → M573 176 7 = v564 → 0 ≤ v570 → v570 ≤ 30 → Wp B (d + 3) 214 18 [some (R 613), some (I v558), some (I v570)] [] M573 Q := by
        refine lp_ind ?_
        intro k611 ih611 M573 v570 hk611 hP574 hF575 e576 h571 h572
        refine wk_il2 r214_18 (wk_al0 r214_19 (wk_getfb r214_20 fd_613_6 (bf_613_6 hP574) ?_))
        intro v577 h579 h580 e578
        refine wk_icge r214_23 ⟨by omega, by omega⟩ ⟨by omega, by omega⟩ ?_ ?_
        · intro h581
          refine wk_inc1 r214_91 rfl (wk_goto r214_94 ?_)
          exact wp_fg (le_s (le_s (le_n le_0))) (ih612 (7 - (v558 + 1)).toNat (by omega) M573 (v558 + 1) rfl hP574 hF575 (by omega) (by omega))
        · intro h582
          refine wk_al0 r214_26 (wk_getfr r214_27 fd_613_0 (br_613_0 hP574) (wk_al0 r214_30 (wk_getfr r214_31 fd_613_0 (br_613_0 hP574) (wk_cv1 r214_34 kc_174_145 rfl (m145_174 _ M573 hP574) (cqR ?_)))))
          rintro v587 M583 ⟨hP584, hQ585, h588, h589⟩
          obtain rfl : v587 = 301 := by omega
          obtain rfl := Fr.same hQ585
          refine wk_il1 r214_37 (wk_c1 r214_38 (wk_al0 r214_39 (wk_getfr r214_40 fd_613_2 (br_613_2 hP574) (wk_il2 r214_43 (wk_raldb r214_44 ar_615 ⟨by omega, by omega⟩ (fun q0 q1 => ba_615 hP574 q0 q1) (wk_al0 r214_45 (wk_getfr r214_46 fd_613_4 (br_613_4 hP574) (wk_cv6 r214_49 kc_174_148 rfl (m148_174_301_f616_677v5 _ M573 v558 (-1) (616 + v570) hP574 (by omega) (by omega) (by decide) (by decide) (by omega) (by omega)) (cqV ?_)))))))))
          rintro M590 ⟨hP591, hQ592⟩
          have hF593 : Fr fm_m214_613 M0 M590 := hF575.tr hQ592 rfl
          refine wk_al0 r214_52 (wk_getfr r214_53 fd_613_0 (br_613_0 hP591) (wk_al0 r214_56 (wk_getfr r214_57 fd_613_4 (br_613_4 hP591) (wk_cv2 r214_60 kc_174_151 rfl (m151_174_677 _ M590 hP591) (cqI ?_)))))
          rintro v598 M594 ⟨hP595, hQ596, h599, h600⟩
          obtain rfl := Fr.same hQ596
          refine wk_ifeq r214_63 ⟨by omega, by omega⟩ ?_ ?_
          · intro h601
            refine wk_inc2 r214_85 rfl (wk_goto r214_88 ?_)
            exact wp_fg (le_s (le_s (le_s le_0))) (ih611 (30 - (v570 + 1)).toNat (by omega) M590 (v570 + 1) rfl hP591 hF593 ((hQ592.at g_176_7 rfl).trans e576) (by omega) (by omega))
          · intro h602
            refine wk_al0 r214_66 (wk_getfr r214_67 fd_613_8 (br_613_8 hP591) (wk_c1 r214_70 (wk_c2 r214_71 (wk_il1 r214_73 (wk_imul r214_74 (wk_il2 r214_75 (wk_iadd r214_76 (wk_iast r214_77 ar_614 (by decide) (wk_nw (ga_614 _) rfl hP591 hF593 (ua_614 ⟨by omega, by omega⟩) ?_)))))))))
            intro M603 hP604 hF605 e606
            refine wk_al0 r214_78 (wk_c1 r214_79 (wk_putfi81 r214_80 fd_613_9 (wk_nw g_613_9 rfl hP604 hF605 (uf_613_9 (by decide)) ?_)))
            intro M607 hP608 hF609 e610
            refine wk_c1 r214_83 ?_
            subst hQ; exact wk_zret r214_84 (by decide) (⟨rfl, _, rfl, hP608, hF609, by omega, by omega⟩)
      exact wp_fg (le_s (le_s (le_s le_0))) (c18_611 _ M561 0 rfl hP562 hF563 e565 (by omega) (by omega))
  exact wp_fg (le_s (le_s (le_s le_0))) (c2_612 _ M0 0 rfl hP0 hF0 (by omega) (by omega))
def fm_m196_176_f616 : Nat := 91343852333264509137466859286824176669763305472
/-- IslandHall$Realm.judge -/
theorem m196_176_f616 {B : eB} (d : Nat) (M0 : Mm) (c1 : Int) (a2 : Int) (hP0 : Pw M0) (hC1 : isC c1) (ha2 : 616 ≤ a2) (hb2 : a2 ≤ 645) : Ct B (d + 4) 196 [R 176, R c1, R a2] M0 (qV fun M => Pw M ∧ Fr fm_m196_176_f616 M0 M) := by
  refine ct_of (d := d + 3) (k := 1) (L := [some (R 176), some (R c1), some (R a2), none]) rfl rfl rfl ?_
  have hF0 := Fr.rf fm_m196_176_f616 M0
  generalize hQ : (qV fun M => Pw M ∧ Fr fm_m196_176_f616 M0 M) = Q
  refine wk_c1 r196_0 (wk_is3 r196_1 rfl ?_)
  have c2_155 : ∀ (k155 : Nat) (M136 : Mm) (v133 : Int), (5 - v133).toNat = k155 → Pw M136 → Fr fm_m196_176_f616 M0 M136 → 0 ≤ v133 → v133 ≤ 5 → Wp B (d + 3) 196 2 [some (R 176), some (R c1), some (R a2), some (I v133)] [] M136 Q := by
    refine lp_ind ?_
    intro k155 ih155 M136 v133 hk155 hP137 hF138 h134 h135
    refine wk_il3 r196_2 (wk_al0 r196_3 (wk_getfb r196_4 fd_176_10 (bf_176_10 hP137) ?_))
    intro v139 h141 h142 e140
    refine wk_icge r196_7 ⟨by omega, by omega⟩ ⟨by omega, by omega⟩ ?_ ?_
    · intro h143
      subst hQ; exact wk_ret r196_25 (⟨rfl, hP137, hF138⟩)
    · intro h144
      refine wk_al2 r196_10 (wk_il3 r196_11 (wk_al0 r196_12 (wk_al1 r196_13 (wk_il3 r196_14 (wk_cv3 r196_15 kc_176_207 rfl (m207_176v4 _ M136 c1 v133 hP137 hC1 (by omega) (by omega)) (cqL ?_))))))
      rintro n149 M145 ⟨hP146, hQ147, h150⟩
      have hF148 : Fr fm_m196_176_f616 M0 M145 := hF138.tr hQ147 rfl
      refine wk_last r196_18 (arF_616 (by omega) (by omega)) ⟨by omega, by omega⟩ (wk_nw (gr_616 (by omega) (by omega) _) rfl hP146 hF148 (uaF_616 (by omega) (by omega) ⟨by omega, by omega⟩) ?_)
      intro M151 hP152 hF153 e154
      refine wk_inc3 r196_19 rfl (wk_goto r196_22 ?_)
      exact wp_fg (le_s (le_s (le_s (le_s le_0)))) (ih155 (5 - (v133 + 1)).toNat (by omega) M151 (v133 + 1) rfl hP152 hF153 (by omega) (by omega))
  exact wp_fg (le_s (le_s (le_s (le_s le_0)))) (c2_155 _ M0 0 rfl hP0 hF0 (by omega) (by omega))
def fm_m142 : Nat := 0
/-- IslandHall$Code.hangsOn -/
theorem m142 {B : eB} (d : Nat) (M0 : Mm) (c0 : Int) (p1 : Int) (p2 : Int) (hP0 : Pw M0) (hC0 : isC c0) (l1 : 0 ≤ p1) (u1 : p1 ≤ 6) (l2 : 0 ≤ p2) (u2 : p2 ≤ 12) : Ct B (d + 1) 142 [R c0, I p1, I p2] M0 (qI fun z M => Pw M ∧ Fr fm_m142 M0 M ∧ 0 ≤ z ∧ z ≤ 1) := by
  refine ct_of (d := d + 0) (k := 0) (L := [some (R c0), some (I p1), some (I p2)]) rfl rfl rfl ?_
  have hF0 := Fr.rf fm_m142 M0
  generalize hQ : (qI fun z M => Pw M ∧ Fr fm_m142 M0 M ∧ 0 ≤ z ∧ z ≤ 1) = Q
  refine wk_al0 r142_0 (wk_getfb r142_1 (fdC_2 hC0) (bC_2 hP0 hC0) ?_)
  intro v1 h3 h4 e2
  refine wk_il1 r142_4 (wk_shrb r142_5 ⟨by omega, by omega⟩ ⟨by omega, by omega⟩ ?_)
  intro v5 h6 h7 h8
  refine wk_c1 r142_6 (wk_iandc 1 2 r142_7 ⟨rfl, by decide⟩ rfl (wk_c1 r142_8 ?_))
  refine wk_iceq r142_9 ⟨by omega, by omega⟩ (by decide) ?_ ?_
  · intro h10
    refine wk_c1 r142_24 (wk_goto r142_25 ?_)
    subst hQ; exact wk_zret r142_29 (by decide) (⟨rfl, _, rfl, hP0, hF0, by omega, by omega⟩)
  · intro h11
    refine wk_al0 r142_12 (wk_getfb r142_13 (fdC_3 hC0) (bC_3 hP0 hC0) ?_)
    intro v12 h14 h15 e13
    refine wk_il2 r142_16 (wk_shrb r142_17 ⟨by omega, by omega⟩ ⟨by omega, by omega⟩ ?_)
    intro v16 h17 h18 h19
    refine wk_c1 r142_18 (wk_iandc 1 2 r142_19 ⟨rfl, by decide⟩ rfl (wk_c1 r142_20 ?_))
    refine wk_icne r142_21 ⟨by omega, by omega⟩ (by decide) ?_ ?_
    · intro h21
      refine wk_c1 r142_28 ?_
      subst hQ; exact wk_zret r142_29 (by decide) (⟨rfl, _, rfl, hP0, hF0, by omega, by omega⟩)
    · intro h22
      refine wk_c1 r142_24 (wk_goto r142_25 ?_)
      subst hQ; exact wk_zret r142_29 (by decide) (⟨rfl, _, rfl, hP0, hF0, by omega, by omega⟩)
def fm_m196_176_f647 : Nat := 365375409332808806300657765421127242855250657280
/-- IslandHall$Realm.judge -/
theorem m196_176_f647 {B : eB} (d : Nat) (M0 : Mm) (c1 : Int) (a2 : Int) (hP0 : Pw M0) (hC1 : isC c1) (ha2 : 647 ≤ a2) (hb2 : a2 ≤ 676) : Ct B (d + 4) 196 [R 176, R c1, R a2] M0 (qV fun M => Pw M ∧ Fr fm_m196_176_f647 M0 M) := by
  refine ct_of (d := d + 3) (k := 1) (L := [some (R 176), some (R c1), some (R a2), none]) rfl rfl rfl ?_
  have hF0 := Fr.rf fm_m196_176_f647 M0
  generalize hQ : (qV fun M => Pw M ∧ Fr fm_m196_176_f647 M0 M) = Q
  refine wk_c1 r196_0 (wk_is3 r196_1 rfl ?_)
  have c2_155 : ∀ (k155 : Nat) (M136 : Mm) (v133 : Int), (5 - v133).toNat = k155 → Pw M136 → Fr fm_m196_176_f647 M0 M136 → 0 ≤ v133 → v133 ≤ 5 → Wp B (d + 3) 196 2 [some (R 176), some (R c1), some (R a2), some (I v133)] [] M136 Q := by
    refine lp_ind ?_
    intro k155 ih155 M136 v133 hk155 hP137 hF138 h134 h135
    refine wk_il3 r196_2 (wk_al0 r196_3 (wk_getfb r196_4 fd_176_10 (bf_176_10 hP137) ?_))
    intro v139 h141 h142 e140
    refine wk_icge r196_7 ⟨by omega, by omega⟩ ⟨by omega, by omega⟩ ?_ ?_
    · intro h143
      subst hQ; exact wk_ret r196_25 (⟨rfl, hP137, hF138⟩)
    · intro h144
      refine wk_al2 r196_10 (wk_il3 r196_11 (wk_al0 r196_12 (wk_al1 r196_13 (wk_il3 r196_14 (wk_cv3 r196_15 kc_176_207 rfl (m207_176v4 _ M136 c1 v133 hP137 hC1 (by omega) (by omega)) (cqL ?_))))))
      rintro n149 M145 ⟨hP146, hQ147, h150⟩
      have hF148 : Fr fm_m196_176_f647 M0 M145 := hF138.tr hQ147 rfl
      refine wk_last r196_18 (arF_647 (by omega) (by omega)) ⟨by omega, by omega⟩ (wk_nw (gr_647 (by omega) (by omega) _) rfl hP146 hF148 (uaF_647 (by omega) (by omega) ⟨by omega, by omega⟩) ?_)
      intro M151 hP152 hF153 e154
      refine wk_inc3 r196_19 rfl (wk_goto r196_22 ?_)
      exact wp_fg (le_s (le_s (le_s (le_s le_0)))) (ih155 (5 - (v133 + 1)).toNat (by omega) M151 (v133 + 1) rfl hP152 hF153 (by omega) (by omega))
  exact wp_fg (le_s (le_s (le_s (le_s le_0)))) (c2_155 _ M0 0 rfl hP0 hF0 (by omega) (by omega))
def fm_m210_613 : Nat := 365375409332808806300657765421127242855250657280
/-- IslandHall$Riddler.judgeAgain -/
theorem m210_613 {B : eB} (d : Nat) (M0 : Mm) (p1 : Int) (hP0 : Pw M0) (l1 : 0 ≤ p1) (u1 : p1 ≤ 6) : Ct B (d + 5) 210 [R 613, I p1] M0 (qV fun M => Pw M ∧ Fr fm_m210_613 M0 M) := by
  refine ct_of (d := d + 4) (k := 1) (L := [some (R 613), some (I p1), none]) rfl rfl rfl ?_
  have hF0 := Fr.rf fm_m210_613 M0
  generalize hQ : (qV fun M => Pw M ∧ Fr fm_m210_613 M0 M) = Q
  refine wk_c1 r210_0 (wk_is2 r210_1 rfl ?_)
  have c2_313 : ∀ (k313 : Nat) (M277 : Mm) (v274 : Int), (30 - v274).toNat = k313 → Pw M277 → Fr fm_m210_613 M0 M277 → 0 ≤ v274 → v274 ≤ 30 → Wp B (d + 4) 210 2 [some (R 613), some (I p1), some (I v274)] [] M277 Q := by
    refine lp_ind ?_
    intro k313 ih313 M277 v274 hk313 hP278 hF279 h275 h276
    refine wk_il2 r210_2 (wk_al0 r210_3 (wk_getfb r210_4 fd_613_6 (bf_613_6 hP278) ?_))
    intro v280 h282 h283 e281
    refine wk_icge r210_7 ⟨by omega, by omega⟩ ⟨by omega, by omega⟩ ?_ ?_
    · intro h284
      subst hQ; exact wk_ret r210_82 (⟨rfl, hP278, hF279⟩)
    · intro h285
      refine wk_al0 r210_10 (wk_getfr r210_11 fd_613_1 (br_613_1 hP278) (wk_il2 r210_14 (wk_caldb r210_15 ar_168 ⟨by omega, by omega⟩ (fun q0 q1 => ba_168 hP278 q0 q1) ?_)))
      intro v286 e287
      have hC288 : isC v286 := Or.inr (by omega)
      refine wk_il1 r210_16 (wk_al0 r210_17 (wk_getfb r210_18 fd_613_7 (bf_613_7 hP278) ?_))
      intro v289 h291 h292 e290
      refine wk_cv3 r210_21 (kcC_142 hC288) rfl (m142 _ M277 v286 p1 v289 hP278 hC288 (by omega) (by omega) (by omega) (by omega)) (cqI ?_)
      rintro v297 M293 ⟨hP294, hQ295, h298, h299⟩
      obtain rfl := Fr.same hQ295
      refine wk_ifeq r210_24 ⟨by omega, by omega⟩ ?_ ?_
      · intro h300
        refine wk_al0 r210_52 (wk_getfr r210_53 fd_613_2 (br_613_2 hP278) (wk_il2 r210_56 (wk_raldb r210_57 ar_615 ⟨by omega, by omega⟩ (fun q0 q1 => ba_615 hP278 q0 q1) (wk_c1 r210_58 (wk_al0 r210_59 (wk_getfr r210_60 fd_613_3 (br_613_3 hP278) (wk_il2 r210_63 (wk_raldb r210_64 ar_646 ⟨by omega, by omega⟩ (fun q0 q1 => ba_646 hP278 q0 q1) (wk_c1 r210_65 (wk_al0 r210_66 (wk_getfr r210_67 fd_613_0 (br_613_0 hP278) (wk_getfi r210_70 fd_174_1 (br_174_1 hP278) (wk_copy110 r210_73 (arF_616 (by omega) (by omega)) (arF_647 (by omega) (by omega)) ⟨by decide, by decide, by decide, by omega, by omega, by omega⟩ rfl (wk_nc (fun i => by rw [(gr_647 (by omega) (by omega) i)]; rfl) hP278 hF279 (fun i h0 h1 => by have := (fun q0 q1 => baF_616 hP278 (by omega) (by omega) q0 q1) h0 (by omega); exact (uaF_647 (by omega) (by omega) ⟨by omega, by omega⟩)) ?_))))))))))))))
        intro M301 hP302 hF303 e304
        refine wk_inc2 r210_76 rfl (wk_goto r210_79 ?_)
        exact wp_fg (le_s (le_s (le_s le_0))) (ih313 (30 - (v274 + 1)).toNat (by omega) M301 (v274 + 1) rfl hP302 hF303 (by omega) (by omega))
      · intro h305
        refine wk_al0 r210_27 (wk_getfr r210_28 fd_613_0 (br_613_0 hP278) (wk_getfr r210_31 fd_174_0 (br_174_0 hP278) (wk_al0 r210_34 (wk_getfr r210_35 fd_613_1 (br_613_1 hP278) (wk_il2 r210_38 (wk_caldb r210_39 ar_168 ⟨by omega, by omega⟩ (fun q0 q1 => ba_168 hP278 q0 q1) ?_))))))
        intro v306 e307
        have hC308 : isC v306 := Or.inr (by omega)
        refine wk_al0 r210_40 (wk_getfr r210_41 fd_613_3 (br_613_3 hP278) (wk_il2 r210_44 (wk_raldb r210_45 ar_646 ⟨by omega, by omega⟩ (fun q0 q1 => ba_646 hP278 q0 q1) (wk_cv3 r210_46 kc_176_196 rfl (m196_176_f647 _ M277 v306 (647 + v274) hP278 hC308 (by omega) (by omega)) (cqV ?_)))))
        rintro M309 ⟨hP310, hQ311⟩
        have hF312 : Fr fm_m210_613 M0 M309 := hF279.tr hQ311 rfl
        refine wk_goto r210_49 (wk_inc2 r210_76 rfl (wk_goto r210_79 ?_))
        exact wp_fg (le_s (le_s (le_s le_0))) (ih313 (30 - (v274 + 1)).toNat (by omega) M309 (v274 + 1) rfl hP310 hF312 (by omega) (by omega))
  exact wp_fg (le_s (le_s (le_s le_0))) (c2_313 _ M0 0 rfl hP0 hF0 (by omega) (by omega))
def fm_m148_174_677_f647_678 : Nat := 8769009823985417509222108996297698117935595257856
/-- IslandHall$Crowd.narrow -/
theorem m148_174_677_f647_678 {B : eB} (d : Nat) (M0 : Mm) (p2 : Int) (p3 : Int) (a4 : Int) (hP0 : Pw M0) (l2 : 0 ≤ p2) (u2 : p2 ≤ 6) (l3 : (-1) ≤ p3) (u3 : p3 ≤ (-1)) (ha4 : 647 ≤ a4) (hb4 : a4 ≤ 676) : Ct B (d + 2) 148 [R 174, R 677, I p2, I p3, R a4, R 678] M0 (qV fun M => Pw M ∧ Fr fm_m148_174_677_f647_678 M0 M) := by
  refine ct_of (d := d + 1) (k := 4) (L := [some (R 174), some (R 677), some (I p2), some (I p3), some (R a4), some (R 678), none, none, none, none]) rfl rfl rfl ?_
  have hF0 := Fr.rf fm_m148_174_677_f647_678 M0
  generalize hQ : (qV fun M => Pw M ∧ Fr fm_m148_174_677_f647_678 M0 M) = Q
  refine wk_al0 r148_0 (wk_getfr r148_1 fd_174_0 (br_174_0 hP0) (wk_il2 r148_4 (wk_cv2 r148_5 kc_176_190 rfl (m190_176 _ M0 p2 hP0 (by omega) (by omega)) (cqR ?_))))
  rintro v5 M1 ⟨hP2, hQ3, h6, h7⟩
  obtain rfl := Fr.same hQ3
  refine wk_as6 r148_8 rfl (wk_al0 r148_10 (wk_getfr r148_11 fd_174_0 (br_174_0 hP0) (wk_il2 r148_14 (wk_cv2 r148_15 kc_176_193 rfl (m193_176 _ M0 p2 hP0 (by omega) (by omega)) (cqR ?_)))))
  rintro v12 M8 ⟨hP9, hQ10, h13, h14⟩
  obtain rfl := Fr.same hQ10
  refine wk_as7 r148_18 rfl (wk_al0 r148_20 (wk_getfr r148_21 fd_174_0 (br_174_0 hP0) (wk_il3 r148_24 (wk_cv2 r148_25 kc_176_208 rfl (m208_176 _ M0 p3 hP0 (by omega) (by omega)) (cqR ?_)))))
  rintro v19 M15 ⟨hP16, hQ17, h20, h21⟩
  obtain rfl : v19 = 301 := by omega
  obtain rfl := Fr.same hQ17
  refine wk_as8 r148_28 rfl (wk_c1 r148_30 (wk_is9 r148_31 rfl ?_))
  have c33_393 : ∀ (k393 : Nat) (M343 : Mm) (v340 : Int), (5 - v340).toNat = k393 → Pw M343 → Fr fm_m148_174_677_f647_678 M0 M343 → 0 ≤ v340 → v340 ≤ 5 → Wp B (d + 1) 148 33 [some (R 174), some (R 677), none, none, some (R a4), some (R 678), some (R v5), some (R v12), some (R 301), some (I v340)] [] M343 Q := by
    refine lp_ind ?_
    intro k393 ih393 M343 v340 hk393 hP344 hF345 h341 h342
    refine wk_il9 r148_33 (wk_al0 r148_35 (wk_getfr r148_36 fd_174_0 (br_174_0 hP344) (wk_getfb r148_39 fd_176_10 (bf_176_10 hP344) ?_)))
    intro v346 h348 h349 e347
    refine wk_icge r148_42 ⟨by omega, by omega⟩ ⟨by omega, by omega⟩ ?_ ?_
    · intro h350
      subst hQ; exact wk_ret r148_84 (⟨rfl, hP344, hF345⟩)
    · intro h351
      refine wk_al5 r148_45 (wk_il9 r148_47 (wk_al1 r148_49 (wk_il9 r148_50 (wk_laldb r148_52 (arF_677 (by omega) (by omega)) ⟨by omega, by omega⟩ (fun q0 q1 => ⟨(b4_677 hP344 (by omega) (by omega) q0 q1).1, (b4_677 hP344 (by omega) (by omega) q0 q1).2.1⟩) (by decide) ?_))))
      intro n352 h354 h355 e353
      have h356 : v340 = 4 → n352 ≤ 17592186044415 := by have := b4_677 hP344 (a := 677) (i := v340) (by omega) (by omega) (by omega) (by omega); omega
      refine wk_al6 r148_53 (wk_il9 r148_55 (wk_laldb r148_57 (arF_183 (by omega) (by omega)) ⟨by omega, by omega⟩ (fun q0 q1 => baF_183 hP344 (by omega) (by omega) q0 q1) (by decide) ?_))
      intro n357 h359 h360 e358
      refine wk_al8 r148_58 (wk_il9 r148_60 (wk_laldb r148_62 (arF_301 (by omega) (by omega)) ⟨by omega, by omega⟩ (fun q0 q1 => ⟨(b4_301 hP344 (by omega) (by omega) q0 q1).1, (b4_301 hP344 (by omega) (by omega) q0 q1).2.1⟩) (by decide) ?_))
      intro n361 h363 h364 e362
      have h365 : v340 = 4 → n361 ≤ 17592186044415 := by have := b4_301 hP344 (a := 301) (i := v340) (by omega) (by omega) (by omega) (by omega); omega
      refine wk_al4 r148_63 (wk_il9 r148_65 (wk_laldb r148_67 (arF_647 (by omega) (by omega)) ⟨by omega, by omega⟩ (fun q0 q1 => baF_647 hP344 (by omega) (by omega) q0 q1) (by decide) ?_))
      intro n366 h368 h369 e367
      refine wk_lxor r148_68 ?_
      intro n370 h371 h372
      refine wk_al7 r148_69 (wk_il9 r148_71 (wk_laldb r148_73 (arF_183 (by omega) (by omega)) ⟨by omega, by omega⟩ (fun q0 q1 => baF_183 hP344 (by omega) (by omega) q0 q1) (by decide) ?_))
      intro n373 h375 h376 e374
      refine wk_lxor r148_74 ?_
      intro n377 h378 h379
      refine wk_lorb r148_75 ?_
      intro n380 h381 h382 h383
      refine wk_land r148_76 ?_
      intro n384 h385 h386 h387 h388
      refine wk_last r148_77 (arF_678 (by omega) (by omega)) ⟨by omega, by omega⟩ (wk_nwt (t4_678 rfl rfl (by omega) (by omega) _) hP344 hF345 (u4_678 (by omega) (by omega) ⟨by omega, by omega, by omega⟩) ?_)
      intro M389 hP390 hF391 e392
      refine wk_inc9 r148_78 rfl (wk_goto r148_81 ?_)
      exact wp_fg (le_s (le_s (le_s (le_s (le_s (le_s (le_s (le_s (le_s (le_s le_0)))))))))) (ih393 (5 - (v340 + 1)).toNat (by omega) M389 (v340 + 1) rfl hP390 hF391 (by omega) (by omega))
  exact wp_fg (le_s (le_s (le_n (le_n (le_s (le_s (le_s (le_s (le_s (le_s le_0)))))))))) (c33_393 _ M0 0 rfl hP0 hF0 (by omega) (by omega))
def fm_m149_174_678 : Nat := 0
/-- IslandHall$Crowd.someOf -/
theorem m149_174_678 {B : eB} (d : Nat) (M0 : Mm) (hP0 : Pw M0)  : Ct B (d + 2) 149 [R 174, R 678] M0 (qI fun z M => Pw M ∧ Fr fm_m149_174_678 M0 M ∧ (-1) ≤ z ∧ z ≤ 299) := by
  refine ct_of (d := d + 1) (k := 1) (L := [some (R 174), some (R 678), none]) rfl rfl rfl ?_
  have hF0 := Fr.rf fm_m149_174_678 M0
  generalize hQ : (qI fun z M => Pw M ∧ Fr fm_m149_174_678 M0 M ∧ (-1) ≤ z ∧ z ≤ 299) = Q
  refine wk_c1 r149_0 (wk_is2 r149_1 rfl ?_)
  have c2_330 : ∀ (k330 : Nat) (v283 : Int), (5 - v283).toNat = k330 → 0 ≤ v283 → v283 ≤ 5 → Wp B (d + 1) 149 2 [some (R 174), some (R 678), some (I v283)] [] M0 Q := by
    refine lp_ind ?_
    intro k330 ih330 v283 hk330 h284 h285
    refine wk_il2 r149_2 (wk_al0 r149_3 (wk_getfr r149_4 fd_174_0 (br_174_0 hP0) (wk_getfb r149_7 fd_176_10 (bf_176_10 hP0) ?_)))
    intro v286 h288 h289 e287
    refine wk_icge r149_10 ⟨by omega, by omega⟩ ⟨by omega, by omega⟩ ?_ ?_
    · intro h290
      refine wk_c1 r149_49 ?_
      subst hQ; exact wk_iret r149_50 (⟨rfl, _, rfl, hP0, hF0, by omega, by omega⟩)
    · intro h291
      refine wk_al1 r149_13 (wk_il2 r149_14 (wk_laldb r149_15 (arF_678 (by omega) (by omega)) ⟨by omega, by omega⟩ (fun q0 q1 => ⟨(b4_678 hP0 (by omega) (by omega) q0 q1).1, (b4_678 hP0 (by omega) (by omega) q0 q1).2.1⟩) (by decide) ?_))
      intro n292 h294 h295 e293
      have h296 : v283 = 4 → n292 ≤ 17592186044415 := by have := b4_678 hP0 (a := 678) (i := v283) (by omega) (by omega) (by omega) (by omega); omega
      refine wk_c6 r149_16 ?_
      refine wk_lcmp r149_17 (by omega) (by omega) ?_ ?_
      · intro h297
        refine wk_ifeq r149_18 (by decide) ?_ ?_
        · intro h303
          refine wk_inc2 r149_43 rfl (wk_goto r149_46 ?_)
          exact wp_fg (le_s (le_s (le_s le_0))) (ih330 (5 - (v283 + 1)).toNat (by omega) (v283 + 1) rfl (by omega) (by omega))
        · intro h304
          exfalso
          omega
      · intro h298 v302 h299 h300 h301
        refine wk_ifeq r149_18 ⟨by omega, by omega⟩ ?_ ?_
        · intro h305
          exfalso
          omega
        · intro h306
          refine wk_c2 r149_21 (wk_il2 r149_23 (wk_imul r149_24 (wk_al1 r149_25 (wk_il2 r149_26 (wk_lald r149_27 (arF_678 (by omega) (by omega)) ⟨by omega, by omega⟩ e293 (wk_c7 r149_28 (wk_lxor r149_31 ?_)))))))
          intro n308 h309 h310
          refine wk_al1 r149_32 (wk_il2 r149_33 (wk_lald r149_34 (arF_678 (by omega) (by omega)) ⟨by omega, by omega⟩ e293 (wk_c6 r149_35 (wk_lsubb r149_36 (by omega) ?_))))
          intro n312 h314 h313
          refine wk_land r149_37 ?_
          intro n315 h316 h317 h318 h319
          refine wk_cs102_1 r149_38 rfl (m245 _ M0 n315 hP0 (by omega)) (cqI ?_)
          rintro v325 M320 ⟨hP321, hQ322, h326, h327, xh324⟩
          obtain rfl := Fr.same hQ322
          have h328 := tz_b (by omega) (by omega) h310 h313 h319
          have h329 : 64 * v283 + v325 ≤ 299 := by omega
          refine wk_iadd r149_41 ?_
          subst hQ; exact wk_iret r149_42 (⟨rfl, _, rfl, hP0, hF0, by omega, by omega⟩)
  exact wp_fg (le_s (le_s (le_s le_0))) (c2_330 _ 0 rfl (by omega) (by omega))
def fm_m151_174_678 : Nat := 0
/-- IslandHall$Crowd.tellsOne -/
theorem m151_174_678 {B : eB} (d : Nat) (M0 : Mm) (hP0 : Pw M0)  : Ct B (d + 3) 151 [R 174, R 678] M0 (qI fun z M => Pw M ∧ Fr fm_m151_174_678 M0 M ∧ 0 ≤ z ∧ z ≤ 1) := by
  refine ct_of (d := d + 2) (k := 3) (L := [some (R 174), some (R 678), none, none, none]) rfl rfl rfl ?_
  have hF0 := Fr.rf fm_m151_174_678 M0
  generalize hQ : (qI fun z M => Pw M ∧ Fr fm_m151_174_678 M0 M ∧ 0 ≤ z ∧ z ≤ 1) = Q
  refine wk_al0 r151_0 (wk_al1 r151_1 (wk_cv2 r151_2 kc_174_149 rfl (m149_174_678 _ M0 hP0) (cqI ?_)))
  rintro v5 M1 ⟨hP2, hQ3, h6, h7⟩
  obtain rfl := Fr.same hQ3
  refine wk_is2 r151_5 rfl (wk_il2 r151_6 (wk_c1 r151_7 ?_))
  refine wk_icne r151_8 ⟨by omega, by omega⟩ (by decide) ?_ ?_
  · intro h8
    refine wk_al0 r151_13 (wk_getfr r151_14 fd_174_3 (br_174_3 hP0) (wk_al0 r151_17 (wk_getfr r151_18 fd_174_2 (br_174_2 hP0) (wk_il2 r151_21 (wk_ialdb r151_22 ar_304 ⟨by omega, by omega⟩ (fun q0 q1 => ba_304 hP0 q0 q1) ?_)))))
    intro v9 h11 h12 e10
    refine wk_raldb r151_23 ar_305 ⟨by omega, by omega⟩ (fun q0 q1 => ba_305 hP0 q0 q1) (wk_as3 r151_24 rfl (wk_c1 r151_25 (wk_is4 r151_26 rfl ?_)))
    have c28_265 : ∀ (k265 : Nat) (v229 : Int), (5 - v229).toNat = k265 → 0 ≤ v229 → v229 ≤ 5 → Wp B (d + 2) 151 28 [some (R 174), some (R 678), none, some (R (306 + v9)), some (I v229)] [] M0 Q := by
      refine lp_ind ?_
      intro k265 ih265 v229 hk265 h230 h231
      refine wk_il4 r151_28 (wk_al0 r151_30 (wk_getfr r151_31 fd_174_0 (br_174_0 hP0) (wk_getfb r151_34 fd_176_10 (bf_176_10 hP0) ?_)))
      intro v232 h234 h235 e233
      refine wk_icge r151_37 ⟨by omega, by omega⟩ ⟨by omega, by omega⟩ ?_ ?_
      · intro h236
        refine wk_c1 r151_66 ?_
        subst hQ; exact wk_zret r151_67 (by decide) (⟨rfl, _, rfl, hP0, hF0, by omega, by omega⟩)
      · intro h237
        refine wk_al1 r151_40 (wk_il4 r151_41 (wk_laldb r151_43 (arF_678 (by omega) (by omega)) ⟨by omega, by omega⟩ (fun q0 q1 => ⟨(b4_678 hP0 (by omega) (by omega) q0 q1).1, (b4_678 hP0 (by omega) (by omega) q0 q1).2.1⟩) (by decide) ?_))
        intro n238 h240 h241 e239
        have h242 : v229 = 4 → n238 ≤ 17592186044415 := by have := b4_678 hP0 (a := 678) (i := v229) (by omega) (by omega) (by omega) (by omega); omega
        refine wk_al3 r151_44 (wk_il4 r151_45 (wk_laldb r151_47 (arF_306 (by omega) (by omega)) ⟨by omega, by omega⟩ (fun q0 q1 => baF_306 hP0 (by omega) (by omega) q0 q1) (by decide) ?_))
        intro n243 h245 h246 e244
        refine wk_c7 r151_48 (wk_lxor r151_51 ?_)
        intro n247 h248 h249
        refine wk_land r151_52 ?_
        intro n250 h251 h252 h253 h254
        refine wk_c6 r151_53 ?_
        refine wk_lcmp r151_54 (by omega) (by omega) ?_ ?_
        · intro h255
          refine wk_ifeq r151_55 (by decide) ?_ ?_
          · intro h261
            refine wk_inc4 r151_60 rfl (wk_goto r151_63 ?_)
            exact wp_fg (le_s (le_s (le_s (le_s (le_s le_0))))) (ih265 (5 - (v229 + 1)).toNat (by omega) (v229 + 1) rfl (by omega) (by omega))
          · intro h262
            exfalso
            omega
        · intro h256 v260 h257 h258 h259
          refine wk_ifeq r151_55 ⟨by omega, by omega⟩ ?_ ?_
          · intro h263
            exfalso
            omega
          · intro h264
            refine wk_c1 r151_58 ?_
            subst hQ; exact wk_zret r151_59 (by decide) (⟨rfl, _, rfl, hP0, hF0, by omega, by omega⟩)
    exact wp_fg (le_s (le_s (le_n (le_s (le_s le_0))))) (c28_265 _ 0 rfl (by omega) (by omega))
  · intro h266
    refine wk_c1 r151_11 ?_
    subst hQ; exact wk_zret r151_12 (by decide) (⟨rfl, _, rfl, hP0, hF0, by omega, by omega⟩)
def fm_m211_613v12 : Nat := 8769009823985417509222108996297698117935595257856
/-- IslandHall$Riddler.leastFrom -/
theorem m211_613v12 {B : eB} (d : Nat) (M0 : Mm) (p1 : Int) (p2 : Int) (hP0 : Pw M0) (l1 : 0 ≤ p1) (u1 : p1 ≤ 6) (l2 : 0 ≤ p2) (u2 : p2 ≤ 29) : Ct B (d + 4) 211 [R 613, I p1, I p2] M0 (qI fun z M => Pw M ∧ Fr fm_m211_613v12 M0 M ∧ (-1) ≤ z ∧ z ≤ 209) := by
  refine ct_of (d := d + 3) (k := 2) (L := [some (R 613), some (I p1), some (I p2), none, none]) rfl rfl rfl ?_
  have hF0 := Fr.rf fm_m211_613v12 M0
  generalize hQ : (qI fun z M => Pw M ∧ Fr fm_m211_613v12 M0 M ∧ (-1) ≤ z ∧ z ≤ 209) = Q
  refine wk_il1 r211_0 (wk_is3 r211_1 rfl ?_)
  have c2_117 : ∀ (k117 : Nat) (M75 : Mm) (v72 : Int), (7 - v72).toNat = k117 → Pw M75 → Fr fm_m211_613v12 M0 M75 → 0 ≤ v72 → v72 ≤ 7 → Wp B (d + 3) 211 2 [some (R 613), some (I p1), some (I p2), some (I v72), none] [] M75 Q := by
    refine lp_ind ?_
    intro k117 ih117 M75 v72 hk117 hP76 hF77 h73 h74
    refine wk_il3 r211_2 (wk_al0 r211_3 (wk_getfr r211_4 fd_613_0 (br_613_0 hP76) (wk_getfr r211_7 fd_174_0 (br_174_0 hP76) (wk_getfb r211_10 fd_176_7 (bf_176_7 hP76) ?_))))
    intro v78 h80 h81 e79
    refine wk_icge r211_13 ⟨by omega, by omega⟩ ⟨by omega, by omega⟩ ?_ ?_
    · intro h82
      refine wk_c1 r211_95 ?_
      subst hQ; exact wk_iret r211_96 (⟨rfl, _, rfl, hP76, hF77, by omega, by omega⟩)
    · intro h83
      refine wk_il3 r211_16 (wk_il1 r211_17 ?_)
      have c26_116 : ∀ (v86 : Int), 0 ≤ v86 → v86 ≤ 29 → Wp B (d + 3) 211 26 [some (R 613), some (I p1), some (I p2), some (I v72), none] [I v86] M75 Q := by
        intro v86 h87 h88
        refine wk_is4 r211_26 rfl ?_
        have c28_115 : ∀ (k115 : Nat) (M92 : Mm) (v89 : Int), (30 - v89).toNat = k115 → Pw M92 → Fr fm_m211_613v12 M0 M92 → M92 176 7 = v78 → 0 ≤ v89 → v89 ≤ 30 → Wp B (d + 3) 211 28 [some (R 613), some (I p1), some (I p2), some (I v72), some (I v89)] [] M92 Q := by
          refine lp_ind ?_
          intro k115 ih115 M92 v89 hk115 hP93 hF94 e95 h90 h91
          refine wk_il4 r211_28 (wk_al0 r211_30 (wk_getfb r211_31 fd_613_6 (bf_613_6 hP93) ?_))
          intro v96 h98 h99 e97
          refine wk_icge r211_34 ⟨by omega, by omega⟩ ⟨by omega, by omega⟩ ?_ ?_
          · intro h100
            refine wk_inc3 r211_89 rfl (wk_goto r211_92 ?_)
            exact wp_fg (le_s (le_s (le_s (le_s (le_n le_0))))) (ih117 (7 - (v72 + 1)).toNat (by omega) M92 (v72 + 1) rfl hP93 hF94 (by omega) (by omega))
          · intro h101
            refine wk_al0 r211_37 (wk_getfr r211_38 fd_613_0 (br_613_0 hP93) (wk_al0 r211_41 (wk_getfr r211_42 fd_613_4 (br_613_4 hP93) (wk_il3 r211_45 (wk_c1 r211_46 (wk_al0 r211_47 (wk_getfr r211_48 fd_613_3 (br_613_3 hP93) (wk_il4 r211_51 (wk_raldb r211_53 ar_646 ⟨by omega, by omega⟩ (fun q0 q1 => ba_646 hP93 q0 q1) (wk_al0 r211_54 (wk_getfr r211_55 fd_613_5 (br_613_5 hP93) (wk_cv6 r211_58 kc_174_148 rfl (m148_174_677_f647_678 _ M92 v72 (-1) (647 + v89) hP93 (by omega) (by omega) (by decide) (by decide) (by omega) (by omega)) (cqV ?_)))))))))))))
            rintro M102 ⟨hP103, hQ104⟩
            have hF105 : Fr fm_m211_613v12 M0 M102 := hF94.tr hQ104 rfl
            refine wk_al0 r211_61 (wk_getfr r211_62 fd_613_0 (br_613_0 hP103) (wk_al0 r211_65 (wk_getfr r211_66 fd_613_5 (br_613_5 hP103) (wk_cv2 r211_69 kc_174_151 rfl (m151_174_678 _ M102 hP103) (cqI ?_)))))
            rintro v110 M106 ⟨hP107, hQ108, h111, h112⟩
            obtain rfl := Fr.same hQ108
            refine wk_ifeq r211_72 ⟨by omega, by omega⟩ ?_ ?_
            · intro h113
              refine wk_inc4 r211_83 rfl (wk_goto r211_86 ?_)
              exact wp_fg (le_s (le_s (le_s (le_s (le_s le_0))))) (ih115 (30 - (v89 + 1)).toNat (by omega) M102 (v89 + 1) rfl hP103 hF105 ((hQ104.at g_176_7 rfl).trans e95) (by omega) (by omega))
            · intro h114
              refine wk_c2 r211_75 (wk_il3 r211_77 (wk_imul r211_78 (wk_il4 r211_79 (wk_iadd r211_81 ?_))))
              subst hQ; exact wk_iret r211_82 (⟨rfl, _, rfl, hP103, hF105, by omega, by omega⟩)
        exact wp_fg (le_s (le_s (le_s (le_s (le_s le_0))))) (c28_115 _ M75 v86 rfl hP76 hF77 e79 (by omega) (by omega))
      refine wk_icne r211_18 ⟨by omega, by omega⟩ ⟨by omega, by omega⟩ ?_ ?_
      · intro h84
        refine wk_c1 r211_25 ?_
        exact wp_fg (le_s (le_s (le_s (le_s (le_s le_0))))) (c26_116 0 (by omega) (by omega))
      · intro h85
        refine wk_il2 r211_21 (wk_goto r211_22 ?_)
        exact wp_fg (le_s (le_s (le_s (le_s (le_s le_0))))) (c26_116 p2 (by omega) (by omega))
  exact wp_fg (le_s (le_s (le_s (le_s (le_s le_0))))) (c2_117 _ M0 p1 rfl hP0 hF0 (by omega) (by omega))
def fm_m213_613v12 : Nat := 9134385233339535501830193694306314517725965189120
/-- IslandHall$Riddler.secondBehind -/
theorem m213_613v12 {B : eB} (d : Nat) (M0 : Mm) (p1 : Int) (p2 : Int) (hP0 : Pw M0) (l1 : 0 ≤ p1) (u1 : p1 ≤ 6) (l2 : 0 ≤ p2) (u2 : p2 ≤ 29) : Ct B (d + 6) 213 [R 613, I p1, I p2] M0 (qI fun z M => Pw M ∧ Fr fm_m213_613v12 M0 M ∧ (-1) ≤ z ∧ z ≤ 209) := by
  refine ct_of (d := d + 5) (k := 3) (L := [some (R 613), some (I p1), some (I p2), none, none, none]) rfl rfl rfl ?_
  have hF0 := Fr.rf fm_m213_613v12 M0
  generalize hQ : (qI fun z M => Pw M ∧ Fr fm_m213_613v12 M0 M ∧ (-1) ≤ z ∧ z ≤ 209) = Q
  refine wk_al0 r213_0 (wk_getfr r213_1 fd_613_0 (br_613_0 hP0) (wk_getfr r213_4 fd_174_0 (br_174_0 hP0) (wk_as3 r213_7 rfl (wk_al3 r213_8 (wk_getfr r213_9 fd_176_0 (br_176_0 hP0) (wk_c2 r213_12 (wk_al0 r213_14 (wk_getfb r213_15 fd_613_7 (bf_613_7 hP0) ?_))))))))
  intro v1 h3 h4 e2
  refine wk_iadd r213_18 (wk_raldb r213_19 ar_182 ⟨by omega, by omega⟩ (fun q0 q1 => ba_182 hP0 q0 q1) (wk_as4 r213_20 rfl (wk_al0 r213_22 (wk_getfr r213_23 fd_613_2 (br_613_2 hP0) (wk_il2 r213_26 (wk_raldb r213_27 ar_615 ⟨by omega, by omega⟩ (fun q0 q1 => ba_615 hP0 q0 q1) (wk_c1 r213_28 (wk_al4 r213_29 (wk_c1 r213_31 (wk_al0 r213_32 (wk_getfr r213_33 fd_613_0 (br_613_0 hP0) (wk_getfi r213_36 fd_174_1 (br_174_1 hP0) (wk_copy110 r213_39 (arF_616 (by omega) (by omega)) (arF_183 (by omega) (by omega)) ⟨by decide, by decide, by decide, by omega, by omega, by omega⟩ rfl (wk_nc (fun i => by rw [(gr_183 (by omega) (by omega) i)]; rfl) hP0 hF0 (fun i h0 h1 => by have := (fun q0 q1 => baF_616 hP0 (by omega) (by omega) q0 q1) h0 (by omega); exact (uaF_183 (by omega) (by omega) ⟨by omega, by omega⟩)) ?_))))))))))))))
  intro M5 hP6 hF7 e8
  refine wk_al3 r213_42 (wk_il1 r213_43 (wk_cv2 r213_44 kc_176_200 rfl (m200_176 _ M5 p1 hP6 (by omega) (by omega)) (cqV ?_)))
  rintro M9 ⟨hP10, hQ11⟩
  have hF12 : Fr fm_m213_613v12 M0 M9 := hF7.tr hQ11 rfl
  refine wk_al0 r213_47 (wk_il1 r213_48 (wk_cv2 r213_49 kc_613_210 rfl (m210_613 _ M9 p1 hP10 (by omega) (by omega)) (cqV ?_)))
  rintro M13 ⟨hP14, hQ15⟩
  have hF16 : Fr fm_m213_613v12 M0 M13 := hF12.tr hQ15 rfl
  refine wk_al0 r213_52 (wk_il1 r213_53 (wk_il2 r213_54 (wk_cv3 r213_55 kc_613_211 rfl (m211_613v12 _ M13 p1 p2 hP14 (by omega) (by omega) (by omega) (by omega)) (cqI ?_))))
  rintro v21 M17 ⟨hP18, hQ19, h22, h23⟩
  have hF20 : Fr fm_m213_613v12 M0 M17 := hF16.tr hQ19 rfl
  refine wk_is5 r213_58 rfl (wk_al3 r213_60 (wk_il1 r213_61 (wk_cv2 r213_62 kc_176_200 rfl (m200_176 _ M17 p1 hP18 (by omega) (by omega)) (cqV ?_))))
  rintro M24 ⟨hP25, hQ26⟩
  have hF27 : Fr fm_m213_613v12 M0 M24 := hF20.tr hQ26 rfl
  refine wk_al4 r213_65 (wk_c6 r213_67 (wk_cs102_2 r213_68 rfl (ct_fl (arF_183 (by omega) (by omega))) (cqV ?_)))
  intro M28 e29
  have hP30 : Pw M28 := by rw [e29]; exact hP25.fil (fun i => (uaF_183 (by omega) (by omega) ⟨by omega, by omega⟩))
  have hF31 : Fr fm_m213_613v12 M0 M28 := by rw [e29]; exact hF27.fil (fun i => by rw [(gr_183 (by omega) (by omega) i)]; rfl)
  refine wk_il5 r213_71 ?_
  subst hQ; exact wk_iret r213_73 (⟨rfl, _, rfl, hP30, hF31, by omega, by omega⟩)
def fm_m212_613 : Nat := 11456517229372132228312024966600643104620693946368
/-- IslandHall$Riddler.search -/
theorem m212_613 {B : eB} (d : Nat) (M0 : Mm) (p1 : Int) (p2 : Int) (hP0 : Pw M0) (l1 : 0 ≤ p1) (u1 : p1 ≤ 30) (l2 : 0 ≤ p2) (u2 : p2 ≤ 10) : Ct B (d + 7) 212 [R 613, I p1, I p2] M0 (qI fun z M => Pw M ∧ Fr fm_m212_613 M0 M ∧ (-1) ≤ z ∧ z ≤ 2) := by
  refine ct_of (d := d + 6) (k := 3) (L := [some (R 613), some (I p1), some (I p2), none, none, none]) rfl rfl rfl ?_
  have hF0 := Fr.rf fm_m212_613 M0
  generalize hQ : (qI fun z M => Pw M ∧ Fr fm_m212_613 M0 M ∧ (-1) ≤ z ∧ z ≤ 2) = Q
  refine wk_al0 r212_0 (wk_il1 r212_1 (wk_putfi81 r212_2 fd_613_6 (wk_nw g_613_6 rfl hP0 hF0 (uf_613_6 ⟨by omega, by omega⟩) ?_)))
  intro M1 hP2 hF3 e4
  refine wk_al0 r212_5 (wk_il2 r212_6 (wk_putfi81 r212_7 fd_613_7 (wk_nw g_613_7 rfl hP2 hF3 (uf_613_7 ⟨by omega, by omega⟩) ?_)))
  intro M5 hP6 hF7 e8
  refine wk_c1 r212_10 (wk_is3 r212_11 rfl ?_)
  have c12_1758 : ∀ (k1758 : Nat) (M1653 : Mm) (v1650 : Int), (30 - v1650).toNat = k1758 → Pw M1653 → Fr fm_m212_613 M0 M1653 → M1653 613 6 = p1 → M1653 613 7 = p2 → 0 ≤ v1650 → v1650 ≤ 30 → Wp B (d + 6) 212 12 [some (R 613), none, none, some (I v1650), none, none] [] M1653 Q := by
    refine lp_ind ?_
    intro k1758 ih1758 M1653 v1650 hk1758 hP1654 hF1655 e1656 e1657 h1651 h1652
    refine wk_il3 r212_12 (wk_al0 r212_13 (wk_getfi r212_14 fd_613_6 e1656 ?_))
    refine wk_icge r212_17 ⟨by omega, by omega⟩ ⟨by omega, by omega⟩ ?_ ?_
    · intro h1658
      refine wk_al0 r212_48 (wk_cv1 r212_49 kc_613_214 rfl (m214_613 _ M1653 hP1654) (cqI ?_))
      rintro v1663 M1659 ⟨hP1660, hQ1661, h1664, h1665⟩
      have hF1662 : Fr fm_m212_613 M0 M1659 := hF1655.tr hQ1661 rfl
      refine wk_ifeq r212_52 ⟨by omega, by omega⟩ ?_ ?_
      · intro h1666
        refine wk_c1 r212_60 (wk_is3 r212_61 rfl ?_)
        have c62_1744 : ∀ (k1744 : Nat) (M1670 : Mm) (v1667 : Int), (7 - v1667).toNat = k1744 → Pw M1670 → Fr fm_m212_613 M0 M1670 → M1670 613 6 = p1 → M1670 613 7 = p2 → 0 ≤ v1667 → v1667 ≤ 7 → Wp B (d + 6) 212 62 [some (R 613), none, none, some (I v1667), none, none] [] M1670 Q := by
          refine lp_ind ?_
          intro k1744 ih1744 M1670 v1667 hk1744 hP1671 hF1672 e1673 e1674 h1668 h1669
          refine wk_il3 r212_62 (wk_al0 r212_63 (wk_getfr r212_64 fd_613_0 (br_613_0 hP1671) (wk_getfr r212_67 fd_174_0 (br_174_0 hP1671) (wk_getfb r212_70 fd_176_7 (bf_176_7 hP1671) ?_))))
          intro v1675 h1677 h1678 e1676
          refine wk_icge r212_73 ⟨by omega, by omega⟩ ⟨by omega, by omega⟩ ?_ ?_
          · intro h1679
            refine wk_c1 r212_192 ?_
            subst hQ; exact wk_iret r212_193 (⟨rfl, _, rfl, hP1671, hF1672, by omega, by omega⟩)
          · intro h1680
            refine wk_c1 r212_76 (wk_is4 r212_77 rfl ?_)
            have c79_1743 : ∀ (k1743 : Nat) (M1684 : Mm) (v1681 : Int), (30 - v1681).toNat = k1743 → Pw M1684 → Fr fm_m212_613 M0 M1684 → M1684 613 6 = p1 → M1684 613 7 = p2 → M1684 176 7 = v1675 → 0 ≤ v1681 → v1681 ≤ 30 → Wp B (d + 6) 212 79 [some (R 613), none, none, some (I v1667), some (I v1681), none] [] M1684 Q := by
              refine lp_ind ?_
              intro k1743 ih1743 M1684 v1681 hk1743 hP1685 hF1686 e1687 e1688 e1689 h1682 h1683
              refine wk_il4 r212_79 (wk_al0 r212_81 (wk_getfi r212_82 fd_613_6 e1687 ?_))
              refine wk_icge r212_85 ⟨by omega, by omega⟩ ⟨by omega, by omega⟩ ?_ ?_
              · intro h1690
                refine wk_inc3 r212_186 rfl (wk_goto r212_189 ?_)
                exact wp_fg (le_s (le_s (le_s (le_s (le_n (le_s le_0)))))) (ih1744 (7 - (v1667 + 1)).toNat (by omega) M1684 (v1667 + 1) rfl hP1685 hF1686 e1687 e1688 (by omega) (by omega))
              · intro h1691
                refine wk_al0 r212_88 (wk_getfr r212_89 fd_613_0 (br_613_0 hP1685) (wk_al0 r212_92 (wk_getfr r212_93 fd_613_0 (br_613_0 hP1685) (wk_cv1 r212_96 kc_174_145 rfl (m145_174 _ M1684 hP1685) (cqR ?_)))))
                rintro v1696 M1692 ⟨hP1693, hQ1694, h1697, h1698⟩
                obtain rfl : v1696 = 301 := by omega
                obtain rfl := Fr.same hQ1694
                refine wk_il3 r212_99 (wk_c1 r212_100 (wk_al0 r212_101 (wk_getfr r212_102 fd_613_2 (br_613_2 hP1685) (wk_il4 r212_105 (wk_raldb r212_107 ar_615 ⟨by omega, by omega⟩ (fun q0 q1 => ba_615 hP1685 q0 q1) (wk_al0 r212_108 (wk_getfr r212_109 fd_613_4 (br_613_4 hP1685) (wk_cv6 r212_112 kc_174_148 rfl (m148_174_301_f616_677v5 _ M1684 v1667 (-1) (616 + v1681) hP1685 (by omega) (by omega) (by decide) (by decide) (by omega) (by omega)) (cqV ?_)))))))))
                rintro M1699 ⟨hP1700, hQ1701⟩
                have hF1702 : Fr fm_m212_613 M0 M1699 := hF1686.tr hQ1701 rfl
                refine wk_al0 r212_115 (wk_getfr r212_116 fd_613_0 (br_613_0 hP1700) (wk_al0 r212_119 (wk_getfr r212_120 fd_613_4 (br_613_4 hP1700) (wk_cv2 r212_123 kc_174_149 rfl (m149_174_677 _ M1699 hP1700) (cqI ?_)))))
                rintro v1707 M1703 ⟨hP1704, hQ1705, h1708, h1709⟩
                obtain rfl := Fr.same hQ1705
                refine wk_c1 r212_126 ?_
                have c141_1742 : ∀ (M1722 : Mm) (v1719 : Int), Pw M1722 → Fr fm_m212_613 M0 M1722 → M1722 613 6 = p1 → M1722 613 7 = p2 → M1722 176 7 = v1675 → (-1) ≤ v1719 → v1719 ≤ 209 → Wp B (d + 6) 212 141 [some (R 613), none, none, some (I v1667), some (I v1681), none] [I v1719] M1722 Q := by
                  intro M1722 v1719 hP1723 hF1724 e1725 e1726 e1727 h1720 h1721
                  refine wk_is5 r212_141 rfl (wk_il5 r212_143 (wk_c1 r212_145 ?_))
                  refine wk_iceq r212_146 ⟨by omega, by omega⟩ (by decide) ?_ ?_
                  · intro h1728
                    refine wk_inc4 r212_180 rfl (wk_goto r212_183 ?_)
                    exact wp_fg (le_s (le_s (le_s (le_s (le_s (le_n le_0)))))) (ih1743 (30 - (v1681 + 1)).toNat (by omega) M1722 (v1681 + 1) rfl hP1723 hF1724 e1725 e1726 e1727 (by omega) (by omega))
                  · intro h1729
                    refine wk_al0 r212_149 (wk_getfr r212_150 fd_613_8 (br_613_8 hP1723) (wk_c1 r212_153 (wk_c2 r212_154 (wk_il3 r212_156 (wk_imul r212_157 (wk_il4 r212_158 (wk_iadd r212_160 (wk_iast r212_161 ar_614 (by decide) (wk_nw (ga_614 _) rfl hP1723 hF1724 (ua_614 ⟨by omega, by omega⟩) ?_)))))))))
                    intro M1730 hP1731 hF1732 e1733
                    refine wk_al0 r212_162 (wk_getfr r212_163 fd_613_8 (br_613_8 hP1731) (wk_c1 r212_166 (wk_il5 r212_167 (wk_iast r212_169 ar_614 (by decide) (wk_nw (ga_614 _) rfl hP1731 hF1732 (ua_614 ⟨by omega, by omega⟩) ?_)))))
                    intro M1734 hP1735 hF1736 e1737
                    refine wk_al0 r212_170 (wk_c1 r212_171 (wk_putfi81 r212_172 fd_613_9 (wk_nw g_613_9 rfl hP1735 hF1736 (uf_613_9 (by decide)) ?_)))
                    intro M1738 hP1739 hF1740 e1741
                    refine wk_al0 r212_175 (wk_getfi r212_176 fd_613_9 (mUp_at e1741) ?_)
                    subst hQ; exact wk_iret r212_179 (⟨rfl, _, rfl, hP1739, hF1740, by omega, by omega⟩)
                refine wk_icne r212_127 ⟨by omega, by omega⟩ (by decide) ?_ ?_
                · intro h1710
                  refine wk_al0 r212_134 (wk_il3 r212_135 (wk_il4 r212_136 (wk_cv3 r212_138 kc_613_213 rfl (m213_613v12 _ M1699 v1667 v1681 hP1700 (by omega) (by omega) (by omega) (by omega)) (cqI ?_))))
                  rintro v1715 M1711 ⟨hP1712, hQ1713, h1716, h1717⟩
                  have hF1714 : Fr fm_m212_613 M0 M1711 := hF1702.tr hQ1713 rfl
                  exact wp_fg (le_s (le_s (le_s (le_s (le_s (le_s le_0)))))) (c141_1742 M1711 v1715 hP1712 hF1714 ((hQ1713.at g_613_6 rfl).trans ((hQ1701.at g_613_6 rfl).trans e1687)) ((hQ1713.at g_613_7 rfl).trans ((hQ1701.at g_613_7 rfl).trans e1688)) ((hQ1713.at g_176_7 rfl).trans ((hQ1701.at g_176_7 rfl).trans e1689)) (by omega) (by omega))
                · intro h1718
                  refine wk_c1 r212_130 (wk_goto r212_131 ?_)
                  exact wp_fg (le_s (le_s (le_s (le_s (le_s (le_s le_0)))))) (c141_1742 M1699 (-1) hP1700 hF1702 ((hQ1701.at g_613_6 rfl).trans e1687) ((hQ1701.at g_613_7 rfl).trans e1688) ((hQ1701.at g_176_7 rfl).trans e1689) (by omega) (by omega))
            exact wp_fg (le_s (le_s (le_s (le_s (le_s (le_s le_0)))))) (c79_1743 _ M1670 0 rfl hP1671 hF1672 e1673 e1674 e1676 (by omega) (by omega))
        exact wp_fg (le_s (le_s (le_s (le_s (le_s (le_s le_0)))))) (c62_1744 _ M1659 0 rfl hP1660 hF1662 ((hQ1661.at g_613_6 rfl).trans e1656) ((hQ1661.at g_613_7 rfl).trans e1657) (by omega) (by omega))
      · intro h1745
        refine wk_al0 r212_55 (wk_getfb r212_56 fd_613_9 (bf_613_9 hP1660) ?_)
        intro v1746 h1748 h1749 e1747
        subst hQ; exact wk_iret r212_59 (⟨rfl, _, rfl, hP1660, hF1662, by omega, by omega⟩)
    · intro h1750
      refine wk_al0 r212_20 (wk_getfr r212_21 fd_613_0 (br_613_0 hP1654) (wk_getfr r212_24 fd_174_0 (br_174_0 hP1654) (wk_al0 r212_27 (wk_getfr r212_28 fd_613_1 (br_613_1 hP1654) (wk_il3 r212_31 (wk_caldb r212_32 ar_168 ⟨by omega, by omega⟩ (fun q0 q1 => ba_168 hP1654 q0 q1) ?_))))))
      intro v1751 e1752
      have hC1753 : isC v1751 := Or.inr (by omega)
      refine wk_al0 r212_33 (wk_getfr r212_34 fd_613_2 (br_613_2 hP1654) (wk_il3 r212_37 (wk_raldb r212_38 ar_615 ⟨by omega, by omega⟩ (fun q0 q1 => ba_615 hP1654 q0 q1) (wk_cv3 r212_39 kc_176_196 rfl (m196_176_f616 _ M1653 v1751 (616 + v1650) hP1654 hC1753 (by omega) (by omega)) (cqV ?_)))))
      rintro M1754 ⟨hP1755, hQ1756⟩
      have hF1757 : Fr fm_m212_613 M0 M1754 := hF1655.tr hQ1756 rfl
      refine wk_inc3 r212_42 rfl (wk_goto r212_45 ?_)
      exact wp_fg (le_s (le_s (le_s (le_s (le_s (le_s le_0)))))) (ih1758 (30 - (v1650 + 1)).toNat (by omega) M1754 (v1650 + 1) rfl hP1755 hF1757 ((hQ1756.at g_613_6 rfl).trans e1656) ((hQ1756.at g_613_7 rfl).trans e1657) (by omega) (by omega))
  exact wp_fg (le_s (le_n (le_n (le_s (le_s (le_s le_0)))))) (c12_1758 _ M5 0 rfl hP6 hF7 (mUp_no e8 (mUp_at e4) (Or.inr (by decide))) (mUp_at e8) (by omega) (by omega))
def fm_m37_0 : Nat := 11456517233413190441365286147745378734451571294208
/-- IslandHall.riddle -/
theorem m37_0 {B : eB} (d : Nat) (M0 : Mm) (p1 : Int) (hP0 : Pw M0) (l1 : (-2147483648) ≤ p1) (u1 : p1 ≤ 2147483647) : Ct B (d + 8) 37 [R 0, I p1] M0 (qX 0 (fun M => Pw M ∧ Fr (fm_m37_0 ||| 1) M0 M ∧ M (-1) 0 = M0 (-1) 0 + 1) (qI fun z M => Pw M ∧ Fr fm_m37_0 M0 M ∧ (-2) ≤ z ∧ z ≤ 2)) := by
  refine ct_of (d := d + 7) (k := 0) (L := [some (R 0), some (I p1)]) rfl rfl rfl ?_
  have hF0 := Fr.rf fm_m37_0 M0
  generalize hQ : (qX 0 (fun M => Pw M ∧ Fr (fm_m37_0 ||| 1) M0 M ∧ M (-1) 0 = M0 (-1) 0 + 1) (qI fun z M => Pw M ∧ Fr fm_m37_0 M0 M ∧ (-2) ≤ z ∧ z ≤ 2)) = Q
  refine wk_il1 r37_0 (wk_cs102_1 r37_1 rfl (m29 _ M0 p1 hP0 (by omega) (by omega)) (cqX (fun _ _ x5 => by subst hQ; exact Or.inl ⟨rfl, x5.1, Fr.trx hF0 x5.2.1 rfl, (by rw [x5.2.2, hF0.at g_below rfl])⟩) (cqV ?_)))
  rintro M1 ⟨hP2, hQ3, h8, h9⟩
  obtain rfl := Fr.same hQ3
  refine wk_al0 r37_4 (wk_getfr r37_5 fd_0_7 (br_0_7 hP0) (wk_getfb r37_8 fd_138_5 (bf_138_5 hP0) ?_))
  intro v10 h12 h13 e11
  refine wk_c1 r37_11 (wk_iadd r37_12 (wk_c2 r37_13 ?_))
  refine wk_icle r37_15 ⟨by omega, by omega⟩ (by decide) ?_ ?_
  · intro h14
    refine wk_al0 r37_20 (wk_getfr r37_21 fd_0_6 (br_0_6 hP0) (wk_al0 r37_24 (wk_getfr r37_25 fd_0_7 (br_0_7 hP0) (wk_cv1 r37_28 kc_138_229 rfl (m229_138 _ M0 hP0) (cqR ?_)))))
    rintro v19 M15 ⟨hP16, hQ17, h20, h21⟩
    obtain rfl := Fr.same hQ17
    refine wk_cv2 r37_31 kc_10_194 rfl (m194_10_f155 _ M0 v19 hP0 (by omega) (by omega)) (cqI ?_)
    rintro v26 M22 ⟨hP23, hQ24, h27, h28⟩
    obtain rfl := Fr.same hQ24
    refine wk_c3 r37_34 ?_
    refine wk_icle r37_37 ⟨by omega, by omega⟩ (by decide) ?_ ?_
    · intro h29
      refine wk_al0 r37_43 (wk_getfr r37_44 fd_0_15 (br_0_15 hP0) (wk_al0 r37_47 (wk_getfr r37_48 fd_0_7 (br_0_7 hP0) (wk_il1 r37_51 (wk_cv3 r37_52 kc_174_146 rfl (m146_174_138 _ M0 p1 hP0 (by omega) (by omega)) (cqV ?_))))))
      rintro M30 ⟨hP31, hQ32⟩
      have hF33 : Fr fm_m37_0 M0 M30 := hF0.tr hQ32 rfl
      refine wk_al0 r37_55 (wk_getfr r37_56 fd_0_17 (br_0_17 hP31) (wk_al0 r37_59 (wk_getfb r37_60 fd_0_9 (bf_0_9 hP31) ?_)))
      intro v34 h36 h37 e35
      refine wk_al0 r37_63 (wk_getfr r37_64 fd_0_7 (br_0_7 hP31) (wk_getfi r37_67 fd_138_5 ((hQ32.at g_138_5 rfl).trans e11) (wk_cv3 r37_70 kc_613_212 rfl (m212_613 _ M30 v34 v10 hP31 (by omega) (by omega) (by omega) (by omega)) (cqI ?_))))
      rintro v42 M38 ⟨hP39, hQ40, h43, h44⟩
      have hF41 : Fr fm_m37_0 M0 M38 := hF33.tr hQ40 rfl
      subst hQ; exact wk_iret r37_73 (Or.inr ⟨rfl, _, rfl, hP39, hF41, by omega, by omega⟩)
    · intro h45
      refine wk_c2 r37_40 ?_
      subst hQ; exact wk_iret r37_42 (Or.inr ⟨rfl, _, rfl, hP0, hF0, by omega, by omega⟩)
  · intro h46
    refine wk_c1 r37_18 ?_
    subst hQ; exact wk_iret r37_19 (Or.inr ⟨rfl, _, rfl, hP0, hF0, by omega, by omega⟩)
