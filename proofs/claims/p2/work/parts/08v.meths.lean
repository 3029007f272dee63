/-! ===== methods ===== -/
theorem r39_0 : Rw 39 0 1 1 14 0 0 0 := rw_of (by decide +kernel)
theorem r39_1 : Rw 39 1 2 1 10 1 0 0 := rw_of (by decide +kernel)
theorem r39_2 : Rw 39 2 5 3 100 40 2 130 := rw_of (by decide +kernel)
theorem r40_0 : Rw 40 0 1 1 10 1 0 0 := rw_of (by decide +kernel)
theorem r40_1 : Rw 40 1 4 3 63 12 0 0 := rw_of (by decide +kernel)
theorem r40_12 : Rw 40 12 15 3 105 1 10 164 := rw_of (by decide +kernel)
theorem r40_4 : Rw 40 4 5 1 10 1 0 0 := rw_of (by decide +kernel)
theorem r40_5 : Rw 40 5 6 1 14 0 0 0 := rw_of (by decide +kernel)
theorem r40_6 : Rw 40 6 9 3 80 11 1 13 := rw_of (by decide +kernel)
theorem fd_0_1 : Fdl 0 11 1 1 0 := fd_of (by decide) rfl (by decide +kernel)
theorem bf_0_1 {M : Mm} (h : Pw M) : 0 ≤ M 0 1 ∧ M 0 1 ≤ 500 := (h 0 1 (by decide) (by decide) (by decide) (by decide +kernel)).get0 g_0_1 rfl rfl rfl rfl
theorem r40_9 : Rw 40 9 12 3 72 22 0 0 := rw_of (by decide +kernel)
theorem r40_22 : Rw 40 22 23 1 14 0 0 0 := rw_of (by decide +kernel)
theorem r40_23 : Rw 40 23 24 1 1 (cd 0) 1 0 := rw_of (by decide +kernel)
theorem r40_24 : Rw 40 24 27 3 81 11 1 0 := rw_of (by decide +kernel)
theorem uf_0_1 {z : Int} (hz : 0 ≤ z ∧ z ≤ 500) : Bd 0 1 z := Bd.of0 g_0_1 rfl rfl rfl rfl rfl hz
theorem r40_27 : Rw 40 27 28 1 77 0 0 0 := rw_of (by decide +kernel)
theorem kc_0_40 : Kc 0 40 := kc_of (by decide) (by decide +kernel)
theorem r39_5 : Rw 39 5 6 1 14 0 0 0 := rw_of (by decide +kernel)
theorem r39_6 : Rw 39 6 9 3 80 11 9 65 := rw_of (by decide +kernel)
theorem fd_0_9 : Fdl 0 11 9 9 0 := fd_of (by decide) rfl (by decide +kernel)
theorem bf_0_9 {M : Mm} (h : Pw M) : 0 ≤ M 0 9 ∧ M 0 9 ≤ 30 := (h 0 9 (by decide) (by decide) (by decide) (by decide +kernel)).get0 g_0_9 rfl rfl rfl rfl
theorem r39_9 : Rw 39 9 11 2 2 (cd 30) 158 0 := rw_of (by decide +kernel)
theorem r39_11 : Rw 39 11 14 3 69 22 0 0 := rw_of (by decide +kernel)
theorem r39_22 : Rw 39 22 23 1 14 0 0 0 := rw_of (by decide +kernel)
theorem r39_23 : Rw 39 23 26 3 80 11 4 36 := rw_of (by decide +kernel)
theorem fd_0_4 : Fdl 0 11 4 4 2 := fd_of (by decide) rfl (by decide +kernel)
theorem bf_0_4 {M : Mm} (h : Pw M) : 6 ≤ M 0 4 ∧ M 0 4 ≤ 6 := (h 0 4 (by decide) (by decide) (by decide) (by decide +kernel)).get0 g_0_4 rfl rfl rfl rfl
theorem br_0_4 {M : Mm} (h : Pw M) : M 0 4 = 6 := by have := bf_0_4 h; omega
theorem r39_26 : Rw 39 26 27 1 10 1 0 0 := rw_of (by decide +kernel)
theorem r39_27 : Rw 39 27 28 1 14 0 0 0 := rw_of (by decide +kernel)
theorem r39_28 : Rw 39 28 31 3 80 11 2 20 := rw_of (by decide +kernel)
theorem fd_0_2 : Fdl 0 11 2 2 2 := fd_of (by decide) rfl (by decide +kernel)
theorem bf_0_2 {M : Mm} (h : Pw M) : 2 ≤ M 0 2 ∧ M 0 2 ≤ 2 := (h 0 2 (by decide) (by decide) (by decide) (by decide +kernel)).get0 g_0_2 rfl rfl rfl rfl
theorem br_0_2 {M : Mm} (h : Pw M) : M 0 2 = 2 := by have := bf_0_2 h; omega
theorem r39_31 : Rw 39 31 34 3 80 4 1 155 := rw_of (by decide +kernel)
theorem fd_2_1 : Fdl 2 4 1 1 0 := fd_of (by decide) rfl (by decide +kernel)
theorem bf_2_1 {M : Mm} (h : Pw M) : (-1) ≤ M 2 1 ∧ M 2 1 ≤ 7 := (h 2 1 (by decide) (by decide) (by decide) (by decide +kernel)).get0 g_2_1 rfl rfl rfl rfl
theorem r39_34 : Rw 39 34 35 1 14 0 0 0 := rw_of (by decide +kernel)
theorem r39_35 : Rw 39 35 38 3 80 11 8 61 := rw_of (by decide +kernel)
theorem fd_0_8 : Fdl 0 11 8 8 2 := fd_of (by decide) rfl (by decide +kernel)
theorem bf_0_8 {M : Mm} (h : Pw M) : 168 ≤ M 0 8 ∧ M 0 8 ≤ 168 := (h 0 8 (by decide) (by decide) (by decide) (by decide +kernel)).get0 g_0_8 rfl rfl rfl rfl
theorem br_0_8 {M : Mm} (h : Pw M) : M 0 8 = 168 := by have := bf_0_8 h; omega
theorem r39_38 : Rw 39 38 39 1 14 0 0 0 := rw_of (by decide +kernel)
theorem r39_39 : Rw 39 39 42 3 80 11 9 65 := rw_of (by decide +kernel)
theorem r39_42 : Rw 39 42 43 1 86 0 0 0 := rw_of (by decide +kernel)
theorem ar_168 : Ar 168 103 30 := ar_of (by decide) (by decide) (by decide +kernel)
theorem ba_168 {M : Mm} (h : Pw M) {i : Int} (h0 : 0 ≤ i) (h1 : i < 30) : M 168 i = 679 + 2 * i := by
  have := (h 168 i (by decide) (by decide) h0 (by rw [ar_168.2.2.2.1]; exact h1)).get (l := 679) (u := 679) (c := 2) (s := 0) (gr_168 (by decide) (by decide) i) rfl rfl rfl rfl
  omega
theorem ga_168 (i : Int) : grp 168 i = 87 := gr_168 (by decide) (by decide) i
theorem r39_43 : Rw 39 43 46 3 100 170 4 158 := rw_of (by decide +kernel)
theorem r170_0 : Rw 170 0 1 1 14 0 0 0 := rw_of (by decide +kernel)
theorem r170_1 : Rw 170 1 2 1 10 1 0 0 := rw_of (by decide +kernel)
theorem r170_2 : Rw 170 2 3 1 14 3 0 0 := rw_of (by decide +kernel)
theorem r170_3 : Rw 170 3 6 3 100 154 3 41 := rw_of (by decide +kernel)
theorem r154_0 : Rw 154 0 1 1 14 0 0 0 := rw_of (by decide +kernel)
theorem r154_1 : Rw 154 1 2 1 14 2 0 0 := rw_of (by decide +kernel)
theorem r154_2 : Rw 154 2 5 3 81 3 2 3 := rw_of (by decide +kernel)
theorem fd_6_2 : Fdl 6 3 2 2 2 := fd_of (by decide) rfl (by decide +kernel)
theorem pcU {z : Int} (hz : isC z) : Bd 6 2 z := Bd.ofe (l := 4) (u := 737) g_6_2 rfl rfl rfl rfl ⟨fun e => absurd e (by decide), fun _ => hz, fun e => absurd e (by decide), fun e => absurd e (by decide)⟩ (by unfold isC at hz; omega)
theorem r154_5 : Rw 154 5 6 1 14 0 0 0 := rw_of (by decide +kernel)
theorem r154_6 : Rw 154 6 7 1 1 (cd 0) 1 0 := rw_of (by decide +kernel)
theorem r154_7 : Rw 154 7 10 3 81 3 4 0 := rw_of (by decide +kernel)
theorem fd_6_4 : Fdl 6 3 4 4 0 := fd_of (by decide) rfl (by decide +kernel)
theorem uf_6_4 {z : Int} (hz : 0 ≤ z ∧ z ≤ 6) : Bd 6 4 z := Bd.of0 g_6_4 rfl rfl rfl rfl rfl hz
theorem r154_10 : Rw 154 10 11 1 14 0 0 0 := rw_of (by decide +kernel)
theorem r154_11 : Rw 154 11 12 1 1 (cd (-1)) 0 0 := rw_of (by decide +kernel)
theorem r154_12 : Rw 154 12 15 3 81 3 5 0 := rw_of (by decide +kernel)
theorem fd_6_5 : Fdl 6 3 5 5 0 := fd_of (by decide) rfl (by decide +kernel)
theorem uf_6_5 {z : Int} (hz : (-1) ≤ z ∧ z ≤ 500) : Bd 6 5 z := Bd.of0 g_6_5 rfl rfl rfl rfl rfl hz
theorem r154_15 : Rw 154 15 16 1 14 0 0 0 := rw_of (by decide +kernel)
theorem r154_16 : Rw 154 16 19 3 80 3 0 33 := rw_of (by decide +kernel)
theorem fd_6_0 : Fdl 6 3 0 0 2 := fd_of (by decide) rfl (by decide +kernel)
theorem bf_6_0 {M : Mm} (h : Pw M) : 9 ≤ M 6 0 ∧ M 6 0 ≤ 9 := (h 6 0 (by decide) (by decide) (by decide) (by decide +kernel)).get0 g_6_0 rfl rfl rfl rfl
theorem br_6_0 {M : Mm} (h : Pw M) : M 6 0 = 9 := by have := bf_6_0 h; omega
theorem r154_19 : Rw 154 19 20 1 10 1 0 0 := rw_of (by decide +kernel)
theorem r154_20 : Rw 154 20 23 3 100 235 2 81 := rw_of (by decide +kernel)
theorem r235_0 : Rw 235 0 1 1 14 0 0 0 := rw_of (by decide +kernel)
theorem r235_1 : Rw 235 1 2 1 10 1 0 0 := rw_of (by decide +kernel)
theorem r235_2 : Rw 235 2 3 1 14 0 0 0 := rw_of (by decide +kernel)
theorem r235_3 : Rw 235 3 6 3 80 9 0 24 := rw_of (by decide +kernel)
theorem fd_9_0 : Fdl 9 9 0 0 2 := fd_of (by decide) rfl (by decide +kernel)
theorem bf_9_0 {M : Mm} (h : Pw M) : 1 ≤ M 9 0 ∧ M 9 0 ≤ 1 := (h 9 0 (by decide) (by decide) (by decide) (by decide +kernel)).get0 g_9_0 rfl rfl rfl rfl
theorem br_9_0 {M : Mm} (h : Pw M) : M 9 0 = 1 := by have := bf_9_0 h; omega
theorem r235_6 : Rw 235 6 7 1 92 0 0 0 := rw_of (by decide +kernel)
theorem ar_1 : Ar 1 101 500 := ar_of (by decide) (by decide) (by decide +kernel)
theorem ba_1 {M : Mm} (h : Pw M) {i : Int} (h0 : 0 ≤ i) (h1 : i < 500) : (-128) ≤ M 1 i ∧ M 1 i ≤ 127 := (h 1 i (by decide) (by decide) h0 (by rw [ar_1.2.2.2.1]; exact h1)).get0 (gr_1 (by decide) (by decide) i) rfl rfl rfl rfl
theorem ga_1 (i : Int) : grp 1 i = 19 := gr_1 (by decide) (by decide) i
theorem r235_7 : Rw 235 7 10 3 114 0 0 28 := rw_of (by decide +kernel)
theorem r235_10 : Rw 235 10 13 3 81 9 1 0 := rw_of (by decide +kernel)
theorem fd_9_1 : Fdl 9 9 1 1 0 := fd_of (by decide) rfl (by decide +kernel)
theorem uf_9_1 {z : Int} (hz : 0 ≤ z ∧ z ≤ 500) : Bd 9 1 z := Bd.of0 g_9_1 rfl rfl rfl rfl rfl hz
theorem r235_13 : Rw 235 13 14 1 14 0 0 0 := rw_of (by decide +kernel)
theorem r235_14 : Rw 235 14 15 1 1 (cd 0) 1 0 := rw_of (by decide +kernel)
theorem r235_15 : Rw 235 15 18 3 81 9 2 0 := rw_of (by decide +kernel)
theorem fd_9_2 : Fdl 9 9 2 2 0 := fd_of (by decide) rfl (by decide +kernel)
theorem uf_9_2 {z : Int} (hz : 0 ≤ z ∧ z ≤ 500) : Bd 9 2 z := Bd.of0 g_9_2 rfl rfl rfl rfl rfl hz
theorem r235_18 : Rw 235 18 19 1 14 0 0 0 := rw_of (by decide +kernel)
theorem r235_19 : Rw 235 19 22 3 100 241 1 34 := rw_of (by decide +kernel)
theorem r241_0 : Rw 241 0 1 1 14 0 0 0 := rw_of (by decide +kernel)
theorem r241_1 : Rw 241 1 2 1 14 0 0 0 := rw_of (by decide +kernel)
theorem r241_2 : Rw 241 2 5 3 80 9 2 15 := rw_of (by decide +kernel)
theorem bf_9_2 {M : Mm} (h : Pw M) : 0 ≤ M 9 2 ∧ M 9 2 ≤ 500 := (h 9 2 (by decide) (by decide) (by decide) (by decide +kernel)).get0 g_9_2 rfl rfl rfl rfl
theorem r241_5 : Rw 241 5 8 3 81 9 3 0 := rw_of (by decide +kernel)
theorem fd_9_3 : Fdl 9 9 3 3 0 := fd_of (by decide) rfl (by decide +kernel)
theorem uf_9_3 {z : Int} (hz : 0 ≤ z ∧ z ≤ 500) : Bd 9 3 z := Bd.of0 g_9_3 rfl rfl rfl rfl rfl hz
theorem r241_8 : Rw 241 8 9 1 14 0 0 0 := rw_of (by decide +kernel)
theorem r241_9 : Rw 241 9 12 3 80 9 3 18 := rw_of (by decide +kernel)
theorem bf_9_3 {M : Mm} (h : Pw M) : 0 ≤ M 9 3 ∧ M 9 3 ≤ 500 := (h 9 3 (by decide) (by decide) (by decide) (by decide +kernel)).get0 g_9_3 rfl rfl rfl rfl
theorem r241_12 : Rw 241 12 13 1 14 0 0 0 := rw_of (by decide +kernel)
theorem r241_13 : Rw 241 13 16 3 80 9 1 9 := rw_of (by decide +kernel)
theorem bf_9_1 {M : Mm} (h : Pw M) : 0 ≤ M 9 1 ∧ M 9 1 ≤ 500 := (h 9 1 (by decide) (by decide) (by decide) (by decide +kernel)).get0 g_9_1 rfl rfl rfl rfl
theorem r241_16 : Rw 241 16 19 3 70 60 0 0 := rw_of (by decide +kernel)
theorem r241_19 : Rw 241 19 20 1 14 0 0 0 := rw_of (by decide +kernel)
theorem r241_20 : Rw 241 20 23 3 80 9 0 24 := rw_of (by decide +kernel)
theorem r241_23 : Rw 241 23 24 1 14 0 0 0 := rw_of (by decide +kernel)
theorem r241_24 : Rw 241 24 27 3 80 9 3 18 := rw_of (by decide +kernel)
theorem r241_27 : Rw 241 27 28 1 85 0 0 0 := rw_of (by decide +kernel)
theorem r241_28 : Rw 241 28 30 2 2 (cd 32) 160 0 := rw_of (by decide +kernel)
theorem r241_30 : Rw 241 30 33 3 67 47 0 0 := rw_of (by decide +kernel)
theorem r241_47 : Rw 241 47 48 1 14 0 0 0 := rw_of (by decide +kernel)
theorem r241_48 : Rw 241 48 49 1 52 0 0 0 := rw_of (by decide +kernel)
theorem r241_49 : Rw 241 49 52 3 80 9 3 18 := rw_of (by decide +kernel)
theorem r241_52 : Rw 241 52 53 1 1 (cd 1) 2 0 := rw_of (by decide +kernel)
theorem r241_53 : Rw 241 53 54 1 30 0 0 0 := rw_of (by decide +kernel)
theorem r241_54 : Rw 241 54 57 3 81 9 3 0 := rw_of (by decide +kernel)
theorem r241_57 : Rw 241 57 60 3 60 8 0 0 := rw_of (by decide +kernel)
theorem r241_33 : Rw 241 33 34 1 14 0 0 0 := rw_of (by decide +kernel)
theorem r241_34 : Rw 241 34 37 3 80 9 0 24 := rw_of (by decide +kernel)
theorem r241_37 : Rw 241 37 38 1 14 0 0 0 := rw_of (by decide +kernel)
theorem r241_38 : Rw 241 38 41 3 80 9 3 18 := rw_of (by decide +kernel)
theorem r241_41 : Rw 241 41 42 1 85 0 0 0 := rw_of (by decide +kernel)
theorem r241_42 : Rw 241 42 44 2 2 (cd 10) 138 0 := rw_of (by decide +kernel)
theorem r241_44 : Rw 241 44 47 3 68 60 0 0 := rw_of (by decide +kernel)
theorem r241_60 : Rw 241 60 61 1 14 0 0 0 := rw_of (by decide +kernel)
theorem r241_61 : Rw 241 61 64 3 80 9 3 18 := rw_of (by decide +kernel)
theorem r241_64 : Rw 241 64 65 1 14 0 0 0 := rw_of (by decide +kernel)
theorem r241_65 : Rw 241 65 68 3 80 9 1 9 := rw_of (by decide +kernel)
theorem r241_68 : Rw 241 68 71 3 69 85 0 0 := rw_of (by decide +kernel)
theorem r241_85 : Rw 241 85 86 1 14 0 0 0 := rw_of (by decide +kernel)
theorem r241_86 : Rw 241 86 87 1 14 0 0 0 := rw_of (by decide +kernel)
theorem r241_87 : Rw 241 87 90 3 80 9 0 24 := rw_of (by decide +kernel)
theorem r241_90 : Rw 241 90 91 1 14 0 0 0 := rw_of (by decide +kernel)
theorem r241_91 : Rw 241 91 94 3 80 9 3 18 := rw_of (by decide +kernel)
theorem r241_94 : Rw 241 94 95 1 85 0 0 0 := rw_of (by decide +kernel)
theorem r241_95 : Rw 241 95 98 3 102 243 1 37 := rw_of (by decide +kernel)
theorem r243_0 : Rw 243 0 1 1 10 0 0 0 := rw_of (by decide +kernel)
theorem r243_1 : Rw 243 1 3 2 2 (cd 97) 225 0 := rw_of (by decide +kernel)
theorem r243_3 : Rw 243 3 6 3 69 14 0 0 := rw_of (by decide +kernel)
theorem r243_6 : Rw 243 6 7 1 10 0 0 0 := rw_of (by decide +kernel)
theorem r243_7 : Rw 243 7 9 2 2 (cd 122) 250 0 := rw_of (by decide +kernel)
theorem r243_9 : Rw 243 9 12 3 71 14 0 0 := rw_of (by decide +kernel)
theorem r243_12 : Rw 243 12 13 1 1 (cd 1) 2 0 := rw_of (by decide +kernel)
theorem r243_13 : Rw 243 13 14 1 74 0 0 0 := rw_of (by decide +kernel)
theorem r243_14 : Rw 243 14 15 1 10 0 0 0 := rw_of (by decide +kernel)
theorem r243_15 : Rw 243 15 17 2 2 (cd 48) 176 0 := rw_of (by decide +kernel)
theorem r243_17 : Rw 243 17 20 3 69 28 0 0 := rw_of (by decide +kernel)
theorem r243_20 : Rw 243 20 21 1 10 0 0 0 := rw_of (by decide +kernel)
theorem r243_21 : Rw 243 21 23 2 2 (cd 57) 185 0 := rw_of (by decide +kernel)
theorem r243_23 : Rw 243 23 26 3 71 28 0 0 := rw_of (by decide +kernel)
theorem r243_26 : Rw 243 26 27 1 1 (cd 2) 3 0 := rw_of (by decide +kernel)
theorem r243_27 : Rw 243 27 28 1 74 0 0 0 := rw_of (by decide +kernel)
theorem r243_28 : Rw 243 28 29 1 10 0 0 0 := rw_of (by decide +kernel)
theorem r243_29 : Rw 243 29 31 2 2 (cd 59) 187 0 := rw_of (by decide +kernel)
theorem r243_31 : Rw 243 31 34 3 67 64 0 0 := rw_of (by decide +kernel)
theorem r243_64 : Rw 243 64 65 1 1 (cd 1) 2 0 := rw_of (by decide +kernel)
theorem r243_65 : Rw 243 65 68 3 60 69 0 0 := rw_of (by decide +kernel)
theorem r243_69 : Rw 243 69 70 1 16 1 0 0 := rw_of (by decide +kernel)
theorem r243_70 : Rw 243 70 71 1 10 1 0 0 := rw_of (by decide +kernel)
theorem r243_71 : Rw 243 71 74 3 61 78 0 0 := rw_of (by decide +kernel)
theorem r243_78 : Rw 243 78 79 1 1 (cd 4) 5 0 := rw_of (by decide +kernel)
theorem r243_79 : Rw 243 79 80 1 74 0 0 0 := rw_of (by decide +kernel)
theorem r243_74 : Rw 243 74 75 1 1 (cd 3) 4 0 := rw_of (by decide +kernel)
theorem r243_75 : Rw 243 75 78 3 60 79 0 0 := rw_of (by decide +kernel)
theorem r243_34 : Rw 243 34 35 1 10 0 0 0 := rw_of (by decide +kernel)
theorem r243_35 : Rw 243 35 37 2 2 (cd 40) 168 0 := rw_of (by decide +kernel)
theorem r243_37 : Rw 243 37 40 3 67 64 0 0 := rw_of (by decide +kernel)
theorem r243_40 : Rw 243 40 41 1 10 0 0 0 := rw_of (by decide +kernel)
theorem r243_41 : Rw 243 41 43 2 2 (cd 41) 169 0 := rw_of (by decide +kernel)
theorem r243_43 : Rw 243 43 46 3 67 64 0 0 := rw_of (by decide +kernel)
theorem r243_46 : Rw 243 46 47 1 10 0 0 0 := rw_of (by decide +kernel)
theorem r243_47 : Rw 243 47 49 2 2 (cd 60) 188 0 := rw_of (by decide +kernel)
theorem r243_49 : Rw 243 49 52 3 67 64 0 0 := rw_of (by decide +kernel)
theorem r243_52 : Rw 243 52 53 1 10 0 0 0 := rw_of (by decide +kernel)
theorem r243_53 : Rw 243 53 55 2 2 (cd 61) 189 0 := rw_of (by decide +kernel)
theorem r243_55 : Rw 243 55 58 3 67 64 0 0 := rw_of (by decide +kernel)
theorem r243_58 : Rw 243 58 59 1 10 0 0 0 := rw_of (by decide +kernel)
theorem r243_59 : Rw 243 59 61 2 2 (cd 62) 190 0 := rw_of (by decide +kernel)
theorem r243_61 : Rw 243 61 64 3 68 68 0 0 := rw_of (by decide +kernel)
theorem r243_68 : Rw 243 68 69 1 1 (cd 0) 1 0 := rw_of (by decide +kernel)
theorem r241_98 : Rw 241 98 101 3 81 9 4 0 := rw_of (by decide +kernel)
theorem fd_9_4 : Fdl 9 9 4 4 0 := fd_of (by decide) rfl (by decide +kernel)
theorem uf_9_4 {z : Int} (hz : 0 ≤ z ∧ z ≤ 4) : Bd 9 4 z := Bd.of0 g_9_4 rfl rfl rfl rfl rfl hz
theorem r241_101 : Rw 241 101 102 1 14 0 0 0 := rw_of (by decide +kernel)
theorem r241_102 : Rw 241 102 103 1 14 0 0 0 := rw_of (by decide +kernel)
theorem r241_103 : Rw 241 103 106 3 80 9 3 18 := rw_of (by decide +kernel)
theorem r241_106 : Rw 241 106 107 1 1 (cd 1) 2 0 := rw_of (by decide +kernel)
theorem r241_107 : Rw 241 107 108 1 30 0 0 0 := rw_of (by decide +kernel)
theorem r241_108 : Rw 241 108 111 3 81 9 2 0 := rw_of (by decide +kernel)
theorem r241_111 : Rw 241 111 112 1 14 0 0 0 := rw_of (by decide +kernel)
theorem r241_112 : Rw 241 112 115 3 80 9 4 21 := rw_of (by decide +kernel)
theorem bf_9_4 {M : Mm} (h : Pw M) : 0 ≤ M 9 4 ∧ M 9 4 ≤ 4 := (h 9 4 (by decide) (by decide) (by decide) (by decide +kernel)).get0 g_9_4 rfl rfl rfl rfl
theorem r241_115 : Rw 241 115 116 1 1 (cd 1) 2 0 := rw_of (by decide +kernel)
theorem r241_116 : Rw 241 116 119 3 67 127 0 0 := rw_of (by decide +kernel)
theorem r241_119 : Rw 241 119 120 1 14 0 0 0 := rw_of (by decide +kernel)
theorem r241_120 : Rw 241 120 123 3 80 9 4 21 := rw_of (by decide +kernel)
theorem r241_123 : Rw 241 123 124 1 1 (cd 2) 3 0 := rw_of (by decide +kernel)
theorem r241_124 : Rw 241 124 127 3 68 131 0 0 := rw_of (by decide +kernel)
theorem r241_131 : Rw 241 131 132 1 1 (cd 0) 1 0 := rw_of (by decide +kernel)
theorem r241_127 : Rw 241 127 128 1 1 (cd 1) 2 0 := rw_of (by decide +kernel)
theorem r241_128 : Rw 241 128 131 3 60 132 0 0 := rw_of (by decide +kernel)
theorem r241_132 : Rw 241 132 133 1 16 1 0 0 := rw_of (by decide +kernel)
theorem r241_133 : Rw 241 133 134 1 10 1 0 0 := rw_of (by decide +kernel)
theorem r241_134 : Rw 241 134 137 3 61 180 0 0 := rw_of (by decide +kernel)
theorem r241_180 : Rw 241 180 181 1 77 0 0 0 := rw_of (by decide +kernel)
theorem r241_137 : Rw 241 137 138 1 14 0 0 0 := rw_of (by decide +kernel)
theorem r241_138 : Rw 241 138 141 3 80 9 2 15 := rw_of (by decide +kernel)
theorem r241_141 : Rw 241 141 142 1 14 0 0 0 := rw_of (by decide +kernel)
theorem r241_142 : Rw 241 142 145 3 80 9 1 9 := rw_of (by decide +kernel)
theorem r241_145 : Rw 241 145 148 3 70 180 0 0 := rw_of (by decide +kernel)
theorem r241_148 : Rw 241 148 149 1 14 0 0 0 := rw_of (by decide +kernel)
theorem r241_149 : Rw 241 149 152 3 80 9 0 24 := rw_of (by decide +kernel)
theorem r241_152 : Rw 241 152 153 1 14 0 0 0 := rw_of (by decide +kernel)
theorem r241_153 : Rw 241 153 156 3 80 9 2 15 := rw_of (by decide +kernel)
theorem r241_156 : Rw 241 156 157 1 85 0 0 0 := rw_of (by decide +kernel)
theorem r241_157 : Rw 241 157 160 3 102 243 1 37 := rw_of (by decide +kernel)
theorem r241_160 : Rw 241 160 161 1 14 0 0 0 := rw_of (by decide +kernel)
theorem r241_161 : Rw 241 161 164 3 80 9 4 21 := rw_of (by decide +kernel)
theorem r241_164 : Rw 241 164 167 3 68 180 0 0 := rw_of (by decide +kernel)
theorem r241_167 : Rw 241 167 168 1 14 0 0 0 := rw_of (by decide +kernel)
theorem r241_168 : Rw 241 168 169 1 52 0 0 0 := rw_of (by decide +kernel)
theorem r241_169 : Rw 241 169 172 3 80 9 2 15 := rw_of (by decide +kernel)
theorem r241_172 : Rw 241 172 173 1 1 (cd 1) 2 0 := rw_of (by decide +kernel)
theorem r241_173 : Rw 241 173 174 1 30 0 0 0 := rw_of (by decide +kernel)
theorem r241_174 : Rw 241 174 177 3 81 9 2 0 := rw_of (by decide +kernel)
theorem r241_177 : Rw 241 177 180 3 60 133 0 0 := rw_of (by decide +kernel)
theorem r241_71 : Rw 241 71 72 1 14 0 0 0 := rw_of (by decide +kernel)
theorem r241_72 : Rw 241 72 73 1 1 (cd 0) 1 0 := rw_of (by decide +kernel)
theorem r241_73 : Rw 241 73 76 3 81 9 4 0 := rw_of (by decide +kernel)
theorem r241_76 : Rw 241 76 77 1 14 0 0 0 := rw_of (by decide +kernel)
theorem r241_77 : Rw 241 77 78 1 14 0 0 0 := rw_of (by decide +kernel)
theorem r241_78 : Rw 241 78 81 3 80 9 3 18 := rw_of (by decide +kernel)
theorem r241_81 : Rw 241 81 84 3 81 9 2 0 := rw_of (by decide +kernel)
theorem r241_84 : Rw 241 84 85 1 77 0 0 0 := rw_of (by decide +kernel)
theorem kc_9_241 : Kc 9 241 := kc_of (by decide) (by decide +kernel)
theorem r235_22 : Rw 235 22 23 1 77 0 0 0 := rw_of (by decide +kernel)
theorem kc_9_235 : Kc 9 235 := kc_of (by decide) (by decide +kernel)
theorem r154_23 : Rw 154 23 24 1 77 0 0 0 := rw_of (by decide +kernel)
theorem kc_6_154 : Kc 6 154 := kc_of (by decide) (by decide +kernel)
theorem r170_6 : Rw 170 6 7 1 14 3 0 0 := rw_of (by decide +kernel)
theorem r170_7 : Rw 170 7 10 3 100 141 1 75 := rw_of (by decide +kernel)
theorem r141_0 : Rw 141 0 1 1 14 0 0 0 := rw_of (by decide +kernel)
theorem r141_1 : Rw 141 1 2 1 1 (cd 0) 1 0 := rw_of (by decide +kernel)
theorem r141_2 : Rw 141 2 5 3 81 1 1 0 := rw_of (by decide +kernel)
theorem fdCb_1 : (List.range 30).all (fun j => fdb (679 + 2 * j) 1 1 0) = true := by decide +kernel
theorem fdC_1 {a : Int} (h : isC a) : Fdl a 1 1 1 0 := by
  rcases h with rfl | h
  · exact fd_of (by decide) rfl (by decide +kernel)
  · refine fd_of (by omega) rfl ?_
    have h2 := List.all_eq_true.mp fdCb_1 ((a.toNat - 679) / 2) (List.mem_range.mpr (by omega))
    rw [show 679 + 2 * ((a.toNat - 679) / 2) = a.toNat by omega] at h2
    exact h2
theorem uC_1 {a z : Int} (ha : isC a) (hz : 0 ≤ z ∧ z ≤ 256) : Bd a 1 z := Bd.of0 (g_c1 ha) rfl rfl rfl rfl rfl hz
theorem r141_5 : Rw 141 5 6 1 14 0 0 0 := rw_of (by decide +kernel)
theorem r141_6 : Rw 141 6 7 1 1 (cd 0) 1 0 := rw_of (by decide +kernel)
theorem r141_7 : Rw 141 7 10 3 81 1 2 0 := rw_of (by decide +kernel)
theorem fdCb_2 : (List.range 30).all (fun j => fdb (679 + 2 * j) 1 2 0) = true := by decide +kernel
theorem fdC_2 {a : Int} (h : isC a) : Fdl a 1 2 2 0 := by
  rcases h with rfl | h
  · exact fd_of (by decide) rfl (by decide +kernel)
  · refine fd_of (by omega) rfl ?_
    have h2 := List.all_eq_true.mp fdCb_2 ((a.toNat - 679) / 2) (List.mem_range.mpr (by omega))
    rw [show 679 + 2 * ((a.toNat - 679) / 2) = a.toNat by omega] at h2
    exact h2
theorem uC_2 {a z : Int} (ha : isC a) (hz : 0 ≤ z ∧ z ≤ 127) : Bd a 2 z := Bd.of0 (g_c2 ha) rfl rfl rfl rfl rfl hz
theorem r141_10 : Rw 141 10 11 1 14 0 0 0 := rw_of (by decide +kernel)
theorem r141_11 : Rw 141 11 12 1 1 (cd 0) 1 0 := rw_of (by decide +kernel)
theorem r141_12 : Rw 141 12 15 3 81 1 3 0 := rw_of (by decide +kernel)
theorem fdCb_3 : (List.range 30).all (fun j => fdb (679 + 2 * j) 1 3 0) = true := by decide +kernel
theorem fdC_3 {a : Int} (h : isC a) : Fdl a 1 3 3 0 := by
  rcases h with rfl | h
  · exact fd_of (by decide) rfl (by decide +kernel)
  · refine fd_of (by omega) rfl ?_
    have h2 := List.all_eq_true.mp fdCb_3 ((a.toNat - 679) / 2) (List.mem_range.mpr (by omega))
    rw [show 679 + 2 * ((a.toNat - 679) / 2) = a.toNat by omega] at h2
    exact h2
theorem uC_3 {a z : Int} (ha : isC a) (hz : 0 ≤ z ∧ z ≤ 32767) : Bd a 3 z := Bd.of0 (g_c3 ha) rfl rfl rfl rfl rfl hz
theorem r141_15 : Rw 141 15 16 1 77 0 0 0 := rw_of (by decide +kernel)
theorem kcCb_141 : (List.range 30).all (fun j => kcb (679 + 2 * j) 141) = true := by decide +kernel
theorem kcC_141 {a : Int} (h : isC a) : Kc a 141 := by
  rcases h with rfl | h
  · exact kc_of (by decide) (by decide +kernel)
  · refine kc_of (by omega) ?_
    have h2 := List.all_eq_true.mp kcCb_141 ((a.toNat - 679) / 2) (List.mem_range.mpr (by omega))
    rw [show 679 + 2 * ((a.toNat - 679) / 2) = a.toNat by omega] at h2
    exact h2
theorem r170_10 : Rw 170 10 11 1 14 0 0 0 := rw_of (by decide +kernel)
theorem r170_11 : Rw 170 11 12 1 10 2 0 0 := rw_of (by decide +kernel)
theorem r170_12 : Rw 170 12 15 3 81 3 3 0 := rw_of (by decide +kernel)
theorem fd_6_3 : Fdl 6 3 3 3 0 := fd_of (by decide) rfl (by decide +kernel)
theorem uf_6_3 {z : Int} (hz : (-1) ≤ z ∧ z ≤ 7) : Bd 6 3 z := Bd.of0 g_6_3 rfl rfl rfl rfl rfl hz
theorem r170_15 : Rw 170 15 16 1 14 0 0 0 := rw_of (by decide +kernel)
theorem r170_16 : Rw 170 16 17 1 1 (cd 0) 1 0 := rw_of (by decide +kernel)
theorem r170_17 : Rw 170 17 20 3 100 158 2 78 := rw_of (by decide +kernel)
theorem r158_0 : Rw 158 0 1 1 14 0 0 0 := rw_of (by decide +kernel)
theorem r158_1 : Rw 158 1 4 3 100 155 1 146 := rw_of (by decide +kernel)
theorem r155_0 : Rw 155 0 1 1 14 0 0 0 := rw_of (by decide +kernel)
theorem r155_1 : Rw 155 1 4 3 80 3 0 33 := rw_of (by decide +kernel)
theorem r155_4 : Rw 155 4 6 2 2 (cd 40) 168 0 := rw_of (by decide +kernel)
theorem r155_6 : Rw 155 6 9 3 100 238 2 154 := rw_of (by decide +kernel)
theorem r238_0 : Rw 238 0 1 1 14 0 0 0 := rw_of (by decide +kernel)
theorem r238_1 : Rw 238 1 4 3 80 9 4 21 := rw_of (by decide +kernel)
theorem r238_4 : Rw 238 4 5 1 1 (cd 3) 4 0 := rw_of (by decide +kernel)
theorem r238_5 : Rw 238 5 8 3 68 36 0 0 := rw_of (by decide +kernel)
theorem r238_36 : Rw 238 36 37 1 1 (cd 0) 1 0 := rw_of (by decide +kernel)
theorem r238_37 : Rw 238 37 38 1 74 1 0 0 := rw_of (by decide +kernel)
theorem r238_8 : Rw 238 8 9 1 14 0 0 0 := rw_of (by decide +kernel)
theorem r238_9 : Rw 238 9 12 3 80 9 3 18 := rw_of (by decide +kernel)
theorem r238_12 : Rw 238 12 13 1 14 0 0 0 := rw_of (by decide +kernel)
theorem r238_13 : Rw 238 13 16 3 80 9 1 9 := rw_of (by decide +kernel)
theorem r238_16 : Rw 238 16 19 3 70 36 0 0 := rw_of (by decide +kernel)
theorem r238_19 : Rw 238 19 20 1 14 0 0 0 := rw_of (by decide +kernel)
theorem r238_20 : Rw 238 20 23 3 80 9 0 24 := rw_of (by decide +kernel)
theorem r238_23 : Rw 238 23 24 1 14 0 0 0 := rw_of (by decide +kernel)
theorem r238_24 : Rw 238 24 27 3 80 9 3 18 := rw_of (by decide +kernel)
theorem r238_27 : Rw 238 27 28 1 85 0 0 0 := rw_of (by decide +kernel)
theorem r238_28 : Rw 238 28 29 1 10 1 0 0 := rw_of (by decide +kernel)
theorem r238_29 : Rw 238 29 32 3 68 36 0 0 := rw_of (by decide +kernel)
theorem r238_32 : Rw 238 32 33 1 1 (cd 1) 2 0 := rw_of (by decide +kernel)
theorem r238_33 : Rw 238 33 36 3 60 37 0 0 := rw_of (by decide +kernel)
theorem kc_9_238 : Kc 9 238 := kc_of (by decide) (by decide +kernel)
theorem r155_9 : Rw 155 9 12 3 62 94 0 0 := rw_of (by decide +kernel)
theorem r155_94 : Rw 155 94 95 1 1 (cd 1) 2 0 := rw_of (by decide +kernel)
theorem r155_95 : Rw 155 95 98 3 60 99 0 0 := rw_of (by decide +kernel)
theorem r155_99 : Rw 155 99 100 1 74 1 0 0 := rw_of (by decide +kernel)
theorem r155_12 : Rw 155 12 13 1 14 0 0 0 := rw_of (by decide +kernel)
theorem r155_13 : Rw 155 13 16 3 80 3 0 33 := rw_of (by decide +kernel)
theorem r155_16 : Rw 155 16 19 3 100 237 1 157 := rw_of (by decide +kernel)
theorem r237_0 : Rw 237 0 1 1 14 0 0 0 := rw_of (by decide +kernel)
theorem r237_1 : Rw 237 1 4 3 80 9 4 21 := rw_of (by decide +kernel)
theorem r237_4 : Rw 237 4 5 1 1 (cd 1) 2 0 := rw_of (by decide +kernel)
theorem r237_5 : Rw 237 5 8 3 68 25 0 0 := rw_of (by decide +kernel)
theorem r237_25 : Rw 237 25 26 1 1 (cd 0) 1 0 := rw_of (by decide +kernel)
theorem r237_26 : Rw 237 26 27 1 74 1 0 0 := rw_of (by decide +kernel)
theorem r237_8 : Rw 237 8 9 1 14 0 0 0 := rw_of (by decide +kernel)
theorem r237_9 : Rw 237 9 12 3 80 9 2 15 := rw_of (by decide +kernel)
theorem r237_12 : Rw 237 12 13 1 14 0 0 0 := rw_of (by decide +kernel)
theorem r237_13 : Rw 237 13 16 3 80 9 3 18 := rw_of (by decide +kernel)
theorem r237_16 : Rw 237 16 17 1 31 0 0 0 := rw_of (by decide +kernel)
theorem r237_17 : Rw 237 17 18 1 1 (cd 1) 2 0 := rw_of (by decide +kernel)
theorem r237_18 : Rw 237 18 21 3 68 25 0 0 := rw_of (by decide +kernel)
theorem r237_21 : Rw 237 21 22 1 1 (cd 1) 2 0 := rw_of (by decide +kernel)
theorem r237_22 : Rw 237 22 25 3 60 26 0 0 := rw_of (by decide +kernel)
theorem kc_9_237 : Kc 9 237 := kc_of (by decide) (by decide +kernel)
theorem r155_19 : Rw 155 19 22 3 62 94 0 0 := rw_of (by decide +kernel)
theorem r155_22 : Rw 155 22 23 1 14 0 0 0 := rw_of (by decide +kernel)
theorem r155_23 : Rw 155 23 26 3 80 3 0 33 := rw_of (by decide +kernel)
theorem r155_26 : Rw 155 26 28 2 8 (Int.toNat 4119) 160 22 := rw_of (by decide +kernel)
theorem r155_28 : Rw 155 28 31 3 100 239 2 162 := rw_of (by decide +kernel)
theorem r239_0 : Rw 239 0 1 1 14 0 0 0 := rw_of (by decide +kernel)
theorem r239_1 : Rw 239 1 4 3 80 9 4 21 := rw_of (by decide +kernel)
theorem r239_4 : Rw 239 4 5 1 1 (cd 1) 2 0 := rw_of (by decide +kernel)
theorem r239_5 : Rw 239 5 8 3 68 24 0 0 := rw_of (by decide +kernel)
theorem r239_24 : Rw 239 24 25 1 1 (cd 0) 1 0 := rw_of (by decide +kernel)
theorem r239_25 : Rw 239 25 26 1 74 1 0 0 := rw_of (by decide +kernel)
theorem r239_8 : Rw 239 8 9 1 14 0 0 0 := rw_of (by decide +kernel)
theorem r239_9 : Rw 239 9 12 3 80 9 2 15 := rw_of (by decide +kernel)
theorem r239_12 : Rw 239 12 13 1 14 0 0 0 := rw_of (by decide +kernel)
theorem r239_13 : Rw 239 13 16 3 80 9 3 18 := rw_of (by decide +kernel)
theorem r239_16 : Rw 239 16 17 1 31 0 0 0 := rw_of (by decide +kernel)
theorem r239_17 : Rw 239 17 18 1 14 1 0 0 := rw_of (by decide +kernel)
theorem r239_18 : Rw 239 18 21 3 115 268 1 41 := rw_of (by decide +kernel)
theorem r239_21 : Rw 239 21 24 3 67 26 0 0 := rw_of (by decide +kernel)
theorem r239_26 : Rw 239 26 27 1 1 (cd 0) 1 0 := rw_of (by decide +kernel)
theorem r239_27 : Rw 239 27 28 1 16 2 0 0 := rw_of (by decide +kernel)
theorem r239_28 : Rw 239 28 29 1 10 2 0 0 := rw_of (by decide +kernel)
theorem r239_29 : Rw 239 29 30 1 14 1 0 0 := rw_of (by decide +kernel)
theorem r239_30 : Rw 239 30 33 3 115 268 1 41 := rw_of (by decide +kernel)
theorem r239_33 : Rw 239 33 36 3 70 63 0 0 := rw_of (by decide +kernel)
theorem r239_63 : Rw 239 63 64 1 1 (cd 1) 2 0 := rw_of (by decide +kernel)
theorem r239_64 : Rw 239 64 65 1 74 1 0 0 := rw_of (by decide +kernel)
theorem r239_36 : Rw 239 36 37 1 14 0 0 0 := rw_of (by decide +kernel)
theorem r239_37 : Rw 239 37 40 3 80 9 0 24 := rw_of (by decide +kernel)
theorem r239_40 : Rw 239 40 41 1 14 0 0 0 := rw_of (by decide +kernel)
theorem r239_41 : Rw 239 41 44 3 80 9 3 18 := rw_of (by decide +kernel)
theorem r239_44 : Rw 239 44 45 1 10 2 0 0 := rw_of (by decide +kernel)
theorem r239_45 : Rw 239 45 46 1 30 0 0 0 := rw_of (by decide +kernel)
theorem r239_46 : Rw 239 46 47 1 85 0 0 0 := rw_of (by decide +kernel)
theorem r239_47 : Rw 239 47 48 1 14 1 0 0 := rw_of (by decide +kernel)
theorem r239_48 : Rw 239 48 49 1 10 2 0 0 := rw_of (by decide +kernel)
theorem r239_49 : Rw 239 49 52 3 115 269 2 47 := rw_of (by decide +kernel)
theorem r239_52 : Rw 239 52 55 3 67 57 0 0 := rw_of (by decide +kernel)
theorem r239_57 : Rw 239 57 60 3 22 2 (cd 1) 32769 := rw_of (by decide +kernel)
theorem r239_60 : Rw 239 60 63 3 60 28 0 0 := rw_of (by decide +kernel)
theorem r239_55 : Rw 239 55 56 1 1 (cd 0) 1 0 := rw_of (by decide +kernel)
theorem r239_56 : Rw 239 56 57 1 74 1 0 0 := rw_of (by decide +kernel)
theorem kc_9_239 : Kc 9 239 := kc_of (by decide) (by decide +kernel)
theorem r155_31 : Rw 155 31 34 3 62 94 0 0 := rw_of (by decide +kernel)
theorem r155_34 : Rw 155 34 35 1 14 0 0 0 := rw_of (by decide +kernel)
theorem r155_35 : Rw 155 35 38 3 80 3 0 33 := rw_of (by decide +kernel)
theorem r155_38 : Rw 155 38 40 2 8 (Int.toNat 4114) 165 17 := rw_of (by decide +kernel)
theorem r155_40 : Rw 155 40 43 3 100 239 2 162 := rw_of (by decide +kernel)
theorem r155_43 : Rw 155 43 46 3 62 94 0 0 := rw_of (by decide +kernel)
theorem r155_46 : Rw 155 46 47 1 14 0 0 0 := rw_of (by decide +kernel)
theorem r155_47 : Rw 155 47 50 3 80 3 0 33 := rw_of (by decide +kernel)
theorem r155_50 : Rw 155 50 52 2 8 (Int.toNat 4115) 122 18 := rw_of (by decide +kernel)
theorem r155_52 : Rw 155 52 55 3 100 239 2 162 := rw_of (by decide +kernel)
theorem r155_55 : Rw 155 55 58 3 62 94 0 0 := rw_of (by decide +kernel)
theorem r155_58 : Rw 155 58 59 1 14 0 0 0 := rw_of (by decide +kernel)
theorem r155_59 : Rw 155 59 62 3 80 3 0 33 := rw_of (by decide +kernel)
theorem r155_62 : Rw 155 62 64 2 8 (Int.toNat 4118) 167 21 := rw_of (by decide +kernel)
theorem r155_64 : Rw 155 64 67 3 100 239 2 162 := rw_of (by decide +kernel)
theorem r155_67 : Rw 155 67 70 3 62 94 0 0 := rw_of (by decide +kernel)
theorem r155_70 : Rw 155 70 71 1 14 0 0 0 := rw_of (by decide +kernel)
theorem r155_71 : Rw 155 71 74 3 80 3 0 33 := rw_of (by decide +kernel)
theorem r155_74 : Rw 155 74 76 2 8 (Int.toNat 4116) 169 19 := rw_of (by decide +kernel)
theorem r155_76 : Rw 155 76 79 3 100 239 2 162 := rw_of (by decide +kernel)
theorem r155_79 : Rw 155 79 82 3 62 94 0 0 := rw_of (by decide +kernel)
theorem r155_82 : Rw 155 82 83 1 14 0 0 0 := rw_of (by decide +kernel)
theorem r155_83 : Rw 155 83 86 3 80 3 0 33 := rw_of (by decide +kernel)
theorem r155_86 : Rw 155 86 88 2 8 (Int.toNat 4117) 171 20 := rw_of (by decide +kernel)
theorem r155_88 : Rw 155 88 91 3 100 239 2 162 := rw_of (by decide +kernel)
theorem r155_91 : Rw 155 91 94 3 61 98 0 0 := rw_of (by decide +kernel)
theorem r155_98 : Rw 155 98 99 1 1 (cd 0) 1 0 := rw_of (by decide +kernel)
theorem kc_6_155 : Kc 6 155 := kc_of (by decide) (by decide +kernel)
theorem r158_4 : Rw 158 4 7 3 62 13 0 0 := rw_of (by decide +kernel)
theorem r158_13 : Rw 158 13 14 1 10 1 0 0 := rw_of (by decide +kernel)
theorem r158_14 : Rw 158 14 16 2 2 (cd 6) 134 0 := rw_of (by decide +kernel)
theorem r158_16 : Rw 158 16 19 3 69 25 0 0 := rw_of (by decide +kernel)
theorem r158_25 : Rw 158 25 26 1 14 0 0 0 := rw_of (by decide +kernel)
theorem r158_26 : Rw 158 26 27 1 10 1 0 0 := rw_of (by decide +kernel)
theorem r158_27 : Rw 158 27 30 3 100 157 2 149 := rw_of (by decide +kernel)
theorem r157_0 : Rw 157 0 1 1 14 0 0 0 := rw_of (by decide +kernel)
theorem r157_1 : Rw 157 1 2 1 10 1 0 0 := rw_of (by decide +kernel)
theorem r157_2 : Rw 157 2 5 3 100 166 2 173 := rw_of (by decide +kernel)
theorem r166_0 : Rw 166 0 1 1 1 (cd 0) 1 0 := rw_of (by decide +kernel)
theorem r166_1 : Rw 166 1 2 1 16 2 0 0 := rw_of (by decide +kernel)
theorem r166_2 : Rw 166 2 3 1 10 2 0 0 := rw_of (by decide +kernel)
theorem r166_3 : Rw 166 3 5 2 2 (cd 6) 134 0 := rw_of (by decide +kernel)
theorem r166_5 : Rw 166 5 8 3 70 23 0 0 := rw_of (by decide +kernel)
theorem r166_8 : Rw 166 8 9 1 14 0 0 0 := rw_of (by decide +kernel)
theorem r166_9 : Rw 166 9 11 2 8 (Int.toNat 4119) 160 22 := rw_of (by decide +kernel)
theorem r166_11 : Rw 166 11 14 3 100 175 2 88 := rw_of (by decide +kernel)
theorem r175_0 : Rw 175 0 1 1 14 0 0 0 := rw_of (by decide +kernel)
theorem r175_1 : Rw 175 1 4 3 80 3 0 33 := rw_of (by decide +kernel)
theorem r175_4 : Rw 175 4 5 1 14 1 0 0 := rw_of (by decide +kernel)
theorem r175_5 : Rw 175 5 8 3 100 239 2 162 := rw_of (by decide +kernel)
theorem r175_8 : Rw 175 8 11 3 62 13 0 0 := rw_of (by decide +kernel)
theorem r175_13 : Rw 175 13 14 1 14 0 0 0 := rw_of (by decide +kernel)
theorem r175_14 : Rw 175 14 17 3 80 3 0 33 := rw_of (by decide +kernel)
theorem r175_17 : Rw 175 17 20 3 100 241 1 135 := rw_of (by decide +kernel)
theorem r175_20 : Rw 175 20 21 1 1 (cd 1) 2 0 := rw_of (by decide +kernel)
theorem r175_21 : Rw 175 21 22 1 74 1 0 0 := rw_of (by decide +kernel)
theorem r175_11 : Rw 175 11 12 1 1 (cd 0) 1 0 := rw_of (by decide +kernel)
theorem r175_12 : Rw 175 12 13 1 74 1 0 0 := rw_of (by decide +kernel)
theorem kc_6_175 : Kc 6 175 := kc_of (by decide) (by decide +kernel)
theorem r166_14 : Rw 166 14 17 3 61 23 0 0 := rw_of (by decide +kernel)
theorem r166_17 : Rw 166 17 20 3 22 2 (cd 1) 32769 := rw_of (by decide +kernel)
theorem r166_20 : Rw 166 20 23 3 60 2 0 0 := rw_of (by decide +kernel)
theorem r166_23 : Rw 166 23 24 1 14 0 0 0 := rw_of (by decide +kernel)
theorem r166_24 : Rw 166 24 27 3 80 3 0 33 := rw_of (by decide +kernel)
theorem r166_27 : Rw 166 27 29 2 8 (Int.toNat 4119) 160 22 := rw_of (by decide +kernel)
theorem r166_29 : Rw 166 29 32 3 100 239 2 162 := rw_of (by decide +kernel)
theorem r166_32 : Rw 166 32 35 3 61 41 0 0 := rw_of (by decide +kernel)
theorem r166_41 : Rw 166 41 42 1 14 0 0 0 := rw_of (by decide +kernel)
theorem r166_42 : Rw 166 42 45 3 80 3 0 33 := rw_of (by decide +kernel)
theorem r166_45 : Rw 166 45 47 2 2 (cd 40) 168 0 := rw_of (by decide +kernel)
theorem r166_47 : Rw 166 47 50 3 100 238 2 154 := rw_of (by decide +kernel)
theorem r166_50 : Rw 166 50 53 3 61 61 0 0 := rw_of (by decide +kernel)
theorem r166_61 : Rw 166 61 62 1 14 0 0 0 := rw_of (by decide +kernel)
theorem r166_62 : Rw 166 62 63 1 10 1 0 0 := rw_of (by decide +kernel)
theorem r166_63 : Rw 166 63 66 3 100 153 2 181 := rw_of (by decide +kernel)
theorem r153_0 : Rw 153 0 1 1 14 0 0 0 := rw_of (by decide +kernel)
theorem r153_1 : Rw 153 1 4 3 80 3 0 33 := rw_of (by decide +kernel)
theorem r153_4 : Rw 153 4 7 3 100 237 1 157 := rw_of (by decide +kernel)
theorem r153_7 : Rw 153 7 10 3 61 16 0 0 := rw_of (by decide +kernel)
theorem r153_16 : Rw 153 16 17 1 14 0 0 0 := rw_of (by decide +kernel)
theorem r153_17 : Rw 153 17 19 2 8 (Int.toNat 4114) 165 17 := rw_of (by decide +kernel)
theorem r153_19 : Rw 153 19 22 3 100 175 2 88 := rw_of (by decide +kernel)
theorem r153_22 : Rw 153 22 25 3 61 38 0 0 := rw_of (by decide +kernel)
theorem r153_38 : Rw 153 38 39 1 14 0 0 0 := rw_of (by decide +kernel)
theorem r153_39 : Rw 153 39 41 2 8 (Int.toNat 4115) 122 18 := rw_of (by decide +kernel)
theorem r153_41 : Rw 153 41 44 3 100 175 2 88 := rw_of (by decide +kernel)
theorem r153_44 : Rw 153 44 47 3 61 61 0 0 := rw_of (by decide +kernel)
theorem r153_61 : Rw 153 61 62 1 14 0 0 0 := rw_of (by decide +kernel)
theorem r153_62 : Rw 153 62 64 2 8 (Int.toNat 4116) 169 19 := rw_of (by decide +kernel)
theorem r153_64 : Rw 153 64 67 3 100 175 2 88 := rw_of (by decide +kernel)
theorem r153_67 : Rw 153 67 70 3 61 83 0 0 := rw_of (by decide +kernel)
theorem r153_83 : Rw 153 83 84 1 14 0 0 0 := rw_of (by decide +kernel)
theorem r153_84 : Rw 153 84 86 2 8 (Int.toNat 4117) 171 20 := rw_of (by decide +kernel)
theorem r153_86 : Rw 153 86 89 3 100 175 2 88 := rw_of (by decide +kernel)
theorem r153_89 : Rw 153 89 92 3 61 97 0 0 := rw_of (by decide +kernel)
theorem r153_97 : Rw 153 97 98 1 14 0 0 0 := rw_of (by decide +kernel)
theorem r153_98 : Rw 153 98 100 2 8 (Int.toNat 4118) 167 21 := rw_of (by decide +kernel)
theorem r153_100 : Rw 153 100 103 3 100 175 2 88 := rw_of (by decide +kernel)
theorem r153_103 : Rw 153 103 106 3 61 117 0 0 := rw_of (by decide +kernel)
theorem r153_117 : Rw 153 117 118 1 14 0 0 0 := rw_of (by decide +kernel)
theorem r153_118 : Rw 153 118 119 1 1 (cd 1) 2 0 := rw_of (by decide +kernel)
theorem r153_119 : Rw 153 119 122 3 100 159 2 71 := rw_of (by decide +kernel)
theorem r159_0 : Rw 159 0 1 1 14 0 0 0 := rw_of (by decide +kernel)
theorem r159_1 : Rw 159 1 2 1 10 1 0 0 := rw_of (by decide +kernel)
theorem r159_2 : Rw 159 2 5 3 81 3 4 0 := rw_of (by decide +kernel)
theorem r159_5 : Rw 159 5 6 1 14 0 0 0 := rw_of (by decide +kernel)
theorem r159_6 : Rw 159 6 7 1 14 0 0 0 := rw_of (by decide +kernel)
theorem r159_7 : Rw 159 7 10 3 80 3 0 33 := rw_of (by decide +kernel)
theorem r159_10 : Rw 159 10 13 3 80 9 3 84 := rw_of (by decide +kernel)
theorem r159_13 : Rw 159 13 16 3 81 3 5 0 := rw_of (by decide +kernel)
theorem r159_16 : Rw 159 16 17 1 1 (cd 0) 1 0 := rw_of (by decide +kernel)
theorem r159_17 : Rw 159 17 18 1 74 1 0 0 := rw_of (by decide +kernel)
theorem kc_6_159 : Kc 6 159 := kc_of (by decide) (by decide +kernel)
theorem r153_122 : Rw 153 122 123 1 74 1 0 0 := rw_of (by decide +kernel)
theorem r153_106 : Rw 153 106 107 1 14 0 0 0 := rw_of (by decide +kernel)
theorem r153_107 : Rw 153 107 108 1 14 0 0 0 := rw_of (by decide +kernel)
theorem r153_108 : Rw 153 108 111 3 100 173 1 129 := rw_of (by decide +kernel)
theorem r173_0 : Rw 173 0 1 1 14 0 0 0 := rw_of (by decide +kernel)
theorem r173_1 : Rw 173 1 4 3 80 3 0 33 := rw_of (by decide +kernel)
theorem r173_4 : Rw 173 4 7 3 100 240 1 132 := rw_of (by decide +kernel)
theorem r240_0 : Rw 240 0 1 1 14 0 0 0 := rw_of (by decide +kernel)
theorem r240_1 : Rw 240 1 3 2 8 (Int.toNat 4128) 51 31 := rw_of (by decide +kernel)
theorem r240_3 : Rw 240 3 6 3 100 239 2 53 := rw_of (by decide +kernel)
theorem r240_6 : Rw 240 6 9 3 61 11 0 0 := rw_of (by decide +kernel)
theorem r240_11 : Rw 240 11 12 1 14 0 0 0 := rw_of (by decide +kernel)
theorem r240_12 : Rw 240 12 14 2 8 (Int.toNat 4129) 57 32 := rw_of (by decide +kernel)
theorem r240_14 : Rw 240 14 17 3 100 239 2 53 := rw_of (by decide +kernel)
theorem r240_17 : Rw 240 17 20 3 61 22 0 0 := rw_of (by decide +kernel)
theorem r240_22 : Rw 240 22 23 1 14 0 0 0 := rw_of (by decide +kernel)
theorem r240_23 : Rw 240 23 25 2 8 (Int.toNat 4130) 59 33 := rw_of (by decide +kernel)
theorem r240_25 : Rw 240 25 28 3 100 239 2 53 := rw_of (by decide +kernel)
theorem r240_28 : Rw 240 28 31 3 61 33 0 0 := rw_of (by decide +kernel)
theorem r240_33 : Rw 240 33 34 1 14 0 0 0 := rw_of (by decide +kernel)
theorem r240_34 : Rw 240 34 36 2 8 (Int.toNat 4131) 61 34 := rw_of (by decide +kernel)
theorem r240_36 : Rw 240 36 39 3 100 239 2 53 := rw_of (by decide +kernel)
theorem r240_39 : Rw 240 39 42 3 61 44 0 0 := rw_of (by decide +kernel)
theorem r240_44 : Rw 240 44 45 1 14 0 0 0 := rw_of (by decide +kernel)
theorem r240_45 : Rw 240 45 47 2 8 (Int.toNat 4132) 63 35 := rw_of (by decide +kernel)
theorem r240_47 : Rw 240 47 50 3 100 239 2 53 := rw_of (by decide +kernel)
theorem r240_50 : Rw 240 50 53 3 61 57 0 0 := rw_of (by decide +kernel)
theorem r240_57 : Rw 240 57 58 1 1 (cd (-1)) 0 0 := rw_of (by decide +kernel)
theorem r240_58 : Rw 240 58 59 1 74 0 0 0 := rw_of (by decide +kernel)
theorem r240_53 : Rw 240 53 54 1 1 (cd 4) 5 0 := rw_of (by decide +kernel)
theorem r240_54 : Rw 240 54 57 3 60 58 0 0 := rw_of (by decide +kernel)
theorem r240_42 : Rw 240 42 43 1 1 (cd 3) 4 0 := rw_of (by decide +kernel)
theorem r240_43 : Rw 240 43 44 1 74 0 0 0 := rw_of (by decide +kernel)
theorem r240_31 : Rw 240 31 32 1 1 (cd 2) 3 0 := rw_of (by decide +kernel)
theorem r240_32 : Rw 240 32 33 1 74 0 0 0 := rw_of (by decide +kernel)
theorem r240_20 : Rw 240 20 21 1 1 (cd 1) 2 0 := rw_of (by decide +kernel)
theorem r240_21 : Rw 240 21 22 1 74 0 0 0 := rw_of (by decide +kernel)
theorem r240_9 : Rw 240 9 10 1 1 (cd 0) 1 0 := rw_of (by decide +kernel)
theorem r240_10 : Rw 240 10 11 1 74 0 0 0 := rw_of (by decide +kernel)
theorem kc_9_240 : Kc 9 240 := kc_of (by decide) (by decide +kernel)
theorem r173_7 : Rw 173 7 8 1 16 1 0 0 := rw_of (by decide +kernel)
theorem r173_8 : Rw 173 8 9 1 10 1 0 0 := rw_of (by decide +kernel)
theorem r173_9 : Rw 173 9 10 1 1 (cd (-1)) 0 0 := rw_of (by decide +kernel)
theorem r173_10 : Rw 173 10 13 3 68 36 0 0 := rw_of (by decide +kernel)
theorem r173_36 : Rw 173 36 37 1 14 0 0 0 := rw_of (by decide +kernel)
theorem r173_37 : Rw 173 37 40 3 80 3 0 33 := rw_of (by decide +kernel)
theorem r173_40 : Rw 173 40 43 3 100 241 1 135 := rw_of (by decide +kernel)
theorem r173_43 : Rw 173 43 44 1 10 1 0 0 := rw_of (by decide +kernel)
theorem r173_44 : Rw 173 44 45 1 74 0 0 0 := rw_of (by decide +kernel)
theorem r173_13 : Rw 173 13 14 1 14 0 0 0 := rw_of (by decide +kernel)
theorem r173_14 : Rw 173 14 15 1 14 0 0 0 := rw_of (by decide +kernel)
theorem r173_15 : Rw 173 15 18 3 80 3 0 33 := rw_of (by decide +kernel)
theorem r173_18 : Rw 173 18 21 3 80 9 4 57 := rw_of (by decide +kernel)
theorem r173_21 : Rw 173 21 22 1 1 (cd 1) 2 0 := rw_of (by decide +kernel)
theorem r173_22 : Rw 173 22 25 3 68 29 0 0 := rw_of (by decide +kernel)
theorem r173_29 : Rw 173 29 30 1 1 (cd 1) 2 0 := rw_of (by decide +kernel)
theorem r173_30 : Rw 173 30 33 3 100 159 2 71 := rw_of (by decide +kernel)
theorem r173_33 : Rw 173 33 34 1 53 0 0 0 := rw_of (by decide +kernel)
theorem r173_34 : Rw 173 34 35 1 1 (cd (-1)) 0 0 := rw_of (by decide +kernel)
theorem r173_35 : Rw 173 35 36 1 74 0 0 0 := rw_of (by decide +kernel)
theorem r173_25 : Rw 173 25 26 1 1 (cd 3) 4 0 := rw_of (by decide +kernel)
theorem r173_26 : Rw 173 26 29 3 60 30 0 0 := rw_of (by decide +kernel)
theorem kc_6_173 : Kc 6 173 := kc_of (by decide) (by decide +kernel)
theorem r153_111 : Rw 153 111 114 3 100 163 2 193 := rw_of (by decide +kernel)
theorem r163_0 : Rw 163 0 1 1 10 1 0 0 := rw_of (by decide +kernel)
theorem r163_1 : Rw 163 1 2 1 1 (cd (-1)) 0 0 := rw_of (by decide +kernel)
theorem r163_2 : Rw 163 2 5 3 68 7 0 0 := rw_of (by decide +kernel)
theorem r163_7 : Rw 163 7 8 1 14 0 0 0 := rw_of (by decide +kernel)
theorem r163_8 : Rw 163 8 11 3 80 3 0 33 := rw_of (by decide +kernel)
theorem r163_11 : Rw 163 11 13 2 2 (cd 60) 188 0 := rw_of (by decide +kernel)
theorem r163_13 : Rw 163 13 16 3 100 238 2 154 := rw_of (by decide +kernel)
theorem r163_16 : Rw 163 16 19 3 61 23 0 0 := rw_of (by decide +kernel)
theorem r163_23 : Rw 163 23 24 1 14 0 0 0 := rw_of (by decide +kernel)
theorem r163_24 : Rw 163 24 27 3 80 3 0 33 := rw_of (by decide +kernel)
theorem r163_27 : Rw 163 27 29 2 2 (cd 62) 190 0 := rw_of (by decide +kernel)
theorem r163_29 : Rw 163 29 32 3 100 238 2 154 := rw_of (by decide +kernel)
theorem r163_32 : Rw 163 32 35 3 61 39 0 0 := rw_of (by decide +kernel)
theorem r163_39 : Rw 163 39 40 1 1 (cd 0) 1 0 := rw_of (by decide +kernel)
theorem r163_35 : Rw 163 35 36 1 1 (cd 1) 2 0 := rw_of (by decide +kernel)
theorem r163_36 : Rw 163 36 39 3 60 40 0 0 := rw_of (by decide +kernel)
theorem r163_19 : Rw 163 19 20 1 1 (cd (-1)) 0 0 := rw_of (by decide +kernel)
theorem r163_20 : Rw 163 20 23 3 60 40 0 0 := rw_of (by decide +kernel)
theorem r163_40 : Rw 163 40 41 1 16 2 0 0 := rw_of (by decide +kernel)
theorem r163_41 : Rw 163 41 42 1 10 2 0 0 := rw_of (by decide +kernel)
theorem r163_42 : Rw 163 42 45 3 62 63 0 0 := rw_of (by decide +kernel)
theorem r163_45 : Rw 163 45 46 1 14 0 0 0 := rw_of (by decide +kernel)
theorem r163_46 : Rw 163 46 49 3 80 3 0 33 := rw_of (by decide +kernel)
theorem r163_49 : Rw 163 49 51 2 2 (cd 61) 189 0 := rw_of (by decide +kernel)
theorem r163_51 : Rw 163 51 54 3 100 238 2 154 := rw_of (by decide +kernel)
theorem r163_54 : Rw 163 54 57 3 62 63 0 0 := rw_of (by decide +kernel)
theorem r163_57 : Rw 163 57 58 1 14 0 0 0 := rw_of (by decide +kernel)
theorem r163_58 : Rw 163 58 59 1 1 (cd 1) 2 0 := rw_of (by decide +kernel)
theorem r163_59 : Rw 163 59 62 3 100 159 2 71 := rw_of (by decide +kernel)
theorem r163_62 : Rw 163 62 63 1 74 1 0 0 := rw_of (by decide +kernel)
theorem r163_63 : Rw 163 63 64 1 14 0 0 0 := rw_of (by decide +kernel)
theorem r163_64 : Rw 163 64 67 3 80 3 0 33 := rw_of (by decide +kernel)
theorem r163_67 : Rw 163 67 70 3 100 241 1 135 := rw_of (by decide +kernel)
theorem r163_70 : Rw 163 70 71 1 14 0 0 0 := rw_of (by decide +kernel)
theorem r163_71 : Rw 163 71 72 1 1 (cd 0) 1 0 := rw_of (by decide +kernel)
theorem r163_72 : Rw 163 72 74 2 2 (cd 99) 227 0 := rw_of (by decide +kernel)
theorem r163_74 : Rw 163 74 77 3 100 167 3 92 := rw_of (by decide +kernel)
theorem r167_0 : Rw 167 0 1 1 14 0 0 0 := rw_of (by decide +kernel)
theorem r167_1 : Rw 167 1 4 3 80 3 0 33 := rw_of (by decide +kernel)
theorem r167_4 : Rw 167 4 7 3 80 9 4 57 := rw_of (by decide +kernel)
theorem r167_7 : Rw 167 7 8 1 1 (cd 2) 3 0 := rw_of (by decide +kernel)
theorem r167_8 : Rw 167 8 11 3 67 19 0 0 := rw_of (by decide +kernel)
theorem r167_19 : Rw 167 19 20 1 14 0 0 0 := rw_of (by decide +kernel)
theorem r167_20 : Rw 167 20 23 3 80 3 0 33 := rw_of (by decide +kernel)
theorem r167_23 : Rw 167 23 26 3 100 244 1 216 := rw_of (by decide +kernel)
theorem r244_0 : Rw 244 0 1 1 14 0 0 0 := rw_of (by decide +kernel)
theorem r244_1 : Rw 244 1 4 3 80 9 2 15 := rw_of (by decide +kernel)
theorem r244_4 : Rw 244 4 5 1 14 0 0 0 := rw_of (by decide +kernel)
theorem r244_5 : Rw 244 5 8 3 80 9 3 18 := rw_of (by decide +kernel)
theorem r244_8 : Rw 244 8 9 1 31 0 0 0 := rw_of (by decide +kernel)
theorem r244_9 : Rw 244 9 10 1 1 (cd 3) 4 0 := rw_of (by decide +kernel)
theorem r244_10 : Rw 244 10 13 3 72 15 0 0 := rw_of (by decide +kernel)
theorem r244_15 : Rw 244 15 16 1 1 (cd 0) 1 0 := rw_of (by decide +kernel)
theorem r244_16 : Rw 244 16 17 1 16 1 0 0 := rw_of (by decide +kernel)
theorem r244_17 : Rw 244 17 18 1 14 0 0 0 := rw_of (by decide +kernel)
theorem r244_18 : Rw 244 18 21 3 80 9 3 18 := rw_of (by decide +kernel)
theorem r244_21 : Rw 244 21 22 1 16 2 0 0 := rw_of (by decide +kernel)
theorem r244_22 : Rw 244 22 23 1 10 2 0 0 := rw_of (by decide +kernel)
theorem r244_23 : Rw 244 23 24 1 14 0 0 0 := rw_of (by decide +kernel)
theorem r244_24 : Rw 244 24 27 3 80 9 2 15 := rw_of (by decide +kernel)
theorem r244_27 : Rw 244 27 30 3 70 51 0 0 := rw_of (by decide +kernel)
theorem r244_51 : Rw 244 51 52 1 10 1 0 0 := rw_of (by decide +kernel)
theorem r244_52 : Rw 244 52 53 1 74 0 0 0 := rw_of (by decide +kernel)
theorem r244_30 : Rw 244 30 32 2 2 (cd 10) 138 0 := rw_of (by decide +kernel)
theorem r244_32 : Rw 244 32 33 1 10 1 0 0 := rw_of (by decide +kernel)
theorem r244_33 : Rw 244 33 34 1 32 0 0 0 := rw_of (by decide +kernel)
theorem r244_34 : Rw 244 34 35 1 14 0 0 0 := rw_of (by decide +kernel)
theorem r244_35 : Rw 244 35 38 3 80 9 0 24 := rw_of (by decide +kernel)
theorem r244_38 : Rw 244 38 39 1 10 2 0 0 := rw_of (by decide +kernel)
theorem r244_39 : Rw 244 39 40 1 85 0 0 0 := rw_of (by decide +kernel)
theorem r244_40 : Rw 244 40 42 2 2 (cd 48) 176 0 := rw_of (by decide +kernel)
theorem r244_42 : Rw 244 42 43 1 31 0 0 0 := rw_of (by decide +kernel)
theorem r244_43 : Rw 244 43 44 1 30 0 0 0 := rw_of (by decide +kernel)
theorem r244_44 : Rw 244 44 45 1 16 1 0 0 := rw_of (by decide +kernel)
theorem r244_45 : Rw 244 45 48 3 22 2 (cd 1) 32769 := rw_of (by decide +kernel)
theorem r244_48 : Rw 244 48 51 3 60 22 0 0 := rw_of (by decide +kernel)
theorem r244_13 : Rw 244 13 14 1 1 (cd (-1)) 0 0 := rw_of (by decide +kernel)
theorem r244_14 : Rw 244 14 15 1 74 0 0 0 := rw_of (by decide +kernel)
theorem kc_9_244 : Kc 9 244 := kc_of (by decide) (by decide +kernel)
theorem r167_26 : Rw 167 26 27 1 16 3 0 0 := rw_of (by decide +kernel)
theorem r167_27 : Rw 167 27 28 1 10 3 0 0 := rw_of (by decide +kernel)
theorem r167_28 : Rw 167 28 29 1 10 1 0 0 := rw_of (by decide +kernel)
theorem r167_29 : Rw 167 29 32 3 69 37 0 0 := rw_of (by decide +kernel)
theorem r167_37 : Rw 167 37 38 1 14 0 0 0 := rw_of (by decide +kernel)
theorem r167_38 : Rw 167 38 39 1 1 (cd 2) 3 0 := rw_of (by decide +kernel)
theorem r167_39 : Rw 167 39 42 3 100 159 2 71 := rw_of (by decide +kernel)
theorem r167_42 : Rw 167 42 43 1 53 0 0 0 := rw_of (by decide +kernel)
theorem r167_43 : Rw 167 43 44 1 1 (cd (-1)) 0 0 := rw_of (by decide +kernel)
theorem r167_44 : Rw 167 44 45 1 74 0 0 0 := rw_of (by decide +kernel)
theorem r167_32 : Rw 167 32 33 1 10 3 0 0 := rw_of (by decide +kernel)
theorem r167_33 : Rw 167 33 34 1 10 2 0 0 := rw_of (by decide +kernel)
theorem r167_34 : Rw 167 34 37 3 72 45 0 0 := rw_of (by decide +kernel)
theorem r167_45 : Rw 167 45 46 1 14 0 0 0 := rw_of (by decide +kernel)
theorem r167_46 : Rw 167 46 49 3 80 3 0 33 := rw_of (by decide +kernel)
theorem r167_49 : Rw 167 49 52 3 100 241 1 135 := rw_of (by decide +kernel)
theorem r167_52 : Rw 167 52 53 1 10 3 0 0 := rw_of (by decide +kernel)
theorem r167_53 : Rw 167 53 54 1 74 0 0 0 := rw_of (by decide +kernel)
theorem r167_11 : Rw 167 11 12 1 14 0 0 0 := rw_of (by decide +kernel)
theorem r167_12 : Rw 167 12 13 1 1 (cd 1) 2 0 := rw_of (by decide +kernel)
theorem r167_13 : Rw 167 13 16 3 100 159 2 71 := rw_of (by decide +kernel)
theorem r167_16 : Rw 167 16 17 1 53 0 0 0 := rw_of (by decide +kernel)
theorem r167_17 : Rw 167 17 18 1 1 (cd (-1)) 0 0 := rw_of (by decide +kernel)
theorem r167_18 : Rw 167 18 19 1 74 0 0 0 := rw_of (by decide +kernel)
theorem kc_6_167 : Kc 6 167 := kc_of (by decide) (by decide +kernel)
theorem r163_77 : Rw 163 77 78 1 16 3 0 0 := rw_of (by decide +kernel)
theorem r163_78 : Rw 163 78 79 1 10 3 0 0 := rw_of (by decide +kernel)
theorem r163_79 : Rw 163 79 80 1 1 (cd (-1)) 0 0 := rw_of (by decide +kernel)
theorem r163_80 : Rw 163 80 83 3 68 85 0 0 := rw_of (by decide +kernel)
theorem r163_85 : Rw 163 85 86 1 10 3 0 0 := rw_of (by decide +kernel)
theorem r163_86 : Rw 163 86 88 2 2 (cd 8) 136 0 := rw_of (by decide +kernel)
theorem r163_88 : Rw 163 88 91 3 114 0 0 199 := rw_of (by decide +kernel)
theorem r163_91 : Rw 163 91 93 2 17 4 0 0 := rw_of (by decide +kernel)
theorem r163_93 : Rw 163 93 94 1 10 2 0 0 := rw_of (by decide +kernel)
theorem r163_94 : Rw 163 94 97 3 64 106 0 0 := rw_of (by decide +kernel)
theorem r163_106 : Rw 163 106 107 1 10 2 0 0 := rw_of (by decide +kernel)
theorem r163_107 : Rw 163 107 110 3 66 119 0 0 := rw_of (by decide +kernel)
theorem r163_119 : Rw 163 119 120 1 1 (cd 1) 2 0 := rw_of (by decide +kernel)
theorem r163_120 : Rw 163 120 122 2 11 4 0 0 := rw_of (by decide +kernel)
theorem r163_122 : Rw 163 122 123 1 36 0 0 0 := rw_of (by decide +kernel)
theorem pwl_8 : pw 8 = 256 := by decide
theorem r163_123 : Rw 163 123 125 2 17 5 0 0 := rw_of (by decide +kernel)
theorem r163_125 : Rw 163 125 126 1 14 0 0 0 := rw_of (by decide +kernel)
theorem r163_126 : Rw 163 126 128 2 2 (cd 6) 134 0 := rw_of (by decide +kernel)
theorem r163_128 : Rw 163 128 129 1 10 1 0 0 := rw_of (by decide +kernel)
theorem r163_129 : Rw 163 129 131 2 2 (cd 8) 136 0 := rw_of (by decide +kernel)
theorem r163_131 : Rw 163 131 132 1 36 0 0 0 := rw_of (by decide +kernel)
theorem r163_132 : Rw 163 132 134 2 11 5 0 0 := rw_of (by decide +kernel)
theorem r163_134 : Rw 163 134 137 3 3 (cd 255) 33023 0 := rw_of (by decide +kernel)
theorem r163_137 : Rw 163 137 138 1 33 0 0 0 := rw_of (by decide +kernel)
theorem r163_138 : Rw 163 138 139 1 34 0 0 0 := rw_of (by decide +kernel)
theorem r163_139 : Rw 163 139 142 3 100 172 3 109 := rw_of (by decide +kernel)
theorem r172_0 : Rw 172 0 1 1 14 0 0 0 := rw_of (by decide +kernel)
theorem r172_1 : Rw 172 1 4 3 80 3 2 37 := rw_of (by decide +kernel)
theorem pcE {M : Mm} (h : Pw M) : isC (M 6 2) := ((h 6 2 (by decide) (by decide) (by decide) (by decide +kernel)).ex g_6_2).2.1 rfl
theorem r172_4 : Rw 172 4 5 1 10 1 0 0 := rw_of (by decide +kernel)
theorem r172_5 : Rw 172 5 6 1 10 2 0 0 := rw_of (by decide +kernel)
theorem r172_6 : Rw 172 6 9 3 100 138 3 219 := rw_of (by decide +kernel)
theorem r138_0 : Rw 138 0 1 1 14 0 0 0 := rw_of (by decide +kernel)
theorem r138_1 : Rw 138 1 4 3 80 1 1 15 := rw_of (by decide +kernel)
theorem fdCb_0 : (List.range 30).all (fun j => fdb (679 + 2 * j) 1 0 2) = true := by decide +kernel
theorem fdC_0 {a : Int} (h : isC a) : Fdl a 1 0 0 2 := by
  rcases h with rfl | h
  · exact fd_of (by decide) rfl (by decide +kernel)
  · refine fd_of (by omega) rfl ?_
    have h2 := List.all_eq_true.mp fdCb_0 ((a.toNat - 679) / 2) (List.mem_range.mpr (by omega))
    rw [show 679 + 2 * ((a.toNat - 679) / 2) = a.toNat by omega] at h2
    exact h2
theorem lnCb : (List.range 30).all (fun j => Nat.beq (ln (679 + 2 * j)) 4) = true := by decide +kernel
theorem lnC {a : Int} (h : isC a) : (ln a.toNat : Int) = 4 := by
  rcases h with rfl | h
  · decide +kernel
  · have h2 := List.all_eq_true.mp lnCb ((a.toNat - 679) / 2) (List.mem_range.mpr (by omega))
    rw [show 679 + 2 * ((a.toNat - 679) / 2) = a.toNat by omega] at h2
    rw [Nat.eq_of_beq_eq_true h2]
    rfl
theorem isC_rg {a : Int} (h : isC a) : 0 ≤ a ∧ a < 769 := by
  unfold isC at h
  omega
theorem bC_1 {M : Mm} (h : Pw M) {a : Int} (ha : isC a) : 0 ≤ M a 1 ∧ M a 1 ≤ 256 := (h a 1 (isC_rg ha).1 (by have := isC_rg ha; omega) (by decide) (by rw [lnC ha]; decide)).get0 (g_c1 ha) rfl rfl rfl rfl
theorem r138_4 : Rw 138 4 5 1 14 0 0 0 := rw_of (by decide +kernel)
theorem r138_5 : Rw 138 5 8 3 80 1 0 9 := rw_of (by decide +kernel)
theorem bC_0 {M : Mm} (h : Pw M) {a : Int} (ha : isC a) : M a 0 = a + 1 := by
  have := (h a 0 (isC_rg ha).1 (by have := isC_rg ha; omega) (by decide) (by rw [lnC ha]; decide)).get (l := 1) (u := 1) (c := 0) (s := 1) (g_c0 ha) rfl rfl rfl rfl
  omega
theorem r138_8 : Rw 138 8 9 1 92 0 0 0 := rw_of (by decide +kernel)
theorem arCb : (List.range 30).all (fun j => arb (680 + 2 * j) 100 256) = true := by decide +kernel
theorem arC {a : Int} (h : isC a) : Ar (a + 1) 100 256 := by
  rcases h with rfl | h
  · exact ar_of (by decide) (by decide) (by decide +kernel)
  · refine ar_of (by omega) (by decide) ?_
    have h2 := List.all_eq_true.mp arCb ((a.toNat - 679) / 2) (List.mem_range.mpr (by omega))
    rw [show 680 + 2 * ((a.toNat - 679) / 2) = (a + 1).toNat by omega] at h2
    exact h2
theorem baC {M : Mm} (h : Pw M) {a i : Int} (ha : isC a) (h0 : 0 ≤ i) (h1 : i < 256) : 0 ≤ M (a + 1) i ∧ M (a + 1) i ≤ 10239 := (h (a + 1) i (by have := isC_rg ha; omega) (by have := isC_rg ha; omega) h0 (by rw [(arC ha).2.2.2.1]; exact h1)).get0 (g_cs ha i) rfl rfl rfl rfl
theorem r138_9 : Rw 138 9 12 3 70 36 0 0 := rw_of (by decide +kernel)
theorem r138_36 : Rw 138 36 37 1 77 0 0 0 := rw_of (by decide +kernel)
theorem r138_12 : Rw 138 12 13 1 14 0 0 0 := rw_of (by decide +kernel)
theorem r138_13 : Rw 138 13 16 3 80 1 0 9 := rw_of (by decide +kernel)
theorem r138_16 : Rw 138 16 17 1 14 0 0 0 := rw_of (by decide +kernel)
theorem r138_17 : Rw 138 17 20 3 80 1 1 15 := rw_of (by decide +kernel)
theorem r138_20 : Rw 138 20 21 1 10 1 0 0 := rw_of (by decide +kernel)
theorem r138_21 : Rw 138 21 22 1 10 2 0 0 := rw_of (by decide +kernel)
theorem r138_22 : Rw 138 22 23 1 1 (cd 3) 4 0 := rw_of (by decide +kernel)
theorem r138_23 : Rw 138 23 24 1 36 0 0 0 := rw_of (by decide +kernel)
theorem pwl_3 : pw 3 = 8 := by decide
theorem r138_24 : Rw 138 24 25 1 34 0 0 0 := rw_of (by decide +kernel)
theorem r138_25 : Rw 138 25 26 1 88 0 0 0 := rw_of (by decide +kernel)
theorem uaC {a i z : Int} (ha : isC a) (hz : stepok z) : Bd (a + 1) i z := Bd.ofe (l := 0) (u := 10239) (g_cs ha i) rfl rfl rfl rfl ⟨fun _ => hz, fun e => absurd e (by decide), fun e => absurd e (by decide), fun e => absurd e (by decide)⟩ ⟨hz.1, hz.2.1⟩
theorem r138_26 : Rw 138 26 27 1 14 0 0 0 := rw_of (by decide +kernel)
theorem r138_27 : Rw 138 27 28 1 52 0 0 0 := rw_of (by decide +kernel)
theorem r138_28 : Rw 138 28 31 3 80 1 1 15 := rw_of (by decide +kernel)
theorem r138_31 : Rw 138 31 32 1 1 (cd 1) 2 0 := rw_of (by decide +kernel)
theorem r138_32 : Rw 138 32 33 1 30 0 0 0 := rw_of (by decide +kernel)
theorem r138_33 : Rw 138 33 36 3 81 1 1 0 := rw_of (by decide +kernel)
theorem kcCb_138 : (List.range 30).all (fun j => kcb (679 + 2 * j) 138) = true := by decide +kernel
theorem kcC_138 {a : Int} (h : isC a) : Kc a 138 := by
  rcases h with rfl | h
  · exact kc_of (by decide) (by decide +kernel)
  · refine kc_of (by omega) ?_
    have h2 := List.all_eq_true.mp kcCb_138 ((a.toNat - 679) / 2) (List.mem_range.mpr (by omega))
    rw [show 679 + 2 * ((a.toNat - 679) / 2) = a.toNat by omega] at h2
    exact h2
theorem r172_9 : Rw 172 9 10 1 1 (cd 1) 2 0 := rw_of (by decide +kernel)
theorem r172_10 : Rw 172 10 11 1 74 1 0 0 := rw_of (by decide +kernel)
theorem kc_6_172 : Kc 6 172 := kc_of (by decide) (by decide +kernel)
theorem r163_142 : Rw 163 142 143 1 74 1 0 0 := rw_of (by decide +kernel)
theorem r163_110 : Rw 163 110 111 1 1 (cd (-1)) 0 0 := rw_of (by decide +kernel)
theorem r163_111 : Rw 163 111 113 2 11 4 0 0 := rw_of (by decide +kernel)
theorem r163_113 : Rw 163 113 114 1 1 (cd 1) 2 0 := rw_of (by decide +kernel)
theorem r163_114 : Rw 163 114 115 1 30 0 0 0 := rw_of (by decide +kernel)
theorem r163_115 : Rw 163 115 116 1 36 0 0 0 := rw_of (by decide +kernel)
theorem r163_116 : Rw 163 116 119 3 60 123 0 0 := rw_of (by decide +kernel)
theorem r163_97 : Rw 163 97 98 1 1 (cd 1) 2 0 := rw_of (by decide +kernel)
theorem r163_98 : Rw 163 98 100 2 11 4 0 0 := rw_of (by decide +kernel)
theorem r163_100 : Rw 163 100 101 1 36 0 0 0 := rw_of (by decide +kernel)
theorem r163_101 : Rw 163 101 102 1 1 (cd 1) 2 0 := rw_of (by decide +kernel)
theorem r163_102 : Rw 163 102 103 1 31 0 0 0 := rw_of (by decide +kernel)
theorem r163_103 : Rw 163 103 106 3 60 123 0 0 := rw_of (by decide +kernel)
theorem r163_83 : Rw 163 83 84 1 1 (cd 0) 1 0 := rw_of (by decide +kernel)
theorem r163_84 : Rw 163 84 85 1 74 1 0 0 := rw_of (by decide +kernel)
theorem r163_5 : Rw 163 5 6 1 1 (cd 0) 1 0 := rw_of (by decide +kernel)
theorem r163_6 : Rw 163 6 7 1 74 1 0 0 := rw_of (by decide +kernel)
theorem kc_6_163 : Kc 6 163 := kc_of (by decide) (by decide +kernel)
theorem r153_114 : Rw 153 114 117 3 60 122 0 0 := rw_of (by decide +kernel)
theorem r153_92 : Rw 153 92 93 1 14 0 0 0 := rw_of (by decide +kernel)
theorem r153_93 : Rw 153 93 96 3 100 176 1 190 := rw_of (by decide +kernel)
theorem r176_0 : Rw 176 0 1 1 14 0 0 0 := rw_of (by decide +kernel)
theorem r176_1 : Rw 176 1 2 1 1 (cd 0) 1 0 := rw_of (by decide +kernel)
theorem r176_2 : Rw 176 2 4 2 2 (cd 99) 227 0 := rw_of (by decide +kernel)
theorem r176_4 : Rw 176 4 7 3 100 167 3 92 := rw_of (by decide +kernel)
theorem r176_7 : Rw 176 7 8 1 16 1 0 0 := rw_of (by decide +kernel)
theorem r176_8 : Rw 176 8 9 1 10 1 0 0 := rw_of (by decide +kernel)
theorem r176_9 : Rw 176 9 10 1 1 (cd (-1)) 0 0 := rw_of (by decide +kernel)
theorem r176_10 : Rw 176 10 13 3 68 15 0 0 := rw_of (by decide +kernel)
theorem r176_15 : Rw 176 15 16 1 14 0 0 0 := rw_of (by decide +kernel)
theorem r176_16 : Rw 176 16 19 3 80 3 2 37 := rw_of (by decide +kernel)
theorem r176_19 : Rw 176 19 20 1 10 1 0 0 := rw_of (by decide +kernel)
theorem r176_20 : Rw 176 20 23 3 100 140 2 196 := rw_of (by decide +kernel)
theorem r140_0 : Rw 140 0 1 1 10 1 0 0 := rw_of (by decide +kernel)
theorem r140_1 : Rw 140 1 3 2 2 (cd 15) 143 0 := rw_of (by decide +kernel)
theorem r140_3 : Rw 140 3 6 3 70 10 0 0 := rw_of (by decide +kernel)
theorem r140_10 : Rw 140 10 11 1 1 (cd 0) 1 0 := rw_of (by decide +kernel)
theorem r140_11 : Rw 140 11 12 1 16 2 0 0 := rw_of (by decide +kernel)
theorem r140_12 : Rw 140 12 13 1 14 0 0 0 := rw_of (by decide +kernel)
theorem r140_13 : Rw 140 13 14 1 1 (cd 0) 1 0 := rw_of (by decide +kernel)
theorem r140_14 : Rw 140 14 15 1 10 2 0 0 := rw_of (by decide +kernel)
theorem r140_15 : Rw 140 15 18 3 61 25 0 0 := rw_of (by decide +kernel)
theorem r140_25 : Rw 140 25 27 2 2 (cd 117) 245 0 := rw_of (by decide +kernel)
theorem r140_27 : Rw 140 27 30 3 100 138 3 28 := rw_of (by decide +kernel)
theorem r140_30 : Rw 140 30 31 1 10 2 0 0 := rw_of (by decide +kernel)
theorem r140_31 : Rw 140 31 34 3 61 46 0 0 := rw_of (by decide +kernel)
theorem r140_46 : Rw 140 46 47 1 77 0 0 0 := rw_of (by decide +kernel)
theorem r140_6 : Rw 140 6 7 1 1 (cd 1) 2 0 := rw_of (by decide +kernel)
theorem r140_7 : Rw 140 7 10 3 60 11 0 0 := rw_of (by decide +kernel)
theorem r140_34 : Rw 140 34 35 1 14 0 0 0 := rw_of (by decide +kernel)
theorem r140_35 : Rw 140 35 36 1 52 0 0 0 := rw_of (by decide +kernel)
theorem r140_36 : Rw 140 36 39 3 80 1 3 22 := rw_of (by decide +kernel)
theorem bC_3 {M : Mm} (h : Pw M) {a : Int} (ha : isC a) : 0 ≤ M a 3 ∧ M a 3 ≤ 32767 := (h a 3 (isC_rg ha).1 (by have := isC_rg ha; omega) (by decide) (by rw [lnC ha]; decide)).get0 (g_c3 ha) rfl rfl rfl rfl
theorem r140_39 : Rw 140 39 40 1 1 (cd 1) 2 0 := rw_of (by decide +kernel)
theorem r140_40 : Rw 140 40 41 1 10 1 0 0 := rw_of (by decide +kernel)
theorem r140_41 : Rw 140 41 42 1 36 0 0 0 := rw_of (by decide +kernel)
theorem pwl_14 : pw 14 = 16384 := by decide
theorem r140_42 : Rw 140 42 43 1 34 0 0 0 := rw_of (by decide +kernel)
theorem r140_43 : Rw 140 43 46 3 81 1 3 0 := rw_of (by decide +kernel)
theorem r140_18 : Rw 140 18 20 2 2 (cd 102) 230 0 := rw_of (by decide +kernel)
theorem r140_20 : Rw 140 20 21 1 10 1 0 0 := rw_of (by decide +kernel)
theorem r140_21 : Rw 140 21 22 1 30 0 0 0 := rw_of (by decide +kernel)
theorem r140_22 : Rw 140 22 25 3 60 27 0 0 := rw_of (by decide +kernel)
theorem kcCb_140 : (List.range 30).all (fun j => kcb (679 + 2 * j) 140) = true := by decide +kernel
theorem kcC_140 {a : Int} (h : isC a) : Kc a 140 := by
  rcases h with rfl | h
  · exact kc_of (by decide) (by decide +kernel)
  · refine kc_of (by omega) ?_
    have h2 := List.all_eq_true.mp kcCb_140 ((a.toNat - 679) / 2) (List.mem_range.mpr (by omega))
    rw [show 679 + 2 * ((a.toNat - 679) / 2) = a.toNat by omega] at h2
    exact h2
theorem r176_23 : Rw 176 23 24 1 1 (cd 1) 2 0 := rw_of (by decide +kernel)
theorem r176_24 : Rw 176 24 25 1 74 1 0 0 := rw_of (by decide +kernel)
theorem r176_13 : Rw 176 13 14 1 1 (cd 0) 1 0 := rw_of (by decide +kernel)
theorem r176_14 : Rw 176 14 15 1 74 1 0 0 := rw_of (by decide +kernel)
theorem kc_6_176 : Kc 6 176 := kc_of (by decide) (by decide +kernel)
theorem r153_96 : Rw 153 96 97 1 74 1 0 0 := rw_of (by decide +kernel)
theorem r153_70 : Rw 153 70 71 1 14 0 0 0 := rw_of (by decide +kernel)
theorem r153_71 : Rw 153 71 73 2 2 (cd 46) 174 0 := rw_of (by decide +kernel)
theorem r153_73 : Rw 153 73 74 1 14 0 0 0 := rw_of (by decide +kernel)
theorem r153_74 : Rw 153 74 75 1 1 (cd 0) 1 0 := rw_of (by decide +kernel)
theorem r153_75 : Rw 153 75 76 1 1 (cd 1) 2 0 := rw_of (by decide +kernel)
theorem r153_76 : Rw 153 76 79 3 100 167 3 92 := rw_of (by decide +kernel)
theorem r153_79 : Rw 153 79 82 3 100 171 3 187 := rw_of (by decide +kernel)
theorem r171_0 : Rw 171 0 1 1 10 2 0 0 := rw_of (by decide +kernel)
theorem r171_1 : Rw 171 1 2 1 1 (cd (-1)) 0 0 := rw_of (by decide +kernel)
theorem r171_2 : Rw 171 2 5 3 67 20 0 0 := rw_of (by decide +kernel)
theorem r171_20 : Rw 171 20 21 1 1 (cd 0) 1 0 := rw_of (by decide +kernel)
theorem r171_21 : Rw 171 21 22 1 74 1 0 0 := rw_of (by decide +kernel)
theorem r171_5 : Rw 171 5 6 1 14 0 0 0 := rw_of (by decide +kernel)
theorem r171_6 : Rw 171 6 7 1 1 (cd 0) 1 0 := rw_of (by decide +kernel)
theorem r171_7 : Rw 171 7 8 1 10 1 0 0 := rw_of (by decide +kernel)
theorem r171_8 : Rw 171 8 9 1 10 2 0 0 := rw_of (by decide +kernel)
theorem r171_9 : Rw 171 9 10 1 30 0 0 0 := rw_of (by decide +kernel)
theorem r171_10 : Rw 171 10 13 3 100 172 3 109 := rw_of (by decide +kernel)
theorem r171_13 : Rw 171 13 16 3 61 20 0 0 := rw_of (by decide +kernel)
theorem r171_16 : Rw 171 16 17 1 1 (cd 1) 2 0 := rw_of (by decide +kernel)
theorem r171_17 : Rw 171 17 20 3 60 21 0 0 := rw_of (by decide +kernel)
theorem kc_6_171 : Kc 6 171 := kc_of (by decide) (by decide +kernel)
theorem r153_82 : Rw 153 82 83 1 74 1 0 0 := rw_of (by decide +kernel)
theorem r153_47 : Rw 153 47 48 1 14 0 0 0 := rw_of (by decide +kernel)
theorem r153_48 : Rw 153 48 50 2 2 (cd 39) 167 0 := rw_of (by decide +kernel)
theorem r153_50 : Rw 153 50 51 1 14 0 0 0 := rw_of (by decide +kernel)
theorem r153_51 : Rw 153 51 52 1 1 (cd 0) 1 0 := rw_of (by decide +kernel)
theorem r153_52 : Rw 153 52 54 2 2 (cd 6) 134 0 := rw_of (by decide +kernel)
theorem r153_54 : Rw 153 54 57 3 100 167 3 92 := rw_of (by decide +kernel)
theorem r153_57 : Rw 153 57 60 3 100 171 3 187 := rw_of (by decide +kernel)
theorem r153_60 : Rw 153 60 61 1 74 1 0 0 := rw_of (by decide +kernel)
theorem r153_25 : Rw 153 25 26 1 14 0 0 0 := rw_of (by decide +kernel)
theorem r153_26 : Rw 153 26 28 2 2 (cd 35) 163 0 := rw_of (by decide +kernel)
theorem r153_28 : Rw 153 28 29 1 14 0 0 0 := rw_of (by decide +kernel)
theorem r153_29 : Rw 153 29 30 1 1 (cd 0) 1 0 := rw_of (by decide +kernel)
theorem r153_30 : Rw 153 30 31 1 1 (cd 3) 4 0 := rw_of (by decide +kernel)
theorem r153_31 : Rw 153 31 34 3 100 167 3 92 := rw_of (by decide +kernel)
theorem r153_34 : Rw 153 34 37 3 100 171 3 187 := rw_of (by decide +kernel)
theorem r153_37 : Rw 153 37 38 1 74 1 0 0 := rw_of (by decide +kernel)
theorem r153_10 : Rw 153 10 11 1 14 0 0 0 := rw_of (by decide +kernel)
theorem r153_11 : Rw 153 11 12 1 10 1 0 0 := rw_of (by decide +kernel)
theorem r153_12 : Rw 153 12 15 3 100 152 2 184 := rw_of (by decide +kernel)
theorem r152_0 : Rw 152 0 1 1 14 0 0 0 := rw_of (by decide +kernel)
theorem r152_1 : Rw 152 1 4 3 100 165 1 126 := rw_of (by decide +kernel)
theorem r165_0 : Rw 165 0 1 1 14 0 0 0 := rw_of (by decide +kernel)
theorem r165_1 : Rw 165 1 4 3 80 3 0 33 := rw_of (by decide +kernel)
theorem r165_4 : Rw 165 4 7 3 100 237 1 157 := rw_of (by decide +kernel)
theorem r165_7 : Rw 165 7 10 3 62 18 0 0 := rw_of (by decide +kernel)
theorem r165_18 : Rw 165 18 19 1 14 0 0 0 := rw_of (by decide +kernel)
theorem r165_19 : Rw 165 19 22 3 80 3 0 33 := rw_of (by decide +kernel)
theorem r165_22 : Rw 165 22 25 3 100 242 1 213 := rw_of (by decide +kernel)
theorem r242_0 : Rw 242 0 1 1 14 0 0 0 := rw_of (by decide +kernel)
theorem r242_1 : Rw 242 1 4 3 80 9 0 24 := rw_of (by decide +kernel)
theorem r242_4 : Rw 242 4 5 1 14 0 0 0 := rw_of (by decide +kernel)
theorem r242_5 : Rw 242 5 8 3 80 9 3 18 := rw_of (by decide +kernel)
theorem r242_8 : Rw 242 8 9 1 85 0 0 0 := rw_of (by decide +kernel)
theorem r242_9 : Rw 242 9 11 2 2 (cd 97) 225 0 := rw_of (by decide +kernel)
theorem r242_11 : Rw 242 11 12 1 31 0 0 0 := rw_of (by decide +kernel)
theorem r242_12 : Rw 242 12 13 1 74 0 0 0 := rw_of (by decide +kernel)
theorem kc_9_242 : Kc 9 242 := kc_of (by decide) (by decide +kernel)
theorem r165_25 : Rw 165 25 26 1 16 1 0 0 := rw_of (by decide +kernel)
theorem r165_26 : Rw 165 26 27 1 10 1 0 0 := rw_of (by decide +kernel)
theorem r165_27 : Rw 165 27 30 3 63 38 0 0 := rw_of (by decide +kernel)
theorem r165_38 : Rw 165 38 39 1 14 0 0 0 := rw_of (by decide +kernel)
theorem r165_39 : Rw 165 39 40 1 1 (cd 4) 5 0 := rw_of (by decide +kernel)
theorem r165_40 : Rw 165 40 43 3 100 159 2 71 := rw_of (by decide +kernel)
theorem r165_43 : Rw 165 43 44 1 53 0 0 0 := rw_of (by decide +kernel)
theorem r165_44 : Rw 165 44 45 1 1 (cd (-1)) 0 0 := rw_of (by decide +kernel)
theorem r165_45 : Rw 165 45 46 1 74 0 0 0 := rw_of (by decide +kernel)
theorem r165_30 : Rw 165 30 31 1 10 1 0 0 := rw_of (by decide +kernel)
theorem r165_31 : Rw 165 31 32 1 14 0 0 0 := rw_of (by decide +kernel)
theorem r165_32 : Rw 165 32 35 3 80 3 3 18 := rw_of (by decide +kernel)
theorem bf_6_3 {M : Mm} (h : Pw M) : (-1) ≤ M 6 3 ∧ M 6 3 ≤ 7 := (h 6 3 (by decide) (by decide) (by decide) (by decide +kernel)).get0 g_6_3 rfl rfl rfl rfl
theorem r165_35 : Rw 165 35 38 3 69 46 0 0 := rw_of (by decide +kernel)
theorem r165_46 : Rw 165 46 47 1 14 0 0 0 := rw_of (by decide +kernel)
theorem r165_47 : Rw 165 47 50 3 80 3 0 33 := rw_of (by decide +kernel)
theorem r165_50 : Rw 165 50 53 3 100 241 1 135 := rw_of (by decide +kernel)
theorem r165_53 : Rw 165 53 54 1 10 1 0 0 := rw_of (by decide +kernel)
theorem r165_54 : Rw 165 54 55 1 74 0 0 0 := rw_of (by decide +kernel)
theorem r165_10 : Rw 165 10 11 1 14 0 0 0 := rw_of (by decide +kernel)
theorem r165_11 : Rw 165 11 12 1 1 (cd 1) 2 0 := rw_of (by decide +kernel)
theorem r165_12 : Rw 165 12 15 3 100 159 2 71 := rw_of (by decide +kernel)
theorem r165_15 : Rw 165 15 16 1 53 0 0 0 := rw_of (by decide +kernel)
theorem r165_16 : Rw 165 16 17 1 1 (cd (-1)) 0 0 := rw_of (by decide +kernel)
theorem r165_17 : Rw 165 17 18 1 74 0 0 0 := rw_of (by decide +kernel)
theorem kc_6_165 : Kc 6 165 := kc_of (by decide) (by decide +kernel)
theorem r152_4 : Rw 152 4 5 1 16 2 0 0 := rw_of (by decide +kernel)
theorem r152_5 : Rw 152 5 6 1 10 2 0 0 := rw_of (by decide +kernel)
theorem r152_6 : Rw 152 6 7 1 1 (cd (-1)) 0 0 := rw_of (by decide +kernel)
theorem r152_7 : Rw 152 7 10 3 68 12 0 0 := rw_of (by decide +kernel)
theorem r152_12 : Rw 152 12 13 1 14 0 0 0 := rw_of (by decide +kernel)
theorem r152_13 : Rw 152 13 15 2 8 (Int.toNat 4111) 204 14 := rw_of (by decide +kernel)
theorem r152_15 : Rw 152 15 18 3 100 175 2 88 := rw_of (by decide +kernel)
theorem r152_18 : Rw 152 18 21 3 61 35 0 0 := rw_of (by decide +kernel)
theorem r152_35 : Rw 152 35 36 1 14 0 0 0 := rw_of (by decide +kernel)
theorem r152_36 : Rw 152 36 38 2 8 (Int.toNat 4112) 206 15 := rw_of (by decide +kernel)
theorem r152_38 : Rw 152 38 41 3 100 175 2 88 := rw_of (by decide +kernel)
theorem r152_41 : Rw 152 41 44 3 61 73 0 0 := rw_of (by decide +kernel)
theorem r152_73 : Rw 152 73 74 1 14 0 0 0 := rw_of (by decide +kernel)
theorem r152_74 : Rw 152 74 76 2 8 (Int.toNat 4113) 208 16 := rw_of (by decide +kernel)
theorem r152_76 : Rw 152 76 79 3 100 175 2 88 := rw_of (by decide +kernel)
theorem r152_79 : Rw 152 79 82 3 62 88 0 0 := rw_of (by decide +kernel)
theorem r152_88 : Rw 152 88 89 1 14 0 0 0 := rw_of (by decide +kernel)
theorem r152_89 : Rw 152 89 90 1 10 1 0 0 := rw_of (by decide +kernel)
theorem r152_90 : Rw 152 90 93 3 100 168 2 178 := rw_of (by decide +kernel)
theorem r168_0 : Rw 168 0 1 1 14 0 0 0 := rw_of (by decide +kernel)
theorem r168_1 : Rw 168 1 3 2 2 (cd 40) 168 0 := rw_of (by decide +kernel)
theorem r168_3 : Rw 168 3 6 3 100 174 2 63 := rw_of (by decide +kernel)
theorem r174_0 : Rw 174 0 1 1 14 0 0 0 := rw_of (by decide +kernel)
theorem r174_1 : Rw 174 1 4 3 80 3 0 33 := rw_of (by decide +kernel)
theorem r174_4 : Rw 174 4 5 1 10 1 0 0 := rw_of (by decide +kernel)
theorem r174_5 : Rw 174 5 8 3 100 238 2 154 := rw_of (by decide +kernel)
theorem r174_8 : Rw 174 8 11 3 62 17 0 0 := rw_of (by decide +kernel)
theorem r174_17 : Rw 174 17 18 1 14 0 0 0 := rw_of (by decide +kernel)
theorem r174_18 : Rw 174 18 21 3 80 3 0 33 := rw_of (by decide +kernel)
theorem r174_21 : Rw 174 21 24 3 100 241 1 135 := rw_of (by decide +kernel)
theorem r174_24 : Rw 174 24 25 1 1 (cd 1) 2 0 := rw_of (by decide +kernel)
theorem r174_25 : Rw 174 25 26 1 74 1 0 0 := rw_of (by decide +kernel)
theorem r174_11 : Rw 174 11 12 1 14 0 0 0 := rw_of (by decide +kernel)
theorem r174_12 : Rw 174 12 13 1 1 (cd 1) 2 0 := rw_of (by decide +kernel)
theorem r174_13 : Rw 174 13 16 3 100 159 2 71 := rw_of (by decide +kernel)
theorem r174_16 : Rw 174 16 17 1 74 1 0 0 := rw_of (by decide +kernel)
theorem kc_6_174 : Kc 6 174 := kc_of (by decide) (by decide +kernel)
theorem r168_6 : Rw 168 6 9 3 61 32 0 0 := rw_of (by decide +kernel)
theorem r168_32 : Rw 168 32 33 1 1 (cd 0) 1 0 := rw_of (by decide +kernel)
theorem r168_33 : Rw 168 33 34 1 74 1 0 0 := rw_of (by decide +kernel)
theorem r168_9 : Rw 168 9 10 1 14 0 0 0 := rw_of (by decide +kernel)
theorem r168_10 : Rw 168 10 11 1 10 1 0 0 := rw_of (by decide +kernel)
theorem r168_11 : Rw 168 11 12 1 1 (cd 1) 2 0 := rw_of (by decide +kernel)
theorem r168_12 : Rw 168 12 13 1 30 0 0 0 := rw_of (by decide +kernel)
theorem r168_13 : Rw 168 13 16 3 100 158 2 78 := rw_of (by decide +kernel)
theorem r158_19 : Rw 158 19 20 1 14 0 0 0 := rw_of (by decide +kernel)
theorem r158_20 : Rw 158 20 21 1 1 (cd 2) 3 0 := rw_of (by decide +kernel)
theorem r158_21 : Rw 158 21 24 3 100 159 2 71 := rw_of (by decide +kernel)
theorem r158_24 : Rw 158 24 25 1 74 1 0 0 := rw_of (by decide +kernel)
theorem r158_7 : Rw 158 7 8 1 14 0 0 0 := rw_of (by decide +kernel)
theorem r158_8 : Rw 158 8 9 1 1 (cd 1) 2 0 := rw_of (by decide +kernel)
theorem r158_9 : Rw 158 9 12 3 100 159 2 71 := rw_of (by decide +kernel)
theorem r158_12 : Rw 158 12 13 1 74 1 0 0 := rw_of (by decide +kernel)
theorem kc_6_158 : Kc 6 158 := kc_of (by decide) (by decide +kernel)
theorem r168_16 : Rw 168 16 19 3 61 32 0 0 := rw_of (by decide +kernel)
theorem kc_6_168 : Kc 6 168 := kc_of (by decide) (by decide +kernel)
theorem r152_93 : Rw 152 93 96 3 62 98 0 0 := rw_of (by decide +kernel)
theorem r152_96 : Rw 152 96 97 1 1 (cd 0) 1 0 := rw_of (by decide +kernel)
theorem r152_97 : Rw 152 97 98 1 74 1 0 0 := rw_of (by decide +kernel)
theorem r152_82 : Rw 152 82 83 1 14 0 0 0 := rw_of (by decide +kernel)
theorem r152_83 : Rw 152 83 84 1 1 (cd 1) 2 0 := rw_of (by decide +kernel)
theorem r152_84 : Rw 152 84 87 3 100 159 2 71 := rw_of (by decide +kernel)
theorem r152_87 : Rw 152 87 88 1 74 1 0 0 := rw_of (by decide +kernel)
theorem r152_44 : Rw 152 44 45 1 14 0 0 0 := rw_of (by decide +kernel)
theorem r152_45 : Rw 152 45 48 3 100 165 1 126 := rw_of (by decide +kernel)
theorem r152_48 : Rw 152 48 49 1 16 3 0 0 := rw_of (by decide +kernel)
theorem r152_49 : Rw 152 49 50 1 10 3 0 0 := rw_of (by decide +kernel)
theorem r152_50 : Rw 152 50 51 1 1 (cd (-1)) 0 0 := rw_of (by decide +kernel)
theorem r152_51 : Rw 152 51 54 3 67 71 0 0 := rw_of (by decide +kernel)
theorem r152_71 : Rw 152 71 72 1 1 (cd 0) 1 0 := rw_of (by decide +kernel)
theorem r152_72 : Rw 152 72 73 1 74 1 0 0 := rw_of (by decide +kernel)
theorem r152_54 : Rw 152 54 55 1 14 0 0 0 := rw_of (by decide +kernel)
theorem r152_55 : Rw 152 55 56 1 1 (cd 5) 6 0 := rw_of (by decide +kernel)
theorem r152_56 : Rw 152 56 57 1 10 2 0 0 := rw_of (by decide +kernel)
theorem r152_57 : Rw 152 57 58 1 1 (cd 3) 4 0 := rw_of (by decide +kernel)
theorem r152_58 : Rw 152 58 59 1 36 0 0 0 := rw_of (by decide +kernel)
theorem r152_59 : Rw 152 59 60 1 10 3 0 0 := rw_of (by decide +kernel)
theorem r152_60 : Rw 152 60 61 1 34 0 0 0 := rw_of (by decide +kernel)
theorem r152_61 : Rw 152 61 64 3 100 172 3 109 := rw_of (by decide +kernel)
theorem r152_64 : Rw 152 64 67 3 61 71 0 0 := rw_of (by decide +kernel)
theorem r152_67 : Rw 152 67 68 1 1 (cd 1) 2 0 := rw_of (by decide +kernel)
theorem r152_68 : Rw 152 68 71 3 60 72 0 0 := rw_of (by decide +kernel)
theorem r152_21 : Rw 152 21 22 1 14 0 0 0 := rw_of (by decide +kernel)
theorem r152_22 : Rw 152 22 23 1 1 (cd 0) 1 0 := rw_of (by decide +kernel)
theorem r152_23 : Rw 152 23 24 1 10 2 0 0 := rw_of (by decide +kernel)
theorem r152_24 : Rw 152 24 25 1 1 (cd 5) 6 0 := rw_of (by decide +kernel)
theorem r152_25 : Rw 152 25 26 1 32 0 0 0 := rw_of (by decide +kernel)
theorem r152_26 : Rw 152 26 27 1 30 0 0 0 := rw_of (by decide +kernel)
theorem r152_27 : Rw 152 27 28 1 14 0 0 0 := rw_of (by decide +kernel)
theorem r152_28 : Rw 152 28 31 3 100 173 1 129 := rw_of (by decide +kernel)
theorem r152_31 : Rw 152 31 34 3 100 171 3 187 := rw_of (by decide +kernel)
theorem r152_34 : Rw 152 34 35 1 74 1 0 0 := rw_of (by decide +kernel)
theorem r152_10 : Rw 152 10 11 1 1 (cd 0) 1 0 := rw_of (by decide +kernel)
theorem r152_11 : Rw 152 11 12 1 74 1 0 0 := rw_of (by decide +kernel)
theorem kc_6_152 : Kc 6 152 := kc_of (by decide) (by decide +kernel)
theorem r153_15 : Rw 153 15 16 1 74 1 0 0 := rw_of (by decide +kernel)
theorem kc_6_153 : Kc 6 153 := kc_of (by decide) (by decide +kernel)
theorem r166_53 : Rw 166 53 54 1 14 0 0 0 := rw_of (by decide +kernel)
theorem r166_54 : Rw 166 54 55 1 10 1 0 0 := rw_of (by decide +kernel)
theorem r166_55 : Rw 166 55 58 3 100 168 2 178 := rw_of (by decide +kernel)
theorem r166_58 : Rw 166 58 61 3 60 66 0 0 := rw_of (by decide +kernel)
theorem r166_66 : Rw 166 66 67 1 16 3 0 0 := rw_of (by decide +kernel)
theorem r166_67 : Rw 166 67 68 1 10 3 0 0 := rw_of (by decide +kernel)
theorem r166_68 : Rw 166 68 71 3 61 90 0 0 := rw_of (by decide +kernel)
theorem r166_90 : Rw 166 90 91 1 1 (cd 0) 1 0 := rw_of (by decide +kernel)
theorem r166_91 : Rw 166 91 92 1 74 1 0 0 := rw_of (by decide +kernel)
theorem r166_71 : Rw 166 71 72 1 10 2 0 0 := rw_of (by decide +kernel)
theorem r166_72 : Rw 166 72 73 1 1 (cd 1) 2 0 := rw_of (by decide +kernel)
theorem r166_73 : Rw 166 73 74 1 33 0 0 0 := rw_of (by decide +kernel)
theorem r166_74 : Rw 166 74 77 3 61 86 0 0 := rw_of (by decide +kernel)
theorem r166_86 : Rw 166 86 87 1 1 (cd 1) 2 0 := rw_of (by decide +kernel)
theorem r166_87 : Rw 166 87 90 3 60 91 0 0 := rw_of (by decide +kernel)
theorem r166_35 : Rw 166 35 36 1 14 0 0 0 := rw_of (by decide +kernel)
theorem r166_36 : Rw 166 36 37 1 1 (cd 2) 3 0 := rw_of (by decide +kernel)
theorem r166_37 : Rw 166 37 40 3 100 159 2 71 := rw_of (by decide +kernel)
theorem r166_40 : Rw 166 40 41 1 74 1 0 0 := rw_of (by decide +kernel)
theorem r166_77 : Rw 166 77 78 1 14 0 0 0 := rw_of (by decide +kernel)
theorem r166_78 : Rw 166 78 79 1 1 (cd 1) 2 0 := rw_of (by decide +kernel)
theorem r166_79 : Rw 166 79 80 1 1 (cd 0) 1 0 := rw_of (by decide +kernel)
theorem r166_80 : Rw 166 80 83 3 100 172 3 109 := rw_of (by decide +kernel)
theorem r166_83 : Rw 166 83 86 3 61 90 0 0 := rw_of (by decide +kernel)
theorem kc_6_166 : Kc 6 166 := kc_of (by decide) (by decide +kernel)
theorem r157_5 : Rw 157 5 8 3 62 10 0 0 := rw_of (by decide +kernel)
theorem r157_10 : Rw 157 10 11 1 1 (cd 0) 1 0 := rw_of (by decide +kernel)
theorem r157_11 : Rw 157 11 12 1 16 2 0 0 := rw_of (by decide +kernel)
theorem r157_12 : Rw 157 12 13 1 10 2 0 0 := rw_of (by decide +kernel)
theorem r157_13 : Rw 157 13 16 3 3 (cd 500) 33268 0 := rw_of (by decide +kernel)
theorem r157_16 : Rw 157 16 19 3 70 53 0 0 := rw_of (by decide +kernel)
theorem r157_19 : Rw 157 19 20 1 14 0 0 0 := rw_of (by decide +kernel)
theorem r157_20 : Rw 157 20 22 2 8 (Int.toNat 4125) 176 28 := rw_of (by decide +kernel)
theorem r157_22 : Rw 157 22 25 3 100 175 2 88 := rw_of (by decide +kernel)
theorem r157_25 : Rw 157 25 28 3 61 53 0 0 := rw_of (by decide +kernel)
theorem r157_53 : Rw 157 53 54 1 1 (cd 1) 2 0 := rw_of (by decide +kernel)
theorem r157_54 : Rw 157 54 55 1 74 1 0 0 := rw_of (by decide +kernel)
theorem r157_28 : Rw 157 28 29 1 14 0 0 0 := rw_of (by decide +kernel)
theorem r157_29 : Rw 157 29 30 1 10 1 0 0 := rw_of (by decide +kernel)
theorem r157_30 : Rw 157 30 33 3 100 166 2 173 := rw_of (by decide +kernel)
theorem r157_33 : Rw 157 33 36 3 61 45 0 0 := rw_of (by decide +kernel)
theorem r157_45 : Rw 157 45 46 1 1 (cd 0) 1 0 := rw_of (by decide +kernel)
theorem r157_46 : Rw 157 46 47 1 74 1 0 0 := rw_of (by decide +kernel)
theorem r157_36 : Rw 157 36 37 1 14 0 0 0 := rw_of (by decide +kernel)
theorem r157_37 : Rw 157 37 38 1 1 (cd 2) 3 0 := rw_of (by decide +kernel)
theorem r157_38 : Rw 157 38 39 1 1 (cd 0) 1 0 := rw_of (by decide +kernel)
theorem r157_39 : Rw 157 39 42 3 100 172 3 109 := rw_of (by decide +kernel)
theorem r157_42 : Rw 157 42 45 3 62 47 0 0 := rw_of (by decide +kernel)
theorem r157_47 : Rw 157 47 50 3 22 2 (cd 1) 32769 := rw_of (by decide +kernel)
theorem r157_50 : Rw 157 50 53 3 60 12 0 0 := rw_of (by decide +kernel)
theorem r157_8 : Rw 157 8 9 1 1 (cd 0) 1 0 := rw_of (by decide +kernel)
theorem r157_9 : Rw 157 9 10 1 74 1 0 0 := rw_of (by decide +kernel)
theorem kc_6_157 : Kc 6 157 := kc_of (by decide) (by decide +kernel)
theorem r158_30 : Rw 158 30 33 3 62 35 0 0 := rw_of (by decide +kernel)
theorem r158_35 : Rw 158 35 36 1 1 (cd 0) 1 0 := rw_of (by decide +kernel)
theorem r158_36 : Rw 158 36 37 1 16 2 0 0 := rw_of (by decide +kernel)
theorem r158_37 : Rw 158 37 38 1 10 2 0 0 := rw_of (by decide +kernel)
theorem r158_38 : Rw 158 38 41 3 3 (cd 500) 33268 0 := rw_of (by decide +kernel)
theorem r158_41 : Rw 158 41 44 3 70 78 0 0 := rw_of (by decide +kernel)
theorem r158_44 : Rw 158 44 45 1 14 0 0 0 := rw_of (by decide +kernel)
theorem r158_45 : Rw 158 45 47 2 8 (Int.toNat 4126) 152 29 := rw_of (by decide +kernel)
theorem r158_47 : Rw 158 47 50 3 100 175 2 88 := rw_of (by decide +kernel)
theorem r158_50 : Rw 158 50 53 3 61 78 0 0 := rw_of (by decide +kernel)
theorem r158_78 : Rw 158 78 79 1 1 (cd 1) 2 0 := rw_of (by decide +kernel)
theorem r158_79 : Rw 158 79 80 1 74 1 0 0 := rw_of (by decide +kernel)
theorem r158_53 : Rw 158 53 54 1 14 0 0 0 := rw_of (by decide +kernel)
theorem r158_54 : Rw 158 54 55 1 10 1 0 0 := rw_of (by decide +kernel)
theorem r158_55 : Rw 158 55 58 3 100 157 2 149 := rw_of (by decide +kernel)
theorem r158_58 : Rw 158 58 61 3 61 70 0 0 := rw_of (by decide +kernel)
theorem r158_70 : Rw 158 70 71 1 1 (cd 0) 1 0 := rw_of (by decide +kernel)
theorem r158_71 : Rw 158 71 72 1 74 1 0 0 := rw_of (by decide +kernel)
theorem r158_61 : Rw 158 61 62 1 14 0 0 0 := rw_of (by decide +kernel)
theorem r158_62 : Rw 158 62 63 1 1 (cd 3) 4 0 := rw_of (by decide +kernel)
theorem r158_63 : Rw 158 63 64 1 1 (cd 0) 1 0 := rw_of (by decide +kernel)
theorem r158_64 : Rw 158 64 67 3 100 172 3 109 := rw_of (by decide +kernel)
theorem r158_67 : Rw 158 67 70 3 62 72 0 0 := rw_of (by decide +kernel)
theorem r158_72 : Rw 158 72 75 3 22 2 (cd 1) 32769 := rw_of (by decide +kernel)
theorem r158_75 : Rw 158 75 78 3 60 37 0 0 := rw_of (by decide +kernel)
theorem r158_33 : Rw 158 33 34 1 1 (cd 0) 1 0 := rw_of (by decide +kernel)
theorem r158_34 : Rw 158 34 35 1 74 1 0 0 := rw_of (by decide +kernel)
theorem r168_19 : Rw 168 19 20 1 14 0 0 0 := rw_of (by decide +kernel)
theorem r168_20 : Rw 168 20 22 2 2 (cd 41) 169 0 := rw_of (by decide +kernel)
theorem r168_22 : Rw 168 22 25 3 100 174 2 63 := rw_of (by decide +kernel)
theorem r168_25 : Rw 168 25 28 3 61 32 0 0 := rw_of (by decide +kernel)
theorem r168_28 : Rw 168 28 29 1 1 (cd 1) 2 0 := rw_of (by decide +kernel)
theorem r168_29 : Rw 168 29 32 3 60 33 0 0 := rw_of (by decide +kernel)
theorem r152_98 : Rw 152 98 99 1 14 0 0 0 := rw_of (by decide +kernel)
theorem r152_99 : Rw 152 99 102 3 80 3 2 37 := rw_of (by decide +kernel)
theorem r152_102 : Rw 152 102 103 1 10 2 0 0 := rw_of (by decide +kernel)
theorem r152_103 : Rw 152 103 106 3 100 139 2 210 := rw_of (by decide +kernel)
theorem r139_0 : Rw 139 0 1 1 14 0 0 0 := rw_of (by decide +kernel)
theorem r139_1 : Rw 139 1 2 1 1 (cd 4) 5 0 := rw_of (by decide +kernel)
theorem r139_2 : Rw 139 2 3 1 10 1 0 0 := rw_of (by decide +kernel)
theorem r139_3 : Rw 139 3 6 3 100 138 3 28 := rw_of (by decide +kernel)
theorem r139_6 : Rw 139 6 7 1 14 0 0 0 := rw_of (by decide +kernel)
theorem r139_7 : Rw 139 7 8 1 52 0 0 0 := rw_of (by decide +kernel)
theorem r139_8 : Rw 139 8 11 3 80 1 2 19 := rw_of (by decide +kernel)
theorem bC_2 {M : Mm} (h : Pw M) {a : Int} (ha : isC a) : 0 ≤ M a 2 ∧ M a 2 ≤ 127 := (h a 2 (isC_rg ha).1 (by have := isC_rg ha; omega) (by decide) (by rw [lnC ha]; decide)).get0 (g_c2 ha) rfl rfl rfl rfl
theorem r139_11 : Rw 139 11 12 1 1 (cd 1) 2 0 := rw_of (by decide +kernel)
theorem r139_12 : Rw 139 12 13 1 10 1 0 0 := rw_of (by decide +kernel)
theorem r139_13 : Rw 139 13 14 1 36 0 0 0 := rw_of (by decide +kernel)
theorem pwl_6 : pw 6 = 64 := by decide
theorem r139_14 : Rw 139 14 15 1 34 0 0 0 := rw_of (by decide +kernel)
theorem r139_15 : Rw 139 15 18 3 81 1 2 0 := rw_of (by decide +kernel)
theorem r139_18 : Rw 139 18 19 1 77 0 0 0 := rw_of (by decide +kernel)
theorem kcCb_139 : (List.range 30).all (fun j => kcb (679 + 2 * j) 139) = true := by decide +kernel
theorem kcC_139 {a : Int} (h : isC a) : Kc a 139 := by
  rcases h with rfl | h
  · exact kc_of (by decide) (by decide +kernel)
  · refine kc_of (by omega) ?_
    have h2 := List.all_eq_true.mp kcCb_139 ((a.toNat - 679) / 2) (List.mem_range.mpr (by omega))
    rw [show 679 + 2 * ((a.toNat - 679) / 2) = a.toNat by omega] at h2
    exact h2
theorem r152_106 : Rw 152 106 107 1 1 (cd 1) 2 0 := rw_of (by decide +kernel)
theorem r152_107 : Rw 152 107 108 1 74 1 0 0 := rw_of (by decide +kernel)
theorem r170_20 : Rw 170 20 23 3 61 48 0 0 := rw_of (by decide +kernel)
theorem r170_48 : Rw 170 48 49 1 14 0 0 0 := rw_of (by decide +kernel)
theorem r170_49 : Rw 170 49 52 3 80 3 4 22 := rw_of (by decide +kernel)
theorem bf_6_4 {M : Mm} (h : Pw M) : 0 ≤ M 6 4 ∧ M 6 4 ≤ 6 := (h 6 4 (by decide) (by decide) (by decide) (by decide +kernel)).get0 g_6_4 rfl rfl rfl rfl
theorem r170_52 : Rw 170 52 53 1 74 0 0 0 := rw_of (by decide +kernel)
theorem r170_23 : Rw 170 23 24 1 14 0 0 0 := rw_of (by decide +kernel)
theorem r170_24 : Rw 170 24 26 2 2 (cd 59) 187 0 := rw_of (by decide +kernel)
theorem r170_26 : Rw 170 26 29 3 100 174 2 63 := rw_of (by decide +kernel)
theorem r170_29 : Rw 170 29 32 3 61 48 0 0 := rw_of (by decide +kernel)
theorem r170_32 : Rw 170 32 33 1 14 0 0 0 := rw_of (by decide +kernel)
theorem r170_33 : Rw 170 33 36 3 80 3 0 33 := rw_of (by decide +kernel)
theorem r170_36 : Rw 170 36 39 3 80 9 4 57 := rw_of (by decide +kernel)
theorem r170_39 : Rw 170 39 42 3 61 48 0 0 := rw_of (by decide +kernel)
theorem r170_42 : Rw 170 42 43 1 14 0 0 0 := rw_of (by decide +kernel)
theorem r170_43 : Rw 170 43 44 1 1 (cd 1) 2 0 := rw_of (by decide +kernel)
theorem r170_44 : Rw 170 44 47 3 100 159 2 71 := rw_of (by decide +kernel)
theorem r170_47 : Rw 170 47 48 1 53 0 0 0 := rw_of (by decide +kernel)
theorem kc_6_170 : Kc 6 170 := kc_of (by decide) (by decide +kernel)
theorem r39_46 : Rw 39 46 47 1 16 2 0 0 := rw_of (by decide +kernel)
theorem r39_47 : Rw 39 47 48 1 14 0 0 0 := rw_of (by decide +kernel)
theorem r39_48 : Rw 39 48 49 1 14 0 0 0 := rw_of (by decide +kernel)
theorem r39_49 : Rw 39 49 52 3 80 11 4 36 := rw_of (by decide +kernel)
theorem r39_52 : Rw 39 52 55 3 80 3 5 137 := rw_of (by decide +kernel)
theorem bf_6_5 {M : Mm} (h : Pw M) : (-1) ≤ M 6 5 ∧ M 6 5 ≤ 500 := (h 6 5 (by decide) (by decide) (by decide) (by decide +kernel)).get0 g_6_5 rfl rfl rfl rfl
theorem r39_55 : Rw 39 55 58 3 81 11 5 0 := rw_of (by decide +kernel)
theorem fd_0_5 : Fdl 0 11 5 5 0 := fd_of (by decide) rfl (by decide +kernel)
theorem uf_0_5 {z : Int} (hz : (-1) ≤ z ∧ z ≤ 500) : Bd 0 5 z := Bd.of0 g_0_5 rfl rfl rfl rfl rfl hz
theorem r39_58 : Rw 39 58 59 1 10 2 0 0 := rw_of (by decide +kernel)
theorem r39_59 : Rw 39 59 62 3 61 66 0 0 := rw_of (by decide +kernel)
theorem r39_66 : Rw 39 66 67 1 14 0 0 0 := rw_of (by decide +kernel)
theorem r39_67 : Rw 39 67 68 1 52 0 0 0 := rw_of (by decide +kernel)
theorem r39_68 : Rw 39 68 71 3 80 11 9 65 := rw_of (by decide +kernel)
theorem r39_71 : Rw 39 71 72 1 1 (cd 1) 2 0 := rw_of (by decide +kernel)
theorem r39_72 : Rw 39 72 73 1 30 0 0 0 := rw_of (by decide +kernel)
theorem r39_73 : Rw 39 73 76 3 81 11 9 0 := rw_of (by decide +kernel)
theorem uf_0_9 {z : Int} (hz : 0 ≤ z ∧ z ≤ 30) : Bd 0 9 z := Bd.of0 g_0_9 rfl rfl rfl rfl rfl hz
theorem r39_76 : Rw 39 76 77 1 14 0 0 0 := rw_of (by decide +kernel)
theorem r39_77 : Rw 39 77 80 3 80 11 9 65 := rw_of (by decide +kernel)
theorem r39_80 : Rw 39 80 81 1 1 (cd 1) 2 0 := rw_of (by decide +kernel)
theorem r39_81 : Rw 39 81 82 1 31 0 0 0 := rw_of (by decide +kernel)
theorem r39_82 : Rw 39 82 83 1 74 0 0 0 := rw_of (by decide +kernel)
theorem r39_62 : Rw 39 62 63 1 1 (cd (-1)) 0 0 := rw_of (by decide +kernel)
theorem r39_63 : Rw 39 63 64 1 10 2 0 0 := rw_of (by decide +kernel)
theorem r39_64 : Rw 39 64 65 1 31 0 0 0 := rw_of (by decide +kernel)
theorem r39_65 : Rw 39 65 66 1 74 0 0 0 := rw_of (by decide +kernel)
theorem r39_14 : Rw 39 14 15 1 14 0 0 0 := rw_of (by decide +kernel)
theorem r39_15 : Rw 39 15 16 1 1 (cd (-1)) 0 0 := rw_of (by decide +kernel)
theorem r39_16 : Rw 39 16 19 3 81 11 5 0 := rw_of (by decide +kernel)
theorem r39_19 : Rw 39 19 21 2 2 (cd (-9)) 119 0 := rw_of (by decide +kernel)
theorem r39_21 : Rw 39 21 22 1 74 0 0 0 := rw_of (by decide +kernel)
def fm_m40_0 : Nat := 4
/-- IslandHall.takeTape -/
theorem m40_0 {B : eB} (d : Nat) (M0 : Mm) (p1 : Int) (x0_1 : Int) (hP0 : Pw M0) (l1 : (-2147483648) ≤ p1) (u1 : p1 ≤ 2147483647) (ex0_1 : M0 0 1 = x0_1) (lx0_1 : 0 ≤ x0_1) (ux0_1 : x0_1 ≤ 500) : Ct B (d + 1) 40 [R 0, I p1] M0 (qX 1 (fun M => Pw M ∧ Fr (fm_m40_0 ||| 1) M0 M ∧ M (-1) 0 = M0 (-1) 0 + 1) (qV fun M => Pw M ∧ Fr fm_m40_0 M0 M ∧ 0 ≤ p1 ∧ 0 ≤ x0_1 + (-1) * p1)) := by
  refine ct_of (d := d + 0) (k := 0) (L := [some (R 0), some (I p1)]) rfl rfl rfl ?_
  have hF0 := Fr.rf fm_m40_0 M0
  generalize hQ : (qX 1 (fun M => Pw M ∧ Fr (fm_m40_0 ||| 1) M0 M ∧ M (-1) 0 = M0 (-1) 0 + 1) (qV fun M => Pw M ∧ Fr fm_m40_0 M0 M ∧ 0 ≤ p1 ∧ 0 ≤ x0_1 + (-1) * p1)) = Q
  refine wk_il1 r40_0 ?_
  refine wk_iflt r40_1 ⟨by omega, by omega⟩ ?_ ?_
  · intro h1
    subst hQ; exact wk_thr105 r40_12 rfl (Or.inl ⟨rfl, hP0.thr, (Fr.thr hF0), (by rw [mUp_eq, hF0.at g_below rfl])⟩)
  · intro h2
    refine wk_il1 r40_4 (wk_al0 r40_5 (wk_getfi r40_6 fd_0_1 ex0_1 ?_))
    refine wk_icle r40_9 ⟨by omega, by omega⟩ ⟨by omega, by omega⟩ ?_ ?_
    · intro h3
      refine wk_al0 r40_22 (wk_c1 r40_23 (wk_putfi81 r40_24 fd_0_1 (wk_nw g_0_1 rfl hP0 hF0 (uf_0_1 (by decide)) ?_)))
      intro M4 hP5 hF6 e7
      subst hQ; exact wk_ret r40_27 (Or.inr ⟨rfl, hP5, hF6, by omega, by omega⟩)
    · intro h8
      subst hQ; exact wk_thr105 r40_12 rfl (Or.inl ⟨rfl, hP0.thr, (Fr.thr hF0), (by rw [mUp_eq, hF0.at g_below rfl])⟩)
def fm_m243 : Nat := 0
/-- IslandHall$Tokens.typeOf -/
theorem m243 {B : eB} (d : Nat) (M0 : Mm) (p0 : Int) (hP0 : Pw M0) (l0 : (-128) ≤ p0) (u0 : p0 ≤ 127) : Ct B (d + 1) 243 [I p0] M0 (qI fun z M => Pw M ∧ Fr fm_m243 M0 M ∧ 1 ≤ z ∧ z ≤ 4) := by
  refine ct_of (d := d + 0) (k := 1) (L := [some (I p0), none]) rfl rfl rfl ?_
  have hF0 := Fr.rf fm_m243 M0
  generalize hQ : (qI fun z M => Pw M ∧ Fr fm_m243 M0 M ∧ 1 ≤ z ∧ z ≤ 4) = Q
  refine wk_il0 r243_0 (wk_c2 r243_1 ?_)
  have c14_36 : Wp B (d + 0) 243 14 [some (I p0), none] [] M0 Q := by
    refine wk_il0 r243_14 (wk_c2 r243_15 ?_)
    have c28_35 : Wp B (d + 0) 243 28 [some (I p0), none] [] M0 Q := by
      refine wk_il0 r243_28 (wk_c2 r243_29 ?_)
      refine wk_iceq r243_31 ⟨by omega, by omega⟩ (by decide) ?_ ?_
      · intro h9
        refine wk_c1 r243_64 (wk_goto r243_65 (wk_is1 r243_69 rfl (wk_il1 r243_70 ?_)))
        refine wk_ifeq r243_71 (by decide) ?_ ?_
        · intro h10
          refine wk_c1 r243_78 ?_
          subst hQ; exact wk_iret r243_79 (⟨rfl, _, rfl, hP0, hF0, by omega, by omega⟩)
        · intro h11
          refine wk_c1 r243_74 (wk_goto r243_75 ?_)
          subst hQ; exact wk_iret r243_79 (⟨rfl, _, rfl, hP0, hF0, by omega, by omega⟩)
      · intro h12
        refine wk_il0 r243_34 (wk_c2 r243_35 ?_)
        refine wk_iceq r243_37 ⟨by omega, by omega⟩ (by decide) ?_ ?_
        · intro h13
          refine wk_c1 r243_64 (wk_goto r243_65 (wk_is1 r243_69 rfl (wk_il1 r243_70 ?_)))
          refine wk_ifeq r243_71 (by decide) ?_ ?_
          · intro h14
            refine wk_c1 r243_78 ?_
            subst hQ; exact wk_iret r243_79 (⟨rfl, _, rfl, hP0, hF0, by omega, by omega⟩)
          · intro h15
            refine wk_c1 r243_74 (wk_goto r243_75 ?_)
            subst hQ; exact wk_iret r243_79 (⟨rfl, _, rfl, hP0, hF0, by omega, by omega⟩)
        · intro h16
          refine wk_il0 r243_40 (wk_c2 r243_41 ?_)
          refine wk_iceq r243_43 ⟨by omega, by omega⟩ (by decide) ?_ ?_
          · intro h17
            refine wk_c1 r243_64 (wk_goto r243_65 (wk_is1 r243_69 rfl (wk_il1 r243_70 ?_)))
            refine wk_ifeq r243_71 (by decide) ?_ ?_
            · intro h18
              refine wk_c1 r243_78 ?_
              subst hQ; exact wk_iret r243_79 (⟨rfl, _, rfl, hP0, hF0, by omega, by omega⟩)
            · intro h19
              refine wk_c1 r243_74 (wk_goto r243_75 ?_)
              subst hQ; exact wk_iret r243_79 (⟨rfl, _, rfl, hP0, hF0, by omega, by omega⟩)
          · intro h20
            refine wk_il0 r243_46 (wk_c2 r243_47 ?_)
            refine wk_iceq r243_49 ⟨by omega, by omega⟩ (by decide) ?_ ?_
            · intro h21
              refine wk_c1 r243_64 (wk_goto r243_65 (wk_is1 r243_69 rfl (wk_il1 r243_70 ?_)))
              refine wk_ifeq r243_71 (by decide) ?_ ?_
              · intro h22
                refine wk_c1 r243_78 ?_
                subst hQ; exact wk_iret r243_79 (⟨rfl, _, rfl, hP0, hF0, by omega, by omega⟩)
              · intro h23
                refine wk_c1 r243_74 (wk_goto r243_75 ?_)
                subst hQ; exact wk_iret r243_79 (⟨rfl, _, rfl, hP0, hF0, by omega, by omega⟩)
            · intro h24
              refine wk_il0 r243_52 (wk_c2 r243_53 ?_)
              refine wk_iceq r243_55 ⟨by omega, by omega⟩ (by decide) ?_ ?_
              · intro h25
                refine wk_c1 r243_64 (wk_goto r243_65 (wk_is1 r243_69 rfl (wk_il1 r243_70 ?_)))
                refine wk_ifeq r243_71 (by decide) ?_ ?_
                · intro h26
                  refine wk_c1 r243_78 ?_
                  subst hQ; exact wk_iret r243_79 (⟨rfl, _, rfl, hP0, hF0, by omega, by omega⟩)
                · intro h27
                  refine wk_c1 r243_74 (wk_goto r243_75 ?_)
                  subst hQ; exact wk_iret r243_79 (⟨rfl, _, rfl, hP0, hF0, by omega, by omega⟩)
              · intro h28
                refine wk_il0 r243_58 (wk_c2 r243_59 ?_)
                refine wk_icne r243_61 ⟨by omega, by omega⟩ (by decide) ?_ ?_
                · intro h29
                  refine wk_c1 r243_68 (wk_is1 r243_69 rfl (wk_il1 r243_70 ?_))
                  refine wk_ifeq r243_71 (by decide) ?_ ?_
                  · intro h30
                    refine wk_c1 r243_78 ?_
                    subst hQ; exact wk_iret r243_79 (⟨rfl, _, rfl, hP0, hF0, by omega, by omega⟩)
                  · intro h31
                    exfalso
                    omega
                · intro h32
                  refine wk_c1 r243_64 (wk_goto r243_65 (wk_is1 r243_69 rfl (wk_il1 r243_70 ?_)))
                  refine wk_ifeq r243_71 (by decide) ?_ ?_
                  · intro h33
                    refine wk_c1 r243_78 ?_
                    subst hQ; exact wk_iret r243_79 (⟨rfl, _, rfl, hP0, hF0, by omega, by omega⟩)
                  · intro h34
                    refine wk_c1 r243_74 (wk_goto r243_75 ?_)
                    subst hQ; exact wk_iret r243_79 (⟨rfl, _, rfl, hP0, hF0, by omega, by omega⟩)
    refine wk_iclt r243_17 ⟨by omega, by omega⟩ (by decide) ?_ ?_
    · intro h5
      exact wp_fg (le_s (le_s le_0)) c28_35
    · intro h6
      refine wk_il0 r243_20 (wk_c2 r243_21 ?_)
      refine wk_icgt r243_23 ⟨by omega, by omega⟩ (by decide) ?_ ?_
      · intro h7
        exact wp_fg (le_s (le_s le_0)) c28_35
      · intro h8
        refine wk_c1 r243_26 ?_
        subst hQ; exact wk_iret r243_27 (⟨rfl, _, rfl, hP0, hF0, by omega, by omega⟩)
  refine wk_iclt r243_3 ⟨by omega, by omega⟩ (by decide) ?_ ?_
  · intro h1
    exact wp_fg (le_s (le_s le_0)) c14_36
  · intro h2
    refine wk_il0 r243_6 (wk_c2 r243_7 ?_)
    refine wk_icgt r243_9 ⟨by omega, by omega⟩ (by decide) ?_ ?_
    · intro h3
      exact wp_fg (le_s (le_s le_0)) c14_36
    · intro h4
      refine wk_c1 r243_12 ?_
      subst hQ; exact wk_iret r243_13 (⟨rfl, _, rfl, hP0, hF0, by omega, by omega⟩)
def fm_m241_9 : Nat := 3940649673949184
/-- IslandHall$Tokens.next -/
theorem m241_9 {B : eB} (d : Nat) (M0 : Mm) (hP0 : Pw M0)  : Ct B (d + 2) 241 [R 9] M0 (qV fun M => Pw M ∧ Fr fm_m241_9 M0 M) := by
  refine ct_of (d := d + 1) (k := 1) (L := [some (R 9), none]) rfl rfl rfl ?_
  have hF0 := Fr.rf fm_m241_9 M0
  generalize hQ : (qV fun M => Pw M ∧ Fr fm_m241_9 M0 M) = Q
  refine wk_al0 r241_0 (wk_al0 r241_1 (wk_getfb r241_2 fd_9_2 (bf_9_2 hP0) ?_))
  intro v1 h3 h4 e2
  refine wk_putfi81 r241_5 fd_9_3 (wk_nw g_9_3 rfl hP0 hF0 (uf_9_3 ⟨by omega, by omega⟩) ?_)
  intro M5 hP6 hF7 e8
  have c8_236 : ∀ (k236 : Nat) (M135 : Mm) (v138 : Int), (500 - v138).toNat = k236 → Pw M135 → Fr fm_m241_9 M0 M135 → M135 9 3 = v138 → M135 9 2 = v1 → 0 ≤ v138 → v138 ≤ 500 → Wp B (d + 1) 241 8 [some (R 9), none] [] M135 Q := by
    refine lp_ind ?_
    intro k236 ih236 M135 v138 hk236 hP136 hF137 e141 e142 h139 h140
    refine wk_al0 r241_8 (wk_getfi r241_9 fd_9_3 e141 (wk_al0 r241_12 (wk_getfb r241_13 fd_9_1 (bf_9_1 hP136) ?_)))
    intro v143 h145 h146 e144
    have c60_235 : Wp B (d + 1) 241 60 [some (R 9), none] [] M135 Q := by
      refine wk_al0 r241_60 (wk_getfi r241_61 fd_9_3 e141 (wk_al0 r241_64 (wk_getfi r241_65 fd_9_1 e144 ?_)))
      refine wk_iclt r241_68 ⟨by omega, by omega⟩ ⟨by omega, by omega⟩ ?_ ?_
      · intro h165
        refine wk_al0 r241_85 (wk_al0 r241_86 (wk_getfr r241_87 fd_9_0 (br_9_0 hP136) (wk_al0 r241_90 (wk_getfi r241_91 fd_9_3 e141 (wk_baldb r241_94 ar_1 ⟨by omega, by omega⟩ (fun q0 q1 => ba_1 hP136 q0 q1) ?_)))))
        intro v166 h168 h169 e167
        refine wk_cs102_1 r241_95 rfl (m243 _ M135 v166 hP136 (by omega) (by omega)) (cqI ?_)
        rintro v174 M170 ⟨hP171, hQ172, h175, h176⟩
        obtain rfl := Fr.same hQ172
        refine wk_putfi81 r241_98 fd_9_4 (wk_nw g_9_4 rfl hP136 hF137 (uf_9_4 ⟨by omega, by omega⟩) ?_)
        intro M177 hP178 hF179 e180
        refine wk_al0 r241_101 (wk_al0 r241_102 (wk_getfi r241_103 fd_9_3 (mUp_no e180 e141 (Or.inr (by decide))) (wk_c1 r241_106 (wk_iadd r241_107 (wk_putfi81 r241_108 fd_9_2 (wk_nw g_9_2 rfl hP178 hF179 (uf_9_2 ⟨by omega, by omega⟩) ?_))))))
        intro M181 hP182 hF183 e184
        refine wk_al0 r241_111 (wk_getfi r241_112 fd_9_4 (mUp_no e184 (mUp_at e180) (Or.inr (by decide))) (wk_c1 r241_115 ?_))
        have c132_225 : ∀ (v190 : Int), 0 ≤ v190 → v190 ≤ 1 → Wp B (d + 1) 241 132 [some (R 9), none] [I v190] M181 Q := by
          intro v190 h191 h192
          refine wk_is1 r241_132 rfl ?_
          have c133_224 : ∀ (k224 : Nat) (M193 : Mm) (v196 : Int), (500 - v196).toNat = k224 → Pw M193 → Fr fm_m241_9 M0 M193 → M193 9 2 = v196 → M193 9 3 = v138 → M193 9 1 = v143 → M193 9 4 = v174 → 1 ≤ v196 → v196 ≤ 500 → Wp B (d + 1) 241 133 [some (R 9), some (I v190)] [] M193 Q := by
            refine lp_ind ?_
            intro k224 ih224 M193 v196 hk224 hP194 hF195 e199 e200 e201 e202 h197 h198
            refine wk_il1 r241_133 ?_
            refine wk_ifeq r241_134 ⟨by omega, by omega⟩ ?_ ?_
            · intro h203
              subst hQ; exact wk_ret r241_180 (⟨rfl, hP194, hF195⟩)
            · intro h204
              refine wk_al0 r241_137 (wk_getfi r241_138 fd_9_2 e199 (wk_al0 r241_141 (wk_getfi r241_142 fd_9_1 e201 ?_)))
              refine wk_icge r241_145 ⟨by omega, by omega⟩ ⟨by omega, by omega⟩ ?_ ?_
              · intro h205
                subst hQ; exact wk_ret r241_180 (⟨rfl, hP194, hF195⟩)
              · intro h206
                refine wk_al0 r241_148 (wk_getfr r241_149 fd_9_0 (br_9_0 hP194) (wk_al0 r241_152 (wk_getfi r241_153 fd_9_2 e199 (wk_baldb r241_156 ar_1 ⟨by omega, by omega⟩ (fun q0 q1 => ba_1 hP194 q0 q1) ?_))))
                intro v207 h209 h210 e208
                refine wk_cs102_1 r241_157 rfl (m243 _ M193 v207 hP194 (by omega) (by omega)) (cqI ?_)
                rintro v215 M211 ⟨hP212, hQ213, h216, h217⟩
                obtain rfl := Fr.same hQ213
                refine wk_al0 r241_160 (wk_getfi r241_161 fd_9_4 e202 ?_)
                refine wk_icne r241_164 ⟨by omega, by omega⟩ ⟨by omega, by omega⟩ ?_ ?_
                · intro h218
                  subst hQ; exact wk_ret r241_180 (⟨rfl, hP194, hF195⟩)
                · intro h219
                  refine wk_al0 r241_167 (wk_dupr r241_168 (wk_getfi r241_169 fd_9_2 e199 (wk_c1 r241_172 (wk_iadd r241_173 (wk_putfi81 r241_174 fd_9_2 (wk_nw g_9_2 rfl hP194 hF195 (uf_9_2 ⟨by omega, by omega⟩) ?_))))))
                  intro M220 hP221 hF222 e223
                  refine wk_goto r241_177 ?_
                  exact wp_fg (le_s (le_s le_0)) (ih224 (500 - (v196 + 1)).toNat (by omega) M220 (v196 + 1) rfl hP221 hF222 (mUp_at e223) (mUp_no e223 e200 (Or.inr (by decide))) (mUp_no e223 e201 (Or.inr (by decide))) (mUp_no e223 e202 (Or.inr (by decide))) (by omega) (by omega))
          exact wp_fg (le_s (le_s le_0)) (c133_224 _ M181 (v138 + 1) rfl hP182 hF183 (mUp_at e184) (mUp_no e184 (mUp_no e180 e141 (Or.inr (by decide))) (Or.inr (by decide))) (mUp_no e184 (mUp_no e180 e144 (Or.inr (by decide))) (Or.inr (by decide))) (mUp_no e184 (mUp_at e180) (Or.inr (by decide))) (by omega) (by omega))
        have c127_189 : Wp B (d + 1) 241 127 [some (R 9), none] [] M181 Q := by
          refine wk_c1 r241_127 (wk_goto r241_128 ?_)
          exact wp_fg (le_s (le_s le_0)) (c132_225 1 (by omega) (by omega))
        refine wk_iceq r241_116 ⟨by omega, by omega⟩ (by decide) ?_ ?_
        · intro h185
          exact wp_fg (le_s (le_s le_0)) c127_189
        · intro h186
          refine wk_al0 r241_119 (wk_getfi r241_120 fd_9_4 (mUp_no e184 (mUp_at e180) (Or.inr (by decide))) (wk_c1 r241_123 ?_))
          refine wk_icne r241_124 ⟨by omega, by omega⟩ (by decide) ?_ ?_
          · intro h187
            refine wk_c1 r241_131 ?_
            exact wp_fg (le_s (le_s le_0)) (c132_225 0 (by omega) (by omega))
          · intro h188
            exact wp_fg (le_s (le_s le_0)) c127_189
      · intro h226
        refine wk_al0 r241_71 (wk_c1 r241_72 (wk_putfi81 r241_73 fd_9_4 (wk_nw g_9_4 rfl hP136 hF137 (uf_9_4 (by decide)) ?_)))
        intro M227 hP228 hF229 e230
        refine wk_al0 r241_76 (wk_al0 r241_77 (wk_getfi r241_78 fd_9_3 (mUp_no e230 e141 (Or.inr (by decide))) (wk_putfi81 r241_81 fd_9_2 (wk_nw g_9_2 rfl hP228 hF229 (uf_9_2 ⟨by omega, by omega⟩) ?_))))
        intro M231 hP232 hF233 e234
        subst hQ; exact wk_ret r241_84 (⟨rfl, hP232, hF233⟩)
    refine wk_icge r241_16 ⟨by omega, by omega⟩ ⟨by omega, by omega⟩ ?_ ?_
    · intro h147
      exact wp_fg (le_s (le_s le_0)) c60_235
    · intro h148
      refine wk_al0 r241_19 (wk_getfr r241_20 fd_9_0 (br_9_0 hP136) (wk_al0 r241_23 (wk_getfi r241_24 fd_9_3 e141 (wk_baldb r241_27 ar_1 ⟨by omega, by omega⟩ (fun q0 q1 => ba_1 hP136 q0 q1) ?_))))
      intro v149 h151 h152 e150
      refine wk_c2 r241_28 ?_
      refine wk_iceq r241_30 ⟨by omega, by omega⟩ (by decide) ?_ ?_
      · intro h153
        refine wk_al0 r241_47 (wk_dupr r241_48 (wk_getfi r241_49 fd_9_3 e141 (wk_c1 r241_52 (wk_iadd r241_53 (wk_putfi81 r241_54 fd_9_3 (wk_nw g_9_3 rfl hP136 hF137 (uf_9_3 ⟨by omega, by omega⟩) ?_))))))
        intro M154 hP155 hF156 e157
        refine wk_goto r241_57 ?_
        exact wp_fg (le_s (le_s le_0)) (ih236 (500 - (v138 + 1)).toNat (by omega) M154 (v138 + 1) rfl hP155 hF156 (mUp_at e157) (mUp_no e157 e142 (Or.inr (by decide))) (by omega) (by omega))
      · intro h158
        refine wk_al0 r241_33 (wk_getfr r241_34 fd_9_0 (br_9_0 hP136) (wk_al0 r241_37 (wk_getfi r241_38 fd_9_3 e141 (wk_bald r241_41 ar_1 ⟨by omega, by omega⟩ e150 (wk_c2 r241_42 ?_)))))
        refine wk_icne r241_44 ⟨by omega, by omega⟩ (by decide) ?_ ?_
        · intro h159
          exact wp_fg (le_s (le_s le_0)) c60_235
        · intro h160
          refine wk_al0 r241_47 (wk_dupr r241_48 (wk_getfi r241_49 fd_9_3 e141 (wk_c1 r241_52 (wk_iadd r241_53 (wk_putfi81 r241_54 fd_9_3 (wk_nw g_9_3 rfl hP136 hF137 (uf_9_3 ⟨by omega, by omega⟩) ?_))))))
          intro M161 hP162 hF163 e164
          refine wk_goto r241_57 ?_
          exact wp_fg (le_s (le_s le_0)) (ih236 (500 - (v138 + 1)).toNat (by omega) M161 (v138 + 1) rfl hP162 hF163 (mUp_at e164) (mUp_no e164 e142 (Or.inr (by decide))) (by omega) (by omega))
  exact wp_fg (le_s (le_s le_0)) (c8_236 _ M5 v1 rfl hP6 hF7 (mUp_at e8) (mUp_no e8 e2 (Or.inr (by decide))) (by omega) (by omega))
def fm_m235_9 : Nat := 4222124650659840
/-- IslandHall$Tokens.begin -/
theorem m235_9 {B : eB} (d : Nat) (M0 : Mm) (p1 : Int) (hP0 : Pw M0) (l1 : 0 ≤ p1) (u1 : p1 ≤ 500) : Ct B (d + 3) 235 [R 9, I p1] M0 (qV fun M => Pw M ∧ Fr fm_m235_9 M0 M) := by
  refine ct_of (d := d + 2) (k := 0) (L := [some (R 9), some (I p1)]) rfl rfl rfl ?_
  have hF0 := Fr.rf fm_m235_9 M0
  generalize hQ : (qV fun M => Pw M ∧ Fr fm_m235_9 M0 M) = Q
  refine wk_al0 r235_0 (wk_il1 r235_1 (wk_al0 r235_2 (wk_getfr r235_3 fd_9_0 (br_9_0 hP0) (wk_alen r235_6 ar_1 (by decide) (wk_min r235_7 ⟨by omega, by omega⟩ (by decide) rfl ?_)))))
  intro v1 h2 h3 h4
  refine wk_putfi81 r235_10 fd_9_1 (wk_nw g_9_1 rfl hP0 hF0 (uf_9_1 ⟨by omega, by omega⟩) ?_)
  intro M5 hP6 hF7 e8
  refine wk_al0 r235_13 (wk_c1 r235_14 (wk_putfi81 r235_15 fd_9_2 (wk_nw g_9_2 rfl hP6 hF7 (uf_9_2 (by decide)) ?_)))
  intro M9 hP10 hF11 e12
  refine wk_al0 r235_18 (wk_cv1 r235_19 kc_9_241 rfl (m241_9 _ M9 hP10) (cqV ?_))
  rintro M13 ⟨hP14, hQ15⟩
  have hF16 : Fr fm_m235_9 M0 M13 := hF11.tr hQ15 rfl
  subst hQ; exact wk_ret r235_22 (⟨rfl, hP14, hF16⟩)
def fm_m154_6 : Nat := 4222571327258624
/-- IslandHall$Parser.begin -/
theorem m154_6 {B : eB} (d : Nat) (M0 : Mm) (p1 : Int) (c2 : Int) (hP0 : Pw M0) (l1 : 0 ≤ p1) (u1 : p1 ≤ 500) (hC2 : isC c2) : Ct B (d + 4) 154 [R 6, I p1, R c2] M0 (qV fun M => Pw M ∧ Fr fm_m154_6 M0 M) := by
  refine ct_of (d := d + 3) (k := 0) (L := [some (R 6), some (I p1), some (R c2)]) rfl rfl rfl ?_
  have hF0 := Fr.rf fm_m154_6 M0
  generalize hQ : (qV fun M => Pw M ∧ Fr fm_m154_6 M0 M) = Q
  refine wk_al0 r154_0 (wk_al2 r154_1 (wk_putfr81 r154_2 fd_6_2 (wk_nw g_6_2 rfl hP0 hF0 (pcU hC2) ?_)))
  intro M1 hP2 hF3 e4
  refine wk_al0 r154_5 (wk_c1 r154_6 (wk_putfi81 r154_7 fd_6_4 (wk_nw g_6_4 rfl hP2 hF3 (uf_6_4 (by decide)) ?_)))
  intro M5 hP6 hF7 e8
  refine wk_al0 r154_10 (wk_c1 r154_11 (wk_putfi81 r154_12 fd_6_5 (wk_nw g_6_5 rfl hP6 hF7 (uf_6_5 (by decide)) ?_)))
  intro M9 hP10 hF11 e12
  refine wk_al0 r154_15 (wk_getfr r154_16 fd_6_0 (br_6_0 hP10) (wk_il1 r154_19 (wk_cv2 r154_20 kc_9_235 rfl (m235_9 _ M9 p1 hP10 (by omega) (by omega)) (cqV ?_))))
  rintro M13 ⟨hP14, hQ15⟩
  have hF16 : Fr fm_m154_6 M0 M13 := hF11.tr hQ15 rfl
  subst hQ; exact wk_ret r154_23 (⟨rfl, hP14, hF16⟩)
def fm_m141 : Nat := 3758096384
/-- IslandHall$Code.clear -/
theorem m141 {B : eB} (d : Nat) (M0 : Mm) (c0 : Int) (hP0 : Pw M0) (hC0 : isC c0) : Ct B (d + 1) 141 [R c0] M0 (qV fun M => Pw M ∧ Fr fm_m141 M0 M) := by
  refine ct_of (d := d + 0) (k := 0) (L := [some (R c0)]) rfl rfl rfl ?_
  have hF0 := Fr.rf fm_m141 M0
  generalize hQ : (qV fun M => Pw M ∧ Fr fm_m141 M0 M) = Q
  refine wk_al0 r141_0 (wk_c1 r141_1 (wk_putfi81 r141_2 (fdC_1 hC0) (wk_nw (g_c1 hC0) rfl hP0 hF0 (uC_1 hC0 (by decide)) ?_)))
  intro M1 hP2 hF3 e4
  refine wk_al0 r141_5 (wk_c1 r141_6 (wk_putfi81 r141_7 (fdC_2 hC0) (wk_nw (g_c2 hC0) rfl hP2 hF3 (uC_2 hC0 (by decide)) ?_)))
  intro M5 hP6 hF7 e8
  refine wk_al0 r141_10 (wk_c1 r141_11 (wk_putfi81 r141_12 (fdC_3 hC0) (wk_nw (g_c3 hC0) rfl hP6 hF7 (uC_3 hC0 (by decide)) ?_)))
  intro M9 hP10 hF11 e12
  subst hQ; exact wk_ret r141_15 (⟨rfl, hP10, hF11⟩)
def fm_m238_9 : Nat := 0
/-- IslandHall$Tokens.isSign -/
theorem m238_9 {B : eB} (d : Nat) (M0 : Mm) (p1 : Int) (hP0 : Pw M0) (l1 : 40 ≤ p1) (u1 : p1 ≤ 40) : Ct B (d + 1) 238 [R 9, I p1] M0 (qI fun z M => Pw M ∧ Fr fm_m238_9 M0 M ∧ 0 ≤ z ∧ z ≤ 1) := by
  refine ct_of (d := d + 0) (k := 0) (L := [some (R 9), some (I p1)]) rfl rfl rfl ?_
  have hF0 := Fr.rf fm_m238_9 M0
  generalize hQ : (qI fun z M => Pw M ∧ Fr fm_m238_9 M0 M ∧ 0 ≤ z ∧ z ≤ 1) = Q
  refine wk_al0 r238_0 (wk_getfb r238_1 fd_9_4 (bf_9_4 hP0) ?_)
  intro v1 h3 h4 e2
  refine wk_c1 r238_4 ?_
  refine wk_icne r238_5 ⟨by omega, by omega⟩ (by decide) ?_ ?_
  · intro h5
    refine wk_c1 r238_36 ?_
    subst hQ; exact wk_zret r238_37 (by decide) (⟨rfl, _, rfl, hP0, hF0, by omega, by omega⟩)
  · intro h6
    refine wk_al0 r238_8 (wk_getfb r238_9 fd_9_3 (bf_9_3 hP0) ?_)
    intro v7 h9 h10 e8
    refine wk_al0 r238_12 (wk_getfb r238_13 fd_9_1 (bf_9_1 hP0) ?_)
    intro v11 h13 h14 e12
    refine wk_icge r238_16 ⟨by omega, by omega⟩ ⟨by omega, by omega⟩ ?_ ?_
    · intro h15
      refine wk_c1 r238_36 ?_
      subst hQ; exact wk_zret r238_37 (by decide) (⟨rfl, _, rfl, hP0, hF0, by omega, by omega⟩)
    · intro h16
      refine wk_al0 r238_19 (wk_getfr r238_20 fd_9_0 (br_9_0 hP0) (wk_al0 r238_23 (wk_getfi r238_24 fd_9_3 e8 (wk_baldb r238_27 ar_1 ⟨by omega, by omega⟩ (fun q0 q1 => ba_1 hP0 q0 q1) ?_))))
      intro v17 h19 h20 e18
      refine wk_il1 r238_28 ?_
      refine wk_icne r238_29 ⟨by omega, by omega⟩ ⟨by omega, by omega⟩ ?_ ?_
      · intro h21
        refine wk_c1 r238_36 ?_
        subst hQ; exact wk_zret r238_37 (by decide) (⟨rfl, _, rfl, hP0, hF0, by omega, by omega⟩)
      · intro h22
        refine wk_c1 r238_32 (wk_goto r238_33 ?_)
        subst hQ; exact wk_zret r238_37 (by decide) (⟨rfl, _, rfl, hP0, hF0, by omega, by omega⟩)
def fm_m237_9 : Nat := 0
/-- IslandHall$Tokens.isName -/
theorem m237_9 {B : eB} (d : Nat) (M0 : Mm) (hP0 : Pw M0)  : Ct B (d + 1) 237 [R 9] M0 (qI fun z M => Pw M ∧ Fr fm_m237_9 M0 M ∧ 0 ≤ z ∧ z ≤ 1 ∧ (z = 1 → 0 ≤ M 9 2 + (-1) * (M 9 3) + (-1)) ∧ (z = 1 → 0 ≤ (-1) * (M 9 2) + M 9 3 + 1)) := by
  refine ct_of (d := d + 0) (k := 0) (L := [some (R 9)]) rfl rfl rfl ?_
  have hF0 := Fr.rf fm_m237_9 M0
  generalize hQ : (qI fun z M => Pw M ∧ Fr fm_m237_9 M0 M ∧ 0 ≤ z ∧ z ≤ 1 ∧ (z = 1 → 0 ≤ M 9 2 + (-1) * (M 9 3) + (-1)) ∧ (z = 1 → 0 ≤ (-1) * (M 9 2) + M 9 3 + 1)) = Q
  refine wk_al0 r237_0 (wk_getfb r237_1 fd_9_4 (bf_9_4 hP0) ?_)
  intro v1 h3 h4 e2
  refine wk_c1 r237_4 ?_
  refine wk_icne r237_5 ⟨by omega, by omega⟩ (by decide) ?_ ?_
  · intro h5
    refine wk_c1 r237_25 ?_
    subst hQ; exact wk_zret r237_26 (by decide) (⟨rfl, _, rfl, hP0, hF0, by omega, by omega, by omega, by omega⟩)
  · intro h6
    refine wk_al0 r237_8 (wk_getfb r237_9 fd_9_2 (bf_9_2 hP0) ?_)
    intro v7 h9 h10 e8
    refine wk_al0 r237_12 (wk_getfb r237_13 fd_9_3 (bf_9_3 hP0) ?_)
    intro v11 h13 h14 e12
    refine wk_isub r237_16 (wk_c1 r237_17 ?_)
    refine wk_icne r237_18 ⟨by omega, by omega⟩ (by decide) ?_ ?_
    · intro h15
      refine wk_c1 r237_25 ?_
      subst hQ; exact wk_zret r237_26 (by decide) (⟨rfl, _, rfl, hP0, hF0, by omega, by omega, by omega, by omega⟩)
    · intro h16
      refine wk_c1 r237_21 (wk_goto r237_22 ?_)
      subst hQ; exact wk_zret r237_26 (by decide) (⟨rfl, _, rfl, hP0, hF0, by omega, by omega, by have := e8; have := e12; omega, by have := e8; have := e12; omega⟩)
def fm_m239_9 : Nat := 0
/-- IslandHall$Tokens.isWord -/
theorem m239_9 {B : eB} (d : Nat) (M0 : Mm) (t1 : Int) (hP0 : Pw M0) (ht_t1 : 4097 ≤ t1 ∧ t1 ≤ 4132) : Ct B (d + 2) 239 [R 9, R t1] M0 (qI fun z M => Pw M ∧ Fr fm_m239_9 M0 M ∧ 0 ≤ z ∧ z ≤ 1 ∧ (z = 1 ↔ WI M0 t1)) := by
  refine ct_of (d := d + 1) (k := 1) (L := [some (R 9), some (R t1), none]) rfl rfl rfl ?_
  have hF0 := Fr.rf fm_m239_9 M0
  generalize hQ : (qI fun z M => Pw M ∧ Fr fm_m239_9 M0 M ∧ 0 ≤ z ∧ z ≤ 1 ∧ (z = 1 ↔ WI M0 t1)) = Q
  refine wk_al0 r239_0 (wk_getfb r239_1 fd_9_4 (bf_9_4 hP0) ?_)
  intro v1 h3 h4 e2
  refine wk_c1 r239_4 ?_
  refine wk_icne r239_5 ⟨by omega, by omega⟩ (by decide) ?_ ?_
  · intro h5
    refine wk_c1 r239_24 ?_
    subst hQ; exact wk_zret r239_25 (by decide) (⟨rfl, _, rfl, hP0, hF0, by omega, by omega, by first | exact ⟨fun h => by omega, fun h => by have h1 := h.1; have h2 := h.2.1; omega⟩ | exact ⟨fun h => by omega, fun h => by have h1 := h.2.2 _ (by omega) (by omega); rw [rfl] at h1; omega⟩ | exact ⟨fun _ => ⟨by omega, by omega, fun i h0 h1 => by rw [rfl]; exact _ i h0 (by omega)⟩, fun _ => rfl⟩⟩)
  · intro h6
    refine wk_al0 r239_8 (wk_getfb r239_9 fd_9_2 (bf_9_2 hP0) ?_)
    intro v7 h9 h10 e8
    refine wk_al0 r239_12 (wk_getfb r239_13 fd_9_3 (bf_9_3 hP0) ?_)
    intro v11 h13 h14 e12
    refine wk_isub r239_16 (wk_al1 r239_17 (wk_ct1 r239_18 ht_t1 rfl (ct_len _ _ ht_t1) (cqI ?_)))
    rintro v15 _ ⟨rfl, h16, h17, h18⟩
    refine wk_iceq r239_21 ⟨by omega, by omega⟩ ⟨by omega, by omega⟩ ?_ ?_
    · intro h19
      refine wk_c1 r239_26 (wk_is2 r239_27 rfl ?_)
      have c28_220 : ∀ (k220 : Nat) (v200 : Int), (40 - v200).toNat = k220 → 0 ≤ v200 → v200 ≤ 40 → (∀ k : Int, 0 ≤ k → k < v200 → M0 1 (v11 + k) = chf t1 k) → Wp B (d + 1) 239 28 [some (R 9), some (R t1), some (I v200)] [] M0 Q := by
        refine lp_ind ?_
        intro k220 ih220 v200 hk220 h201 h202 ti203
        refine wk_il2 r239_28 (wk_al1 r239_29 (wk_ct1 r239_30 ht_t1 rfl (ct_len _ _ ht_t1) (cqI ?_)))
        rintro v204 _ ⟨rfl, h205, h206, h207⟩
        refine wk_icge r239_33 ⟨by omega, by omega⟩ ⟨by omega, by omega⟩ ?_ ?_
        · intro h208
          refine wk_c1 r239_63 ?_
          subst hQ; exact wk_zret r239_64 (by decide) (⟨rfl, _, rfl, hP0, hF0, by omega, by omega, by first | exact ⟨fun h => by omega, fun h => by have h1 := h.1; have h2 := h.2.1; omega⟩ | exact ⟨fun h => by omega, fun h => by have h1 := h.2.2 v200 (by omega) (by omega); rw [e12] at h1; omega⟩ | exact ⟨fun _ => ⟨by omega, by omega, fun i h0 h1 => by rw [e12]; exact ti203 i h0 (by omega)⟩, fun _ => rfl⟩⟩)
        · intro h209
          refine wk_al0 r239_36 (wk_getfr r239_37 fd_9_0 (br_9_0 hP0) (wk_al0 r239_40 (wk_getfi r239_41 fd_9_3 e12 (wk_il2 r239_44 (wk_iadd r239_45 (wk_baldb r239_46 ar_1 ⟨by omega, by omega⟩ (fun q0 q1 => ba_1 hP0 q0 q1) ?_))))))
          intro v210 h212 h213 e211
          refine wk_al1 r239_47 (wk_il2 r239_48 (wk_ct2 r239_49 ht_t1 rfl (ct_cha _ _ ht_t1 ⟨by omega, by omega⟩) (cqI ?_)))
          rintro v214 _ ⟨rfl, h215, h216, h217⟩
          refine wk_iceq r239_52 ⟨by omega, by omega⟩ ⟨by omega, by omega⟩ ?_ ?_
          · intro h218
            refine wk_inc2 r239_57 rfl (wk_goto r239_60 ?_)
            exact wp_fg (le_s (le_s (le_s le_0))) (ih220 (40 - (v200 + 1)).toNat (by omega) (v200 + 1) rfl (by omega) (by omega) (fun k q0 q1 => (Int.lt_or_le k v200).elim (fun q => ti203 k q0 q) (fun q => by rw [show k = v200 by omega]; omega)))
          · intro h219
            refine wk_c1 r239_55 ?_
            subst hQ; exact wk_zret r239_56 (by decide) (⟨rfl, _, rfl, hP0, hF0, by omega, by omega, by first | exact ⟨fun h => by omega, fun h => by have h1 := h.1; have h2 := h.2.1; omega⟩ | exact ⟨fun h => by omega, fun h => by have h1 := h.2.2 v200 (by omega) (by omega); rw [e12] at h1; omega⟩ | exact ⟨fun _ => ⟨by omega, by omega, fun i h0 h1 => by rw [e12]; exact ti203 i h0 (by omega)⟩, fun _ => rfl⟩⟩)
      exact wp_fg (le_s (le_s (le_s le_0))) (c28_220 _ 0 rfl (by omega) (by omega) (fun k a b => by omega))
    · intro h221
      refine wk_c1 r239_24 ?_
      subst hQ; exact wk_zret r239_25 (by decide) (⟨rfl, _, rfl, hP0, hF0, by omega, by omega, by first | exact ⟨fun h => by omega, fun h => by have h1 := h.1; have h2 := h.2.1; omega⟩ | exact ⟨fun h => by omega, fun h => by have h1 := h.2.2 _ (by omega) (by omega); rw [e12] at h1; omega⟩ | exact ⟨fun _ => ⟨by omega, by omega, fun i h0 h1 => by rw [e12]; exact _ i h0 (by omega)⟩, fun _ => rfl⟩⟩)
def fm_m155_6 : Nat := 0
/-- IslandHall$Parser.canBegin -/
theorem m155_6 {B : eB} (d : Nat) (M0 : Mm) (hP0 : Pw M0)  : Ct B (d + 3) 155 [R 6] M0 (qI fun z M => Pw M ∧ Fr fm_m155_6 M0 M ∧ 0 ≤ z ∧ z ≤ 1) := by
  refine ct_of (d := d + 2) (k := 0) (L := [some (R 6)]) rfl rfl rfl ?_
  have hF0 := Fr.rf fm_m155_6 M0
  generalize hQ : (qI fun z M => Pw M ∧ Fr fm_m155_6 M0 M ∧ 0 ≤ z ∧ z ≤ 1) = Q
  refine wk_al0 r155_0 (wk_getfr r155_1 fd_6_0 (br_6_0 hP0) (wk_c2 r155_4 (wk_cv2 r155_6 kc_9_238 rfl (m238_9 _ M0 40 hP0 (by decide) (by decide)) (cqI ?_))))
  rintro v5 M1 ⟨hP2, hQ3, h6, h7⟩
  obtain rfl := Fr.same hQ3
  refine wk_ifne r155_9 ⟨by omega, by omega⟩ ?_ ?_
  · intro h8
    refine wk_c1 r155_94 (wk_goto r155_95 ?_)
    subst hQ; exact wk_zret r155_99 (by decide) (⟨rfl, _, rfl, hP0, hF0, by omega, by omega⟩)
  · intro h9
    refine wk_al0 r155_12 (wk_getfr r155_13 fd_6_0 (br_6_0 hP0) (wk_cv1 r155_16 kc_9_237 rfl (m237_9 _ M0 hP0) (cqI ?_)))
    rintro v16 M10 ⟨hP11, hQ12, h17, h18, h14, h15⟩
    obtain rfl := Fr.same hQ12
    obtain ⟨v19, e20⟩ : ∃ v, M0 9 2 = v := ⟨_, rfl⟩
    have h21 := bf_9_2 hP0; rw [e20] at h21
    obtain ⟨v22, e23⟩ : ∃ v, M0 9 3 = v := ⟨_, rfl⟩
    have h24 := bf_9_3 hP0; rw [e23] at h24
    refine wk_ifne r155_19 ⟨by omega, by omega⟩ ?_ ?_
    · intro h25
      refine wk_c1 r155_94 (wk_goto r155_95 ?_)
      subst hQ; exact wk_zret r155_99 (by decide) (⟨rfl, _, rfl, hP0, hF0, by omega, by omega⟩)
    · intro h26
      refine wk_al0 r155_22 (wk_getfr r155_23 fd_6_0 (br_6_0 hP0) (wk_c8 r155_26 (wk_cv2 r155_28 kc_9_239 rfl (m239_9 _ M0 4119 hP0 (by decide)) (cqI ?_))))
      rintro v32 M27 ⟨hP28, hQ29, h33, h34, xh31⟩
      obtain rfl := Fr.same hQ29
      refine wk_ifne r155_31 ⟨by omega, by omega⟩ ?_ ?_
      · intro h35
        refine wk_c1 r155_94 (wk_goto r155_95 ?_)
        subst hQ; exact wk_zret r155_99 (by decide) (⟨rfl, _, rfl, hP0, hF0, by omega, by omega⟩)
      · intro h36
        refine wk_al0 r155_34 (wk_getfr r155_35 fd_6_0 (br_6_0 hP0) (wk_c8 r155_38 (wk_cv2 r155_40 kc_9_239 rfl (m239_9 _ M0 4114 hP0 (by decide)) (cqI ?_))))
        rintro v42 M37 ⟨hP38, hQ39, h43, h44, xh41⟩
        obtain rfl := Fr.same hQ39
        refine wk_ifne r155_43 ⟨by omega, by omega⟩ ?_ ?_
        · intro h45
          refine wk_c1 r155_94 (wk_goto r155_95 ?_)
          subst hQ; exact wk_zret r155_99 (by decide) (⟨rfl, _, rfl, hP0, hF0, by omega, by omega⟩)
        · intro h46
          refine wk_al0 r155_46 (wk_getfr r155_47 fd_6_0 (br_6_0 hP0) (wk_c8 r155_50 (wk_cv2 r155_52 kc_9_239 rfl (m239_9 _ M0 4115 hP0 (by decide)) (cqI ?_))))
          rintro v52 M47 ⟨hP48, hQ49, h53, h54, xh51⟩
          obtain rfl := Fr.same hQ49
          refine wk_ifne r155_55 ⟨by omega, by omega⟩ ?_ ?_
          · intro h55
            refine wk_c1 r155_94 (wk_goto r155_95 ?_)
            subst hQ; exact wk_zret r155_99 (by decide) (⟨rfl, _, rfl, hP0, hF0, by omega, by omega⟩)
          · intro h56
            refine wk_al0 r155_58 (wk_getfr r155_59 fd_6_0 (br_6_0 hP0) (wk_c8 r155_62 (wk_cv2 r155_64 kc_9_239 rfl (m239_9 _ M0 4118 hP0 (by decide)) (cqI ?_))))
            rintro v62 M57 ⟨hP58, hQ59, h63, h64, xh61⟩
            obtain rfl := Fr.same hQ59
            refine wk_ifne r155_67 ⟨by omega, by omega⟩ ?_ ?_
            · intro h65
              refine wk_c1 r155_94 (wk_goto r155_95 ?_)
              subst hQ; exact wk_zret r155_99 (by decide) (⟨rfl, _, rfl, hP0, hF0, by omega, by omega⟩)
            · intro h66
              refine wk_al0 r155_70 (wk_getfr r155_71 fd_6_0 (br_6_0 hP0) (wk_c8 r155_74 (wk_cv2 r155_76 kc_9_239 rfl (m239_9 _ M0 4116 hP0 (by decide)) (cqI ?_))))
              rintro v72 M67 ⟨hP68, hQ69, h73, h74, xh71⟩
              obtain rfl := Fr.same hQ69
              refine wk_ifne r155_79 ⟨by omega, by omega⟩ ?_ ?_
              · intro h75
                refine wk_c1 r155_94 (wk_goto r155_95 ?_)
                subst hQ; exact wk_zret r155_99 (by decide) (⟨rfl, _, rfl, hP0, hF0, by omega, by omega⟩)
              · intro h76
                refine wk_al0 r155_82 (wk_getfr r155_83 fd_6_0 (br_6_0 hP0) (wk_c8 r155_86 (wk_cv2 r155_88 kc_9_239 rfl (m239_9 _ M0 4117 hP0 (by decide)) (cqI ?_))))
                rintro v82 M77 ⟨hP78, hQ79, h83, h84, xh81⟩
                obtain rfl := Fr.same hQ79
                refine wk_ifeq r155_91 ⟨by omega, by omega⟩ ?_ ?_
                · intro h85
                  refine wk_c1 r155_98 ?_
                  subst hQ; exact wk_zret r155_99 (by decide) (⟨rfl, _, rfl, hP0, hF0, by omega, by omega⟩)
                · intro h86
                  refine wk_c1 r155_94 (wk_goto r155_95 ?_)
                  subst hQ; exact wk_zret r155_99 (by decide) (⟨rfl, _, rfl, hP0, hF0, by omega, by omega⟩)
def fm_m175_6 : Nat := 3940649673949184
/-- IslandHall$Parser.takeWord -/
theorem m175_6 {B : eB} (d : Nat) (M0 : Mm) (t1 : Int) (hP0 : Pw M0) (ht_t1 : 4097 ≤ t1 ∧ t1 ≤ 4132) : Ct B (d + 3) 175 [R 6, R t1] M0 (qI fun z M => Pw M ∧ Fr fm_m175_6 M0 M ∧ 0 ≤ z ∧ z ≤ 1) := by
  refine ct_of (d := d + 2) (k := 0) (L := [some (R 6), some (R t1)]) rfl rfl rfl ?_
  have hF0 := Fr.rf fm_m175_6 M0
  generalize hQ : (qI fun z M => Pw M ∧ Fr fm_m175_6 M0 M ∧ 0 ≤ z ∧ z ≤ 1) = Q
  refine wk_al0 r175_0 (wk_getfr r175_1 fd_6_0 (br_6_0 hP0) (wk_al1 r175_4 (wk_cv2 r175_5 kc_9_239 rfl (m239_9 _ M0 t1 hP0 ht_t1) (cqI ?_))))
  rintro v6 M1 ⟨hP2, hQ3, h7, h8, xh5⟩
  obtain rfl := Fr.same hQ3
  refine wk_ifne r175_8 ⟨by omega, by omega⟩ ?_ ?_
  · intro h9
    refine wk_al0 r175_13 (wk_getfr r175_14 fd_6_0 (br_6_0 hP0) (wk_cv1 r175_17 kc_9_241 rfl (m241_9 _ M0 hP0) (cqV ?_)))
    rintro M10 ⟨hP11, hQ12⟩
    have hF13 : Fr fm_m175_6 M0 M10 := hF0.tr hQ12 rfl
    refine wk_c1 r175_20 ?_
    subst hQ; exact wk_zret r175_21 (by decide) (⟨rfl, _, rfl, hP11, hF13, by omega, by omega⟩)
  · intro h14
    refine wk_c1 r175_11 ?_
    subst hQ; exact wk_zret r175_12 (by decide) (⟨rfl, _, rfl, hP0, hF0, by omega, by omega⟩)
def fm_m159_6 : Nat := 412316860416
/-- IslandHall$Parser.fail -/
theorem m159_6 {B : eB} (d : Nat) (M0 : Mm) (p1 : Int) (hP0 : Pw M0) (l1 : 1 ≤ p1) (u1 : p1 ≤ 1) : Ct B (d + 1) 159 [R 6, I p1] M0 (qI fun z M => Pw M ∧ Fr fm_m159_6 M0 M ∧ 0 ≤ z ∧ z ≤ 0) := by
  refine ct_of (d := d + 0) (k := 0) (L := [some (R 6), some (I p1)]) rfl rfl rfl ?_
  have hF0 := Fr.rf fm_m159_6 M0
  generalize hQ : (qI fun z M => Pw M ∧ Fr fm_m159_6 M0 M ∧ 0 ≤ z ∧ z ≤ 0) = Q
  refine wk_al0 r159_0 (wk_il1 r159_1 (wk_putfi81 r159_2 fd_6_4 (wk_nw g_6_4 rfl hP0 hF0 (uf_6_4 ⟨by omega, by omega⟩) ?_)))
  intro M1 hP2 hF3 e4
  refine wk_al0 r159_5 (wk_al0 r159_6 (wk_getfr r159_7 fd_6_0 (br_6_0 hP2) (wk_getfb r159_10 fd_9_3 (bf_9_3 hP2) ?_)))
  intro v5 h7 h8 e6
  refine wk_putfi81 r159_13 fd_6_5 (wk_nw g_6_5 rfl hP2 hF3 (uf_6_5 ⟨by omega, by omega⟩) ?_)
  intro M9 hP10 hF11 e12
  refine wk_c1 r159_16 ?_
  subst hQ; exact wk_zret r159_17 (by decide) (⟨rfl, _, rfl, hP10, hF11, by omega, by omega⟩)
def fm_m240_9 : Nat := 0
/-- IslandHall$Tokens.kind -/
theorem m240_9 {B : eB} (d : Nat) (M0 : Mm) (hP0 : Pw M0)  : Ct B (d + 3) 240 [R 9] M0 (qI fun z M => Pw M ∧ Fr fm_m240_9 M0 M ∧ (-1) ≤ z ∧ z ≤ 4 ∧ (z = kdF M0)) := by
  refine ct_of (d := d + 2) (k := 0) (L := [some (R 9)]) rfl rfl rfl ?_
  have hF0 := Fr.rf fm_m240_9 M0
  generalize hQ : (qI fun z M => Pw M ∧ Fr fm_m240_9 M0 M ∧ (-1) ≤ z ∧ z ≤ 4 ∧ (z = kdF M0)) = Q
  refine wk_al0 r240_0 (wk_c8 r240_1 (wk_cv2 r240_3 kc_9_239 rfl (m239_9 _ M0 4128 hP0 (by decide)) (cqI ?_)))
  rintro v6 M1 ⟨hP2, hQ3, h7, h8, xh5⟩
  obtain rfl := Fr.same hQ3
  refine wk_ifeq r240_6 ⟨by omega, by omega⟩ ?_ ?_
  · intro h9
    refine wk_al0 r240_11 (wk_c8 r240_12 (wk_cv2 r240_14 kc_9_239 rfl (m239_9 _ M0 4129 hP0 (by decide)) (cqI ?_)))
    rintro v15 M10 ⟨hP11, hQ12, h16, h17, xh14⟩
    obtain rfl := Fr.same hQ12
    refine wk_ifeq r240_17 ⟨by omega, by omega⟩ ?_ ?_
    · intro h18
      refine wk_al0 r240_22 (wk_c8 r240_23 (wk_cv2 r240_25 kc_9_239 rfl (m239_9 _ M0 4130 hP0 (by decide)) (cqI ?_)))
      rintro v24 M19 ⟨hP20, hQ21, h25, h26, xh23⟩
      obtain rfl := Fr.same hQ21
      refine wk_ifeq r240_28 ⟨by omega, by omega⟩ ?_ ?_
      · intro h27
        refine wk_al0 r240_33 (wk_c8 r240_34 (wk_cv2 r240_36 kc_9_239 rfl (m239_9 _ M0 4131 hP0 (by decide)) (cqI ?_)))
        rintro v33 M28 ⟨hP29, hQ30, h34, h35, xh32⟩
        obtain rfl := Fr.same hQ30
        refine wk_ifeq r240_39 ⟨by omega, by omega⟩ ?_ ?_
        · intro h36
          refine wk_al0 r240_44 (wk_c8 r240_45 (wk_cv2 r240_47 kc_9_239 rfl (m239_9 _ M0 4132 hP0 (by decide)) (cqI ?_)))
          rintro v42 M37 ⟨hP38, hQ39, h43, h44, xh41⟩
          obtain rfl := Fr.same hQ39
          refine wk_ifeq r240_50 ⟨by omega, by omega⟩ ?_ ?_
          · intro h45
            refine wk_c1 r240_57 ?_
            subst hQ; exact wk_iret r240_58 (⟨rfl, _, rfl, hP0, hF0, by omega, by omega, by unfold kdF; rw [if_neg (fun q => by have := xh5.mpr q; omega), if_neg (fun q => by have := xh14.mpr q; omega), if_neg (fun q => by have := xh23.mpr q; omega), if_neg (fun q => by have := xh32.mpr q; omega), if_neg (fun q => by have := xh41.mpr q; omega)]⟩)
          · intro h46
            refine wk_c1 r240_53 (wk_goto r240_54 ?_)
            subst hQ; exact wk_iret r240_58 (⟨rfl, _, rfl, hP0, hF0, by omega, by omega, by unfold kdF; rw [if_neg (fun q => by have := xh5.mpr q; omega), if_neg (fun q => by have := xh14.mpr q; omega), if_neg (fun q => by have := xh23.mpr q; omega), if_neg (fun q => by have := xh32.mpr q; omega), if_pos (xh41.mp (by omega))]⟩)
        · intro h47
          refine wk_c1 r240_42 ?_
          subst hQ; exact wk_iret r240_43 (⟨rfl, _, rfl, hP0, hF0, by omega, by omega, by unfold kdF; rw [if_neg (fun q => by have := xh5.mpr q; omega), if_neg (fun q => by have := xh14.mpr q; omega), if_neg (fun q => by have := xh23.mpr q; omega), if_pos (xh32.mp (by omega))]⟩)
      · intro h48
        refine wk_c1 r240_31 ?_
        subst hQ; exact wk_iret r240_32 (⟨rfl, _, rfl, hP0, hF0, by omega, by omega, by unfold kdF; rw [if_neg (fun q => by have := xh5.mpr q; omega), if_neg (fun q => by have := xh14.mpr q; omega), if_pos (xh23.mp (by omega))]⟩)
    · intro h49
      refine wk_c1 r240_20 ?_
      subst hQ; exact wk_iret r240_21 (⟨rfl, _, rfl, hP0, hF0, by omega, by omega, by unfold kdF; rw [if_neg (fun q => by have := xh5.mpr q; omega), if_pos (xh14.mp (by omega))]⟩)
  · intro h50
    refine wk_c1 r240_9 ?_
    subst hQ; exact wk_iret r240_10 (⟨rfl, _, rfl, hP0, hF0, by omega, by omega, by unfold kdF; rw [if_pos (xh5.mp (by omega))]⟩)
def fm_m159_6v1 : Nat := 412316860416
/-- IslandHall$Parser.fail -/
theorem m159_6v1 {B : eB} (d : Nat) (M0 : Mm) (p1 : Int) (hP0 : Pw M0) (l1 : 1 ≤ p1) (u1 : p1 ≤ 3) : Ct B (d + 1) 159 [R 6, I p1] M0 (qI fun z M => Pw M ∧ Fr fm_m159_6v1 M0 M ∧ 0 ≤ z ∧ z ≤ 0) := by
  refine ct_of (d := d + 0) (k := 0) (L := [some (R 6), some (I p1)]) rfl rfl rfl ?_
  have hF0 := Fr.rf fm_m159_6v1 M0
  generalize hQ : (qI fun z M => Pw M ∧ Fr fm_m159_6v1 M0 M ∧ 0 ≤ z ∧ z ≤ 0) = Q
  refine wk_al0 r159_0 (wk_il1 r159_1 (wk_putfi81 r159_2 fd_6_4 (wk_nw g_6_4 rfl hP0 hF0 (uf_6_4 ⟨by omega, by omega⟩) ?_)))
  intro M1 hP2 hF3 e4
  refine wk_al0 r159_5 (wk_al0 r159_6 (wk_getfr r159_7 fd_6_0 (br_6_0 hP2) (wk_getfb r159_10 fd_9_3 (bf_9_3 hP2) ?_)))
  intro v5 h7 h8 e6
  refine wk_putfi81 r159_13 fd_6_5 (wk_nw g_6_5 rfl hP2 hF3 (uf_6_5 ⟨by omega, by omega⟩) ?_)
  intro M9 hP10 hF11 e12
  refine wk_c1 r159_16 ?_
  subst hQ; exact wk_zret r159_17 (by decide) (⟨rfl, _, rfl, hP10, hF11, by omega, by omega⟩)
def fm_m173_6 : Nat := 3941061990809600
/-- IslandHall$Parser.takeKind -/
theorem m173_6 {B : eB} (d : Nat) (M0 : Mm) (hP0 : Pw M0)  : Ct B (d + 4) 173 [R 6] M0 (qI fun z M => Pw M ∧ Fr fm_m173_6 M0 M ∧ (-1) ≤ z ∧ z ≤ 4) := by
  refine ct_of (d := d + 3) (k := 1) (L := [some (R 6), none]) rfl rfl rfl ?_
  have hF0 := Fr.rf fm_m173_6 M0
  generalize hQ : (qI fun z M => Pw M ∧ Fr fm_m173_6 M0 M ∧ (-1) ≤ z ∧ z ≤ 4) = Q
  refine wk_al0 r173_0 (wk_getfr r173_1 fd_6_0 (br_6_0 hP0) (wk_cv1 r173_4 kc_9_240 rfl (m240_9 _ M0 hP0) (cqI ?_)))
  rintro v6 M1 ⟨hP2, hQ3, h7, h8, xh5⟩
  obtain rfl := Fr.same hQ3
  refine wk_is1 r173_7 rfl (wk_il1 r173_8 (wk_c1 r173_9 ?_))
  refine wk_icne r173_10 ⟨by omega, by omega⟩ (by decide) ?_ ?_
  · intro h9
    refine wk_al0 r173_36 (wk_getfr r173_37 fd_6_0 (br_6_0 hP0) (wk_cv1 r173_40 kc_9_241 rfl (m241_9 _ M0 hP0) (cqV ?_)))
    rintro M10 ⟨hP11, hQ12⟩
    have hF13 : Fr fm_m173_6 M0 M10 := hF0.tr hQ12 rfl
    refine wk_il1 r173_43 ?_
    subst hQ; exact wk_iret r173_44 (⟨rfl, _, rfl, hP11, hF13, by omega, by omega⟩)
  · intro h14
    refine wk_al0 r173_13 (wk_al0 r173_14 (wk_getfr r173_15 fd_6_0 (br_6_0 hP0) (wk_getfb r173_18 fd_9_4 (bf_9_4 hP0) ?_)))
    intro v15 h17 h18 e16
    refine wk_c1 r173_21 ?_
    refine wk_icne r173_22 ⟨by omega, by omega⟩ (by decide) ?_ ?_
    · intro h19
      refine wk_c1 r173_29 (wk_cv2 r173_30 kc_6_159 rfl (m159_6 _ M0 1 hP0 (by decide) (by decide)) (cqI ?_))
      rintro v24 M20 ⟨hP21, hQ22, h25, h26⟩
      have hF23 : Fr fm_m173_6 M0 M20 := hF0.tr hQ22 rfl
      refine wk_popi r173_33 (wk_c1 r173_34 ?_)
      subst hQ; exact wk_iret r173_35 (⟨rfl, _, rfl, hP21, hF23, by omega, by omega⟩)
    · intro h27
      refine wk_c1 r173_25 (wk_goto r173_26 (wk_cv2 r173_30 kc_6_159 rfl (m159_6v1 _ M0 3 hP0 (by decide) (by decide)) (cqI ?_)))
      rintro v32 M28 ⟨hP29, hQ30, h33, h34⟩
      have hF31 : Fr fm_m173_6 M0 M28 := hF0.tr hQ30 rfl
      refine wk_popi r173_33 (wk_c1 r173_34 ?_)
      subst hQ; exact wk_iret r173_35 (⟨rfl, _, rfl, hP29, hF31, by omega, by omega⟩)
def fm_m238_9v1 : Nat := 0
/-- IslandHall$Tokens.isSign -/
theorem m238_9v1 {B : eB} (d : Nat) (M0 : Mm) (p1 : Int) (hP0 : Pw M0) (l1 : 40 ≤ p1) (u1 : p1 ≤ 60) : Ct B (d + 1) 238 [R 9, I p1] M0 (qI fun z M => Pw M ∧ Fr fm_m238_9v1 M0 M ∧ 0 ≤ z ∧ z ≤ 1) := by
  refine ct_of (d := d + 0) (k := 0) (L := [some (R 9), some (I p1)]) rfl rfl rfl ?_
  have hF0 := Fr.rf fm_m238_9v1 M0
  generalize hQ : (qI fun z M => Pw M ∧ Fr fm_m238_9v1 M0 M ∧ 0 ≤ z ∧ z ≤ 1) = Q
  refine wk_al0 r238_0 (wk_getfb r238_1 fd_9_4 (bf_9_4 hP0) ?_)
  intro v1 h3 h4 e2
  refine wk_c1 r238_4 ?_
  refine wk_icne r238_5 ⟨by omega, by omega⟩ (by decide) ?_ ?_
  · intro h5
    refine wk_c1 r238_36 ?_
    subst hQ; exact wk_zret r238_37 (by decide) (⟨rfl, _, rfl, hP0, hF0, by omega, by omega⟩)
  · intro h6
    refine wk_al0 r238_8 (wk_getfb r238_9 fd_9_3 (bf_9_3 hP0) ?_)
    intro v7 h9 h10 e8
    refine wk_al0 r238_12 (wk_getfb r238_13 fd_9_1 (bf_9_1 hP0) ?_)
    intro v11 h13 h14 e12
    refine wk_icge r238_16 ⟨by omega, by omega⟩ ⟨by omega, by omega⟩ ?_ ?_
    · intro h15
      refine wk_c1 r238_36 ?_
      subst hQ; exact wk_zret r238_37 (by decide) (⟨rfl, _, rfl, hP0, hF0, by omega, by omega⟩)
    · intro h16
      refine wk_al0 r238_19 (wk_getfr r238_20 fd_9_0 (br_9_0 hP0) (wk_al0 r238_23 (wk_getfi r238_24 fd_9_3 e8 (wk_baldb r238_27 ar_1 ⟨by omega, by omega⟩ (fun q0 q1 => ba_1 hP0 q0 q1) ?_))))
      intro v17 h19 h20 e18
      refine wk_il1 r238_28 ?_
      refine wk_icne r238_29 ⟨by omega, by omega⟩ ⟨by omega, by omega⟩ ?_ ?_
      · intro h21
        refine wk_c1 r238_36 ?_
        subst hQ; exact wk_zret r238_37 (by decide) (⟨rfl, _, rfl, hP0, hF0, by omega, by omega⟩)
      · intro h22
        refine wk_c1 r238_32 (wk_goto r238_33 ?_)
        subst hQ; exact wk_zret r238_37 (by decide) (⟨rfl, _, rfl, hP0, hF0, by omega, by omega⟩)
def fm_m238_9v2 : Nat := 0
/-- IslandHall$Tokens.isSign -/
theorem m238_9v2 {B : eB} (d : Nat) (M0 : Mm) (p1 : Int) (hP0 : Pw M0) (l1 : 40 ≤ p1) (u1 : p1 ≤ 62) : Ct B (d + 1) 238 [R 9, I p1] M0 (qI fun z M => Pw M ∧ Fr fm_m238_9v2 M0 M ∧ 0 ≤ z ∧ z ≤ 1) := by
  refine ct_of (d := d + 0) (k := 0) (L := [some (R 9), some (I p1)]) rfl rfl rfl ?_
  have hF0 := Fr.rf fm_m238_9v2 M0
  generalize hQ : (qI fun z M => Pw M ∧ Fr fm_m238_9v2 M0 M ∧ 0 ≤ z ∧ z ≤ 1) = Q
  refine wk_al0 r238_0 (wk_getfb r238_1 fd_9_4 (bf_9_4 hP0) ?_)
  intro v1 h3 h4 e2
  refine wk_c1 r238_4 ?_
  refine wk_icne r238_5 ⟨by omega, by omega⟩ (by decide) ?_ ?_
  · intro h5
    refine wk_c1 r238_36 ?_
    subst hQ; exact wk_zret r238_37 (by decide) (⟨rfl, _, rfl, hP0, hF0, by omega, by omega⟩)
  · intro h6
    refine wk_al0 r238_8 (wk_getfb r238_9 fd_9_3 (bf_9_3 hP0) ?_)
    intro v7 h9 h10 e8
    refine wk_al0 r238_12 (wk_getfb r238_13 fd_9_1 (bf_9_1 hP0) ?_)
    intro v11 h13 h14 e12
    refine wk_icge r238_16 ⟨by omega, by omega⟩ ⟨by omega, by omega⟩ ?_ ?_
    · intro h15
      refine wk_c1 r238_36 ?_
      subst hQ; exact wk_zret r238_37 (by decide) (⟨rfl, _, rfl, hP0, hF0, by omega, by omega⟩)
    · intro h16
      refine wk_al0 r238_19 (wk_getfr r238_20 fd_9_0 (br_9_0 hP0) (wk_al0 r238_23 (wk_getfi r238_24 fd_9_3 e8 (wk_baldb r238_27 ar_1 ⟨by omega, by omega⟩ (fun q0 q1 => ba_1 hP0 q0 q1) ?_))))
      intro v17 h19 h20 e18
      refine wk_il1 r238_28 ?_
      refine wk_icne r238_29 ⟨by omega, by omega⟩ ⟨by omega, by omega⟩ ?_ ?_
      · intro h21
        refine wk_c1 r238_36 ?_
        subst hQ; exact wk_zret r238_37 (by decide) (⟨rfl, _, rfl, hP0, hF0, by omega, by omega⟩)
      · intro h22
        refine wk_c1 r238_32 (wk_goto r238_33 ?_)
        subst hQ; exact wk_zret r238_37 (by decide) (⟨rfl, _, rfl, hP0, hF0, by omega, by omega⟩)
def fm_m244_9 : Nat := 0
/-- IslandHall$Tokens.value -/
theorem m244_9 {B : eB} (d : Nat) (M0 : Mm) (hP0 : Pw M0)  : Ct B (d + 1) 244 [R 9] M0 (qI fun z M => Pw M ∧ Fr fm_m244_9 M0 M ∧ (-2147483648) ≤ z ∧ z ≤ 2147483647) := by
  refine ct_of (d := d + 0) (k := 2) (L := [some (R 9), none, none]) rfl rfl rfl ?_
  have hF0 := Fr.rf fm_m244_9 M0
  generalize hQ : (qI fun z M => Pw M ∧ Fr fm_m244_9 M0 M ∧ (-2147483648) ≤ z ∧ z ≤ 2147483647) = Q
  refine wk_al0 r244_0 (wk_getfb r244_1 fd_9_2 (bf_9_2 hP0) ?_)
  intro v1 h3 h4 e2
  refine wk_al0 r244_4 (wk_getfb r244_5 fd_9_3 (bf_9_3 hP0) ?_)
  intro v5 h7 h8 e6
  refine wk_isub r244_8 (wk_c1 r244_9 ?_)
  refine wk_icle r244_10 ⟨by omega, by omega⟩ (by decide) ?_ ?_
  · intro h9
    refine wk_c1 r244_15 (wk_is1 r244_16 rfl (wk_al0 r244_17 (wk_getfi r244_18 fd_9_3 e6 (wk_is2 r244_21 rfl ?_))))
    have c22_72 : ∀ (k72 : Nat) (v54 : Int) (v57 : Int), (500 - v57).toNat = k72 → (-2147483648) ≤ v54 → v54 ≤ 2147483647 → 0 ≤ v57 → v57 ≤ 500 → Wp B (d + 0) 244 22 [some (R 9), some (I v54), some (I v57)] [] M0 Q := by
      refine lp_ind ?_
      intro k72 ih72 v54 v57 hk72 h55 h56 h58 h59
      refine wk_il2 r244_22 (wk_al0 r244_23 (wk_getfi r244_24 fd_9_2 e2 ?_))
      refine wk_icge r244_27 ⟨by omega, by omega⟩ ⟨by omega, by omega⟩ ?_ ?_
      · intro h60
        refine wk_il1 r244_51 ?_
        subst hQ; exact wk_iret r244_52 (⟨rfl, _, rfl, hP0, hF0, by omega, by omega⟩)
      · intro h61
        refine wk_c2 r244_30 (wk_il1 r244_32 (wk_imul r244_33 (wk_wrap ?_)))
        intro v62 h63 h64
        refine wk_al0 r244_34 (wk_getfr r244_35 fd_9_0 (br_9_0 hP0) (wk_il2 r244_38 (wk_baldb r244_39 ar_1 ⟨by omega, by omega⟩ (fun q0 q1 => ba_1 hP0 q0 q1) ?_)))
        intro v65 h67 h68 e66
        refine wk_c2 r244_40 (wk_isub r244_42 (wk_iadd r244_43 (wk_wrap ?_)))
        intro v69 h70 h71
        refine wk_is1 r244_44 rfl (wk_inc2 r244_45 rfl (wk_goto r244_48 ?_))
        exact wp_fg (le_s (le_s (le_s le_0))) (ih72 (500 - (v57 + 1)).toNat (by omega) v69 (v57 + 1) rfl (by omega) (by omega) (by omega) (by omega))
    exact wp_fg (le_s (le_s (le_s le_0))) (c22_72 _ 0 v5 rfl (by omega) (by omega) (by omega) (by omega))
  · intro h73
    refine wk_c1 r244_13 ?_
    subst hQ; exact wk_iret r244_14 (⟨rfl, _, rfl, hP0, hF0, by omega, by omega⟩)
def fm_m167_6 : Nat := 3941061990809600
/-- IslandHall$Parser.number -/
theorem m167_6 {B : eB} (d : Nat) (M0 : Mm) (p1 : Int) (p2 : Int) (hP0 : Pw M0) (l1 : 0 ≤ p1) (u1 : p1 ≤ 0) (l2 : 99 ≤ p2) (u2 : p2 ≤ 99) : Ct B (d + 3) 167 [R 6, I p1, I p2] M0 (qI fun z M => Pw M ∧ Fr fm_m167_6 M0 M ∧ (-1) ≤ z ∧ z ≤ 99) := by
  refine ct_of (d := d + 2) (k := 1) (L := [some (R 6), some (I p1), some (I p2), none]) rfl rfl rfl ?_
  have hF0 := Fr.rf fm_m167_6 M0
  generalize hQ : (qI fun z M => Pw M ∧ Fr fm_m167_6 M0 M ∧ (-1) ≤ z ∧ z ≤ 99) = Q
  refine wk_al0 r167_0 (wk_getfr r167_1 fd_6_0 (br_6_0 hP0) (wk_getfb r167_4 fd_9_4 (bf_9_4 hP0) ?_))
  intro v1 h3 h4 e2
  refine wk_c1 r167_7 ?_
  refine wk_iceq r167_8 ⟨by omega, by omega⟩ (by decide) ?_ ?_
  · intro h5
    refine wk_al0 r167_19 (wk_getfr r167_20 fd_6_0 (br_6_0 hP0) (wk_cv1 r167_23 kc_9_244 rfl (m244_9 _ M0 hP0) (cqI ?_)))
    rintro v10 M6 ⟨hP7, hQ8, h11, h12⟩
    obtain rfl := Fr.same hQ8
    refine wk_is3 r167_26 rfl (wk_il3 r167_27 (wk_il1 r167_28 ?_))
    refine wk_iclt r167_29 ⟨by omega, by omega⟩ ⟨by omega, by omega⟩ ?_ ?_
    · intro h13
      refine wk_al0 r167_37 (wk_c1 r167_38 (wk_cv2 r167_39 kc_6_159 rfl (m159_6v1 _ M0 2 hP0 (by decide) (by decide)) (cqI ?_)))
      rintro v18 M14 ⟨hP15, hQ16, h19, h20⟩
      have hF17 : Fr fm_m167_6 M0 M14 := hF0.tr hQ16 rfl
      refine wk_popi r167_42 (wk_c1 r167_43 ?_)
      subst hQ; exact wk_iret r167_44 (⟨rfl, _, rfl, hP15, hF17, by omega, by omega⟩)
    · intro h21
      refine wk_il3 r167_32 (wk_il2 r167_33 ?_)
      refine wk_icle r167_34 ⟨by omega, by omega⟩ ⟨by omega, by omega⟩ ?_ ?_
      · intro h22
        refine wk_al0 r167_45 (wk_getfr r167_46 fd_6_0 (br_6_0 hP0) (wk_cv1 r167_49 kc_9_241 rfl (m241_9 _ M0 hP0) (cqV ?_)))
        rintro M23 ⟨hP24, hQ25⟩
        have hF26 : Fr fm_m167_6 M0 M23 := hF0.tr hQ25 rfl
        refine wk_il3 r167_52 ?_
        subst hQ; exact wk_iret r167_53 (⟨rfl, _, rfl, hP24, hF26, by omega, by omega⟩)
      · intro h27
        refine wk_al0 r167_37 (wk_c1 r167_38 (wk_cv2 r167_39 kc_6_159 rfl (m159_6v1 _ M0 2 hP0 (by decide) (by decide)) (cqI ?_)))
        rintro v32 M28 ⟨hP29, hQ30, h33, h34⟩
        have hF31 : Fr fm_m167_6 M0 M28 := hF0.tr hQ30 rfl
        refine wk_popi r167_42 (wk_c1 r167_43 ?_)
        subst hQ; exact wk_iret r167_44 (⟨rfl, _, rfl, hP29, hF31, by omega, by omega⟩)
  · intro h35
    refine wk_al0 r167_11 (wk_c1 r167_12 (wk_cv2 r167_13 kc_6_159 rfl (m159_6 _ M0 1 hP0 (by decide) (by decide)) (cqI ?_)))
    rintro v40 M36 ⟨hP37, hQ38, h41, h42⟩
    have hF39 : Fr fm_m167_6 M0 M36 := hF0.tr hQ38 rfl
    refine wk_popi r167_16 (wk_c1 r167_17 ?_)
    subst hQ; exact wk_iret r167_18 (⟨rfl, _, rfl, hP37, hF39, by omega, by omega⟩)
def fm_m138 : Nat := 4831838208
/-- IslandHall$Code.add -/
theorem m138 {B : eB} (d : Nat) (M0 : Mm) (c0 : Int) (p1 : Int) (p2 : Int) (hP0 : Pw M0) (hC0 : isC c0) (l1 : 0 ≤ p1) (u1 : p1 ≤ 6) (l2 : 0 ≤ p2) (u2 : p2 ≤ 1279) (xp0 : stepok (p1 + 8 * p2)) : Ct B (d + 1) 138 [R c0, I p1, I p2] M0 (qV fun M => Pw M ∧ Fr fm_m138 M0 M) := by
  refine ct_of (d := d + 0) (k := 0) (L := [some (R c0), some (I p1), some (I p2)]) rfl rfl rfl ?_
  have hF0 := Fr.rf fm_m138 M0
  generalize hQ : (qV fun M => Pw M ∧ Fr fm_m138 M0 M) = Q
  refine wk_al0 r138_0 (wk_getfb r138_1 (fdC_1 hC0) (bC_1 hP0 hC0) ?_)
  intro v1 h3 h4 e2
  refine wk_al0 r138_4 (wk_getfr r138_5 (fdC_0 hC0) (bC_0 hP0 hC0) (wk_alen r138_8 (arC hC0) (by decide) ?_))
  refine wk_icge r138_9 ⟨by omega, by omega⟩ (by decide) ?_ ?_
  · intro h5
    subst hQ; exact wk_ret r138_36 (⟨rfl, hP0, hF0⟩)
  · intro h6
    refine wk_al0 r138_12 (wk_getfr r138_13 (fdC_0 hC0) (bC_0 hP0 hC0) (wk_al0 r138_16 (wk_getfi r138_17 (fdC_1 hC0) e2 (wk_il1 r138_20 (wk_il2 r138_21 (wk_c1 r138_22 (wk_ishlc r138_23 (by decide) pwl_3 (wk_iord 3 8 r138_24 (by decide) ⟨by omega, by omega⟩ ⟨by omega, by omega, by omega⟩ (wk_iast r138_25 (arC hC0) ⟨by omega, by omega⟩ (wk_nw (g_cs hC0 _) rfl hP0 hF0 (uaC hC0 (by unfold stepok at *; omega)) ?_))))))))))
    intro M7 hP8 hF9 e10
    refine wk_al0 r138_26 (wk_dupr r138_27 (wk_getfi r138_28 (fdC_1 hC0) (mUp_no e10 e2 (Or.inl (by omega))) (wk_c1 r138_31 (wk_iadd r138_32 (wk_putfi81 r138_33 (fdC_1 hC0) (wk_nw (g_c1 hC0) rfl hP8 hF9 (uC_1 hC0 ⟨by omega, by omega⟩) ?_))))))
    intro M11 hP12 hF13 e14
    subst hQ; exact wk_ret r138_36 (⟨rfl, hP12, hF13⟩)
def fm_m172_6 : Nat := 4831838208
/-- IslandHall$Parser.step -/
theorem m172_6 {B : eB} (d : Nat) (M0 : Mm) (p1 : Int) (p2 : Int) (hP0 : Pw M0) (l1 : 0 ≤ p1) (u1 : p1 ≤ 6) (l2 : 0 ≤ p2) (u2 : p2 ≤ 1279) (xp0 : stepok (p1 + 8 * p2)) : Ct B (d + 2) 172 [R 6, I p1, I p2] M0 (qI fun z M => Pw M ∧ Fr fm_m172_6 M0 M ∧ 1 ≤ z ∧ z ≤ 1) := by
  refine ct_of (d := d + 1) (k := 0) (L := [some (R 6), some (I p1), some (I p2)]) rfl rfl rfl ?_
  have hF0 := Fr.rf fm_m172_6 M0
  generalize hQ : (qI fun z M => Pw M ∧ Fr fm_m172_6 M0 M ∧ 1 ≤ z ∧ z ≤ 1) = Q
  refine wk_al0 r172_0 ?_
  obtain ⟨v1, e2⟩ : ∃ v, M0 6 2 = v := ⟨_, rfl⟩
  have hC3 : isC v1 := by have := pcE hP0; rw [e2] at this; exact this
  refine wk_getfr r172_1 fd_6_2 e2 (wk_il1 r172_4 (wk_il2 r172_5 (wk_cv3 r172_6 (kcC_138 hC3) rfl (m138 _ M0 v1 p1 p2 hP0 hC3 (by omega) (by omega) (by omega) (by omega) (by first | assumption | omega | (unfold stepok; omega))) (cqV ?_))))
  rintro M4 ⟨hP5, hQ6⟩
  have hF7 : Fr fm_m172_6 M0 M4 := hF0.tr hQ6 rfl
  refine wk_c1 r172_9 ?_
  subst hQ; exact wk_zret r172_10 (by decide) (⟨rfl, _, rfl, hP5, hF7, by omega, by omega⟩)
def fm_m163_6 : Nat := 3941066822647808
/-- IslandHall$Parser.manyAtom -/
theorem m163_6 {B : eB} (d : Nat) (M0 : Mm) (p1 : Int) (hP0 : Pw M0) (l1 : (-1) ≤ p1) (u1 : p1 ≤ 4) : Ct B (d + 4) 163 [R 6, I p1] M0 (qI fun z M => Pw M ∧ Fr fm_m163_6 M0 M ∧ 0 ≤ z ∧ z ≤ 1) := by
  refine ct_of (d := d + 3) (k := 4) (L := [some (R 6), some (I p1), none, none, none, none]) rfl rfl rfl ?_
  have hF0 := Fr.rf fm_m163_6 M0
  generalize hQ : (qI fun z M => Pw M ∧ Fr fm_m163_6 M0 M ∧ 0 ≤ z ∧ z ≤ 1) = Q
  refine wk_il1 r163_0 (wk_c1 r163_1 ?_)
  refine wk_icne r163_2 ⟨by omega, by omega⟩ (by decide) ?_ ?_
  · intro h1
    refine wk_al0 r163_7 (wk_getfr r163_8 fd_6_0 (br_6_0 hP0) (wk_c2 r163_11 (wk_cv2 r163_13 kc_9_238 rfl (m238_9v1 _ M0 60 hP0 (by decide) (by decide)) (cqI ?_))))
    rintro v6 M2 ⟨hP3, hQ4, h7, h8⟩
    obtain rfl := Fr.same hQ4
    have c40_98 : ∀ (v20 : Int), (-1) ≤ v20 → v20 ≤ 1 → Wp B (d + 3) 163 40 [some (R 6), some (I p1), none, none, none, none] [I v20] M0 Q := by
      intro v20 h21 h22
      refine wk_is2 r163_40 rfl (wk_il2 r163_41 ?_)
      have c63_97 : Wp B (d + 3) 163 63 [some (R 6), some (I p1), some (I v20), none, none, none] [] M0 Q := by
        refine wk_al0 r163_63 (wk_getfr r163_64 fd_6_0 (br_6_0 hP0) (wk_cv1 r163_67 kc_9_241 rfl (m241_9 _ M0 hP0) (cqV ?_)))
        rintro M41 ⟨hP42, hQ43⟩
        have hF44 : Fr fm_m163_6 M0 M41 := hF0.tr hQ43 rfl
        refine wk_al0 r163_70 (wk_c1 r163_71 (wk_c2 r163_72 (wk_cv3 r163_74 kc_6_167 rfl (m167_6 _ M41 0 99 hP42 (by decide) (by decide) (by decide) (by decide)) (cqI ?_))))
        rintro v49 M45 ⟨hP46, hQ47, h50, h51⟩
        have hF48 : Fr fm_m163_6 M0 M45 := hF44.tr hQ47 rfl
        refine wk_is3 r163_77 rfl (wk_il3 r163_78 (wk_c1 r163_79 ?_))
        refine wk_icne r163_80 ⟨by omega, by omega⟩ (by decide) ?_ ?_
        · intro h52
          refine wk_il3 r163_85 (wk_c2 r163_86 (wk_min r163_88 ⟨by omega, by omega⟩ (by decide) rfl ?_))
          intro v53 h54 h55 h56
          refine wk_is4 r163_91 rfl (wk_il2 r163_93 ?_)
          refine wk_ifge r163_94 ⟨by omega, by omega⟩ ?_ ?_
          · intro h57
            refine wk_il2 r163_106 ?_
            refine wk_ifle r163_107 ⟨by omega, by omega⟩ ?_ ?_
            · intro h58
              refine wk_c1 r163_119 (wk_il4 r163_120 (wk_shl1 8 256 r163_122 ⟨by omega, by omega⟩ ⟨pwl_8, by decide⟩ ?_))
              intro v59 h60 h61 h62
              refine wk_is5 r163_123 rfl (wk_al0 r163_125 (wk_c2 r163_126 (wk_il1 r163_128 (wk_c2 r163_129 (wk_ishlc r163_131 (by decide) pwl_8 (wk_il5 r163_132 (wk_c3 r163_134 (wk_iandc 8 256 r163_137 ⟨rfl, by decide⟩ rfl (wk_iord2 8 256 r163_138 (by decide) ⟨by omega, by omega⟩ ⟨by omega, by omega, by omega⟩ (wk_cv3 r163_139 kc_6_172 rfl (m172_6 _ M45 6 ((p1 * 256) + (v59 % 256)) hP46 (by decide) (by decide) (by omega) (by omega) (by first | assumption | omega | (unfold stepok; omega))) (cqI ?_)))))))))))
              rintro v68 M64 ⟨hP65, hQ66, h69, h70⟩
              have hF67 : Fr fm_m163_6 M0 M64 := hF48.tr hQ66 rfl
              subst hQ; exact wk_zret r163_142 ⟨by omega, by omega⟩ (⟨rfl, _, rfl, hP65, hF67, by omega, by omega⟩)
            · intro h71
              refine wk_c1 r163_110 (wk_il4 r163_111 (wk_c1 r163_113 (wk_iadd r163_114 (wk_ishl r163_115 ⟨by omega, by omega⟩ (wk_wrap ?_)))))
              intro v72 h73 h74
              refine wk_goto r163_116 (wk_is5 r163_123 rfl (wk_al0 r163_125 (wk_c2 r163_126 (wk_il1 r163_128 (wk_c2 r163_129 (wk_ishlc r163_131 (by decide) pwl_8 (wk_il5 r163_132 (wk_c3 r163_134 (wk_iandc 8 256 r163_137 ⟨rfl, by decide⟩ rfl (wk_iord2 8 256 r163_138 (by decide) ⟨by omega, by omega⟩ ⟨by omega, by omega, by omega⟩ (wk_cv3 r163_139 kc_6_172 rfl (m172_6 _ M45 6 ((p1 * 256) + (v72 % 256)) hP46 (by decide) (by decide) (by omega) (by omega) (by first | assumption | omega | (unfold stepok; omega))) (cqI ?_))))))))))))
              rintro v80 M76 ⟨hP77, hQ78, h81, h82⟩
              have hF79 : Fr fm_m163_6 M0 M76 := hF48.tr hQ78 rfl
              subst hQ; exact wk_zret r163_142 ⟨by omega, by omega⟩ (⟨rfl, _, rfl, hP77, hF79, by omega, by omega⟩)
          · intro h83
            refine wk_c1 r163_97 (wk_il4 r163_98 (wk_shl1 8 256 r163_100 ⟨by omega, by omega⟩ ⟨pwl_8, by decide⟩ ?_))
            intro v84 h85 h86 h87
            refine wk_c1 r163_101 (wk_isub r163_102 (wk_goto r163_103 (wk_is5 r163_123 rfl (wk_al0 r163_125 (wk_c2 r163_126 (wk_il1 r163_128 (wk_c2 r163_129 (wk_ishlc r163_131 (by decide) pwl_8 (wk_il5 r163_132 (wk_c3 r163_134 (wk_iandc 8 256 r163_137 ⟨rfl, by decide⟩ rfl (wk_iord2 8 256 r163_138 (by decide) ⟨by omega, by omega⟩ ⟨by omega, by omega, by omega⟩ (wk_cv3 r163_139 kc_6_172 rfl (m172_6 _ M45 6 ((p1 * 256) + ((v84 - 1) % 256)) hP46 (by decide) (by decide) (by omega) (by omega) (by first | assumption | omega | (unfold stepok; omega))) (cqI ?_))))))))))))))
            rintro v93 M89 ⟨hP90, hQ91, h94, h95⟩
            have hF92 : Fr fm_m163_6 M0 M89 := hF48.tr hQ91 rfl
            subst hQ; exact wk_zret r163_142 ⟨by omega, by omega⟩ (⟨rfl, _, rfl, hP90, hF92, by omega, by omega⟩)
        · intro h96
          refine wk_c1 r163_83 ?_
          subst hQ; exact wk_zret r163_84 (by decide) (⟨rfl, _, rfl, hP46, hF48, by omega, by omega⟩)
      refine wk_ifne r163_42 ⟨by omega, by omega⟩ ?_ ?_
      · intro h23
        exact wp_fg (le_s (le_s (le_s (le_s (le_s (le_s le_0)))))) c63_97
      · intro h24
        refine wk_al0 r163_45 (wk_getfr r163_46 fd_6_0 (br_6_0 hP0) (wk_c2 r163_49 (wk_cv2 r163_51 kc_9_238 rfl (m238_9v2 _ M0 61 hP0 (by decide) (by decide)) (cqI ?_))))
        rintro v29 M25 ⟨hP26, hQ27, h30, h31⟩
        obtain rfl := Fr.same hQ27
        refine wk_ifne r163_54 ⟨by omega, by omega⟩ ?_ ?_
        · intro h32
          exact wp_fg (le_s (le_s (le_s (le_s (le_s (le_s le_0)))))) c63_97
        · intro h33
          refine wk_al0 r163_57 (wk_c1 r163_58 (wk_cv2 r163_59 kc_6_159 rfl (m159_6 _ M0 1 hP0 (by decide) (by decide)) (cqI ?_)))
          rintro v38 M34 ⟨hP35, hQ36, h39, h40⟩
          have hF37 : Fr fm_m163_6 M0 M34 := hF0.tr hQ36 rfl
          subst hQ; exact wk_zret r163_62 ⟨by omega, by omega⟩ (⟨rfl, _, rfl, hP35, hF37, by omega, by omega⟩)
    refine wk_ifeq r163_16 ⟨by omega, by omega⟩ ?_ ?_
    · intro h9
      refine wk_al0 r163_23 (wk_getfr r163_24 fd_6_0 (br_6_0 hP0) (wk_c2 r163_27 (wk_cv2 r163_29 kc_9_238 rfl (m238_9v2 _ M0 62 hP0 (by decide) (by decide)) (cqI ?_))))
      rintro v14 M10 ⟨hP11, hQ12, h15, h16⟩
      obtain rfl := Fr.same hQ12
      refine wk_ifeq r163_32 ⟨by omega, by omega⟩ ?_ ?_
      · intro h17
        refine wk_c1 r163_39 ?_
        exact wp_fg (le_s (le_s (le_s (le_s (le_s (le_s le_0)))))) (c40_98 0 (by omega) (by omega))
      · intro h18
        refine wk_c1 r163_35 (wk_goto r163_36 ?_)
        exact wp_fg (le_s (le_s (le_s (le_s (le_s (le_s le_0)))))) (c40_98 1 (by omega) (by omega))
    · intro h19
      refine wk_c1 r163_19 (wk_goto r163_20 ?_)
      exact wp_fg (le_s (le_s (le_s (le_s (le_s (le_s le_0)))))) (c40_98 (-1) (by omega) (by omega))
  · intro h99
    refine wk_c1 r163_5 ?_
    subst hQ; exact wk_zret r163_6 (by decide) (⟨rfl, _, rfl, hP0, hF0, by omega, by omega⟩)
def fm_m140 : Nat := 6979321856
/-- IslandHall$Code.addTold -/
theorem m140 {B : eB} (d : Nat) (M0 : Mm) (c0 : Int) (p1 : Int) (hP0 : Pw M0) (hC0 : isC c0) (l1 : 0 ≤ p1) (u1 : p1 ≤ 99) : Ct B (d + 2) 140 [R c0, I p1] M0 (qV fun M => Pw M ∧ Fr fm_m140 M0 M) := by
  refine ct_of (d := d + 1) (k := 1) (L := [some (R c0), some (I p1), none]) rfl rfl rfl ?_
  have hF0 := Fr.rf fm_m140 M0
  generalize hQ : (qV fun M => Pw M ∧ Fr fm_m140 M0 M) = Q
  refine wk_il1 r140_0 (wk_c2 r140_1 ?_)
  refine wk_icge r140_3 ⟨by omega, by omega⟩ (by decide) ?_ ?_
  · intro h1
    refine wk_c1 r140_10 (wk_is2 r140_11 rfl (wk_al0 r140_12 (wk_c1 r140_13 (wk_il2 r140_14 ?_))))
    refine wk_ifeq r140_15 (by decide) ?_ ?_
    · intro h2
      refine wk_c2 r140_25 (wk_cv3 r140_27 (kcC_138 hC0) rfl (m138 _ M0 c0 0 117 hP0 hC0 (by decide) (by decide) (by decide) (by decide) (by first | assumption | omega | (unfold stepok; omega))) (cqV ?_))
      rintro M3 ⟨hP4, hQ5⟩
      have hF6 : Fr fm_m140 M0 M3 := hF0.tr hQ5 rfl
      refine wk_il2 r140_30 ?_
      refine wk_ifeq r140_31 (by decide) ?_ ?_
      · intro h7
        subst hQ; exact wk_ret r140_46 (⟨rfl, hP4, hF6⟩)
      · intro h8
        exfalso
        omega
    · intro h9
      exfalso
      omega
  · intro h10
    refine wk_c1 r140_6 (wk_goto r140_7 (wk_is2 r140_11 rfl (wk_al0 r140_12 (wk_c1 r140_13 (wk_il2 r140_14 ?_)))))
    refine wk_ifeq r140_15 (by decide) ?_ ?_
    · intro h11
      refine wk_c2 r140_25 (wk_cv3 r140_27 (kcC_138 hC0) rfl (m138 _ M0 c0 0 117 hP0 hC0 (by decide) (by decide) (by decide) (by decide) (by first | assumption | omega | (unfold stepok; omega))) (cqV ?_))
      rintro M12 ⟨hP13, hQ14⟩
      have hF15 : Fr fm_m140 M0 M12 := hF0.tr hQ14 rfl
      refine wk_il2 r140_30 ?_
      refine wk_ifeq r140_31 (by decide) ?_ ?_
      · intro h16
        subst hQ; exact wk_ret r140_46 (⟨rfl, hP13, hF15⟩)
      · intro h17
        refine wk_al0 r140_34 (wk_dupr r140_35 (wk_getfb r140_36 (fdC_3 hC0) (bC_3 hP13 hC0) ?_))
        intro v18 h20 h21 e19
        refine wk_c1 r140_39 (wk_il1 r140_40 (wk_shl1 14 16384 r140_41 ⟨by omega, by omega⟩ ⟨pwl_14, by decide⟩ ?_))
        intro v22 h23 h24 h25
        refine wk_ior 15 32768 r140_42 (by decide) ⟨by omega, by omega⟩ ⟨by omega, by omega⟩ ?_
        intro v26 h27 h28 h29 h30 h31
        refine wk_putfi81 r140_43 (fdC_3 hC0) (wk_nw (g_c3 hC0) rfl hP13 hF15 (uC_3 hC0 ⟨by omega, by omega⟩) ?_)
        intro M32 hP33 hF34 e35
        subst hQ; exact wk_ret r140_46 (⟨rfl, hP33, hF34⟩)
    · intro h36
      refine wk_c2 r140_18 (wk_il1 r140_20 (wk_iadd r140_21 (wk_goto r140_22 (wk_cv3 r140_27 (kcC_138 hC0) rfl (m138 _ M0 c0 0 (102 + p1) hP0 hC0 (by decide) (by decide) (by omega) (by omega) (by first | assumption | omega | (unfold stepok; omega))) (cqV ?_)))))
      rintro M37 ⟨hP38, hQ39⟩
      have hF40 : Fr fm_m140 M0 M37 := hF0.tr hQ39 rfl
      refine wk_il2 r140_30 ?_
      refine wk_ifeq r140_31 (by decide) ?_ ?_
      · intro h41
        subst hQ; exact wk_ret r140_46 (⟨rfl, hP38, hF40⟩)
      · intro h42
        refine wk_al0 r140_34 (wk_dupr r140_35 (wk_getfb r140_36 (fdC_3 hC0) (bC_3 hP38 hC0) ?_))
        intro v43 h45 h46 e44
        refine wk_c1 r140_39 (wk_il1 r140_40 (wk_shl1 14 16384 r140_41 ⟨by omega, by omega⟩ ⟨pwl_14, by decide⟩ ?_))
        intro v47 h48 h49 h50
        refine wk_ior 15 32768 r140_42 (by decide) ⟨by omega, by omega⟩ ⟨by omega, by omega⟩ ?_
        intro v51 h52 h53 h54 h55 h56
        refine wk_putfi81 r140_43 (fdC_3 hC0) (wk_nw (g_c3 hC0) rfl hP38 hF40 (uC_3 hC0 ⟨by omega, by omega⟩) ?_)
        intro M57 hP58 hF59 e60
        subst hQ; exact wk_ret r140_46 (⟨rfl, hP58, hF59⟩)
def fm_m176_6 : Nat := 3941068970131456
/-- IslandHall$Parser.toldAtom -/
theorem m176_6 {B : eB} (d : Nat) (M0 : Mm) (hP0 : Pw M0)  : Ct B (d + 4) 176 [R 6] M0 (qI fun z M => Pw M ∧ Fr fm_m176_6 M0 M ∧ 0 ≤ z ∧ z ≤ 1) := by
  refine ct_of (d := d + 3) (k := 1) (L := [some (R 6), none]) rfl rfl rfl ?_
  have hF0 := Fr.rf fm_m176_6 M0
  generalize hQ : (qI fun z M => Pw M ∧ Fr fm_m176_6 M0 M ∧ 0 ≤ z ∧ z ≤ 1) = Q
  refine wk_al0 r176_0 (wk_c1 r176_1 (wk_c2 r176_2 (wk_cv3 r176_4 kc_6_167 rfl (m167_6 _ M0 0 99 hP0 (by decide) (by decide) (by decide) (by decide)) (cqI ?_))))
  rintro v5 M1 ⟨hP2, hQ3, h6, h7⟩
  have hF4 : Fr fm_m176_6 M0 M1 := hF0.tr hQ3 rfl
  refine wk_is1 r176_7 rfl (wk_il1 r176_8 (wk_c1 r176_9 ?_))
  refine wk_icne r176_10 ⟨by omega, by omega⟩ (by decide) ?_ ?_
  · intro h8
    refine wk_al0 r176_15 ?_
    obtain ⟨v9, e10⟩ : ∃ v, M1 6 2 = v := ⟨_, rfl⟩
    have hC11 : isC v9 := by have := pcE hP2; rw [e10] at this; exact this
    refine wk_getfr r176_16 fd_6_2 e10 (wk_il1 r176_19 (wk_cv2 r176_20 (kcC_140 hC11) rfl (m140 _ M1 v9 v5 hP2 hC11 (by omega) (by omega)) (cqV ?_)))
    rintro M12 ⟨hP13, hQ14⟩
    have hF15 : Fr fm_m176_6 M0 M12 := hF4.tr hQ14 rfl
    refine wk_c1 r176_23 ?_
    subst hQ; exact wk_zret r176_24 (by decide) (⟨rfl, _, rfl, hP13, hF15, by omega, by omega⟩)
  · intro h16
    refine wk_c1 r176_13 ?_
    subst hQ; exact wk_zret r176_14 (by decide) (⟨rfl, _, rfl, hP2, hF4, by omega, by omega⟩)
def fm_m167_6v1 : Nat := 3941061990809600
/-- IslandHall$Parser.number -/
theorem m167_6v1 {B : eB} (d : Nat) (M0 : Mm) (p1 : Int) (p2 : Int) (hP0 : Pw M0) (l1 : 0 ≤ p1) (u1 : p1 ≤ 0) (l2 : 1 ≤ p2) (u2 : p2 ≤ 1) : Ct B (d + 3) 167 [R 6, I p1, I p2] M0 (qI fun z M => Pw M ∧ Fr fm_m167_6v1 M0 M ∧ (-1) ≤ z ∧ z ≤ 1) := by
  refine ct_of (d := d + 2) (k := 1) (L := [some (R 6), some (I p1), some (I p2), none]) rfl rfl rfl ?_
  have hF0 := Fr.rf fm_m167_6v1 M0
  generalize hQ : (qI fun z M => Pw M ∧ Fr fm_m167_6v1 M0 M ∧ (-1) ≤ z ∧ z ≤ 1) = Q
  refine wk_al0 r167_0 (wk_getfr r167_1 fd_6_0 (br_6_0 hP0) (wk_getfb r167_4 fd_9_4 (bf_9_4 hP0) ?_))
  intro v1 h3 h4 e2
  refine wk_c1 r167_7 ?_
  refine wk_iceq r167_8 ⟨by omega, by omega⟩ (by decide) ?_ ?_
  · intro h5
    refine wk_al0 r167_19 (wk_getfr r167_20 fd_6_0 (br_6_0 hP0) (wk_cv1 r167_23 kc_9_244 rfl (m244_9 _ M0 hP0) (cqI ?_)))
    rintro v10 M6 ⟨hP7, hQ8, h11, h12⟩
    obtain rfl := Fr.same hQ8
    refine wk_is3 r167_26 rfl (wk_il3 r167_27 (wk_il1 r167_28 ?_))
    refine wk_iclt r167_29 ⟨by omega, by omega⟩ ⟨by omega, by omega⟩ ?_ ?_
    · intro h13
      refine wk_al0 r167_37 (wk_c1 r167_38 (wk_cv2 r167_39 kc_6_159 rfl (m159_6v1 _ M0 2 hP0 (by decide) (by decide)) (cqI ?_)))
      rintro v18 M14 ⟨hP15, hQ16, h19, h20⟩
      have hF17 : Fr fm_m167_6v1 M0 M14 := hF0.tr hQ16 rfl
      refine wk_popi r167_42 (wk_c1 r167_43 ?_)
      subst hQ; exact wk_iret r167_44 (⟨rfl, _, rfl, hP15, hF17, by omega, by omega⟩)
    · intro h21
      refine wk_il3 r167_32 (wk_il2 r167_33 ?_)
      refine wk_icle r167_34 ⟨by omega, by omega⟩ ⟨by omega, by omega⟩ ?_ ?_
      · intro h22
        refine wk_al0 r167_45 (wk_getfr r167_46 fd_6_0 (br_6_0 hP0) (wk_cv1 r167_49 kc_9_241 rfl (m241_9 _ M0 hP0) (cqV ?_)))
        rintro M23 ⟨hP24, hQ25⟩
        have hF26 : Fr fm_m167_6v1 M0 M23 := hF0.tr hQ25 rfl
        refine wk_il3 r167_52 ?_
        subst hQ; exact wk_iret r167_53 (⟨rfl, _, rfl, hP24, hF26, by omega, by omega⟩)
      · intro h27
        refine wk_al0 r167_37 (wk_c1 r167_38 (wk_cv2 r167_39 kc_6_159 rfl (m159_6v1 _ M0 2 hP0 (by decide) (by decide)) (cqI ?_)))
        rintro v32 M28 ⟨hP29, hQ30, h33, h34⟩
        have hF31 : Fr fm_m167_6v1 M0 M28 := hF0.tr hQ30 rfl
        refine wk_popi r167_42 (wk_c1 r167_43 ?_)
        subst hQ; exact wk_iret r167_44 (⟨rfl, _, rfl, hP29, hF31, by omega, by omega⟩)
  · intro h35
    refine wk_al0 r167_11 (wk_c1 r167_12 (wk_cv2 r167_13 kc_6_159 rfl (m159_6 _ M0 1 hP0 (by decide) (by decide)) (cqI ?_)))
    rintro v40 M36 ⟨hP37, hQ38, h41, h42⟩
    have hF39 : Fr fm_m167_6v1 M0 M36 := hF0.tr hQ38 rfl
    refine wk_popi r167_16 (wk_c1 r167_17 ?_)
    subst hQ; exact wk_iret r167_18 (⟨rfl, _, rfl, hP37, hF39, by omega, by omega⟩)
def fm_m171_6 : Nat := 4831838208
/-- IslandHall$Parser.row -/
theorem m171_6 {B : eB} (d : Nat) (M0 : Mm) (p1 : Int) (p2 : Int) (hP0 : Pw M0) (l1 : 46 ≤ p1) (u1 : p1 ≤ 46) (l2 : (-1) ≤ p2) (u2 : p2 ≤ 1) : Ct B (d + 3) 171 [R 6, I p1, I p2] M0 (qI fun z M => Pw M ∧ Fr fm_m171_6 M0 M ∧ 0 ≤ z ∧ z ≤ 1) := by
  refine ct_of (d := d + 2) (k := 0) (L := [some (R 6), some (I p1), some (I p2)]) rfl rfl rfl ?_
  have hF0 := Fr.rf fm_m171_6 M0
  generalize hQ : (qI fun z M => Pw M ∧ Fr fm_m171_6 M0 M ∧ 0 ≤ z ∧ z ≤ 1) = Q
  refine wk_il2 r171_0 (wk_c1 r171_1 ?_)
  refine wk_iceq r171_2 ⟨by omega, by omega⟩ (by decide) ?_ ?_
  · intro h1
    refine wk_c1 r171_20 ?_
    subst hQ; exact wk_zret r171_21 (by decide) (⟨rfl, _, rfl, hP0, hF0, by omega, by omega⟩)
  · intro h2
    refine wk_al0 r171_5 (wk_c1 r171_6 (wk_il1 r171_7 (wk_il2 r171_8 (wk_iadd r171_9 (wk_cv3 r171_10 kc_6_172 rfl (m172_6 _ M0 0 (p1 + p2) hP0 (by decide) (by decide) (by omega) (by omega) (by first | assumption | omega | (unfold stepok; omega))) (cqI ?_))))))
    rintro v7 M3 ⟨hP4, hQ5, h8, h9⟩
    have hF6 : Fr fm_m171_6 M0 M3 := hF0.tr hQ5 rfl
    refine wk_ifeq r171_13 ⟨by omega, by omega⟩ ?_ ?_
    · intro h10
      exfalso
      omega
    · intro h11
      refine wk_c1 r171_16 (wk_goto r171_17 ?_)
      subst hQ; exact wk_zret r171_21 (by decide) (⟨rfl, _, rfl, hP4, hF6, by omega, by omega⟩)
def fm_m167_6v2 : Nat := 3941061990809600
/-- IslandHall$Parser.number -/
theorem m167_6v2 {B : eB} (d : Nat) (M0 : Mm) (p1 : Int) (p2 : Int) (hP0 : Pw M0) (l1 : 0 ≤ p1) (u1 : p1 ≤ 0) (l2 : 6 ≤ p2) (u2 : p2 ≤ 6) : Ct B (d + 3) 167 [R 6, I p1, I p2] M0 (qI fun z M => Pw M ∧ Fr fm_m167_6v2 M0 M ∧ (-1) ≤ z ∧ z ≤ 6) := by
  refine ct_of (d := d + 2) (k := 1) (L := [some (R 6), some (I p1), some (I p2), none]) rfl rfl rfl ?_
  have hF0 := Fr.rf fm_m167_6v2 M0
  generalize hQ : (qI fun z M => Pw M ∧ Fr fm_m167_6v2 M0 M ∧ (-1) ≤ z ∧ z ≤ 6) = Q
  refine wk_al0 r167_0 (wk_getfr r167_1 fd_6_0 (br_6_0 hP0) (wk_getfb r167_4 fd_9_4 (bf_9_4 hP0) ?_))
  intro v1 h3 h4 e2
  refine wk_c1 r167_7 ?_
  refine wk_iceq r167_8 ⟨by omega, by omega⟩ (by decide) ?_ ?_
  · intro h5
    refine wk_al0 r167_19 (wk_getfr r167_20 fd_6_0 (br_6_0 hP0) (wk_cv1 r167_23 kc_9_244 rfl (m244_9 _ M0 hP0) (cqI ?_)))
    rintro v10 M6 ⟨hP7, hQ8, h11, h12⟩
    obtain rfl := Fr.same hQ8
    refine wk_is3 r167_26 rfl (wk_il3 r167_27 (wk_il1 r167_28 ?_))
    refine wk_iclt r167_29 ⟨by omega, by omega⟩ ⟨by omega, by omega⟩ ?_ ?_
    · intro h13
      refine wk_al0 r167_37 (wk_c1 r167_38 (wk_cv2 r167_39 kc_6_159 rfl (m159_6v1 _ M0 2 hP0 (by decide) (by decide)) (cqI ?_)))
      rintro v18 M14 ⟨hP15, hQ16, h19, h20⟩
      have hF17 : Fr fm_m167_6v2 M0 M14 := hF0.tr hQ16 rfl
      refine wk_popi r167_42 (wk_c1 r167_43 ?_)
      subst hQ; exact wk_iret r167_44 (⟨rfl, _, rfl, hP15, hF17, by omega, by omega⟩)
    · intro h21
      refine wk_il3 r167_32 (wk_il2 r167_33 ?_)
      refine wk_icle r167_34 ⟨by omega, by omega⟩ ⟨by omega, by omega⟩ ?_ ?_
      · intro h22
        refine wk_al0 r167_45 (wk_getfr r167_46 fd_6_0 (br_6_0 hP0) (wk_cv1 r167_49 kc_9_241 rfl (m241_9 _ M0 hP0) (cqV ?_)))
        rintro M23 ⟨hP24, hQ25⟩
        have hF26 : Fr fm_m167_6v2 M0 M23 := hF0.tr hQ25 rfl
        refine wk_il3 r167_52 ?_
        subst hQ; exact wk_iret r167_53 (⟨rfl, _, rfl, hP24, hF26, by omega, by omega⟩)
      · intro h27
        refine wk_al0 r167_37 (wk_c1 r167_38 (wk_cv2 r167_39 kc_6_159 rfl (m159_6v1 _ M0 2 hP0 (by decide) (by decide)) (cqI ?_)))
        rintro v32 M28 ⟨hP29, hQ30, h33, h34⟩
        have hF31 : Fr fm_m167_6v2 M0 M28 := hF0.tr hQ30 rfl
        refine wk_popi r167_42 (wk_c1 r167_43 ?_)
        subst hQ; exact wk_iret r167_44 (⟨rfl, _, rfl, hP29, hF31, by omega, by omega⟩)
  · intro h35
    refine wk_al0 r167_11 (wk_c1 r167_12 (wk_cv2 r167_13 kc_6_159 rfl (m159_6 _ M0 1 hP0 (by decide) (by decide)) (cqI ?_)))
    rintro v40 M36 ⟨hP37, hQ38, h41, h42⟩
    have hF39 : Fr fm_m167_6v2 M0 M36 := hF0.tr hQ38 rfl
    refine wk_popi r167_16 (wk_c1 r167_17 ?_)
    subst hQ; exact wk_iret r167_18 (⟨rfl, _, rfl, hP37, hF39, by omega, by omega⟩)
def fm_m171_6v1 : Nat := 4831838208
/-- IslandHall$Parser.row -/
theorem m171_6v1 {B : eB} (d : Nat) (M0 : Mm) (p1 : Int) (p2 : Int) (hP0 : Pw M0) (l1 : 39 ≤ p1) (u1 : p1 ≤ 39) (l2 : (-1) ≤ p2) (u2 : p2 ≤ 6) : Ct B (d + 3) 171 [R 6, I p1, I p2] M0 (qI fun z M => Pw M ∧ Fr fm_m171_6v1 M0 M ∧ 0 ≤ z ∧ z ≤ 1) := by
  refine ct_of (d := d + 2) (k := 0) (L := [some (R 6), some (I p1), some (I p2)]) rfl rfl rfl ?_
  have hF0 := Fr.rf fm_m171_6v1 M0
  generalize hQ : (qI fun z M => Pw M ∧ Fr fm_m171_6v1 M0 M ∧ 0 ≤ z ∧ z ≤ 1) = Q
  refine wk_il2 r171_0 (wk_c1 r171_1 ?_)
  refine wk_iceq r171_2 ⟨by omega, by omega⟩ (by decide) ?_ ?_
  · intro h1
    refine wk_c1 r171_20 ?_
    subst hQ; exact wk_zret r171_21 (by decide) (⟨rfl, _, rfl, hP0, hF0, by omega, by omega⟩)
  · intro h2
    refine wk_al0 r171_5 (wk_c1 r171_6 (wk_il1 r171_7 (wk_il2 r171_8 (wk_iadd r171_9 (wk_cv3 r171_10 kc_6_172 rfl (m172_6 _ M0 0 (p1 + p2) hP0 (by decide) (by decide) (by omega) (by omega) (by first | assumption | omega | (unfold stepok; omega))) (cqI ?_))))))
    rintro v7 M3 ⟨hP4, hQ5, h8, h9⟩
    have hF6 : Fr fm_m171_6v1 M0 M3 := hF0.tr hQ5 rfl
    refine wk_ifeq r171_13 ⟨by omega, by omega⟩ ?_ ?_
    · intro h10
      exfalso
      omega
    · intro h11
      refine wk_c1 r171_16 (wk_goto r171_17 ?_)
      subst hQ; exact wk_zret r171_21 (by decide) (⟨rfl, _, rfl, hP4, hF6, by omega, by omega⟩)
def fm_m167_6v3 : Nat := 3941061990809600
/-- IslandHall$Parser.number -/
theorem m167_6v3 {B : eB} (d : Nat) (M0 : Mm) (p1 : Int) (p2 : Int) (hP0 : Pw M0) (l1 : 0 ≤ p1) (u1 : p1 ≤ 0) (l2 : 3 ≤ p2) (u2 : p2 ≤ 3) : Ct B (d + 3) 167 [R 6, I p1, I p2] M0 (qI fun z M => Pw M ∧ Fr fm_m167_6v3 M0 M ∧ (-1) ≤ z ∧ z ≤ 3) := by
  refine ct_of (d := d + 2) (k := 1) (L := [some (R 6), some (I p1), some (I p2), none]) rfl rfl rfl ?_
  have hF0 := Fr.rf fm_m167_6v3 M0
  generalize hQ : (qI fun z M => Pw M ∧ Fr fm_m167_6v3 M0 M ∧ (-1) ≤ z ∧ z ≤ 3) = Q
  refine wk_al0 r167_0 (wk_getfr r167_1 fd_6_0 (br_6_0 hP0) (wk_getfb r167_4 fd_9_4 (bf_9_4 hP0) ?_))
  intro v1 h3 h4 e2
  refine wk_c1 r167_7 ?_
  refine wk_iceq r167_8 ⟨by omega, by omega⟩ (by decide) ?_ ?_
  · intro h5
    refine wk_al0 r167_19 (wk_getfr r167_20 fd_6_0 (br_6_0 hP0) (wk_cv1 r167_23 kc_9_244 rfl (m244_9 _ M0 hP0) (cqI ?_)))
    rintro v10 M6 ⟨hP7, hQ8, h11, h12⟩
    obtain rfl := Fr.same hQ8
    refine wk_is3 r167_26 rfl (wk_il3 r167_27 (wk_il1 r167_28 ?_))
    refine wk_iclt r167_29 ⟨by omega, by omega⟩ ⟨by omega, by omega⟩ ?_ ?_
    · intro h13
      refine wk_al0 r167_37 (wk_c1 r167_38 (wk_cv2 r167_39 kc_6_159 rfl (m159_6v1 _ M0 2 hP0 (by decide) (by decide)) (cqI ?_)))
      rintro v18 M14 ⟨hP15, hQ16, h19, h20⟩
      have hF17 : Fr fm_m167_6v3 M0 M14 := hF0.tr hQ16 rfl
      refine wk_popi r167_42 (wk_c1 r167_43 ?_)
      subst hQ; exact wk_iret r167_44 (⟨rfl, _, rfl, hP15, hF17, by omega, by omega⟩)
    · intro h21
      refine wk_il3 r167_32 (wk_il2 r167_33 ?_)
      refine wk_icle r167_34 ⟨by omega, by omega⟩ ⟨by omega, by omega⟩ ?_ ?_
      · intro h22
        refine wk_al0 r167_45 (wk_getfr r167_46 fd_6_0 (br_6_0 hP0) (wk_cv1 r167_49 kc_9_241 rfl (m241_9 _ M0 hP0) (cqV ?_)))
        rintro M23 ⟨hP24, hQ25⟩
        have hF26 : Fr fm_m167_6v3 M0 M23 := hF0.tr hQ25 rfl
        refine wk_il3 r167_52 ?_
        subst hQ; exact wk_iret r167_53 (⟨rfl, _, rfl, hP24, hF26, by omega, by omega⟩)
      · intro h27
        refine wk_al0 r167_37 (wk_c1 r167_38 (wk_cv2 r167_39 kc_6_159 rfl (m159_6v1 _ M0 2 hP0 (by decide) (by decide)) (cqI ?_)))
        rintro v32 M28 ⟨hP29, hQ30, h33, h34⟩
        have hF31 : Fr fm_m167_6v3 M0 M28 := hF0.tr hQ30 rfl
        refine wk_popi r167_42 (wk_c1 r167_43 ?_)
        subst hQ; exact wk_iret r167_44 (⟨rfl, _, rfl, hP29, hF31, by omega, by omega⟩)
  · intro h35
    refine wk_al0 r167_11 (wk_c1 r167_12 (wk_cv2 r167_13 kc_6_159 rfl (m159_6 _ M0 1 hP0 (by decide) (by decide)) (cqI ?_)))
    rintro v40 M36 ⟨hP37, hQ38, h41, h42⟩
    have hF39 : Fr fm_m167_6v3 M0 M36 := hF0.tr hQ38 rfl
    refine wk_popi r167_16 (wk_c1 r167_17 ?_)
    subst hQ; exact wk_iret r167_18 (⟨rfl, _, rfl, hP37, hF39, by omega, by omega⟩)
def fm_m171_6v2 : Nat := 4831838208
/-- IslandHall$Parser.row -/
theorem m171_6v2 {B : eB} (d : Nat) (M0 : Mm) (p1 : Int) (p2 : Int) (hP0 : Pw M0) (l1 : 35 ≤ p1) (u1 : p1 ≤ 35) (l2 : (-1) ≤ p2) (u2 : p2 ≤ 3) : Ct B (d + 3) 171 [R 6, I p1, I p2] M0 (qI fun z M => Pw M ∧ Fr fm_m171_6v2 M0 M ∧ 0 ≤ z ∧ z ≤ 1) := by
  refine ct_of (d := d + 2) (k := 0) (L := [some (R 6), some (I p1), some (I p2)]) rfl rfl rfl ?_
  have hF0 := Fr.rf fm_m171_6v2 M0
  generalize hQ : (qI fun z M => Pw M ∧ Fr fm_m171_6v2 M0 M ∧ 0 ≤ z ∧ z ≤ 1) = Q
  refine wk_il2 r171_0 (wk_c1 r171_1 ?_)
  refine wk_iceq r171_2 ⟨by omega, by omega⟩ (by decide) ?_ ?_
  · intro h1
    refine wk_c1 r171_20 ?_
    subst hQ; exact wk_zret r171_21 (by decide) (⟨rfl, _, rfl, hP0, hF0, by omega, by omega⟩)
  · intro h2
    refine wk_al0 r171_5 (wk_c1 r171_6 (wk_il1 r171_7 (wk_il2 r171_8 (wk_iadd r171_9 (wk_cv3 r171_10 kc_6_172 rfl (m172_6 _ M0 0 (p1 + p2) hP0 (by decide) (by decide) (by omega) (by omega) (by first | assumption | omega | (unfold stepok; omega))) (cqI ?_))))))
    rintro v7 M3 ⟨hP4, hQ5, h8, h9⟩
    have hF6 : Fr fm_m171_6v2 M0 M3 := hF0.tr hQ5 rfl
    refine wk_ifeq r171_13 ⟨by omega, by omega⟩ ?_ ?_
    · intro h10
      exfalso
      omega
    · intro h11
      refine wk_c1 r171_16 (wk_goto r171_17 ?_)
      subst hQ; exact wk_zret r171_21 (by decide) (⟨rfl, _, rfl, hP4, hF6, by omega, by omega⟩)
def fm_m242_9 : Nat := 0
/-- IslandHall$Tokens.person -/
theorem m242_9 {B : eB} (d : Nat) (M0 : Mm) (x9_3 : Int) (hP0 : Pw M0) (ex9_3 : M0 9 3 = x9_3) (lx9_3 : 0 ≤ x9_3) (ux9_3 : x9_3 ≤ 499) : Ct B (d + 1) 242 [R 9] M0 (qI fun z M => Pw M ∧ Fr fm_m242_9 M0 M ∧ (-225) ≤ z ∧ z ≤ 30) := by
  refine ct_of (d := d + 0) (k := 0) (L := [some (R 9)]) rfl rfl rfl ?_
  have hF0 := Fr.rf fm_m242_9 M0
  generalize hQ : (qI fun z M => Pw M ∧ Fr fm_m242_9 M0 M ∧ (-225) ≤ z ∧ z ≤ 30) = Q
  refine wk_al0 r242_0 (wk_getfr r242_1 fd_9_0 (br_9_0 hP0) (wk_al0 r242_4 (wk_getfi r242_5 fd_9_3 ex9_3 (wk_baldb r242_8 ar_1 ⟨by omega, by omega⟩ (fun q0 q1 => ba_1 hP0 q0 q1) ?_))))
  intro v1 h3 h4 e2
  refine wk_c2 r242_9 (wk_isub r242_11 ?_)
  subst hQ; exact wk_iret r242_12 (⟨rfl, _, rfl, hP0, hF0, by omega, by omega⟩)
def fm_m159_6v2 : Nat := 412316860416
/-- IslandHall$Parser.fail -/
theorem m159_6v2 {B : eB} (d : Nat) (M0 : Mm) (p1 : Int) (hP0 : Pw M0) (l1 : 1 ≤ p1) (u1 : p1 ≤ 4) : Ct B (d + 1) 159 [R 6, I p1] M0 (qI fun z M => Pw M ∧ Fr fm_m159_6v2 M0 M ∧ 0 ≤ z ∧ z ≤ 0) := by
  refine ct_of (d := d + 0) (k := 0) (L := [some (R 6), some (I p1)]) rfl rfl rfl ?_
  have hF0 := Fr.rf fm_m159_6v2 M0
  generalize hQ : (qI fun z M => Pw M ∧ Fr fm_m159_6v2 M0 M ∧ 0 ≤ z ∧ z ≤ 0) = Q
  refine wk_al0 r159_0 (wk_il1 r159_1 (wk_putfi81 r159_2 fd_6_4 (wk_nw g_6_4 rfl hP0 hF0 (uf_6_4 ⟨by omega, by omega⟩) ?_)))
  intro M1 hP2 hF3 e4
  refine wk_al0 r159_5 (wk_al0 r159_6 (wk_getfr r159_7 fd_6_0 (br_6_0 hP2) (wk_getfb r159_10 fd_9_3 (bf_9_3 hP2) ?_)))
  intro v5 h7 h8 e6
  refine wk_putfi81 r159_13 fd_6_5 (wk_nw g_6_5 rfl hP2 hF3 (uf_6_5 ⟨by omega, by omega⟩) ?_)
  intro M9 hP10 hF11 e12
  refine wk_c1 r159_16 ?_
  subst hQ; exact wk_zret r159_17 (by decide) (⟨rfl, _, rfl, hP10, hF11, by omega, by omega⟩)
def fm_m165_6 : Nat := 3941061990809600
/-- IslandHall$Parser.name -/
theorem m165_6 {B : eB} (d : Nat) (M0 : Mm) (hP0 : Pw M0)  : Ct B (d + 3) 165 [R 6] M0 (qI fun z M => Pw M ∧ Fr fm_m165_6 M0 M ∧ (-1) ≤ z ∧ z ≤ 6) := by
  refine ct_of (d := d + 2) (k := 1) (L := [some (R 6), none]) rfl rfl rfl ?_
  have hF0 := Fr.rf fm_m165_6 M0
  generalize hQ : (qI fun z M => Pw M ∧ Fr fm_m165_6 M0 M ∧ (-1) ≤ z ∧ z ≤ 6) = Q
  refine wk_al0 r165_0 (wk_getfr r165_1 fd_6_0 (br_6_0 hP0) (wk_cv1 r165_4 kc_9_237 rfl (m237_9 _ M0 hP0) (cqI ?_)))
  rintro v7 M1 ⟨hP2, hQ3, h8, h9, h5, h6⟩
  obtain rfl := Fr.same hQ3
  obtain ⟨v10, e11⟩ : ∃ v, M0 9 2 = v := ⟨_, rfl⟩
  have h12 := bf_9_2 hP0; rw [e11] at h12
  obtain ⟨v13, e14⟩ : ∃ v, M0 9 3 = v := ⟨_, rfl⟩
  have h15 := bf_9_3 hP0; rw [e14] at h15
  refine wk_ifne r165_7 ⟨by omega, by omega⟩ ?_ ?_
  · intro h16
    refine wk_al0 r165_18 (wk_getfr r165_19 fd_6_0 (br_6_0 hP0) (wk_cv1 r165_22 kc_9_242 rfl (m242_9 _ M0 v13 hP0 e14 (by omega) (by omega)) (cqI ?_)))
    rintro v21 M17 ⟨hP18, hQ19, h22, h23⟩
    obtain rfl := Fr.same hQ19
    refine wk_is1 r165_25 rfl (wk_il1 r165_26 ?_)
    refine wk_iflt r165_27 ⟨by omega, by omega⟩ ?_ ?_
    · intro h24
      refine wk_al0 r165_38 (wk_c1 r165_39 (wk_cv2 r165_40 kc_6_159 rfl (m159_6v2 _ M0 4 hP0 (by decide) (by decide)) (cqI ?_)))
      rintro v29 M25 ⟨hP26, hQ27, h30, h31⟩
      have hF28 : Fr fm_m165_6 M0 M25 := hF0.tr hQ27 rfl
      refine wk_popi r165_43 (wk_c1 r165_44 ?_)
      subst hQ; exact wk_iret r165_45 (⟨rfl, _, rfl, hP26, hF28, by omega, by omega⟩)
    · intro h32
      refine wk_il1 r165_30 (wk_al0 r165_31 (wk_getfb r165_32 fd_6_3 (bf_6_3 hP0) ?_))
      intro v33 h35 h36 e34
      refine wk_iclt r165_35 ⟨by omega, by omega⟩ ⟨by omega, by omega⟩ ?_ ?_
      · intro h37
        refine wk_al0 r165_46 (wk_getfr r165_47 fd_6_0 (br_6_0 hP0) (wk_cv1 r165_50 kc_9_241 rfl (m241_9 _ M0 hP0) (cqV ?_)))
        rintro M38 ⟨hP39, hQ40⟩
        have hF41 : Fr fm_m165_6 M0 M38 := hF0.tr hQ40 rfl
        refine wk_il1 r165_53 ?_
        subst hQ; exact wk_iret r165_54 (⟨rfl, _, rfl, hP39, hF41, by omega, by omega⟩)
      · intro h42
        refine wk_al0 r165_38 (wk_c1 r165_39 (wk_cv2 r165_40 kc_6_159 rfl (m159_6v2 _ M0 4 hP0 (by decide) (by decide)) (cqI ?_)))
        rintro v47 M43 ⟨hP44, hQ45, h48, h49⟩
        have hF46 : Fr fm_m165_6 M0 M43 := hF0.tr hQ45 rfl
        refine wk_popi r165_43 (wk_c1 r165_44 ?_)
        subst hQ; exact wk_iret r165_45 (⟨rfl, _, rfl, hP44, hF46, by omega, by omega⟩)
  · intro h50
    refine wk_al0 r165_10 (wk_c1 r165_11 (wk_cv2 r165_12 kc_6_159 rfl (m159_6 _ M0 1 hP0 (by decide) (by decide)) (cqI ?_)))
    rintro v55 M51 ⟨hP52, hQ53, h56, h57⟩
    have hF54 : Fr fm_m165_6 M0 M51 := hF0.tr hQ53 rfl
    refine wk_popi r165_15 (wk_c1 r165_16 ?_)
    subst hQ; exact wk_iret r165_17 (⟨rfl, _, rfl, hP52, hF54, by omega, by omega⟩)
def fm_m174_6 : Nat := 3941061990809600
/-- IslandHall$Parser.takeSign -/
theorem m174_6 {B : eB} (d : Nat) (M0 : Mm) (p1 : Int) (hP0 : Pw M0) (l1 : 40 ≤ p1) (u1 : p1 ≤ 40) : Ct B (d + 3) 174 [R 6, I p1] M0 (qI fun z M => Pw M ∧ Fr fm_m174_6 M0 M ∧ 0 ≤ z ∧ z ≤ 1) := by
  refine ct_of (d := d + 2) (k := 0) (L := [some (R 6), some (I p1)]) rfl rfl rfl ?_
  have hF0 := Fr.rf fm_m174_6 M0
  generalize hQ : (qI fun z M => Pw M ∧ Fr fm_m174_6 M0 M ∧ 0 ≤ z ∧ z ≤ 1) = Q
  refine wk_al0 r174_0 (wk_getfr r174_1 fd_6_0 (br_6_0 hP0) (wk_il1 r174_4 (wk_cv2 r174_5 kc_9_238 rfl (m238_9 _ M0 p1 hP0 (by omega) (by omega)) (cqI ?_))))
  rintro v5 M1 ⟨hP2, hQ3, h6, h7⟩
  obtain rfl := Fr.same hQ3
  refine wk_ifne r174_8 ⟨by omega, by omega⟩ ?_ ?_
  · intro h8
    refine wk_al0 r174_17 (wk_getfr r174_18 fd_6_0 (br_6_0 hP0) (wk_cv1 r174_21 kc_9_241 rfl (m241_9 _ M0 hP0) (cqV ?_)))
    rintro M9 ⟨hP10, hQ11⟩
    have hF12 : Fr fm_m174_6 M0 M9 := hF0.tr hQ11 rfl
    refine wk_c1 r174_24 ?_
    subst hQ; exact wk_zret r174_25 (by decide) (⟨rfl, _, rfl, hP10, hF12, by omega, by omega⟩)
  · intro h13
    refine wk_al0 r174_11 (wk_c1 r174_12 (wk_cv2 r174_13 kc_6_159 rfl (m159_6 _ M0 1 hP0 (by decide) (by decide)) (cqI ?_)))
    rintro v18 M14 ⟨hP15, hQ16, h19, h20⟩
    have hF17 : Fr fm_m174_6 M0 M14 := hF0.tr hQ16 rfl
    subst hQ; exact wk_zret r174_16 ⟨by omega, by omega⟩ (⟨rfl, _, rfl, hP15, hF17, by omega, by omega⟩)
def fm_m158_6v6 : Nat := 412316860416
/-- IslandHall$Parser.expr -/
theorem m158_6v6 {B : eB} (d : Nat) (M0 : Mm) (p1 : Int) (hP0 : Pw M0) (l1 : 6 ≤ p1) (u1 : p1 ≤ 6) : Ct B (d + 4) 158 [R 6, I p1] M0 (qI fun z M => Pw M ∧ Fr fm_m158_6v6 M0 M ∧ 0 ≤ z ∧ z ≤ 0) := by
  refine ct_of (d := d + 3) (k := 1) (L := [some (R 6), some (I p1), none]) rfl rfl rfl ?_
  have hF0 := Fr.rf fm_m158_6v6 M0
  generalize hQ : (qI fun z M => Pw M ∧ Fr fm_m158_6v6 M0 M ∧ 0 ≤ z ∧ z ≤ 0) = Q
  refine wk_al0 r158_0 (wk_cv1 r158_1 kc_6_155 rfl (m155_6 _ M0 hP0) (cqI ?_))
  rintro v5 M1 ⟨hP2, hQ3, h6, h7⟩
  obtain rfl := Fr.same hQ3
  refine wk_ifne r158_4 ⟨by omega, by omega⟩ ?_ ?_
  · intro h8
    refine wk_il1 r158_13 (wk_c2 r158_14 ?_)
    refine wk_iclt r158_16 ⟨by omega, by omega⟩ (by decide) ?_ ?_
    · intro h9
      exfalso
      omega
    · intro h10
      refine wk_al0 r158_19 (wk_c1 r158_20 (wk_cv2 r158_21 kc_6_159 rfl (m159_6v1 _ M0 2 hP0 (by decide) (by decide)) (cqI ?_)))
      rintro v15 M11 ⟨hP12, hQ13, h16, h17⟩
      have hF14 : Fr fm_m158_6v6 M0 M11 := hF0.tr hQ13 rfl
      subst hQ; exact wk_zret r158_24 ⟨by omega, by omega⟩ (⟨rfl, _, rfl, hP12, hF14, by omega, by omega⟩)
  · intro h18
    refine wk_al0 r158_7 (wk_c1 r158_8 (wk_cv2 r158_9 kc_6_159 rfl (m159_6 _ M0 1 hP0 (by decide) (by decide)) (cqI ?_)))
    rintro v23 M19 ⟨hP20, hQ21, h24, h25⟩
    have hF22 : Fr fm_m158_6v6 M0 M19 := hF0.tr hQ21 rfl
    subst hQ; exact wk_zret r158_12 ⟨by omega, by omega⟩ (⟨rfl, _, rfl, hP20, hF22, by omega, by omega⟩)
def fm_m168_6v5 : Nat := 3941061990809600
/-- IslandHall$Parser.parenthesis -/
theorem m168_6v5 {B : eB} (d : Nat) (M0 : Mm) (p1 : Int) (hP0 : Pw M0) (l1 : 5 ≤ p1) (u1 : p1 ≤ 5) : Ct B (d + 5) 168 [R 6, I p1] M0 (qI fun z M => Pw M ∧ Fr fm_m168_6v5 M0 M ∧ 0 ≤ z ∧ z ≤ 0) := by
  refine ct_of (d := d + 4) (k := 0) (L := [some (R 6), some (I p1)]) rfl rfl rfl ?_
  have hF0 := Fr.rf fm_m168_6v5 M0
  generalize hQ : (qI fun z M => Pw M ∧ Fr fm_m168_6v5 M0 M ∧ 0 ≤ z ∧ z ≤ 0) = Q
  refine wk_al0 r168_0 (wk_c2 r168_1 (wk_cv2 r168_3 kc_6_174 rfl (m174_6 _ M0 40 hP0 (by decide) (by decide)) (cqI ?_)))
  rintro v5 M1 ⟨hP2, hQ3, h6, h7⟩
  have hF4 : Fr fm_m168_6v5 M0 M1 := hF0.tr hQ3 rfl
  refine wk_ifeq r168_6 ⟨by omega, by omega⟩ ?_ ?_
  · intro h8
    refine wk_c1 r168_32 ?_
    subst hQ; exact wk_zret r168_33 (by decide) (⟨rfl, _, rfl, hP2, hF4, by omega, by omega⟩)
  · intro h9
    refine wk_al0 r168_9 (wk_il1 r168_10 (wk_c1 r168_11 (wk_iadd r168_12 (wk_cv2 r168_13 kc_6_158 rfl (m158_6v6 _ M1 (p1 + 1) hP2 (by omega) (by omega)) (cqI ?_)))))
    rintro v14 M10 ⟨hP11, hQ12, h15, h16⟩
    have hF13 : Fr fm_m168_6v5 M0 M10 := hF4.tr hQ12 rfl
    refine wk_ifeq r168_16 ⟨by omega, by omega⟩ ?_ ?_
    · intro h17
      refine wk_c1 r168_32 ?_
      subst hQ; exact wk_zret r168_33 (by decide) (⟨rfl, _, rfl, hP11, hF13, by omega, by omega⟩)
    · intro h18
      exfalso
      omega
def fm_m171_6v3 : Nat := 4831838208
/-- IslandHall$Parser.row -/
theorem m171_6v3 {B : eB} (d : Nat) (M0 : Mm) (p1 : Int) (p2 : Int) (hP0 : Pw M0) (l1 : 0 ≤ p1) (u1 : p1 ≤ 30) (l2 : (-1) ≤ p2) (u2 : p2 ≤ 4) : Ct B (d + 3) 171 [R 6, I p1, I p2] M0 (qI fun z M => Pw M ∧ Fr fm_m171_6v3 M0 M ∧ 0 ≤ z ∧ z ≤ 1) := by
  refine ct_of (d := d + 2) (k := 0) (L := [some (R 6), some (I p1), some (I p2)]) rfl rfl rfl ?_
  have hF0 := Fr.rf fm_m171_6v3 M0
  generalize hQ : (qI fun z M => Pw M ∧ Fr fm_m171_6v3 M0 M ∧ 0 ≤ z ∧ z ≤ 1) = Q
  refine wk_il2 r171_0 (wk_c1 r171_1 ?_)
  refine wk_iceq r171_2 ⟨by omega, by omega⟩ (by decide) ?_ ?_
  · intro h1
    refine wk_c1 r171_20 ?_
    subst hQ; exact wk_zret r171_21 (by decide) (⟨rfl, _, rfl, hP0, hF0, by omega, by omega⟩)
  · intro h2
    refine wk_al0 r171_5 (wk_c1 r171_6 (wk_il1 r171_7 (wk_il2 r171_8 (wk_iadd r171_9 (wk_cv3 r171_10 kc_6_172 rfl (m172_6 _ M0 0 (p1 + p2) hP0 (by decide) (by decide) (by omega) (by omega) (by first | assumption | omega | (unfold stepok; omega))) (cqI ?_))))))
    rintro v7 M3 ⟨hP4, hQ5, h8, h9⟩
    have hF6 : Fr fm_m171_6v3 M0 M3 := hF0.tr hQ5 rfl
    refine wk_ifeq r171_13 ⟨by omega, by omega⟩ ?_ ?_
    · intro h10
      exfalso
      omega
    · intro h11
      refine wk_c1 r171_16 (wk_goto r171_17 ?_)
      subst hQ; exact wk_zret r171_21 (by decide) (⟨rfl, _, rfl, hP4, hF6, by omega, by omega⟩)
def fm_m152_6v5 : Nat := 3941066822647808
/-- IslandHall$Parser.aboutSomeone -/
theorem m152_6v5 {B : eB} (d : Nat) (M0 : Mm) (p1 : Int) (hP0 : Pw M0) (l1 : 5 ≤ p1) (u1 : p1 ≤ 5) : Ct B (d + 6) 152 [R 6, I p1] M0 (qI fun z M => Pw M ∧ Fr fm_m152_6v5 M0 M ∧ 0 ≤ z ∧ z ≤ 1) := by
  refine ct_of (d := d + 5) (k := 2) (L := [some (R 6), some (I p1), none, none]) rfl rfl rfl ?_
  have hF0 := Fr.rf fm_m152_6v5 M0
  generalize hQ : (qI fun z M => Pw M ∧ Fr fm_m152_6v5 M0 M ∧ 0 ≤ z ∧ z ≤ 1) = Q
  refine wk_al0 r152_0 (wk_cv1 r152_1 kc_6_165 rfl (m165_6 _ M0 hP0) (cqI ?_))
  rintro v5 M1 ⟨hP2, hQ3, h6, h7⟩
  have hF4 : Fr fm_m152_6v5 M0 M1 := hF0.tr hQ3 rfl
  refine wk_is2 r152_4 rfl (wk_il2 r152_5 (wk_c1 r152_6 ?_))
  refine wk_icne r152_7 ⟨by omega, by omega⟩ (by decide) ?_ ?_
  · intro h8
    refine wk_al0 r152_12 (wk_c8 r152_13 (wk_cv2 r152_15 kc_6_175 rfl (m175_6 _ M1 4111 hP2 (by decide)) (cqI ?_)))
    rintro v13 M9 ⟨hP10, hQ11, h14, h15⟩
    have hF12 : Fr fm_m152_6v5 M0 M9 := hF4.tr hQ11 rfl
    refine wk_ifeq r152_18 ⟨by omega, by omega⟩ ?_ ?_
    · intro h16
      refine wk_al0 r152_35 (wk_c8 r152_36 (wk_cv2 r152_38 kc_6_175 rfl (m175_6 _ M9 4112 hP10 (by decide)) (cqI ?_)))
      rintro v21 M17 ⟨hP18, hQ19, h22, h23⟩
      have hF20 : Fr fm_m152_6v5 M0 M17 := hF12.tr hQ19 rfl
      refine wk_ifeq r152_41 ⟨by omega, by omega⟩ ?_ ?_
      · intro h24
        refine wk_al0 r152_73 (wk_c8 r152_74 (wk_cv2 r152_76 kc_6_175 rfl (m175_6 _ M17 4113 hP18 (by decide)) (cqI ?_)))
        rintro v29 M25 ⟨hP26, hQ27, h30, h31⟩
        have hF28 : Fr fm_m152_6v5 M0 M25 := hF20.tr hQ27 rfl
        refine wk_ifne r152_79 ⟨by omega, by omega⟩ ?_ ?_
        · intro h32
          refine wk_al0 r152_88 (wk_il1 r152_89 (wk_cv2 r152_90 kc_6_168 rfl (m168_6v5 _ M25 p1 hP26 (by omega) (by omega)) (cqI ?_)))
          rintro v37 M33 ⟨hP34, hQ35, h38, h39⟩
          have hF36 : Fr fm_m152_6v5 M0 M33 := hF28.tr hQ35 rfl
          refine wk_ifne r152_93 ⟨by omega, by omega⟩ ?_ ?_
          · intro h40
            exfalso
            omega
          · intro h41
            refine wk_c1 r152_96 ?_
            subst hQ; exact wk_zret r152_97 (by decide) (⟨rfl, _, rfl, hP34, hF36, by omega, by omega⟩)
        · intro h42
          refine wk_al0 r152_82 (wk_c1 r152_83 (wk_cv2 r152_84 kc_6_159 rfl (m159_6 _ M25 1 hP26 (by decide) (by decide)) (cqI ?_)))
          rintro v47 M43 ⟨hP44, hQ45, h48, h49⟩
          have hF46 : Fr fm_m152_6v5 M0 M43 := hF28.tr hQ45 rfl
          subst hQ; exact wk_zret r152_87 ⟨by omega, by omega⟩ (⟨rfl, _, rfl, hP44, hF46, by omega, by omega⟩)
      · intro h50
        refine wk_al0 r152_44 (wk_cv1 r152_45 kc_6_165 rfl (m165_6 _ M17 hP18) (cqI ?_))
        rintro v55 M51 ⟨hP52, hQ53, h56, h57⟩
        have hF54 : Fr fm_m152_6v5 M0 M51 := hF20.tr hQ53 rfl
        refine wk_is3 r152_48 rfl (wk_il3 r152_49 (wk_c1 r152_50 ?_))
        refine wk_iceq r152_51 ⟨by omega, by omega⟩ (by decide) ?_ ?_
        · intro h58
          refine wk_c1 r152_71 ?_
          subst hQ; exact wk_zret r152_72 (by decide) (⟨rfl, _, rfl, hP52, hF54, by omega, by omega⟩)
        · intro h59
          refine wk_al0 r152_54 (wk_c1 r152_55 (wk_il2 r152_56 (wk_c1 r152_57 (wk_ishlc r152_58 (by decide) pwl_3 (wk_il3 r152_59 (wk_iord2 3 8 r152_60 (by decide) ⟨by omega, by omega⟩ ⟨by omega, by omega, by omega⟩ (wk_cv3 r152_61 kc_6_172 rfl (m172_6 _ M51 5 ((v5 * 8) + v55) hP52 (by decide) (by decide) (by omega) (by omega) (by first | assumption | omega | (unfold stepok; omega))) (cqI ?_))))))))
          rintro v64 M60 ⟨hP61, hQ62, h65, h66⟩
          have hF63 : Fr fm_m152_6v5 M0 M60 := hF54.tr hQ62 rfl
          refine wk_ifeq r152_64 ⟨by omega, by omega⟩ ?_ ?_
          · intro h67
            exfalso
            omega
          · intro h68
            refine wk_c1 r152_67 (wk_goto r152_68 ?_)
            subst hQ; exact wk_zret r152_72 (by decide) (⟨rfl, _, rfl, hP61, hF63, by omega, by omega⟩)
    · intro h69
      refine wk_al0 r152_21 (wk_c1 r152_22 (wk_il2 r152_23 (wk_c1 r152_24 (wk_imul r152_25 (wk_iadd r152_26 (wk_al0 r152_27 (wk_cv1 r152_28 kc_6_173 rfl (m173_6 _ M9 hP10) (cqI ?_))))))))
      rintro v74 M70 ⟨hP71, hQ72, h75, h76⟩
      have hF73 : Fr fm_m152_6v5 M0 M70 := hF12.tr hQ72 rfl
      refine wk_cv3 r152_31 kc_6_171 rfl (m171_6v3 _ M70 (0 + (v5 * 5)) v74 hP71 (by omega) (by omega) (by omega) (by omega)) (cqI ?_)
      rintro v81 M77 ⟨hP78, hQ79, h82, h83⟩
      have hF80 : Fr fm_m152_6v5 M0 M77 := hF73.tr hQ79 rfl
      subst hQ; exact wk_zret r152_34 ⟨by omega, by omega⟩ (⟨rfl, _, rfl, hP78, hF80, by omega, by omega⟩)
  · intro h84
    refine wk_c1 r152_10 ?_
    subst hQ; exact wk_zret r152_11 (by decide) (⟨rfl, _, rfl, hP2, hF4, by omega, by omega⟩)
def fm_m153_6v5 : Nat := 3941068970131456
/-- IslandHall$Parser.atom -/
theorem m153_6v5 {B : eB} (d : Nat) (M0 : Mm) (p1 : Int) (hP0 : Pw M0) (l1 : 5 ≤ p1) (u1 : p1 ≤ 5) : Ct B (d + 7) 153 [R 6, I p1] M0 (qI fun z M => Pw M ∧ Fr fm_m153_6v5 M0 M ∧ 0 ≤ z ∧ z ≤ 1) := by
  refine ct_of (d := d + 6) (k := 0) (L := [some (R 6), some (I p1)]) rfl rfl rfl ?_
  have hF0 := Fr.rf fm_m153_6v5 M0
  generalize hQ : (qI fun z M => Pw M ∧ Fr fm_m153_6v5 M0 M ∧ 0 ≤ z ∧ z ≤ 1) = Q
  refine wk_al0 r153_0 (wk_getfr r153_1 fd_6_0 (br_6_0 hP0) (wk_cv1 r153_4 kc_9_237 rfl (m237_9 _ M0 hP0) (cqI ?_)))
  rintro v7 M1 ⟨hP2, hQ3, h8, h9, h5, h6⟩
  obtain rfl := Fr.same hQ3
  obtain ⟨v10, e11⟩ : ∃ v, M0 9 2 = v := ⟨_, rfl⟩
  have h12 := bf_9_2 hP0; rw [e11] at h12
  obtain ⟨v13, e14⟩ : ∃ v, M0 9 3 = v := ⟨_, rfl⟩
  have h15 := bf_9_3 hP0; rw [e14] at h15
  refine wk_ifeq r153_7 ⟨by omega, by omega⟩ ?_ ?_
  · intro h16
    refine wk_al0 r153_16 (wk_c8 r153_17 (wk_cv2 r153_19 kc_6_175 rfl (m175_6 _ M0 4114 hP0 (by decide)) (cqI ?_)))
    rintro v21 M17 ⟨hP18, hQ19, h22, h23⟩
    have hF20 : Fr fm_m153_6v5 M0 M17 := hF0.tr hQ19 rfl
    refine wk_ifeq r153_22 ⟨by omega, by omega⟩ ?_ ?_
    · intro h24
      refine wk_al0 r153_38 (wk_c8 r153_39 (wk_cv2 r153_41 kc_6_175 rfl (m175_6 _ M17 4115 hP18 (by decide)) (cqI ?_)))
      rintro v29 M25 ⟨hP26, hQ27, h30, h31⟩
      have hF28 : Fr fm_m153_6v5 M0 M25 := hF20.tr hQ27 rfl
      refine wk_ifeq r153_44 ⟨by omega, by omega⟩ ?_ ?_
      · intro h32
        refine wk_al0 r153_61 (wk_c8 r153_62 (wk_cv2 r153_64 kc_6_175 rfl (m175_6 _ M25 4116 hP26 (by decide)) (cqI ?_)))
        rintro v37 M33 ⟨hP34, hQ35, h38, h39⟩
        have hF36 : Fr fm_m153_6v5 M0 M33 := hF28.tr hQ35 rfl
        refine wk_ifeq r153_67 ⟨by omega, by omega⟩ ?_ ?_
        · intro h40
          refine wk_al0 r153_83 (wk_c8 r153_84 (wk_cv2 r153_86 kc_6_175 rfl (m175_6 _ M33 4117 hP34 (by decide)) (cqI ?_)))
          rintro v45 M41 ⟨hP42, hQ43, h46, h47⟩
          have hF44 : Fr fm_m153_6v5 M0 M41 := hF36.tr hQ43 rfl
          refine wk_ifeq r153_89 ⟨by omega, by omega⟩ ?_ ?_
          · intro h48
            refine wk_al0 r153_97 (wk_c8 r153_98 (wk_cv2 r153_100 kc_6_175 rfl (m175_6 _ M41 4118 hP42 (by decide)) (cqI ?_)))
            rintro v53 M49 ⟨hP50, hQ51, h54, h55⟩
            have hF52 : Fr fm_m153_6v5 M0 M49 := hF44.tr hQ51 rfl
            refine wk_ifeq r153_103 ⟨by omega, by omega⟩ ?_ ?_
            · intro h56
              refine wk_al0 r153_117 (wk_c1 r153_118 (wk_cv2 r153_119 kc_6_159 rfl (m159_6 _ M49 1 hP50 (by decide) (by decide)) (cqI ?_)))
              rintro v61 M57 ⟨hP58, hQ59, h62, h63⟩
              have hF60 : Fr fm_m153_6v5 M0 M57 := hF52.tr hQ59 rfl
              subst hQ; exact wk_zret r153_122 ⟨by omega, by omega⟩ (⟨rfl, _, rfl, hP58, hF60, by omega, by omega⟩)
            · intro h64
              refine wk_al0 r153_106 (wk_al0 r153_107 (wk_cv1 r153_108 kc_6_173 rfl (m173_6 _ M49 hP50) (cqI ?_)))
              rintro v69 M65 ⟨hP66, hQ67, h70, h71⟩
              have hF68 : Fr fm_m153_6v5 M0 M65 := hF52.tr hQ67 rfl
              refine wk_cv2 r153_111 kc_6_163 rfl (m163_6 _ M65 v69 hP66 (by omega) (by omega)) (cqI ?_)
              rintro v76 M72 ⟨hP73, hQ74, h77, h78⟩
              have hF75 : Fr fm_m153_6v5 M0 M72 := hF68.tr hQ74 rfl
              refine wk_goto r153_114 ?_
              subst hQ; exact wk_zret r153_122 ⟨by omega, by omega⟩ (⟨rfl, _, rfl, hP73, hF75, by omega, by omega⟩)
          · intro h79
            refine wk_al0 r153_92 (wk_cv1 r153_93 kc_6_176 rfl (m176_6 _ M41 hP42) (cqI ?_))
            rintro v84 M80 ⟨hP81, hQ82, h85, h86⟩
            have hF83 : Fr fm_m153_6v5 M0 M80 := hF44.tr hQ82 rfl
            subst hQ; exact wk_zret r153_96 ⟨by omega, by omega⟩ (⟨rfl, _, rfl, hP81, hF83, by omega, by omega⟩)
        · intro h87
          refine wk_al0 r153_70 (wk_c2 r153_71 (wk_al0 r153_73 (wk_c1 r153_74 (wk_c1 r153_75 (wk_cv3 r153_76 kc_6_167 rfl (m167_6v1 _ M33 0 1 hP34 (by decide) (by decide) (by decide) (by decide)) (cqI ?_))))))
          rintro v92 M88 ⟨hP89, hQ90, h93, h94⟩
          have hF91 : Fr fm_m153_6v5 M0 M88 := hF36.tr hQ90 rfl
          refine wk_cv3 r153_79 kc_6_171 rfl (m171_6 _ M88 46 v92 hP89 (by decide) (by decide) (by omega) (by omega)) (cqI ?_)
          rintro v99 M95 ⟨hP96, hQ97, h100, h101⟩
          have hF98 : Fr fm_m153_6v5 M0 M95 := hF91.tr hQ97 rfl
          subst hQ; exact wk_zret r153_82 ⟨by omega, by omega⟩ (⟨rfl, _, rfl, hP96, hF98, by omega, by omega⟩)
      · intro h102
        refine wk_al0 r153_47 (wk_c2 r153_48 (wk_al0 r153_50 (wk_c1 r153_51 (wk_c2 r153_52 (wk_cv3 r153_54 kc_6_167 rfl (m167_6v2 _ M25 0 6 hP26 (by decide) (by decide) (by decide) (by decide)) (cqI ?_))))))
        rintro v107 M103 ⟨hP104, hQ105, h108, h109⟩
        have hF106 : Fr fm_m153_6v5 M0 M103 := hF28.tr hQ105 rfl
        refine wk_cv3 r153_57 kc_6_171 rfl (m171_6v1 _ M103 39 v107 hP104 (by decide) (by decide) (by omega) (by omega)) (cqI ?_)
        rintro v114 M110 ⟨hP111, hQ112, h115, h116⟩
        have hF113 : Fr fm_m153_6v5 M0 M110 := hF106.tr hQ112 rfl
        subst hQ; exact wk_zret r153_60 ⟨by omega, by omega⟩ (⟨rfl, _, rfl, hP111, hF113, by omega, by omega⟩)
    · intro h117
      refine wk_al0 r153_25 (wk_c2 r153_26 (wk_al0 r153_28 (wk_c1 r153_29 (wk_c1 r153_30 (wk_cv3 r153_31 kc_6_167 rfl (m167_6v3 _ M17 0 3 hP18 (by decide) (by decide) (by decide) (by decide)) (cqI ?_))))))
      rintro v122 M118 ⟨hP119, hQ120, h123, h124⟩
      have hF121 : Fr fm_m153_6v5 M0 M118 := hF20.tr hQ120 rfl
      refine wk_cv3 r153_34 kc_6_171 rfl (m171_6v2 _ M118 35 v122 hP119 (by decide) (by decide) (by omega) (by omega)) (cqI ?_)
      rintro v129 M125 ⟨hP126, hQ127, h130, h131⟩
      have hF128 : Fr fm_m153_6v5 M0 M125 := hF121.tr hQ127 rfl
      subst hQ; exact wk_zret r153_37 ⟨by omega, by omega⟩ (⟨rfl, _, rfl, hP126, hF128, by omega, by omega⟩)
  · intro h132
    refine wk_al0 r153_10 (wk_il1 r153_11 (wk_cv2 r153_12 kc_6_152 rfl (m152_6v5 _ M0 p1 hP0 (by omega) (by omega)) (cqI ?_)))
    rintro v137 M133 ⟨hP134, hQ135, h138, h139⟩
    have hF136 : Fr fm_m153_6v5 M0 M133 := hF0.tr hQ135 rfl
    subst hQ; exact wk_zret r153_15 ⟨by omega, by omega⟩ (⟨rfl, _, rfl, hP134, hF136, by omega, by omega⟩)
def fm_m166_6v5 : Nat := 3941068970131456
/-- IslandHall$Parser.negation -/
theorem m166_6v5 {B : eB} (d : Nat) (M0 : Mm) (p1 : Int) (hP0 : Pw M0) (l1 : 5 ≤ p1) (u1 : p1 ≤ 5) : Ct B (d + 8) 166 [R 6, I p1] M0 (qI fun z M => Pw M ∧ Fr fm_m166_6v5 M0 M ∧ 0 ≤ z ∧ z ≤ 1) := by
  refine ct_of (d := d + 7) (k := 2) (L := [some (R 6), some (I p1), none, none]) rfl rfl rfl ?_
  have hF0 := Fr.rf fm_m166_6v5 M0
  generalize hQ : (qI fun z M => Pw M ∧ Fr fm_m166_6v5 M0 M ∧ 0 ≤ z ∧ z ≤ 1) = Q
  refine wk_c1 r166_0 (wk_is2 r166_1 rfl ?_)
  have c2_551 : ∀ (k551 : Nat) (M472 : Mm) (v469 : Int), (6 - v469).toNat = k551 → Pw M472 → Fr fm_m166_6v5 M0 M472 → 0 ≤ v469 → v469 ≤ 6 → Wp B (d + 7) 166 2 [some (R 6), some (I p1), some (I v469), none] [] M472 Q := by
    refine lp_ind ?_
    intro k551 ih551 M472 v469 hk551 hP473 hF474 h470 h471
    refine wk_il2 r166_2 (wk_c2 r166_3 ?_)
    have c23_550 : ∀ (M486 : Mm), Pw M486 → Fr fm_m166_6v5 M0 M486 → Wp B (d + 7) 166 23 [some (R 6), some (I p1), some (I v469), none] [] M486 Q := by
      intro M486 hP487 hF488
      refine wk_al0 r166_23 (wk_getfr r166_24 fd_6_0 (br_6_0 hP487) (wk_c8 r166_27 (wk_cv2 r166_29 kc_9_239 rfl (m239_9 _ M486 4119 hP487 (by decide)) (cqI ?_))))
      rintro v494 M489 ⟨hP490, hQ491, h495, h496, xh493⟩
      obtain rfl := Fr.same hQ491
      refine wk_ifeq r166_32 ⟨by omega, by omega⟩ ?_ ?_
      · intro h497
        refine wk_al0 r166_41 (wk_getfr r166_42 fd_6_0 (br_6_0 hP487) (wk_c2 r166_45 (wk_cv2 r166_47 kc_9_238 rfl (m238_9 _ M486 40 hP487 (by decide) (by decide)) (cqI ?_))))
        rintro v502 M498 ⟨hP499, hQ500, h503, h504⟩
        obtain rfl := Fr.same hQ500
        have c66_541 : ∀ (M524 : Mm) (v521 : Int), Pw M524 → Fr fm_m166_6v5 M0 M524 → 0 ≤ v521 → v521 ≤ 1 → Wp B (d + 7) 166 66 [some (R 6), none, some (I v469), none] [I v521] M524 Q := by
          intro M524 v521 hP525 hF526 h522 h523
          refine wk_is3 r166_66 rfl (wk_il3 r166_67 ?_)
          refine wk_ifeq r166_68 ⟨by omega, by omega⟩ ?_ ?_
          · intro h527
            refine wk_c1 r166_90 ?_
            subst hQ; exact wk_zret r166_91 (by decide) (⟨rfl, _, rfl, hP525, hF526, by omega, by omega⟩)
          · intro h528
            refine wk_il2 r166_71 (wk_c1 r166_72 (wk_iandc 1 2 r166_73 ⟨rfl, by decide⟩ rfl ?_))
            refine wk_ifeq r166_74 ⟨by omega, by omega⟩ ?_ ?_
            · intro h530
              refine wk_c1 r166_86 (wk_goto r166_87 ?_)
              subst hQ; exact wk_zret r166_91 (by decide) (⟨rfl, _, rfl, hP525, hF526, by omega, by omega⟩)
            · intro h531
              refine wk_al0 r166_77 (wk_c1 r166_78 (wk_c1 r166_79 (wk_cv3 r166_80 kc_6_172 rfl (m172_6 _ M524 1 0 hP525 (by decide) (by decide) (by decide) (by decide) (by first | assumption | omega | (unfold stepok; omega))) (cqI ?_))))
              rintro v536 M532 ⟨hP533, hQ534, h537, h538⟩
              have hF535 : Fr fm_m166_6v5 M0 M532 := hF526.tr hQ534 rfl
              refine wk_ifeq r166_83 ⟨by omega, by omega⟩ ?_ ?_
              · intro h539
                exfalso
                omega
              · intro h540
                refine wk_c1 r166_86 (wk_goto r166_87 ?_)
                subst hQ; exact wk_zret r166_91 (by decide) (⟨rfl, _, rfl, hP533, hF535, by omega, by omega⟩)
        refine wk_ifeq r166_50 ⟨by omega, by omega⟩ ?_ ?_
        · intro h505
          refine wk_al0 r166_61 (wk_il1 r166_62 (wk_cv2 r166_63 kc_6_153 rfl (m153_6v5 _ M486 p1 hP487 (by omega) (by omega)) (cqI ?_)))
          rintro v510 M506 ⟨hP507, hQ508, h511, h512⟩
          have hF509 : Fr fm_m166_6v5 M0 M506 := hF488.tr hQ508 rfl
          exact wp_fg (le_s (le_n (le_s (le_s le_0)))) (c66_541 M506 v510 hP507 hF509 (by omega) (by omega))
        · intro h513
          refine wk_al0 r166_53 (wk_il1 r166_54 (wk_cv2 r166_55 kc_6_168 rfl (m168_6v5 _ M486 p1 hP487 (by omega) (by omega)) (cqI ?_)))
          rintro v518 M514 ⟨hP515, hQ516, h519, h520⟩
          have hF517 : Fr fm_m166_6v5 M0 M514 := hF488.tr hQ516 rfl
          refine wk_goto r166_58 ?_
          exact wp_fg (le_s (le_n (le_s (le_s le_0)))) (c66_541 M514 v518 hP515 hF517 (by omega) (by omega))
      · intro h542
        refine wk_al0 r166_35 (wk_c1 r166_36 (wk_cv2 r166_37 kc_6_159 rfl (m159_6v1 _ M486 2 hP487 (by decide) (by decide)) (cqI ?_)))
        rintro v547 M543 ⟨hP544, hQ545, h548, h549⟩
        have hF546 : Fr fm_m166_6v5 M0 M543 := hF488.tr hQ545 rfl
        subst hQ; exact wk_zret r166_40 ⟨by omega, by omega⟩ (⟨rfl, _, rfl, hP544, hF546, by omega, by omega⟩)
    refine wk_icge r166_5 ⟨by omega, by omega⟩ (by decide) ?_ ?_
    · intro h475
      exact wp_fg (le_s (le_s (le_s (le_s le_0)))) (c23_550 M472 hP473 hF474)
    · intro h476
      refine wk_al0 r166_8 (wk_c8 r166_9 (wk_cv2 r166_11 kc_6_175 rfl (m175_6 _ M472 4119 hP473 (by decide)) (cqI ?_)))
      rintro v481 M477 ⟨hP478, hQ479, h482, h483⟩
      have hF480 : Fr fm_m166_6v5 M0 M477 := hF474.tr hQ479 rfl
      refine wk_ifeq r166_14 ⟨by omega, by omega⟩ ?_ ?_
      · intro h484
        exact wp_fg (le_s (le_s (le_s (le_s le_0)))) (c23_550 M477 hP478 hF480)
      · intro h485
        refine wk_inc2 r166_17 rfl (wk_goto r166_20 ?_)
        exact wp_fg (le_s (le_s (le_s (le_s le_0)))) (ih551 (6 - (v469 + 1)).toNat (by omega) M477 (v469 + 1) rfl hP478 hF480 (by omega) (by omega))
  exact wp_fg (le_s (le_s (le_s (le_s le_0)))) (c2_551 _ M0 0 rfl hP0 hF0 (by omega) (by omega))
def fm_m157_6v5 : Nat := 3941068970131456
/-- IslandHall$Parser.conjunction -/
theorem m157_6v5 {B : eB} (d : Nat) (M0 : Mm) (p1 : Int) (hP0 : Pw M0) (l1 : 5 ≤ p1) (u1 : p1 ≤ 5) : Ct B (d + 9) 157 [R 6, I p1] M0 (qI fun z M => Pw M ∧ Fr fm_m157_6v5 M0 M ∧ 0 ≤ z ∧ z ≤ 1) := by
  refine ct_of (d := d + 8) (k := 1) (L := [some (R 6), some (I p1), none]) rfl rfl rfl ?_
  have hF0 := Fr.rf fm_m157_6v5 M0
  generalize hQ : (qI fun z M => Pw M ∧ Fr fm_m157_6v5 M0 M ∧ 0 ≤ z ∧ z ≤ 1) = Q
  refine wk_al0 r157_0 (wk_il1 r157_1 (wk_cv2 r157_2 kc_6_166 rfl (m166_6v5 _ M0 p1 hP0 (by omega) (by omega)) (cqI ?_)))
  rintro v5 M1 ⟨hP2, hQ3, h6, h7⟩
  have hF4 : Fr fm_m157_6v5 M0 M1 := hF0.tr hQ3 rfl
  refine wk_ifne r157_5 ⟨by omega, by omega⟩ ?_ ?_
  · intro h8
    refine wk_c1 r157_10 (wk_is2 r157_11 rfl ?_)
    have c12_359 : ∀ (k359 : Nat) (M327 : Mm) (v324 : Int), (500 - v324).toNat = k359 → Pw M327 → Fr fm_m157_6v5 M0 M327 → 0 ≤ v324 → v324 ≤ 500 → Wp B (d + 8) 157 12 [some (R 6), some (I p1), some (I v324)] [] M327 Q := by
      refine lp_ind ?_
      intro k359 ih359 M327 v324 hk359 hP328 hF329 h325 h326
      refine wk_il2 r157_12 (wk_c3 r157_13 ?_)
      refine wk_icge r157_16 ⟨by omega, by omega⟩ (by decide) ?_ ?_
      · intro h330
        refine wk_c1 r157_53 ?_
        subst hQ; exact wk_zret r157_54 (by decide) (⟨rfl, _, rfl, hP328, hF329, by omega, by omega⟩)
      · intro h331
        refine wk_al0 r157_19 (wk_c8 r157_20 (wk_cv2 r157_22 kc_6_175 rfl (m175_6 _ M327 4125 hP328 (by decide)) (cqI ?_)))
        rintro v336 M332 ⟨hP333, hQ334, h337, h338⟩
        have hF335 : Fr fm_m157_6v5 M0 M332 := hF329.tr hQ334 rfl
        refine wk_ifeq r157_25 ⟨by omega, by omega⟩ ?_ ?_
        · intro h339
          refine wk_c1 r157_53 ?_
          subst hQ; exact wk_zret r157_54 (by decide) (⟨rfl, _, rfl, hP333, hF335, by omega, by omega⟩)
        · intro h340
          refine wk_al0 r157_28 (wk_il1 r157_29 (wk_cv2 r157_30 kc_6_166 rfl (m166_6v5 _ M332 p1 hP333 (by omega) (by omega)) (cqI ?_)))
          rintro v345 M341 ⟨hP342, hQ343, h346, h347⟩
          have hF344 : Fr fm_m157_6v5 M0 M341 := hF335.tr hQ343 rfl
          refine wk_ifeq r157_33 ⟨by omega, by omega⟩ ?_ ?_
          · intro h348
            refine wk_c1 r157_45 ?_
            subst hQ; exact wk_zret r157_46 (by decide) (⟨rfl, _, rfl, hP342, hF344, by omega, by omega⟩)
          · intro h349
            refine wk_al0 r157_36 (wk_c1 r157_37 (wk_c1 r157_38 (wk_cv3 r157_39 kc_6_172 rfl (m172_6 _ M341 2 0 hP342 (by decide) (by decide) (by decide) (by decide) (by first | assumption | omega | (unfold stepok; omega))) (cqI ?_))))
            rintro v354 M350 ⟨hP351, hQ352, h355, h356⟩
            have hF353 : Fr fm_m157_6v5 M0 M350 := hF344.tr hQ352 rfl
            refine wk_ifne r157_42 ⟨by omega, by omega⟩ ?_ ?_
            · intro h357
              refine wk_inc2 r157_47 rfl (wk_goto r157_50 ?_)
              exact wp_fg (le_s (le_s (le_s le_0))) (ih359 (500 - (v324 + 1)).toNat (by omega) M350 (v324 + 1) rfl hP351 hF353 (by omega) (by omega))
            · intro h358
              exfalso
              omega
    exact wp_fg (le_s (le_s (le_s le_0))) (c12_359 _ M1 0 rfl hP2 hF4 (by omega) (by omega))
  · intro h360
    refine wk_c1 r157_8 ?_
    subst hQ; exact wk_zret r157_9 (by decide) (⟨rfl, _, rfl, hP2, hF4, by omega, by omega⟩)
def fm_m158_6v5 : Nat := 3941068970131456
/-- IslandHall$Parser.expr -/
theorem m158_6v5 {B : eB} (d : Nat) (M0 : Mm) (p1 : Int) (hP0 : Pw M0) (l1 : 5 ≤ p1) (u1 : p1 ≤ 5) : Ct B (d + 10) 158 [R 6, I p1] M0 (qI fun z M => Pw M ∧ Fr fm_m158_6v5 M0 M ∧ 0 ≤ z ∧ z ≤ 1) := by
  refine ct_of (d := d + 9) (k := 1) (L := [some (R 6), some (I p1), none]) rfl rfl rfl ?_
  have hF0 := Fr.rf fm_m158_6v5 M0
  generalize hQ : (qI fun z M => Pw M ∧ Fr fm_m158_6v5 M0 M ∧ 0 ≤ z ∧ z ≤ 1) = Q
  refine wk_al0 r158_0 (wk_cv1 r158_1 kc_6_155 rfl (m155_6 _ M0 hP0) (cqI ?_))
  rintro v5 M1 ⟨hP2, hQ3, h6, h7⟩
  obtain rfl := Fr.same hQ3
  refine wk_ifne r158_4 ⟨by omega, by omega⟩ ?_ ?_
  · intro h8
    refine wk_il1 r158_13 (wk_c2 r158_14 ?_)
    refine wk_iclt r158_16 ⟨by omega, by omega⟩ (by decide) ?_ ?_
    · intro h9
      refine wk_al0 r158_25 (wk_il1 r158_26 (wk_cv2 r158_27 kc_6_157 rfl (m157_6v5 _ M0 p1 hP0 (by omega) (by omega)) (cqI ?_)))
      rintro v14 M10 ⟨hP11, hQ12, h15, h16⟩
      have hF13 : Fr fm_m158_6v5 M0 M10 := hF0.tr hQ12 rfl
      refine wk_ifne r158_30 ⟨by omega, by omega⟩ ?_ ?_
      · intro h17
        refine wk_c1 r158_35 (wk_is2 r158_36 rfl ?_)
        have c37_368 : ∀ (k368 : Nat) (M336 : Mm) (v333 : Int), (500 - v333).toNat = k368 → Pw M336 → Fr fm_m158_6v5 M0 M336 → 0 ≤ v333 → v333 ≤ 500 → Wp B (d + 9) 158 37 [some (R 6), some (I p1), some (I v333)] [] M336 Q := by
          refine lp_ind ?_
          intro k368 ih368 M336 v333 hk368 hP337 hF338 h334 h335
          refine wk_il2 r158_37 (wk_c3 r158_38 ?_)
          refine wk_icge r158_41 ⟨by omega, by omega⟩ (by decide) ?_ ?_
          · intro h339
            refine wk_c1 r158_78 ?_
            subst hQ; exact wk_zret r158_79 (by decide) (⟨rfl, _, rfl, hP337, hF338, by omega, by omega⟩)
          · intro h340
            refine wk_al0 r158_44 (wk_c8 r158_45 (wk_cv2 r158_47 kc_6_175 rfl (m175_6 _ M336 4126 hP337 (by decide)) (cqI ?_)))
            rintro v345 M341 ⟨hP342, hQ343, h346, h347⟩
            have hF344 : Fr fm_m158_6v5 M0 M341 := hF338.tr hQ343 rfl
            refine wk_ifeq r158_50 ⟨by omega, by omega⟩ ?_ ?_
            · intro h348
              refine wk_c1 r158_78 ?_
              subst hQ; exact wk_zret r158_79 (by decide) (⟨rfl, _, rfl, hP342, hF344, by omega, by omega⟩)
            · intro h349
              refine wk_al0 r158_53 (wk_il1 r158_54 (wk_cv2 r158_55 kc_6_157 rfl (m157_6v5 _ M341 p1 hP342 (by omega) (by omega)) (cqI ?_)))
              rintro v354 M350 ⟨hP351, hQ352, h355, h356⟩
              have hF353 : Fr fm_m158_6v5 M0 M350 := hF344.tr hQ352 rfl
              refine wk_ifeq r158_58 ⟨by omega, by omega⟩ ?_ ?_
              · intro h357
                refine wk_c1 r158_70 ?_
                subst hQ; exact wk_zret r158_71 (by decide) (⟨rfl, _, rfl, hP351, hF353, by omega, by omega⟩)
              · intro h358
                refine wk_al0 r158_61 (wk_c1 r158_62 (wk_c1 r158_63 (wk_cv3 r158_64 kc_6_172 rfl (m172_6 _ M350 3 0 hP351 (by decide) (by decide) (by decide) (by decide) (by first | assumption | omega | (unfold stepok; omega))) (cqI ?_))))
                rintro v363 M359 ⟨hP360, hQ361, h364, h365⟩
                have hF362 : Fr fm_m158_6v5 M0 M359 := hF353.tr hQ361 rfl
                refine wk_ifne r158_67 ⟨by omega, by omega⟩ ?_ ?_
                · intro h366
                  refine wk_inc2 r158_72 rfl (wk_goto r158_75 ?_)
                  exact wp_fg (le_s (le_s (le_s le_0))) (ih368 (500 - (v333 + 1)).toNat (by omega) M359 (v333 + 1) rfl hP360 hF362 (by omega) (by omega))
                · intro h367
                  exfalso
                  omega
        exact wp_fg (le_s (le_s (le_s le_0))) (c37_368 _ M10 0 rfl hP11 hF13 (by omega) (by omega))
      · intro h369
        refine wk_c1 r158_33 ?_
        subst hQ; exact wk_zret r158_34 (by decide) (⟨rfl, _, rfl, hP11, hF13, by omega, by omega⟩)
    · intro h370
      exfalso
      omega
  · intro h371
    refine wk_al0 r158_7 (wk_c1 r158_8 (wk_cv2 r158_9 kc_6_159 rfl (m159_6 _ M0 1 hP0 (by decide) (by decide)) (cqI ?_)))
    rintro v376 M372 ⟨hP373, hQ374, h377, h378⟩
    have hF375 : Fr fm_m158_6v5 M0 M372 := hF0.tr hQ374 rfl
    subst hQ; exact wk_zret r158_12 ⟨by omega, by omega⟩ (⟨rfl, _, rfl, hP373, hF375, by omega, by omega⟩)
def fm_m174_6v1 : Nat := 3941061990809600
/-- IslandHall$Parser.takeSign -/
theorem m174_6v1 {B : eB} (d : Nat) (M0 : Mm) (p1 : Int) (hP0 : Pw M0) (l1 : 40 ≤ p1) (u1 : p1 ≤ 41) : Ct B (d + 3) 174 [R 6, I p1] M0 (qI fun z M => Pw M ∧ Fr fm_m174_6v1 M0 M ∧ 0 ≤ z ∧ z ≤ 1) := by
  refine ct_of (d := d + 2) (k := 0) (L := [some (R 6), some (I p1)]) rfl rfl rfl ?_
  have hF0 := Fr.rf fm_m174_6v1 M0
  generalize hQ : (qI fun z M => Pw M ∧ Fr fm_m174_6v1 M0 M ∧ 0 ≤ z ∧ z ≤ 1) = Q
  refine wk_al0 r174_0 (wk_getfr r174_1 fd_6_0 (br_6_0 hP0) (wk_il1 r174_4 (wk_cv2 r174_5 kc_9_238 rfl (m238_9v1 _ M0 p1 hP0 (by omega) (by omega)) (cqI ?_))))
  rintro v5 M1 ⟨hP2, hQ3, h6, h7⟩
  obtain rfl := Fr.same hQ3
  refine wk_ifne r174_8 ⟨by omega, by omega⟩ ?_ ?_
  · intro h8
    refine wk_al0 r174_17 (wk_getfr r174_18 fd_6_0 (br_6_0 hP0) (wk_cv1 r174_21 kc_9_241 rfl (m241_9 _ M0 hP0) (cqV ?_)))
    rintro M9 ⟨hP10, hQ11⟩
    have hF12 : Fr fm_m174_6v1 M0 M9 := hF0.tr hQ11 rfl
    refine wk_c1 r174_24 ?_
    subst hQ; exact wk_zret r174_25 (by decide) (⟨rfl, _, rfl, hP10, hF12, by omega, by omega⟩)
  · intro h13
    refine wk_al0 r174_11 (wk_c1 r174_12 (wk_cv2 r174_13 kc_6_159 rfl (m159_6 _ M0 1 hP0 (by decide) (by decide)) (cqI ?_)))
    rintro v18 M14 ⟨hP15, hQ16, h19, h20⟩
    have hF17 : Fr fm_m174_6v1 M0 M14 := hF0.tr hQ16 rfl
    subst hQ; exact wk_zret r174_16 ⟨by omega, by omega⟩ (⟨rfl, _, rfl, hP15, hF17, by omega, by omega⟩)
def fm_m168_6v4 : Nat := 3941068970131456
/-- IslandHall$Parser.parenthesis -/
theorem m168_6v4 {B : eB} (d : Nat) (M0 : Mm) (p1 : Int) (hP0 : Pw M0) (l1 : 4 ≤ p1) (u1 : p1 ≤ 4) : Ct B (d + 11) 168 [R 6, I p1] M0 (qI fun z M => Pw M ∧ Fr fm_m168_6v4 M0 M ∧ 0 ≤ z ∧ z ≤ 1) := by
  refine ct_of (d := d + 10) (k := 0) (L := [some (R 6), some (I p1)]) rfl rfl rfl ?_
  have hF0 := Fr.rf fm_m168_6v4 M0
  generalize hQ : (qI fun z M => Pw M ∧ Fr fm_m168_6v4 M0 M ∧ 0 ≤ z ∧ z ≤ 1) = Q
  refine wk_al0 r168_0 (wk_c2 r168_1 (wk_cv2 r168_3 kc_6_174 rfl (m174_6 _ M0 40 hP0 (by decide) (by decide)) (cqI ?_)))
  rintro v5 M1 ⟨hP2, hQ3, h6, h7⟩
  have hF4 : Fr fm_m168_6v4 M0 M1 := hF0.tr hQ3 rfl
  refine wk_ifeq r168_6 ⟨by omega, by omega⟩ ?_ ?_
  · intro h8
    refine wk_c1 r168_32 ?_
    subst hQ; exact wk_zret r168_33 (by decide) (⟨rfl, _, rfl, hP2, hF4, by omega, by omega⟩)
  · intro h9
    refine wk_al0 r168_9 (wk_il1 r168_10 (wk_c1 r168_11 (wk_iadd r168_12 (wk_cv2 r168_13 kc_6_158 rfl (m158_6v5 _ M1 (p1 + 1) hP2 (by omega) (by omega)) (cqI ?_)))))
    rintro v14 M10 ⟨hP11, hQ12, h15, h16⟩
    have hF13 : Fr fm_m168_6v4 M0 M10 := hF4.tr hQ12 rfl
    refine wk_ifeq r168_16 ⟨by omega, by omega⟩ ?_ ?_
    · intro h17
      refine wk_c1 r168_32 ?_
      subst hQ; exact wk_zret r168_33 (by decide) (⟨rfl, _, rfl, hP11, hF13, by omega, by omega⟩)
    · intro h18
      refine wk_al0 r168_19 (wk_c2 r168_20 (wk_cv2 r168_22 kc_6_174 rfl (m174_6v1 _ M10 41 hP11 (by decide) (by decide)) (cqI ?_)))
      rintro v23 M19 ⟨hP20, hQ21, h24, h25⟩
      have hF22 : Fr fm_m168_6v4 M0 M19 := hF13.tr hQ21 rfl
      refine wk_ifeq r168_25 ⟨by omega, by omega⟩ ?_ ?_
      · intro h26
        refine wk_c1 r168_32 ?_
        subst hQ; exact wk_zret r168_33 (by decide) (⟨rfl, _, rfl, hP20, hF22, by omega, by omega⟩)
      · intro h27
        refine wk_c1 r168_28 (wk_goto r168_29 ?_)
        subst hQ; exact wk_zret r168_33 (by decide) (⟨rfl, _, rfl, hP20, hF22, by omega, by omega⟩)
def fm_m139 : Nat := 5905580032
/-- IslandHall$Code.addSays -/
theorem m139 {B : eB} (d : Nat) (M0 : Mm) (c0 : Int) (p1 : Int) (hP0 : Pw M0) (hC0 : isC c0) (l1 : 0 ≤ p1) (u1 : p1 ≤ 6) : Ct B (d + 2) 139 [R c0, I p1] M0 (qV fun M => Pw M ∧ Fr fm_m139 M0 M) := by
  refine ct_of (d := d + 1) (k := 0) (L := [some (R c0), some (I p1)]) rfl rfl rfl ?_
  have hF0 := Fr.rf fm_m139 M0
  generalize hQ : (qV fun M => Pw M ∧ Fr fm_m139 M0 M) = Q
  refine wk_al0 r139_0 (wk_c1 r139_1 (wk_il1 r139_2 (wk_cv3 r139_3 (kcC_138 hC0) rfl (m138 _ M0 c0 4 p1 hP0 hC0 (by decide) (by decide) (by omega) (by omega) (by first | assumption | omega | (unfold stepok; omega))) (cqV ?_))))
  rintro M1 ⟨hP2, hQ3⟩
  have hF4 : Fr fm_m139 M0 M1 := hF0.tr hQ3 rfl
  refine wk_al0 r139_6 (wk_dupr r139_7 (wk_getfb r139_8 (fdC_2 hC0) (bC_2 hP2 hC0) ?_))
  intro v5 h7 h8 e6
  refine wk_c1 r139_11 (wk_il1 r139_12 (wk_shl1 6 64 r139_13 ⟨by omega, by omega⟩ ⟨pwl_6, by decide⟩ ?_))
  intro v9 h10 h11 h12
  refine wk_ior 7 128 r139_14 (by decide) ⟨by omega, by omega⟩ ⟨by omega, by omega⟩ ?_
  intro v13 h14 h15 h16 h17 h18
  refine wk_putfi81 r139_15 (fdC_2 hC0) (wk_nw (g_c2 hC0) rfl hP2 hF4 (uC_2 hC0 ⟨by omega, by omega⟩) ?_)
  intro M19 hP20 hF21 e22
  subst hQ; exact wk_ret r139_18 (⟨rfl, hP20, hF21⟩)
def fm_m152_6v4 : Nat := 3941070043873280
/-- IslandHall$Parser.aboutSomeone -/
theorem m152_6v4 {B : eB} (d : Nat) (M0 : Mm) (p1 : Int) (hP0 : Pw M0) (l1 : 4 ≤ p1) (u1 : p1 ≤ 4) : Ct B (d + 12) 152 [R 6, I p1] M0 (qI fun z M => Pw M ∧ Fr fm_m152_6v4 M0 M ∧ 0 ≤ z ∧ z ≤ 1) := by
  refine ct_of (d := d + 11) (k := 2) (L := [some (R 6), some (I p1), none, none]) rfl rfl rfl ?_
  have hF0 := Fr.rf fm_m152_6v4 M0
  generalize hQ : (qI fun z M => Pw M ∧ Fr fm_m152_6v4 M0 M ∧ 0 ≤ z ∧ z ≤ 1) = Q
  refine wk_al0 r152_0 (wk_cv1 r152_1 kc_6_165 rfl (m165_6 _ M0 hP0) (cqI ?_))
  rintro v5 M1 ⟨hP2, hQ3, h6, h7⟩
  have hF4 : Fr fm_m152_6v4 M0 M1 := hF0.tr hQ3 rfl
  refine wk_is2 r152_4 rfl (wk_il2 r152_5 (wk_c1 r152_6 ?_))
  refine wk_icne r152_7 ⟨by omega, by omega⟩ (by decide) ?_ ?_
  · intro h8
    refine wk_al0 r152_12 (wk_c8 r152_13 (wk_cv2 r152_15 kc_6_175 rfl (m175_6 _ M1 4111 hP2 (by decide)) (cqI ?_)))
    rintro v13 M9 ⟨hP10, hQ11, h14, h15⟩
    have hF12 : Fr fm_m152_6v4 M0 M9 := hF4.tr hQ11 rfl
    refine wk_ifeq r152_18 ⟨by omega, by omega⟩ ?_ ?_
    · intro h16
      refine wk_al0 r152_35 (wk_c8 r152_36 (wk_cv2 r152_38 kc_6_175 rfl (m175_6 _ M9 4112 hP10 (by decide)) (cqI ?_)))
      rintro v21 M17 ⟨hP18, hQ19, h22, h23⟩
      have hF20 : Fr fm_m152_6v4 M0 M17 := hF12.tr hQ19 rfl
      refine wk_ifeq r152_41 ⟨by omega, by omega⟩ ?_ ?_
      · intro h24
        refine wk_al0 r152_73 (wk_c8 r152_74 (wk_cv2 r152_76 kc_6_175 rfl (m175_6 _ M17 4113 hP18 (by decide)) (cqI ?_)))
        rintro v29 M25 ⟨hP26, hQ27, h30, h31⟩
        have hF28 : Fr fm_m152_6v4 M0 M25 := hF20.tr hQ27 rfl
        refine wk_ifne r152_79 ⟨by omega, by omega⟩ ?_ ?_
        · intro h32
          refine wk_al0 r152_88 (wk_il1 r152_89 (wk_cv2 r152_90 kc_6_168 rfl (m168_6v4 _ M25 p1 hP26 (by omega) (by omega)) (cqI ?_)))
          rintro v37 M33 ⟨hP34, hQ35, h38, h39⟩
          have hF36 : Fr fm_m152_6v4 M0 M33 := hF28.tr hQ35 rfl
          refine wk_ifne r152_93 ⟨by omega, by omega⟩ ?_ ?_
          · intro h40
            refine wk_al0 r152_98 ?_
            obtain ⟨v41, e42⟩ : ∃ v, M33 6 2 = v := ⟨_, rfl⟩
            have hC43 : isC v41 := by have := pcE hP34; rw [e42] at this; exact this
            refine wk_getfr r152_99 fd_6_2 e42 (wk_il2 r152_102 (wk_cv2 r152_103 (kcC_139 hC43) rfl (m139 _ M33 v41 v5 hP34 hC43 (by omega) (by omega)) (cqV ?_)))
            rintro M44 ⟨hP45, hQ46⟩
            have hF47 : Fr fm_m152_6v4 M0 M44 := hF36.tr hQ46 rfl
            refine wk_c1 r152_106 ?_
            subst hQ; exact wk_zret r152_107 (by decide) (⟨rfl, _, rfl, hP45, hF47, by omega, by omega⟩)
          · intro h48
            refine wk_c1 r152_96 ?_
            subst hQ; exact wk_zret r152_97 (by decide) (⟨rfl, _, rfl, hP34, hF36, by omega, by omega⟩)
        · intro h49
          refine wk_al0 r152_82 (wk_c1 r152_83 (wk_cv2 r152_84 kc_6_159 rfl (m159_6 _ M25 1 hP26 (by decide) (by decide)) (cqI ?_)))
          rintro v54 M50 ⟨hP51, hQ52, h55, h56⟩
          have hF53 : Fr fm_m152_6v4 M0 M50 := hF28.tr hQ52 rfl
          subst hQ; exact wk_zret r152_87 ⟨by omega, by omega⟩ (⟨rfl, _, rfl, hP51, hF53, by omega, by omega⟩)
      · intro h57
        refine wk_al0 r152_44 (wk_cv1 r152_45 kc_6_165 rfl (m165_6 _ M17 hP18) (cqI ?_))
        rintro v62 M58 ⟨hP59, hQ60, h63, h64⟩
        have hF61 : Fr fm_m152_6v4 M0 M58 := hF20.tr hQ60 rfl
        refine wk_is3 r152_48 rfl (wk_il3 r152_49 (wk_c1 r152_50 ?_))
        refine wk_iceq r152_51 ⟨by omega, by omega⟩ (by decide) ?_ ?_
        · intro h65
          refine wk_c1 r152_71 ?_
          subst hQ; exact wk_zret r152_72 (by decide) (⟨rfl, _, rfl, hP59, hF61, by omega, by omega⟩)
        · intro h66
          refine wk_al0 r152_54 (wk_c1 r152_55 (wk_il2 r152_56 (wk_c1 r152_57 (wk_ishlc r152_58 (by decide) pwl_3 (wk_il3 r152_59 (wk_iord2 3 8 r152_60 (by decide) ⟨by omega, by omega⟩ ⟨by omega, by omega, by omega⟩ (wk_cv3 r152_61 kc_6_172 rfl (m172_6 _ M58 5 ((v5 * 8) + v62) hP59 (by decide) (by decide) (by omega) (by omega) (by first | assumption | omega | (unfold stepok; omega))) (cqI ?_))))))))
          rintro v71 M67 ⟨hP68, hQ69, h72, h73⟩
          have hF70 : Fr fm_m152_6v4 M0 M67 := hF61.tr hQ69 rfl
          refine wk_ifeq r152_64 ⟨by omega, by omega⟩ ?_ ?_
          · intro h74
            exfalso
            omega
          · intro h75
            refine wk_c1 r152_67 (wk_goto r152_68 ?_)
            subst hQ; exact wk_zret r152_72 (by decide) (⟨rfl, _, rfl, hP68, hF70, by omega, by omega⟩)
    · intro h76
      refine wk_al0 r152_21 (wk_c1 r152_22 (wk_il2 r152_23 (wk_c1 r152_24 (wk_imul r152_25 (wk_iadd r152_26 (wk_al0 r152_27 (wk_cv1 r152_28 kc_6_173 rfl (m173_6 _ M9 hP10) (cqI ?_))))))))
      rintro v81 M77 ⟨hP78, hQ79, h82, h83⟩
      have hF80 : Fr fm_m152_6v4 M0 M77 := hF12.tr hQ79 rfl
      refine wk_cv3 r152_31 kc_6_171 rfl (m171_6v3 _ M77 (0 + (v5 * 5)) v81 hP78 (by omega) (by omega) (by omega) (by omega)) (cqI ?_)
      rintro v88 M84 ⟨hP85, hQ86, h89, h90⟩
      have hF87 : Fr fm_m152_6v4 M0 M84 := hF80.tr hQ86 rfl
      subst hQ; exact wk_zret r152_34 ⟨by omega, by omega⟩ (⟨rfl, _, rfl, hP85, hF87, by omega, by omega⟩)
  · intro h91
    refine wk_c1 r152_10 ?_
    subst hQ; exact wk_zret r152_11 (by decide) (⟨rfl, _, rfl, hP2, hF4, by omega, by omega⟩)
def fm_m153_6v4 : Nat := 3941070043873280
/-- IslandHall$Parser.atom -/
theorem m153_6v4 {B : eB} (d : Nat) (M0 : Mm) (p1 : Int) (hP0 : Pw M0) (l1 : 4 ≤ p1) (u1 : p1 ≤ 4) : Ct B (d + 13) 153 [R 6, I p1] M0 (qI fun z M => Pw M ∧ Fr fm_m153_6v4 M0 M ∧ 0 ≤ z ∧ z ≤ 1) := by
  refine ct_of (d := d + 12) (k := 0) (L := [some (R 6), some (I p1)]) rfl rfl rfl ?_
  have hF0 := Fr.rf fm_m153_6v4 M0
  generalize hQ : (qI fun z M => Pw M ∧ Fr fm_m153_6v4 M0 M ∧ 0 ≤ z ∧ z ≤ 1) = Q
  refine wk_al0 r153_0 (wk_getfr r153_1 fd_6_0 (br_6_0 hP0) (wk_cv1 r153_4 kc_9_237 rfl (m237_9 _ M0 hP0) (cqI ?_)))
  rintro v7 M1 ⟨hP2, hQ3, h8, h9, h5, h6⟩
  obtain rfl := Fr.same hQ3
  obtain ⟨v10, e11⟩ : ∃ v, M0 9 2 = v := ⟨_, rfl⟩
  have h12 := bf_9_2 hP0; rw [e11] at h12
  obtain ⟨v13, e14⟩ : ∃ v, M0 9 3 = v := ⟨_, rfl⟩
  have h15 := bf_9_3 hP0; rw [e14] at h15
  refine wk_ifeq r153_7 ⟨by omega, by omega⟩ ?_ ?_
  · intro h16
    refine wk_al0 r153_16 (wk_c8 r153_17 (wk_cv2 r153_19 kc_6_175 rfl (m175_6 _ M0 4114 hP0 (by decide)) (cqI ?_)))
    rintro v21 M17 ⟨hP18, hQ19, h22, h23⟩
    have hF20 : Fr fm_m153_6v4 M0 M17 := hF0.tr hQ19 rfl
    refine wk_ifeq r153_22 ⟨by omega, by omega⟩ ?_ ?_
    · intro h24
      refine wk_al0 r153_38 (wk_c8 r153_39 (wk_cv2 r153_41 kc_6_175 rfl (m175_6 _ M17 4115 hP18 (by decide)) (cqI ?_)))
      rintro v29 M25 ⟨hP26, hQ27, h30, h31⟩
      have hF28 : Fr fm_m153_6v4 M0 M25 := hF20.tr hQ27 rfl
      refine wk_ifeq r153_44 ⟨by omega, by omega⟩ ?_ ?_
      · intro h32
        refine wk_al0 r153_61 (wk_c8 r153_62 (wk_cv2 r153_64 kc_6_175 rfl (m175_6 _ M25 4116 hP26 (by decide)) (cqI ?_)))
        rintro v37 M33 ⟨hP34, hQ35, h38, h39⟩
        have hF36 : Fr fm_m153_6v4 M0 M33 := hF28.tr hQ35 rfl
        refine wk_ifeq r153_67 ⟨by omega, by omega⟩ ?_ ?_
        · intro h40
          refine wk_al0 r153_83 (wk_c8 r153_84 (wk_cv2 r153_86 kc_6_175 rfl (m175_6 _ M33 4117 hP34 (by decide)) (cqI ?_)))
          rintro v45 M41 ⟨hP42, hQ43, h46, h47⟩
          have hF44 : Fr fm_m153_6v4 M0 M41 := hF36.tr hQ43 rfl
          refine wk_ifeq r153_89 ⟨by omega, by omega⟩ ?_ ?_
          · intro h48
            refine wk_al0 r153_97 (wk_c8 r153_98 (wk_cv2 r153_100 kc_6_175 rfl (m175_6 _ M41 4118 hP42 (by decide)) (cqI ?_)))
            rintro v53 M49 ⟨hP50, hQ51, h54, h55⟩
            have hF52 : Fr fm_m153_6v4 M0 M49 := hF44.tr hQ51 rfl
            refine wk_ifeq r153_103 ⟨by omega, by omega⟩ ?_ ?_
            · intro h56
              refine wk_al0 r153_117 (wk_c1 r153_118 (wk_cv2 r153_119 kc_6_159 rfl (m159_6 _ M49 1 hP50 (by decide) (by decide)) (cqI ?_)))
              rintro v61 M57 ⟨hP58, hQ59, h62, h63⟩
              have hF60 : Fr fm_m153_6v4 M0 M57 := hF52.tr hQ59 rfl
              subst hQ; exact wk_zret r153_122 ⟨by omega, by omega⟩ (⟨rfl, _, rfl, hP58, hF60, by omega, by omega⟩)
            · intro h64
              refine wk_al0 r153_106 (wk_al0 r153_107 (wk_cv1 r153_108 kc_6_173 rfl (m173_6 _ M49 hP50) (cqI ?_)))
              rintro v69 M65 ⟨hP66, hQ67, h70, h71⟩
              have hF68 : Fr fm_m153_6v4 M0 M65 := hF52.tr hQ67 rfl
              refine wk_cv2 r153_111 kc_6_163 rfl (m163_6 _ M65 v69 hP66 (by omega) (by omega)) (cqI ?_)
              rintro v76 M72 ⟨hP73, hQ74, h77, h78⟩
              have hF75 : Fr fm_m153_6v4 M0 M72 := hF68.tr hQ74 rfl
              refine wk_goto r153_114 ?_
              subst hQ; exact wk_zret r153_122 ⟨by omega, by omega⟩ (⟨rfl, _, rfl, hP73, hF75, by omega, by omega⟩)
          · intro h79
            refine wk_al0 r153_92 (wk_cv1 r153_93 kc_6_176 rfl (m176_6 _ M41 hP42) (cqI ?_))
            rintro v84 M80 ⟨hP81, hQ82, h85, h86⟩
            have hF83 : Fr fm_m153_6v4 M0 M80 := hF44.tr hQ82 rfl
            subst hQ; exact wk_zret r153_96 ⟨by omega, by omega⟩ (⟨rfl, _, rfl, hP81, hF83, by omega, by omega⟩)
        · intro h87
          refine wk_al0 r153_70 (wk_c2 r153_71 (wk_al0 r153_73 (wk_c1 r153_74 (wk_c1 r153_75 (wk_cv3 r153_76 kc_6_167 rfl (m167_6v1 _ M33 0 1 hP34 (by decide) (by decide) (by decide) (by decide)) (cqI ?_))))))
          rintro v92 M88 ⟨hP89, hQ90, h93, h94⟩
          have hF91 : Fr fm_m153_6v4 M0 M88 := hF36.tr hQ90 rfl
          refine wk_cv3 r153_79 kc_6_171 rfl (m171_6 _ M88 46 v92 hP89 (by decide) (by decide) (by omega) (by omega)) (cqI ?_)
          rintro v99 M95 ⟨hP96, hQ97, h100, h101⟩
          have hF98 : Fr fm_m153_6v4 M0 M95 := hF91.tr hQ97 rfl
          subst hQ; exact wk_zret r153_82 ⟨by omega, by omega⟩ (⟨rfl, _, rfl, hP96, hF98, by omega, by omega⟩)
      · intro h102
        refine wk_al0 r153_47 (wk_c2 r153_48 (wk_al0 r153_50 (wk_c1 r153_51 (wk_c2 r153_52 (wk_cv3 r153_54 kc_6_167 rfl (m167_6v2 _ M25 0 6 hP26 (by decide) (by decide) (by decide) (by decide)) (cqI ?_))))))
        rintro v107 M103 ⟨hP104, hQ105, h108, h109⟩
        have hF106 : Fr fm_m153_6v4 M0 M103 := hF28.tr hQ105 rfl
        refine wk_cv3 r153_57 kc_6_171 rfl (m171_6v1 _ M103 39 v107 hP104 (by decide) (by decide) (by omega) (by omega)) (cqI ?_)
        rintro v114 M110 ⟨hP111, hQ112, h115, h116⟩
        have hF113 : Fr fm_m153_6v4 M0 M110 := hF106.tr hQ112 rfl
        subst hQ; exact wk_zret r153_60 ⟨by omega, by omega⟩ (⟨rfl, _, rfl, hP111, hF113, by omega, by omega⟩)
    · intro h117
      refine wk_al0 r153_25 (wk_c2 r153_26 (wk_al0 r153_28 (wk_c1 r153_29 (wk_c1 r153_30 (wk_cv3 r153_31 kc_6_167 rfl (m167_6v3 _ M17 0 3 hP18 (by decide) (by decide) (by decide) (by decide)) (cqI ?_))))))
      rintro v122 M118 ⟨hP119, hQ120, h123, h124⟩
      have hF121 : Fr fm_m153_6v4 M0 M118 := hF20.tr hQ120 rfl
      refine wk_cv3 r153_34 kc_6_171 rfl (m171_6v2 _ M118 35 v122 hP119 (by decide) (by decide) (by omega) (by omega)) (cqI ?_)
      rintro v129 M125 ⟨hP126, hQ127, h130, h131⟩
      have hF128 : Fr fm_m153_6v4 M0 M125 := hF121.tr hQ127 rfl
      subst hQ; exact wk_zret r153_37 ⟨by omega, by omega⟩ (⟨rfl, _, rfl, hP126, hF128, by omega, by omega⟩)
  · intro h132
    refine wk_al0 r153_10 (wk_il1 r153_11 (wk_cv2 r153_12 kc_6_152 rfl (m152_6v4 _ M0 p1 hP0 (by omega) (by omega)) (cqI ?_)))
    rintro v137 M133 ⟨hP134, hQ135, h138, h139⟩
    have hF136 : Fr fm_m153_6v4 M0 M133 := hF0.tr hQ135 rfl
    subst hQ; exact wk_zret r153_15 ⟨by omega, by omega⟩ (⟨rfl, _, rfl, hP134, hF136, by omega, by omega⟩)
def fm_m166_6v4 : Nat := 3941070043873280
/-- IslandHall$Parser.negation -/
theorem m166_6v4 {B : eB} (d : Nat) (M0 : Mm) (p1 : Int) (hP0 : Pw M0) (l1 : 4 ≤ p1) (u1 : p1 ≤ 4) : Ct B (d + 14) 166 [R 6, I p1] M0 (qI fun z M => Pw M ∧ Fr fm_m166_6v4 M0 M ∧ 0 ≤ z ∧ z ≤ 1) := by
  refine ct_of (d := d + 13) (k := 2) (L := [some (R 6), some (I p1), none, none]) rfl rfl rfl ?_
  have hF0 := Fr.rf fm_m166_6v4 M0
  generalize hQ : (qI fun z M => Pw M ∧ Fr fm_m166_6v4 M0 M ∧ 0 ≤ z ∧ z ≤ 1) = Q
  refine wk_c1 r166_0 (wk_is2 r166_1 rfl ?_)
  have c2_551 : ∀ (k551 : Nat) (M472 : Mm) (v469 : Int), (6 - v469).toNat = k551 → Pw M472 → Fr fm_m166_6v4 M0 M472 → 0 ≤ v469 → v469 ≤ 6 → Wp B (d + 13) 166 2 [some (R 6), some (I p1), some (I v469), none] [] M472 Q := by
    refine lp_ind ?_
    intro k551 ih551 M472 v469 hk551 hP473 hF474 h470 h471
    refine wk_il2 r166_2 (wk_c2 r166_3 ?_)
    have c23_550 : ∀ (M486 : Mm), Pw M486 → Fr fm_m166_6v4 M0 M486 → Wp B (d + 13) 166 23 [some (R 6), some (I p1), some (I v469), none] [] M486 Q := by
      intro M486 hP487 hF488
      refine wk_al0 r166_23 (wk_getfr r166_24 fd_6_0 (br_6_0 hP487) (wk_c8 r166_27 (wk_cv2 r166_29 kc_9_239 rfl (m239_9 _ M486 4119 hP487 (by decide)) (cqI ?_))))
      rintro v494 M489 ⟨hP490, hQ491, h495, h496, xh493⟩
      obtain rfl := Fr.same hQ491
      refine wk_ifeq r166_32 ⟨by omega, by omega⟩ ?_ ?_
      · intro h497
        refine wk_al0 r166_41 (wk_getfr r166_42 fd_6_0 (br_6_0 hP487) (wk_c2 r166_45 (wk_cv2 r166_47 kc_9_238 rfl (m238_9 _ M486 40 hP487 (by decide) (by decide)) (cqI ?_))))
        rintro v502 M498 ⟨hP499, hQ500, h503, h504⟩
        obtain rfl := Fr.same hQ500
        have c66_541 : ∀ (M524 : Mm) (v521 : Int), Pw M524 → Fr fm_m166_6v4 M0 M524 → 0 ≤ v521 → v521 ≤ 1 → Wp B (d + 13) 166 66 [some (R 6), none, some (I v469), none] [I v521] M524 Q := by
          intro M524 v521 hP525 hF526 h522 h523
          refine wk_is3 r166_66 rfl (wk_il3 r166_67 ?_)
          refine wk_ifeq r166_68 ⟨by omega, by omega⟩ ?_ ?_
          · intro h527
            refine wk_c1 r166_90 ?_
            subst hQ; exact wk_zret r166_91 (by decide) (⟨rfl, _, rfl, hP525, hF526, by omega, by omega⟩)
          · intro h528
            refine wk_il2 r166_71 (wk_c1 r166_72 (wk_iandc 1 2 r166_73 ⟨rfl, by decide⟩ rfl ?_))
            refine wk_ifeq r166_74 ⟨by omega, by omega⟩ ?_ ?_
            · intro h530
              refine wk_c1 r166_86 (wk_goto r166_87 ?_)
              subst hQ; exact wk_zret r166_91 (by decide) (⟨rfl, _, rfl, hP525, hF526, by omega, by omega⟩)
            · intro h531
              refine wk_al0 r166_77 (wk_c1 r166_78 (wk_c1 r166_79 (wk_cv3 r166_80 kc_6_172 rfl (m172_6 _ M524 1 0 hP525 (by decide) (by decide) (by decide) (by decide) (by first | assumption | omega | (unfold stepok; omega))) (cqI ?_))))
              rintro v536 M532 ⟨hP533, hQ534, h537, h538⟩
              have hF535 : Fr fm_m166_6v4 M0 M532 := hF526.tr hQ534 rfl
              refine wk_ifeq r166_83 ⟨by omega, by omega⟩ ?_ ?_
              · intro h539
                exfalso
                omega
              · intro h540
                refine wk_c1 r166_86 (wk_goto r166_87 ?_)
                subst hQ; exact wk_zret r166_91 (by decide) (⟨rfl, _, rfl, hP533, hF535, by omega, by omega⟩)
        refine wk_ifeq r166_50 ⟨by omega, by omega⟩ ?_ ?_
        · intro h505
          refine wk_al0 r166_61 (wk_il1 r166_62 (wk_cv2 r166_63 kc_6_153 rfl (m153_6v4 _ M486 p1 hP487 (by omega) (by omega)) (cqI ?_)))
          rintro v510 M506 ⟨hP507, hQ508, h511, h512⟩
          have hF509 : Fr fm_m166_6v4 M0 M506 := hF488.tr hQ508 rfl
          exact wp_fg (le_s (le_n (le_s (le_s le_0)))) (c66_541 M506 v510 hP507 hF509 (by omega) (by omega))
        · intro h513
          refine wk_al0 r166_53 (wk_il1 r166_54 (wk_cv2 r166_55 kc_6_168 rfl (m168_6v4 _ M486 p1 hP487 (by omega) (by omega)) (cqI ?_)))
          rintro v518 M514 ⟨hP515, hQ516, h519, h520⟩
          have hF517 : Fr fm_m166_6v4 M0 M514 := hF488.tr hQ516 rfl
          refine wk_goto r166_58 ?_
          exact wp_fg (le_s (le_n (le_s (le_s le_0)))) (c66_541 M514 v518 hP515 hF517 (by omega) (by omega))
      · intro h542
        refine wk_al0 r166_35 (wk_c1 r166_36 (wk_cv2 r166_37 kc_6_159 rfl (m159_6v1 _ M486 2 hP487 (by decide) (by decide)) (cqI ?_)))
        rintro v547 M543 ⟨hP544, hQ545, h548, h549⟩
        have hF546 : Fr fm_m166_6v4 M0 M543 := hF488.tr hQ545 rfl
        subst hQ; exact wk_zret r166_40 ⟨by omega, by omega⟩ (⟨rfl, _, rfl, hP544, hF546, by omega, by omega⟩)
    refine wk_icge r166_5 ⟨by omega, by omega⟩ (by decide) ?_ ?_
    · intro h475
      exact wp_fg (le_s (le_s (le_s (le_s le_0)))) (c23_550 M472 hP473 hF474)
    · intro h476
      refine wk_al0 r166_8 (wk_c8 r166_9 (wk_cv2 r166_11 kc_6_175 rfl (m175_6 _ M472 4119 hP473 (by decide)) (cqI ?_)))
      rintro v481 M477 ⟨hP478, hQ479, h482, h483⟩
      have hF480 : Fr fm_m166_6v4 M0 M477 := hF474.tr hQ479 rfl
      refine wk_ifeq r166_14 ⟨by omega, by omega⟩ ?_ ?_
      · intro h484
        exact wp_fg (le_s (le_s (le_s (le_s le_0)))) (c23_550 M477 hP478 hF480)
      · intro h485
        refine wk_inc2 r166_17 rfl (wk_goto r166_20 ?_)
        exact wp_fg (le_s (le_s (le_s (le_s le_0)))) (ih551 (6 - (v469 + 1)).toNat (by omega) M477 (v469 + 1) rfl hP478 hF480 (by omega) (by omega))
  exact wp_fg (le_s (le_s (le_s (le_s le_0)))) (c2_551 _ M0 0 rfl hP0 hF0 (by omega) (by omega))
def fm_m157_6v4 : Nat := 3941070043873280
/-- IslandHall$Parser.conjunction -/
theorem m157_6v4 {B : eB} (d : Nat) (M0 : Mm) (p1 : Int) (hP0 : Pw M0) (l1 : 4 ≤ p1) (u1 : p1 ≤ 4) : Ct B (d + 15) 157 [R 6, I p1] M0 (qI fun z M => Pw M ∧ Fr fm_m157_6v4 M0 M ∧ 0 ≤ z ∧ z ≤ 1) := by
  refine ct_of (d := d + 14) (k := 1) (L := [some (R 6), some (I p1), none]) rfl rfl rfl ?_
  have hF0 := Fr.rf fm_m157_6v4 M0
  generalize hQ : (qI fun z M => Pw M ∧ Fr fm_m157_6v4 M0 M ∧ 0 ≤ z ∧ z ≤ 1) = Q
  refine wk_al0 r157_0 (wk_il1 r157_1 (wk_cv2 r157_2 kc_6_166 rfl (m166_6v4 _ M0 p1 hP0 (by omega) (by omega)) (cqI ?_)))
  rintro v5 M1 ⟨hP2, hQ3, h6, h7⟩
  have hF4 : Fr fm_m157_6v4 M0 M1 := hF0.tr hQ3 rfl
  refine wk_ifne r157_5 ⟨by omega, by omega⟩ ?_ ?_
  · intro h8
    refine wk_c1 r157_10 (wk_is2 r157_11 rfl ?_)
    have c12_359 : ∀ (k359 : Nat) (M327 : Mm) (v324 : Int), (500 - v324).toNat = k359 → Pw M327 → Fr fm_m157_6v4 M0 M327 → 0 ≤ v324 → v324 ≤ 500 → Wp B (d + 14) 157 12 [some (R 6), some (I p1), some (I v324)] [] M327 Q := by
      refine lp_ind ?_
      intro k359 ih359 M327 v324 hk359 hP328 hF329 h325 h326
      refine wk_il2 r157_12 (wk_c3 r157_13 ?_)
      refine wk_icge r157_16 ⟨by omega, by omega⟩ (by decide) ?_ ?_
      · intro h330
        refine wk_c1 r157_53 ?_
        subst hQ; exact wk_zret r157_54 (by decide) (⟨rfl, _, rfl, hP328, hF329, by omega, by omega⟩)
      · intro h331
        refine wk_al0 r157_19 (wk_c8 r157_20 (wk_cv2 r157_22 kc_6_175 rfl (m175_6 _ M327 4125 hP328 (by decide)) (cqI ?_)))
        rintro v336 M332 ⟨hP333, hQ334, h337, h338⟩
        have hF335 : Fr fm_m157_6v4 M0 M332 := hF329.tr hQ334 rfl
        refine wk_ifeq r157_25 ⟨by omega, by omega⟩ ?_ ?_
        · intro h339
          refine wk_c1 r157_53 ?_
          subst hQ; exact wk_zret r157_54 (by decide) (⟨rfl, _, rfl, hP333, hF335, by omega, by omega⟩)
        · intro h340
          refine wk_al0 r157_28 (wk_il1 r157_29 (wk_cv2 r157_30 kc_6_166 rfl (m166_6v4 _ M332 p1 hP333 (by omega) (by omega)) (cqI ?_)))
          rintro v345 M341 ⟨hP342, hQ343, h346, h347⟩
          have hF344 : Fr fm_m157_6v4 M0 M341 := hF335.tr hQ343 rfl
          refine wk_ifeq r157_33 ⟨by omega, by omega⟩ ?_ ?_
          · intro h348
            refine wk_c1 r157_45 ?_
            subst hQ; exact wk_zret r157_46 (by decide) (⟨rfl, _, rfl, hP342, hF344, by omega, by omega⟩)
          · intro h349
            refine wk_al0 r157_36 (wk_c1 r157_37 (wk_c1 r157_38 (wk_cv3 r157_39 kc_6_172 rfl (m172_6 _ M341 2 0 hP342 (by decide) (by decide) (by decide) (by decide) (by first | assumption | omega | (unfold stepok; omega))) (cqI ?_))))
            rintro v354 M350 ⟨hP351, hQ352, h355, h356⟩
            have hF353 : Fr fm_m157_6v4 M0 M350 := hF344.tr hQ352 rfl
            refine wk_ifne r157_42 ⟨by omega, by omega⟩ ?_ ?_
            · intro h357
              refine wk_inc2 r157_47 rfl (wk_goto r157_50 ?_)
              exact wp_fg (le_s (le_s (le_s le_0))) (ih359 (500 - (v324 + 1)).toNat (by omega) M350 (v324 + 1) rfl hP351 hF353 (by omega) (by omega))
            · intro h358
              exfalso
              omega
    exact wp_fg (le_s (le_s (le_s le_0))) (c12_359 _ M1 0 rfl hP2 hF4 (by omega) (by omega))
  · intro h360
    refine wk_c1 r157_8 ?_
    subst hQ; exact wk_zret r157_9 (by decide) (⟨rfl, _, rfl, hP2, hF4, by omega, by omega⟩)
def fm_m158_6v4 : Nat := 3941070043873280
/-- IslandHall$Parser.expr -/
theorem m158_6v4 {B : eB} (d : Nat) (M0 : Mm) (p1 : Int) (hP0 : Pw M0) (l1 : 4 ≤ p1) (u1 : p1 ≤ 4) : Ct B (d + 16) 158 [R 6, I p1] M0 (qI fun z M => Pw M ∧ Fr fm_m158_6v4 M0 M ∧ 0 ≤ z ∧ z ≤ 1) := by
  refine ct_of (d := d + 15) (k := 1) (L := [some (R 6), some (I p1), none]) rfl rfl rfl ?_
  have hF0 := Fr.rf fm_m158_6v4 M0
  generalize hQ : (qI fun z M => Pw M ∧ Fr fm_m158_6v4 M0 M ∧ 0 ≤ z ∧ z ≤ 1) = Q
  refine wk_al0 r158_0 (wk_cv1 r158_1 kc_6_155 rfl (m155_6 _ M0 hP0) (cqI ?_))
  rintro v5 M1 ⟨hP2, hQ3, h6, h7⟩
  obtain rfl := Fr.same hQ3
  refine wk_ifne r158_4 ⟨by omega, by omega⟩ ?_ ?_
  · intro h8
    refine wk_il1 r158_13 (wk_c2 r158_14 ?_)
    refine wk_iclt r158_16 ⟨by omega, by omega⟩ (by decide) ?_ ?_
    · intro h9
      refine wk_al0 r158_25 (wk_il1 r158_26 (wk_cv2 r158_27 kc_6_157 rfl (m157_6v4 _ M0 p1 hP0 (by omega) (by omega)) (cqI ?_)))
      rintro v14 M10 ⟨hP11, hQ12, h15, h16⟩
      have hF13 : Fr fm_m158_6v4 M0 M10 := hF0.tr hQ12 rfl
      refine wk_ifne r158_30 ⟨by omega, by omega⟩ ?_ ?_
      · intro h17
        refine wk_c1 r158_35 (wk_is2 r158_36 rfl ?_)
        have c37_368 : ∀ (k368 : Nat) (M336 : Mm) (v333 : Int), (500 - v333).toNat = k368 → Pw M336 → Fr fm_m158_6v4 M0 M336 → 0 ≤ v333 → v333 ≤ 500 → Wp B (d + 15) 158 37 [some (R 6), some (I p1), some (I v333)] [] M336 Q := by
          refine lp_ind ?_
          intro k368 ih368 M336 v333 hk368 hP337 hF338 h334 h335
          refine wk_il2 r158_37 (wk_c3 r158_38 ?_)
          refine wk_icge r158_41 ⟨by omega, by omega⟩ (by decide) ?_ ?_
          · intro h339
            refine wk_c1 r158_78 ?_
            subst hQ; exact wk_zret r158_79 (by decide) (⟨rfl, _, rfl, hP337, hF338, by omega, by omega⟩)
          · intro h340
            refine wk_al0 r158_44 (wk_c8 r158_45 (wk_cv2 r158_47 kc_6_175 rfl (m175_6 _ M336 4126 hP337 (by decide)) (cqI ?_)))
            rintro v345 M341 ⟨hP342, hQ343, h346, h347⟩
            have hF344 : Fr fm_m158_6v4 M0 M341 := hF338.tr hQ343 rfl
            refine wk_ifeq r158_50 ⟨by omega, by omega⟩ ?_ ?_
            · intro h348
              refine wk_c1 r158_78 ?_
              subst hQ; exact wk_zret r158_79 (by decide) (⟨rfl, _, rfl, hP342, hF344, by omega, by omega⟩)
            · intro h349
              refine wk_al0 r158_53 (wk_il1 r158_54 (wk_cv2 r158_55 kc_6_157 rfl (m157_6v4 _ M341 p1 hP342 (by omega) (by omega)) (cqI ?_)))
              rintro v354 M350 ⟨hP351, hQ352, h355, h356⟩
              have hF353 : Fr fm_m158_6v4 M0 M350 := hF344.tr hQ352 rfl
              refine wk_ifeq r158_58 ⟨by omega, by omega⟩ ?_ ?_
              · intro h357
                refine wk_c1 r158_70 ?_
                subst hQ; exact wk_zret r158_71 (by decide) (⟨rfl, _, rfl, hP351, hF353, by omega, by omega⟩)
              · intro h358
                refine wk_al0 r158_61 (wk_c1 r158_62 (wk_c1 r158_63 (wk_cv3 r158_64 kc_6_172 rfl (m172_6 _ M350 3 0 hP351 (by decide) (by decide) (by decide) (by decide) (by first | assumption | omega | (unfold stepok; omega))) (cqI ?_))))
                rintro v363 M359 ⟨hP360, hQ361, h364, h365⟩
                have hF362 : Fr fm_m158_6v4 M0 M359 := hF353.tr hQ361 rfl
                refine wk_ifne r158_67 ⟨by omega, by omega⟩ ?_ ?_
                · intro h366
                  refine wk_inc2 r158_72 rfl (wk_goto r158_75 ?_)
                  exact wp_fg (le_s (le_s (le_s le_0))) (ih368 (500 - (v333 + 1)).toNat (by omega) M359 (v333 + 1) rfl hP360 hF362 (by omega) (by omega))
                · intro h367
                  exfalso
                  omega
        exact wp_fg (le_s (le_s (le_s le_0))) (c37_368 _ M10 0 rfl hP11 hF13 (by omega) (by omega))
      · intro h369
        refine wk_c1 r158_33 ?_
        subst hQ; exact wk_zret r158_34 (by decide) (⟨rfl, _, rfl, hP11, hF13, by omega, by omega⟩)
    · intro h370
      exfalso
      omega
  · intro h371
    refine wk_al0 r158_7 (wk_c1 r158_8 (wk_cv2 r158_9 kc_6_159 rfl (m159_6 _ M0 1 hP0 (by decide) (by decide)) (cqI ?_)))
    rintro v376 M372 ⟨hP373, hQ374, h377, h378⟩
    have hF375 : Fr fm_m158_6v4 M0 M372 := hF0.tr hQ374 rfl
    subst hQ; exact wk_zret r158_12 ⟨by omega, by omega⟩ (⟨rfl, _, rfl, hP373, hF375, by omega, by omega⟩)
def fm_m168_6v3 : Nat := 3941070043873280
/-- IslandHall$Parser.parenthesis -/
theorem m168_6v3 {B : eB} (d : Nat) (M0 : Mm) (p1 : Int) (hP0 : Pw M0) (l1 : 3 ≤ p1) (u1 : p1 ≤ 3) : Ct B (d + 17) 168 [R 6, I p1] M0 (qI fun z M => Pw M ∧ Fr fm_m168_6v3 M0 M ∧ 0 ≤ z ∧ z ≤ 1) := by
  refine ct_of (d := d + 16) (k := 0) (L := [some (R 6), some (I p1)]) rfl rfl rfl ?_
  have hF0 := Fr.rf fm_m168_6v3 M0
  generalize hQ : (qI fun z M => Pw M ∧ Fr fm_m168_6v3 M0 M ∧ 0 ≤ z ∧ z ≤ 1) = Q
  refine wk_al0 r168_0 (wk_c2 r168_1 (wk_cv2 r168_3 kc_6_174 rfl (m174_6 _ M0 40 hP0 (by decide) (by decide)) (cqI ?_)))
  rintro v5 M1 ⟨hP2, hQ3, h6, h7⟩
  have hF4 : Fr fm_m168_6v3 M0 M1 := hF0.tr hQ3 rfl
  refine wk_ifeq r168_6 ⟨by omega, by omega⟩ ?_ ?_
  · intro h8
    refine wk_c1 r168_32 ?_
    subst hQ; exact wk_zret r168_33 (by decide) (⟨rfl, _, rfl, hP2, hF4, by omega, by omega⟩)
  · intro h9
    refine wk_al0 r168_9 (wk_il1 r168_10 (wk_c1 r168_11 (wk_iadd r168_12 (wk_cv2 r168_13 kc_6_158 rfl (m158_6v4 _ M1 (p1 + 1) hP2 (by omega) (by omega)) (cqI ?_)))))
    rintro v14 M10 ⟨hP11, hQ12, h15, h16⟩
    have hF13 : Fr fm_m168_6v3 M0 M10 := hF4.tr hQ12 rfl
    refine wk_ifeq r168_16 ⟨by omega, by omega⟩ ?_ ?_
    · intro h17
      refine wk_c1 r168_32 ?_
      subst hQ; exact wk_zret r168_33 (by decide) (⟨rfl, _, rfl, hP11, hF13, by omega, by omega⟩)
    · intro h18
      refine wk_al0 r168_19 (wk_c2 r168_20 (wk_cv2 r168_22 kc_6_174 rfl (m174_6v1 _ M10 41 hP11 (by decide) (by decide)) (cqI ?_)))
      rintro v23 M19 ⟨hP20, hQ21, h24, h25⟩
      have hF22 : Fr fm_m168_6v3 M0 M19 := hF13.tr hQ21 rfl
      refine wk_ifeq r168_25 ⟨by omega, by omega⟩ ?_ ?_
      · intro h26
        refine wk_c1 r168_32 ?_
        subst hQ; exact wk_zret r168_33 (by decide) (⟨rfl, _, rfl, hP20, hF22, by omega, by omega⟩)
      · intro h27
        refine wk_c1 r168_28 (wk_goto r168_29 ?_)
        subst hQ; exact wk_zret r168_33 (by decide) (⟨rfl, _, rfl, hP20, hF22, by omega, by omega⟩)
def fm_m152_6v3 : Nat := 3941070043873280
/-- IslandHall$Parser.aboutSomeone -/
theorem m152_6v3 {B : eB} (d : Nat) (M0 : Mm) (p1 : Int) (hP0 : Pw M0) (l1 : 3 ≤ p1) (u1 : p1 ≤ 3) : Ct B (d + 18) 152 [R 6, I p1] M0 (qI fun z M => Pw M ∧ Fr fm_m152_6v3 M0 M ∧ 0 ≤ z ∧ z ≤ 1) := by
  refine ct_of (d := d + 17) (k := 2) (L := [some (R 6), some (I p1), none, none]) rfl rfl rfl ?_
  have hF0 := Fr.rf fm_m152_6v3 M0
  generalize hQ : (qI fun z M => Pw M ∧ Fr fm_m152_6v3 M0 M ∧ 0 ≤ z ∧ z ≤ 1) = Q
  refine wk_al0 r152_0 (wk_cv1 r152_1 kc_6_165 rfl (m165_6 _ M0 hP0) (cqI ?_))
  rintro v5 M1 ⟨hP2, hQ3, h6, h7⟩
  have hF4 : Fr fm_m152_6v3 M0 M1 := hF0.tr hQ3 rfl
  refine wk_is2 r152_4 rfl (wk_il2 r152_5 (wk_c1 r152_6 ?_))
  refine wk_icne r152_7 ⟨by omega, by omega⟩ (by decide) ?_ ?_
  · intro h8
    refine wk_al0 r152_12 (wk_c8 r152_13 (wk_cv2 r152_15 kc_6_175 rfl (m175_6 _ M1 4111 hP2 (by decide)) (cqI ?_)))
    rintro v13 M9 ⟨hP10, hQ11, h14, h15⟩
    have hF12 : Fr fm_m152_6v3 M0 M9 := hF4.tr hQ11 rfl
    refine wk_ifeq r152_18 ⟨by omega, by omega⟩ ?_ ?_
    · intro h16
      refine wk_al0 r152_35 (wk_c8 r152_36 (wk_cv2 r152_38 kc_6_175 rfl (m175_6 _ M9 4112 hP10 (by decide)) (cqI ?_)))
      rintro v21 M17 ⟨hP18, hQ19, h22, h23⟩
      have hF20 : Fr fm_m152_6v3 M0 M17 := hF12.tr hQ19 rfl
      refine wk_ifeq r152_41 ⟨by omega, by omega⟩ ?_ ?_
      · intro h24
        refine wk_al0 r152_73 (wk_c8 r152_74 (wk_cv2 r152_76 kc_6_175 rfl (m175_6 _ M17 4113 hP18 (by decide)) (cqI ?_)))
        rintro v29 M25 ⟨hP26, hQ27, h30, h31⟩
        have hF28 : Fr fm_m152_6v3 M0 M25 := hF20.tr hQ27 rfl
        refine wk_ifne r152_79 ⟨by omega, by omega⟩ ?_ ?_
        · intro h32
          refine wk_al0 r152_88 (wk_il1 r152_89 (wk_cv2 r152_90 kc_6_168 rfl (m168_6v3 _ M25 p1 hP26 (by omega) (by omega)) (cqI ?_)))
          rintro v37 M33 ⟨hP34, hQ35, h38, h39⟩
          have hF36 : Fr fm_m152_6v3 M0 M33 := hF28.tr hQ35 rfl
          refine wk_ifne r152_93 ⟨by omega, by omega⟩ ?_ ?_
          · intro h40
            refine wk_al0 r152_98 ?_
            obtain ⟨v41, e42⟩ : ∃ v, M33 6 2 = v := ⟨_, rfl⟩
            have hC43 : isC v41 := by have := pcE hP34; rw [e42] at this; exact this
            refine wk_getfr r152_99 fd_6_2 e42 (wk_il2 r152_102 (wk_cv2 r152_103 (kcC_139 hC43) rfl (m139 _ M33 v41 v5 hP34 hC43 (by omega) (by omega)) (cqV ?_)))
            rintro M44 ⟨hP45, hQ46⟩
            have hF47 : Fr fm_m152_6v3 M0 M44 := hF36.tr hQ46 rfl
            refine wk_c1 r152_106 ?_
            subst hQ; exact wk_zret r152_107 (by decide) (⟨rfl, _, rfl, hP45, hF47, by omega, by omega⟩)
          · intro h48
            refine wk_c1 r152_96 ?_
            subst hQ; exact wk_zret r152_97 (by decide) (⟨rfl, _, rfl, hP34, hF36, by omega, by omega⟩)
        · intro h49
          refine wk_al0 r152_82 (wk_c1 r152_83 (wk_cv2 r152_84 kc_6_159 rfl (m159_6 _ M25 1 hP26 (by decide) (by decide)) (cqI ?_)))
          rintro v54 M50 ⟨hP51, hQ52, h55, h56⟩
          have hF53 : Fr fm_m152_6v3 M0 M50 := hF28.tr hQ52 rfl
          subst hQ; exact wk_zret r152_87 ⟨by omega, by omega⟩ (⟨rfl, _, rfl, hP51, hF53, by omega, by omega⟩)
      · intro h57
        refine wk_al0 r152_44 (wk_cv1 r152_45 kc_6_165 rfl (m165_6 _ M17 hP18) (cqI ?_))
        rintro v62 M58 ⟨hP59, hQ60, h63, h64⟩
        have hF61 : Fr fm_m152_6v3 M0 M58 := hF20.tr hQ60 rfl
        refine wk_is3 r152_48 rfl (wk_il3 r152_49 (wk_c1 r152_50 ?_))
        refine wk_iceq r152_51 ⟨by omega, by omega⟩ (by decide) ?_ ?_
        · intro h65
          refine wk_c1 r152_71 ?_
          subst hQ; exact wk_zret r152_72 (by decide) (⟨rfl, _, rfl, hP59, hF61, by omega, by omega⟩)
        · intro h66
          refine wk_al0 r152_54 (wk_c1 r152_55 (wk_il2 r152_56 (wk_c1 r152_57 (wk_ishlc r152_58 (by decide) pwl_3 (wk_il3 r152_59 (wk_iord2 3 8 r152_60 (by decide) ⟨by omega, by omega⟩ ⟨by omega, by omega, by omega⟩ (wk_cv3 r152_61 kc_6_172 rfl (m172_6 _ M58 5 ((v5 * 8) + v62) hP59 (by decide) (by decide) (by omega) (by omega) (by first | assumption | omega | (unfold stepok; omega))) (cqI ?_))))))))
          rintro v71 M67 ⟨hP68, hQ69, h72, h73⟩
          have hF70 : Fr fm_m152_6v3 M0 M67 := hF61.tr hQ69 rfl
          refine wk_ifeq r152_64 ⟨by omega, by omega⟩ ?_ ?_
          · intro h74
            exfalso
            omega
          · intro h75
            refine wk_c1 r152_67 (wk_goto r152_68 ?_)
            subst hQ; exact wk_zret r152_72 (by decide) (⟨rfl, _, rfl, hP68, hF70, by omega, by omega⟩)
    · intro h76
      refine wk_al0 r152_21 (wk_c1 r152_22 (wk_il2 r152_23 (wk_c1 r152_24 (wk_imul r152_25 (wk_iadd r152_26 (wk_al0 r152_27 (wk_cv1 r152_28 kc_6_173 rfl (m173_6 _ M9 hP10) (cqI ?_))))))))
      rintro v81 M77 ⟨hP78, hQ79, h82, h83⟩
      have hF80 : Fr fm_m152_6v3 M0 M77 := hF12.tr hQ79 rfl
      refine wk_cv3 r152_31 kc_6_171 rfl (m171_6v3 _ M77 (0 + (v5 * 5)) v81 hP78 (by omega) (by omega) (by omega) (by omega)) (cqI ?_)
      rintro v88 M84 ⟨hP85, hQ86, h89, h90⟩
      have hF87 : Fr fm_m152_6v3 M0 M84 := hF80.tr hQ86 rfl
      subst hQ; exact wk_zret r152_34 ⟨by omega, by omega⟩ (⟨rfl, _, rfl, hP85, hF87, by omega, by omega⟩)
  · intro h91
    refine wk_c1 r152_10 ?_
    subst hQ; exact wk_zret r152_11 (by decide) (⟨rfl, _, rfl, hP2, hF4, by omega, by omega⟩)
def fm_m153_6v3 : Nat := 3941070043873280
/-- IslandHall$Parser.atom -/
theorem m153_6v3 {B : eB} (d : Nat) (M0 : Mm) (p1 : Int) (hP0 : Pw M0) (l1 : 3 ≤ p1) (u1 : p1 ≤ 3) : Ct B (d + 19) 153 [R 6, I p1] M0 (qI fun z M => Pw M ∧ Fr fm_m153_6v3 M0 M ∧ 0 ≤ z ∧ z ≤ 1) := by
  refine ct_of (d := d + 18) (k := 0) (L := [some (R 6), some (I p1)]) rfl rfl rfl ?_
  have hF0 := Fr.rf fm_m153_6v3 M0
  generalize hQ : (qI fun z M => Pw M ∧ Fr fm_m153_6v3 M0 M ∧ 0 ≤ z ∧ z ≤ 1) = Q
  refine wk_al0 r153_0 (wk_getfr r153_1 fd_6_0 (br_6_0 hP0) (wk_cv1 r153_4 kc_9_237 rfl (m237_9 _ M0 hP0) (cqI ?_)))
  rintro v7 M1 ⟨hP2, hQ3, h8, h9, h5, h6⟩
  obtain rfl := Fr.same hQ3
  obtain ⟨v10, e11⟩ : ∃ v, M0 9 2 = v := ⟨_, rfl⟩
  have h12 := bf_9_2 hP0; rw [e11] at h12
  obtain ⟨v13, e14⟩ : ∃ v, M0 9 3 = v := ⟨_, rfl⟩
  have h15 := bf_9_3 hP0; rw [e14] at h15
  refine wk_ifeq r153_7 ⟨by omega, by omega⟩ ?_ ?_
  · intro h16
    refine wk_al0 r153_16 (wk_c8 r153_17 (wk_cv2 r153_19 kc_6_175 rfl (m175_6 _ M0 4114 hP0 (by decide)) (cqI ?_)))
    rintro v21 M17 ⟨hP18, hQ19, h22, h23⟩
    have hF20 : Fr fm_m153_6v3 M0 M17 := hF0.tr hQ19 rfl
    refine wk_ifeq r153_22 ⟨by omega, by omega⟩ ?_ ?_
    · intro h24
      refine wk_al0 r153_38 (wk_c8 r153_39 (wk_cv2 r153_41 kc_6_175 rfl (m175_6 _ M17 4115 hP18 (by decide)) (cqI ?_)))
      rintro v29 M25 ⟨hP26, hQ27, h30, h31⟩
      have hF28 : Fr fm_m153_6v3 M0 M25 := hF20.tr hQ27 rfl
      refine wk_ifeq r153_44 ⟨by omega, by omega⟩ ?_ ?_
      · intro h32
        refine wk_al0 r153_61 (wk_c8 r153_62 (wk_cv2 r153_64 kc_6_175 rfl (m175_6 _ M25 4116 hP26 (by decide)) (cqI ?_)))
        rintro v37 M33 ⟨hP34, hQ35, h38, h39⟩
        have hF36 : Fr fm_m153_6v3 M0 M33 := hF28.tr hQ35 rfl
        refine wk_ifeq r153_67 ⟨by omega, by omega⟩ ?_ ?_
        · intro h40
          refine wk_al0 r153_83 (wk_c8 r153_84 (wk_cv2 r153_86 kc_6_175 rfl (m175_6 _ M33 4117 hP34 (by decide)) (cqI ?_)))
          rintro v45 M41 ⟨hP42, hQ43, h46, h47⟩
          have hF44 : Fr fm_m153_6v3 M0 M41 := hF36.tr hQ43 rfl
          refine wk_ifeq r153_89 ⟨by omega, by omega⟩ ?_ ?_
          · intro h48
            refine wk_al0 r153_97 (wk_c8 r153_98 (wk_cv2 r153_100 kc_6_175 rfl (m175_6 _ M41 4118 hP42 (by decide)) (cqI ?_)))
            rintro v53 M49 ⟨hP50, hQ51, h54, h55⟩
            have hF52 : Fr fm_m153_6v3 M0 M49 := hF44.tr hQ51 rfl
            refine wk_ifeq r153_103 ⟨by omega, by omega⟩ ?_ ?_
            · intro h56
              refine wk_al0 r153_117 (wk_c1 r153_118 (wk_cv2 r153_119 kc_6_159 rfl (m159_6 _ M49 1 hP50 (by decide) (by decide)) (cqI ?_)))
              rintro v61 M57 ⟨hP58, hQ59, h62, h63⟩
              have hF60 : Fr fm_m153_6v3 M0 M57 := hF52.tr hQ59 rfl
              subst hQ; exact wk_zret r153_122 ⟨by omega, by omega⟩ (⟨rfl, _, rfl, hP58, hF60, by omega, by omega⟩)
            · intro h64
              refine wk_al0 r153_106 (wk_al0 r153_107 (wk_cv1 r153_108 kc_6_173 rfl (m173_6 _ M49 hP50) (cqI ?_)))
              rintro v69 M65 ⟨hP66, hQ67, h70, h71⟩
              have hF68 : Fr fm_m153_6v3 M0 M65 := hF52.tr hQ67 rfl
              refine wk_cv2 r153_111 kc_6_163 rfl (m163_6 _ M65 v69 hP66 (by omega) (by omega)) (cqI ?_)
              rintro v76 M72 ⟨hP73, hQ74, h77, h78⟩
              have hF75 : Fr fm_m153_6v3 M0 M72 := hF68.tr hQ74 rfl
              refine wk_goto r153_114 ?_
              subst hQ; exact wk_zret r153_122 ⟨by omega, by omega⟩ (⟨rfl, _, rfl, hP73, hF75, by omega, by omega⟩)
          · intro h79
            refine wk_al0 r153_92 (wk_cv1 r153_93 kc_6_176 rfl (m176_6 _ M41 hP42) (cqI ?_))
            rintro v84 M80 ⟨hP81, hQ82, h85, h86⟩
            have hF83 : Fr fm_m153_6v3 M0 M80 := hF44.tr hQ82 rfl
            subst hQ; exact wk_zret r153_96 ⟨by omega, by omega⟩ (⟨rfl, _, rfl, hP81, hF83, by omega, by omega⟩)
        · intro h87
          refine wk_al0 r153_70 (wk_c2 r153_71 (wk_al0 r153_73 (wk_c1 r153_74 (wk_c1 r153_75 (wk_cv3 r153_76 kc_6_167 rfl (m167_6v1 _ M33 0 1 hP34 (by decide) (by decide) (by decide) (by decide)) (cqI ?_))))))
          rintro v92 M88 ⟨hP89, hQ90, h93, h94⟩
          have hF91 : Fr fm_m153_6v3 M0 M88 := hF36.tr hQ90 rfl
          refine wk_cv3 r153_79 kc_6_171 rfl (m171_6 _ M88 46 v92 hP89 (by decide) (by decide) (by omega) (by omega)) (cqI ?_)
          rintro v99 M95 ⟨hP96, hQ97, h100, h101⟩
          have hF98 : Fr fm_m153_6v3 M0 M95 := hF91.tr hQ97 rfl
          subst hQ; exact wk_zret r153_82 ⟨by omega, by omega⟩ (⟨rfl, _, rfl, hP96, hF98, by omega, by omega⟩)
      · intro h102
        refine wk_al0 r153_47 (wk_c2 r153_48 (wk_al0 r153_50 (wk_c1 r153_51 (wk_c2 r153_52 (wk_cv3 r153_54 kc_6_167 rfl (m167_6v2 _ M25 0 6 hP26 (by decide) (by decide) (by decide) (by decide)) (cqI ?_))))))
        rintro v107 M103 ⟨hP104, hQ105, h108, h109⟩
        have hF106 : Fr fm_m153_6v3 M0 M103 := hF28.tr hQ105 rfl
        refine wk_cv3 r153_57 kc_6_171 rfl (m171_6v1 _ M103 39 v107 hP104 (by decide) (by decide) (by omega) (by omega)) (cqI ?_)
        rintro v114 M110 ⟨hP111, hQ112, h115, h116⟩
        have hF113 : Fr fm_m153_6v3 M0 M110 := hF106.tr hQ112 rfl
        subst hQ; exact wk_zret r153_60 ⟨by omega, by omega⟩ (⟨rfl, _, rfl, hP111, hF113, by omega, by omega⟩)
    · intro h117
      refine wk_al0 r153_25 (wk_c2 r153_26 (wk_al0 r153_28 (wk_c1 r153_29 (wk_c1 r153_30 (wk_cv3 r153_31 kc_6_167 rfl (m167_6v3 _ M17 0 3 hP18 (by decide) (by decide) (by decide) (by decide)) (cqI ?_))))))
      rintro v122 M118 ⟨hP119, hQ120, h123, h124⟩
      have hF121 : Fr fm_m153_6v3 M0 M118 := hF20.tr hQ120 rfl
      refine wk_cv3 r153_34 kc_6_171 rfl (m171_6v2 _ M118 35 v122 hP119 (by decide) (by decide) (by omega) (by omega)) (cqI ?_)
      rintro v129 M125 ⟨hP126, hQ127, h130, h131⟩
      have hF128 : Fr fm_m153_6v3 M0 M125 := hF121.tr hQ127 rfl
      subst hQ; exact wk_zret r153_37 ⟨by omega, by omega⟩ (⟨rfl, _, rfl, hP126, hF128, by omega, by omega⟩)
  · intro h132
    refine wk_al0 r153_10 (wk_il1 r153_11 (wk_cv2 r153_12 kc_6_152 rfl (m152_6v3 _ M0 p1 hP0 (by omega) (by omega)) (cqI ?_)))
    rintro v137 M133 ⟨hP134, hQ135, h138, h139⟩
    have hF136 : Fr fm_m153_6v3 M0 M133 := hF0.tr hQ135 rfl
    subst hQ; exact wk_zret r153_15 ⟨by omega, by omega⟩ (⟨rfl, _, rfl, hP134, hF136, by omega, by omega⟩)
def fm_m166_6v3 : Nat := 3941070043873280
/-- IslandHall$Parser.negation -/
theorem m166_6v3 {B : eB} (d : Nat) (M0 : Mm) (p1 : Int) (hP0 : Pw M0) (l1 : 3 ≤ p1) (u1 : p1 ≤ 3) : Ct B (d + 20) 166 [R 6, I p1] M0 (qI fun z M => Pw M ∧ Fr fm_m166_6v3 M0 M ∧ 0 ≤ z ∧ z ≤ 1) := by
  refine ct_of (d := d + 19) (k := 2) (L := [some (R 6), some (I p1), none, none]) rfl rfl rfl ?_
  have hF0 := Fr.rf fm_m166_6v3 M0
  generalize hQ : (qI fun z M => Pw M ∧ Fr fm_m166_6v3 M0 M ∧ 0 ≤ z ∧ z ≤ 1) = Q
  refine wk_c1 r166_0 (wk_is2 r166_1 rfl ?_)
  have c2_551 : ∀ (k551 : Nat) (M472 : Mm) (v469 : Int), (6 - v469).toNat = k551 → Pw M472 → Fr fm_m166_6v3 M0 M472 → 0 ≤ v469 → v469 ≤ 6 → Wp B (d + 19) 166 2 [some (R 6), some (I p1), some (I v469), none] [] M472 Q := by
    refine lp_ind ?_
    intro k551 ih551 M472 v469 hk551 hP473 hF474 h470 h471
    refine wk_il2 r166_2 (wk_c2 r166_3 ?_)
    have c23_550 : ∀ (M486 : Mm), Pw M486 → Fr fm_m166_6v3 M0 M486 → Wp B (d + 19) 166 23 [some (R 6), some (I p1), some (I v469), none] [] M486 Q := by
      intro M486 hP487 hF488
      refine wk_al0 r166_23 (wk_getfr r166_24 fd_6_0 (br_6_0 hP487) (wk_c8 r166_27 (wk_cv2 r166_29 kc_9_239 rfl (m239_9 _ M486 4119 hP487 (by decide)) (cqI ?_))))
      rintro v494 M489 ⟨hP490, hQ491, h495, h496, xh493⟩
      obtain rfl := Fr.same hQ491
      refine wk_ifeq r166_32 ⟨by omega, by omega⟩ ?_ ?_
      · intro h497
        refine wk_al0 r166_41 (wk_getfr r166_42 fd_6_0 (br_6_0 hP487) (wk_c2 r166_45 (wk_cv2 r166_47 kc_9_238 rfl (m238_9 _ M486 40 hP487 (by decide) (by decide)) (cqI ?_))))
        rintro v502 M498 ⟨hP499, hQ500, h503, h504⟩
        obtain rfl := Fr.same hQ500
        have c66_541 : ∀ (M524 : Mm) (v521 : Int), Pw M524 → Fr fm_m166_6v3 M0 M524 → 0 ≤ v521 → v521 ≤ 1 → Wp B (d + 19) 166 66 [some (R 6), none, some (I v469), none] [I v521] M524 Q := by
          intro M524 v521 hP525 hF526 h522 h523
          refine wk_is3 r166_66 rfl (wk_il3 r166_67 ?_)
          refine wk_ifeq r166_68 ⟨by omega, by omega⟩ ?_ ?_
          · intro h527
            refine wk_c1 r166_90 ?_
            subst hQ; exact wk_zret r166_91 (by decide) (⟨rfl, _, rfl, hP525, hF526, by omega, by omega⟩)
          · intro h528
            refine wk_il2 r166_71 (wk_c1 r166_72 (wk_iandc 1 2 r166_73 ⟨rfl, by decide⟩ rfl ?_))
            refine wk_ifeq r166_74 ⟨by omega, by omega⟩ ?_ ?_
            · intro h530
              refine wk_c1 r166_86 (wk_goto r166_87 ?_)
              subst hQ; exact wk_zret r166_91 (by decide) (⟨rfl, _, rfl, hP525, hF526, by omega, by omega⟩)
            · intro h531
              refine wk_al0 r166_77 (wk_c1 r166_78 (wk_c1 r166_79 (wk_cv3 r166_80 kc_6_172 rfl (m172_6 _ M524 1 0 hP525 (by decide) (by decide) (by decide) (by decide) (by first | assumption | omega | (unfold stepok; omega))) (cqI ?_))))
              rintro v536 M532 ⟨hP533, hQ534, h537, h538⟩
              have hF535 : Fr fm_m166_6v3 M0 M532 := hF526.tr hQ534 rfl
              refine wk_ifeq r166_83 ⟨by omega, by omega⟩ ?_ ?_
              · intro h539
                exfalso
                omega
              · intro h540
                refine wk_c1 r166_86 (wk_goto r166_87 ?_)
                subst hQ; exact wk_zret r166_91 (by decide) (⟨rfl, _, rfl, hP533, hF535, by omega, by omega⟩)
        refine wk_ifeq r166_50 ⟨by omega, by omega⟩ ?_ ?_
        · intro h505
          refine wk_al0 r166_61 (wk_il1 r166_62 (wk_cv2 r166_63 kc_6_153 rfl (m153_6v3 _ M486 p1 hP487 (by omega) (by omega)) (cqI ?_)))
          rintro v510 M506 ⟨hP507, hQ508, h511, h512⟩
          have hF509 : Fr fm_m166_6v3 M0 M506 := hF488.tr hQ508 rfl
          exact wp_fg (le_s (le_n (le_s (le_s le_0)))) (c66_541 M506 v510 hP507 hF509 (by omega) (by omega))
        · intro h513
          refine wk_al0 r166_53 (wk_il1 r166_54 (wk_cv2 r166_55 kc_6_168 rfl (m168_6v3 _ M486 p1 hP487 (by omega) (by omega)) (cqI ?_)))
          rintro v518 M514 ⟨hP515, hQ516, h519, h520⟩
          have hF517 : Fr fm_m166_6v3 M0 M514 := hF488.tr hQ516 rfl
          refine wk_goto r166_58 ?_
          exact wp_fg (le_s (le_n (le_s (le_s le_0)))) (c66_541 M514 v518 hP515 hF517 (by omega) (by omega))
      · intro h542
        refine wk_al0 r166_35 (wk_c1 r166_36 (wk_cv2 r166_37 kc_6_159 rfl (m159_6v1 _ M486 2 hP487 (by decide) (by decide)) (cqI ?_)))
        rintro v547 M543 ⟨hP544, hQ545, h548, h549⟩
        have hF546 : Fr fm_m166_6v3 M0 M543 := hF488.tr hQ545 rfl
        subst hQ; exact wk_zret r166_40 ⟨by omega, by omega⟩ (⟨rfl, _, rfl, hP544, hF546, by omega, by omega⟩)
    refine wk_icge r166_5 ⟨by omega, by omega⟩ (by decide) ?_ ?_
    · intro h475
      exact wp_fg (le_s (le_s (le_s (le_s le_0)))) (c23_550 M472 hP473 hF474)
    · intro h476
      refine wk_al0 r166_8 (wk_c8 r166_9 (wk_cv2 r166_11 kc_6_175 rfl (m175_6 _ M472 4119 hP473 (by decide)) (cqI ?_)))
      rintro v481 M477 ⟨hP478, hQ479, h482, h483⟩
      have hF480 : Fr fm_m166_6v3 M0 M477 := hF474.tr hQ479 rfl
      refine wk_ifeq r166_14 ⟨by omega, by omega⟩ ?_ ?_
      · intro h484
        exact wp_fg (le_s (le_s (le_s (le_s le_0)))) (c23_550 M477 hP478 hF480)
      · intro h485
        refine wk_inc2 r166_17 rfl (wk_goto r166_20 ?_)
        exact wp_fg (le_s (le_s (le_s (le_s le_0)))) (ih551 (6 - (v469 + 1)).toNat (by omega) M477 (v469 + 1) rfl hP478 hF480 (by omega) (by omega))
  exact wp_fg (le_s (le_s (le_s (le_s le_0)))) (c2_551 _ M0 0 rfl hP0 hF0 (by omega) (by omega))
def fm_m157_6v3 : Nat := 3941070043873280
/-- IslandHall$Parser.conjunction -/
theorem m157_6v3 {B : eB} (d : Nat) (M0 : Mm) (p1 : Int) (hP0 : Pw M0) (l1 : 3 ≤ p1) (u1 : p1 ≤ 3) : Ct B (d + 21) 157 [R 6, I p1] M0 (qI fun z M => Pw M ∧ Fr fm_m157_6v3 M0 M ∧ 0 ≤ z ∧ z ≤ 1) := by
  refine ct_of (d := d + 20) (k := 1) (L := [some (R 6), some (I p1), none]) rfl rfl rfl ?_
  have hF0 := Fr.rf fm_m157_6v3 M0
  generalize hQ : (qI fun z M => Pw M ∧ Fr fm_m157_6v3 M0 M ∧ 0 ≤ z ∧ z ≤ 1) = Q
  refine wk_al0 r157_0 (wk_il1 r157_1 (wk_cv2 r157_2 kc_6_166 rfl (m166_6v3 _ M0 p1 hP0 (by omega) (by omega)) (cqI ?_)))
  rintro v5 M1 ⟨hP2, hQ3, h6, h7⟩
  have hF4 : Fr fm_m157_6v3 M0 M1 := hF0.tr hQ3 rfl
  refine wk_ifne r157_5 ⟨by omega, by omega⟩ ?_ ?_
  · intro h8
    refine wk_c1 r157_10 (wk_is2 r157_11 rfl ?_)
    have c12_359 : ∀ (k359 : Nat) (M327 : Mm) (v324 : Int), (500 - v324).toNat = k359 → Pw M327 → Fr fm_m157_6v3 M0 M327 → 0 ≤ v324 → v324 ≤ 500 → Wp B (d + 20) 157 12 [some (R 6), some (I p1), some (I v324)] [] M327 Q := by
      refine lp_ind ?_
      intro k359 ih359 M327 v324 hk359 hP328 hF329 h325 h326
      refine wk_il2 r157_12 (wk_c3 r157_13 ?_)
      refine wk_icge r157_16 ⟨by omega, by omega⟩ (by decide) ?_ ?_
      · intro h330
        refine wk_c1 r157_53 ?_
        subst hQ; exact wk_zret r157_54 (by decide) (⟨rfl, _, rfl, hP328, hF329, by omega, by omega⟩)
      · intro h331
        refine wk_al0 r157_19 (wk_c8 r157_20 (wk_cv2 r157_22 kc_6_175 rfl (m175_6 _ M327 4125 hP328 (by decide)) (cqI ?_)))
        rintro v336 M332 ⟨hP333, hQ334, h337, h338⟩
        have hF335 : Fr fm_m157_6v3 M0 M332 := hF329.tr hQ334 rfl
        refine wk_ifeq r157_25 ⟨by omega, by omega⟩ ?_ ?_
        · intro h339
          refine wk_c1 r157_53 ?_
          subst hQ; exact wk_zret r157_54 (by decide) (⟨rfl, _, rfl, hP333, hF335, by omega, by omega⟩)
        · intro h340
          refine wk_al0 r157_28 (wk_il1 r157_29 (wk_cv2 r157_30 kc_6_166 rfl (m166_6v3 _ M332 p1 hP333 (by omega) (by omega)) (cqI ?_)))
          rintro v345 M341 ⟨hP342, hQ343, h346, h347⟩
          have hF344 : Fr fm_m157_6v3 M0 M341 := hF335.tr hQ343 rfl
          refine wk_ifeq r157_33 ⟨by omega, by omega⟩ ?_ ?_
          · intro h348
            refine wk_c1 r157_45 ?_
            subst hQ; exact wk_zret r157_46 (by decide) (⟨rfl, _, rfl, hP342, hF344, by omega, by omega⟩)
          · intro h349
            refine wk_al0 r157_36 (wk_c1 r157_37 (wk_c1 r157_38 (wk_cv3 r157_39 kc_6_172 rfl (m172_6 _ M341 2 0 hP342 (by decide) (by decide) (by decide) (by decide) (by first | assumption | omega | (unfold stepok; omega))) (cqI ?_))))
            rintro v354 M350 ⟨hP351, hQ352, h355, h356⟩
            have hF353 : Fr fm_m157_6v3 M0 M350 := hF344.tr hQ352 rfl
            refine wk_ifne r157_42 ⟨by omega, by omega⟩ ?_ ?_
            · intro h357
              refine wk_inc2 r157_47 rfl (wk_goto r157_50 ?_)
              exact wp_fg (le_s (le_s (le_s le_0))) (ih359 (500 - (v324 + 1)).toNat (by omega) M350 (v324 + 1) rfl hP351 hF353 (by omega) (by omega))
            · intro h358
              exfalso
              omega
    exact wp_fg (le_s (le_s (le_s le_0))) (c12_359 _ M1 0 rfl hP2 hF4 (by omega) (by omega))
  · intro h360
    refine wk_c1 r157_8 ?_
    subst hQ; exact wk_zret r157_9 (by decide) (⟨rfl, _, rfl, hP2, hF4, by omega, by omega⟩)
def fm_m158_6v3 : Nat := 3941070043873280
/-- IslandHall$Parser.expr -/
theorem m158_6v3 {B : eB} (d : Nat) (M0 : Mm) (p1 : Int) (hP0 : Pw M0) (l1 : 3 ≤ p1) (u1 : p1 ≤ 3) : Ct B (d + 22) 158 [R 6, I p1] M0 (qI fun z M => Pw M ∧ Fr fm_m158_6v3 M0 M ∧ 0 ≤ z ∧ z ≤ 1) := by
  refine ct_of (d := d + 21) (k := 1) (L := [some (R 6), some (I p1), none]) rfl rfl rfl ?_
  have hF0 := Fr.rf fm_m158_6v3 M0
  generalize hQ : (qI fun z M => Pw M ∧ Fr fm_m158_6v3 M0 M ∧ 0 ≤ z ∧ z ≤ 1) = Q
  refine wk_al0 r158_0 (wk_cv1 r158_1 kc_6_155 rfl (m155_6 _ M0 hP0) (cqI ?_))
  rintro v5 M1 ⟨hP2, hQ3, h6, h7⟩
  obtain rfl := Fr.same hQ3
  refine wk_ifne r158_4 ⟨by omega, by omega⟩ ?_ ?_
  · intro h8
    refine wk_il1 r158_13 (wk_c2 r158_14 ?_)
    refine wk_iclt r158_16 ⟨by omega, by omega⟩ (by decide) ?_ ?_
    · intro h9
      refine wk_al0 r158_25 (wk_il1 r158_26 (wk_cv2 r158_27 kc_6_157 rfl (m157_6v3 _ M0 p1 hP0 (by omega) (by omega)) (cqI ?_)))
      rintro v14 M10 ⟨hP11, hQ12, h15, h16⟩
      have hF13 : Fr fm_m158_6v3 M0 M10 := hF0.tr hQ12 rfl
      refine wk_ifne r158_30 ⟨by omega, by omega⟩ ?_ ?_
      · intro h17
        refine wk_c1 r158_35 (wk_is2 r158_36 rfl ?_)
        have c37_368 : ∀ (k368 : Nat) (M336 : Mm) (v333 : Int), (500 - v333).toNat = k368 → Pw M336 → Fr fm_m158_6v3 M0 M336 → 0 ≤ v333 → v333 ≤ 500 → Wp B (d + 21) 158 37 [some (R 6), some (I p1), some (I v333)] [] M336 Q := by
          refine lp_ind ?_
          intro k368 ih368 M336 v333 hk368 hP337 hF338 h334 h335
          refine wk_il2 r158_37 (wk_c3 r158_38 ?_)
          refine wk_icge r158_41 ⟨by omega, by omega⟩ (by decide) ?_ ?_
          · intro h339
            refine wk_c1 r158_78 ?_
            subst hQ; exact wk_zret r158_79 (by decide) (⟨rfl, _, rfl, hP337, hF338, by omega, by omega⟩)
          · intro h340
            refine wk_al0 r158_44 (wk_c8 r158_45 (wk_cv2 r158_47 kc_6_175 rfl (m175_6 _ M336 4126 hP337 (by decide)) (cqI ?_)))
            rintro v345 M341 ⟨hP342, hQ343, h346, h347⟩
            have hF344 : Fr fm_m158_6v3 M0 M341 := hF338.tr hQ343 rfl
            refine wk_ifeq r158_50 ⟨by omega, by omega⟩ ?_ ?_
            · intro h348
              refine wk_c1 r158_78 ?_
              subst hQ; exact wk_zret r158_79 (by decide) (⟨rfl, _, rfl, hP342, hF344, by omega, by omega⟩)
            · intro h349
              refine wk_al0 r158_53 (wk_il1 r158_54 (wk_cv2 r158_55 kc_6_157 rfl (m157_6v3 _ M341 p1 hP342 (by omega) (by omega)) (cqI ?_)))
              rintro v354 M350 ⟨hP351, hQ352, h355, h356⟩
              have hF353 : Fr fm_m158_6v3 M0 M350 := hF344.tr hQ352 rfl
              refine wk_ifeq r158_58 ⟨by omega, by omega⟩ ?_ ?_
              · intro h357
                refine wk_c1 r158_70 ?_
                subst hQ; exact wk_zret r158_71 (by decide) (⟨rfl, _, rfl, hP351, hF353, by omega, by omega⟩)
              · intro h358
                refine wk_al0 r158_61 (wk_c1 r158_62 (wk_c1 r158_63 (wk_cv3 r158_64 kc_6_172 rfl (m172_6 _ M350 3 0 hP351 (by decide) (by decide) (by decide) (by decide) (by first | assumption | omega | (unfold stepok; omega))) (cqI ?_))))
                rintro v363 M359 ⟨hP360, hQ361, h364, h365⟩
                have hF362 : Fr fm_m158_6v3 M0 M359 := hF353.tr hQ361 rfl
                refine wk_ifne r158_67 ⟨by omega, by omega⟩ ?_ ?_
                · intro h366
                  refine wk_inc2 r158_72 rfl (wk_goto r158_75 ?_)
                  exact wp_fg (le_s (le_s (le_s le_0))) (ih368 (500 - (v333 + 1)).toNat (by omega) M359 (v333 + 1) rfl hP360 hF362 (by omega) (by omega))
                · intro h367
                  exfalso
                  omega
        exact wp_fg (le_s (le_s (le_s le_0))) (c37_368 _ M10 0 rfl hP11 hF13 (by omega) (by omega))
      · intro h369
        refine wk_c1 r158_33 ?_
        subst hQ; exact wk_zret r158_34 (by decide) (⟨rfl, _, rfl, hP11, hF13, by omega, by omega⟩)
    · intro h370
      exfalso
      omega
  · intro h371
    refine wk_al0 r158_7 (wk_c1 r158_8 (wk_cv2 r158_9 kc_6_159 rfl (m159_6 _ M0 1 hP0 (by decide) (by decide)) (cqI ?_)))
    rintro v376 M372 ⟨hP373, hQ374, h377, h378⟩
    have hF375 : Fr fm_m158_6v3 M0 M372 := hF0.tr hQ374 rfl
    subst hQ; exact wk_zret r158_12 ⟨by omega, by omega⟩ (⟨rfl, _, rfl, hP373, hF375, by omega, by omega⟩)
def fm_m168_6v2 : Nat := 3941070043873280
/-- IslandHall$Parser.parenthesis -/
theorem m168_6v2 {B : eB} (d : Nat) (M0 : Mm) (p1 : Int) (hP0 : Pw M0) (l1 : 2 ≤ p1) (u1 : p1 ≤ 2) : Ct B (d + 23) 168 [R 6, I p1] M0 (qI fun z M => Pw M ∧ Fr fm_m168_6v2 M0 M ∧ 0 ≤ z ∧ z ≤ 1) := by
  refine ct_of (d := d + 22) (k := 0) (L := [some (R 6), some (I p1)]) rfl rfl rfl ?_
  have hF0 := Fr.rf fm_m168_6v2 M0
  generalize hQ : (qI fun z M => Pw M ∧ Fr fm_m168_6v2 M0 M ∧ 0 ≤ z ∧ z ≤ 1) = Q
  refine wk_al0 r168_0 (wk_c2 r168_1 (wk_cv2 r168_3 kc_6_174 rfl (m174_6 _ M0 40 hP0 (by decide) (by decide)) (cqI ?_)))
  rintro v5 M1 ⟨hP2, hQ3, h6, h7⟩
  have hF4 : Fr fm_m168_6v2 M0 M1 := hF0.tr hQ3 rfl
  refine wk_ifeq r168_6 ⟨by omega, by omega⟩ ?_ ?_
  · intro h8
    refine wk_c1 r168_32 ?_
    subst hQ; exact wk_zret r168_33 (by decide) (⟨rfl, _, rfl, hP2, hF4, by omega, by omega⟩)
  · intro h9
    refine wk_al0 r168_9 (wk_il1 r168_10 (wk_c1 r168_11 (wk_iadd r168_12 (wk_cv2 r168_13 kc_6_158 rfl (m158_6v3 _ M1 (p1 + 1) hP2 (by omega) (by omega)) (cqI ?_)))))
    rintro v14 M10 ⟨hP11, hQ12, h15, h16⟩
    have hF13 : Fr fm_m168_6v2 M0 M10 := hF4.tr hQ12 rfl
    refine wk_ifeq r168_16 ⟨by omega, by omega⟩ ?_ ?_
    · intro h17
      refine wk_c1 r168_32 ?_
      subst hQ; exact wk_zret r168_33 (by decide) (⟨rfl, _, rfl, hP11, hF13, by omega, by omega⟩)
    · intro h18
      refine wk_al0 r168_19 (wk_c2 r168_20 (wk_cv2 r168_22 kc_6_174 rfl (m174_6v1 _ M10 41 hP11 (by decide) (by decide)) (cqI ?_)))
      rintro v23 M19 ⟨hP20, hQ21, h24, h25⟩
      have hF22 : Fr fm_m168_6v2 M0 M19 := hF13.tr hQ21 rfl
      refine wk_ifeq r168_25 ⟨by omega, by omega⟩ ?_ ?_
      · intro h26
        refine wk_c1 r168_32 ?_
        subst hQ; exact wk_zret r168_33 (by decide) (⟨rfl, _, rfl, hP20, hF22, by omega, by omega⟩)
      · intro h27
        refine wk_c1 r168_28 (wk_goto r168_29 ?_)
        subst hQ; exact wk_zret r168_33 (by decide) (⟨rfl, _, rfl, hP20, hF22, by omega, by omega⟩)
def fm_m152_6v2 : Nat := 3941070043873280
/-- IslandHall$Parser.aboutSomeone -/
theorem m152_6v2 {B : eB} (d : Nat) (M0 : Mm) (p1 : Int) (hP0 : Pw M0) (l1 : 2 ≤ p1) (u1 : p1 ≤ 2) : Ct B (d + 24) 152 [R 6, I p1] M0 (qI fun z M => Pw M ∧ Fr fm_m152_6v2 M0 M ∧ 0 ≤ z ∧ z ≤ 1) := by
  refine ct_of (d := d + 23) (k := 2) (L := [some (R 6), some (I p1), none, none]) rfl rfl rfl ?_
  have hF0 := Fr.rf fm_m152_6v2 M0
  generalize hQ : (qI fun z M => Pw M ∧ Fr fm_m152_6v2 M0 M ∧ 0 ≤ z ∧ z ≤ 1) = Q
  refine wk_al0 r152_0 (wk_cv1 r152_1 kc_6_165 rfl (m165_6 _ M0 hP0) (cqI ?_))
  rintro v5 M1 ⟨hP2, hQ3, h6, h7⟩
  have hF4 : Fr fm_m152_6v2 M0 M1 := hF0.tr hQ3 rfl
  refine wk_is2 r152_4 rfl (wk_il2 r152_5 (wk_c1 r152_6 ?_))
  refine wk_icne r152_7 ⟨by omega, by omega⟩ (by decide) ?_ ?_
  · intro h8
    refine wk_al0 r152_12 (wk_c8 r152_13 (wk_cv2 r152_15 kc_6_175 rfl (m175_6 _ M1 4111 hP2 (by decide)) (cqI ?_)))
    rintro v13 M9 ⟨hP10, hQ11, h14, h15⟩
    have hF12 : Fr fm_m152_6v2 M0 M9 := hF4.tr hQ11 rfl
    refine wk_ifeq r152_18 ⟨by omega, by omega⟩ ?_ ?_
    · intro h16
      refine wk_al0 r152_35 (wk_c8 r152_36 (wk_cv2 r152_38 kc_6_175 rfl (m175_6 _ M9 4112 hP10 (by decide)) (cqI ?_)))
      rintro v21 M17 ⟨hP18, hQ19, h22, h23⟩
      have hF20 : Fr fm_m152_6v2 M0 M17 := hF12.tr hQ19 rfl
      refine wk_ifeq r152_41 ⟨by omega, by omega⟩ ?_ ?_
      · intro h24
        refine wk_al0 r152_73 (wk_c8 r152_74 (wk_cv2 r152_76 kc_6_175 rfl (m175_6 _ M17 4113 hP18 (by decide)) (cqI ?_)))
        rintro v29 M25 ⟨hP26, hQ27, h30, h31⟩
        have hF28 : Fr fm_m152_6v2 M0 M25 := hF20.tr hQ27 rfl
        refine wk_ifne r152_79 ⟨by omega, by omega⟩ ?_ ?_
        · intro h32
          refine wk_al0 r152_88 (wk_il1 r152_89 (wk_cv2 r152_90 kc_6_168 rfl (m168_6v2 _ M25 p1 hP26 (by omega) (by omega)) (cqI ?_)))
          rintro v37 M33 ⟨hP34, hQ35, h38, h39⟩
          have hF36 : Fr fm_m152_6v2 M0 M33 := hF28.tr hQ35 rfl
          refine wk_ifne r152_93 ⟨by omega, by omega⟩ ?_ ?_
          · intro h40
            refine wk_al0 r152_98 ?_
            obtain ⟨v41, e42⟩ : ∃ v, M33 6 2 = v := ⟨_, rfl⟩
            have hC43 : isC v41 := by have := pcE hP34; rw [e42] at this; exact this
            refine wk_getfr r152_99 fd_6_2 e42 (wk_il2 r152_102 (wk_cv2 r152_103 (kcC_139 hC43) rfl (m139 _ M33 v41 v5 hP34 hC43 (by omega) (by omega)) (cqV ?_)))
            rintro M44 ⟨hP45, hQ46⟩
            have hF47 : Fr fm_m152_6v2 M0 M44 := hF36.tr hQ46 rfl
            refine wk_c1 r152_106 ?_
            subst hQ; exact wk_zret r152_107 (by decide) (⟨rfl, _, rfl, hP45, hF47, by omega, by omega⟩)
          · intro h48
            refine wk_c1 r152_96 ?_
            subst hQ; exact wk_zret r152_97 (by decide) (⟨rfl, _, rfl, hP34, hF36, by omega, by omega⟩)
        · intro h49
          refine wk_al0 r152_82 (wk_c1 r152_83 (wk_cv2 r152_84 kc_6_159 rfl (m159_6 _ M25 1 hP26 (by decide) (by decide)) (cqI ?_)))
          rintro v54 M50 ⟨hP51, hQ52, h55, h56⟩
          have hF53 : Fr fm_m152_6v2 M0 M50 := hF28.tr hQ52 rfl
          subst hQ; exact wk_zret r152_87 ⟨by omega, by omega⟩ (⟨rfl, _, rfl, hP51, hF53, by omega, by omega⟩)
      · intro h57
        refine wk_al0 r152_44 (wk_cv1 r152_45 kc_6_165 rfl (m165_6 _ M17 hP18) (cqI ?_))
        rintro v62 M58 ⟨hP59, hQ60, h63, h64⟩
        have hF61 : Fr fm_m152_6v2 M0 M58 := hF20.tr hQ60 rfl
        refine wk_is3 r152_48 rfl (wk_il3 r152_49 (wk_c1 r152_50 ?_))
        refine wk_iceq r152_51 ⟨by omega, by omega⟩ (by decide) ?_ ?_
        · intro h65
          refine wk_c1 r152_71 ?_
          subst hQ; exact wk_zret r152_72 (by decide) (⟨rfl, _, rfl, hP59, hF61, by omega, by omega⟩)
        · intro h66
          refine wk_al0 r152_54 (wk_c1 r152_55 (wk_il2 r152_56 (wk_c1 r152_57 (wk_ishlc r152_58 (by decide) pwl_3 (wk_il3 r152_59 (wk_iord2 3 8 r152_60 (by decide) ⟨by omega, by omega⟩ ⟨by omega, by omega, by omega⟩ (wk_cv3 r152_61 kc_6_172 rfl (m172_6 _ M58 5 ((v5 * 8) + v62) hP59 (by decide) (by decide) (by omega) (by omega) (by first | assumption | omega | (unfold stepok; omega))) (cqI ?_))))))))
          rintro v71 M67 ⟨hP68, hQ69, h72, h73⟩
          have hF70 : Fr fm_m152_6v2 M0 M67 := hF61.tr hQ69 rfl
          refine wk_ifeq r152_64 ⟨by omega, by omega⟩ ?_ ?_
          · intro h74
            exfalso
            omega
          · intro h75
            refine wk_c1 r152_67 (wk_goto r152_68 ?_)
            subst hQ; exact wk_zret r152_72 (by decide) (⟨rfl, _, rfl, hP68, hF70, by omega, by omega⟩)
    · intro h76
      refine wk_al0 r152_21 (wk_c1 r152_22 (wk_il2 r152_23 (wk_c1 r152_24 (wk_imul r152_25 (wk_iadd r152_26 (wk_al0 r152_27 (wk_cv1 r152_28 kc_6_173 rfl (m173_6 _ M9 hP10) (cqI ?_))))))))
      rintro v81 M77 ⟨hP78, hQ79, h82, h83⟩
      have hF80 : Fr fm_m152_6v2 M0 M77 := hF12.tr hQ79 rfl
      refine wk_cv3 r152_31 kc_6_171 rfl (m171_6v3 _ M77 (0 + (v5 * 5)) v81 hP78 (by omega) (by omega) (by omega) (by omega)) (cqI ?_)
      rintro v88 M84 ⟨hP85, hQ86, h89, h90⟩
      have hF87 : Fr fm_m152_6v2 M0 M84 := hF80.tr hQ86 rfl
      subst hQ; exact wk_zret r152_34 ⟨by omega, by omega⟩ (⟨rfl, _, rfl, hP85, hF87, by omega, by omega⟩)
  · intro h91
    refine wk_c1 r152_10 ?_
    subst hQ; exact wk_zret r152_11 (by decide) (⟨rfl, _, rfl, hP2, hF4, by omega, by omega⟩)
def fm_m153_6v2 : Nat := 3941070043873280
/-- IslandHall$Parser.atom -/
theorem m153_6v2 {B : eB} (d : Nat) (M0 : Mm) (p1 : Int) (hP0 : Pw M0) (l1 : 2 ≤ p1) (u1 : p1 ≤ 2) : Ct B (d + 25) 153 [R 6, I p1] M0 (qI fun z M => Pw M ∧ Fr fm_m153_6v2 M0 M ∧ 0 ≤ z ∧ z ≤ 1) := by
  refine ct_of (d := d + 24) (k := 0) (L := [some (R 6), some (I p1)]) rfl rfl rfl ?_
  have hF0 := Fr.rf fm_m153_6v2 M0
  generalize hQ : (qI fun z M => Pw M ∧ Fr fm_m153_6v2 M0 M ∧ 0 ≤ z ∧ z ≤ 1) = Q
  refine wk_al0 r153_0 (wk_getfr r153_1 fd_6_0 (br_6_0 hP0) (wk_cv1 r153_4 kc_9_237 rfl (m237_9 _ M0 hP0) (cqI ?_)))
  rintro v7 M1 ⟨hP2, hQ3, h8, h9, h5, h6⟩
  obtain rfl := Fr.same hQ3
  obtain ⟨v10, e11⟩ : ∃ v, M0 9 2 = v := ⟨_, rfl⟩
  have h12 := bf_9_2 hP0; rw [e11] at h12
  obtain ⟨v13, e14⟩ : ∃ v, M0 9 3 = v := ⟨_, rfl⟩
  have h15 := bf_9_3 hP0; rw [e14] at h15
  refine wk_ifeq r153_7 ⟨by omega, by omega⟩ ?_ ?_
  · intro h16
    refine wk_al0 r153_16 (wk_c8 r153_17 (wk_cv2 r153_19 kc_6_175 rfl (m175_6 _ M0 4114 hP0 (by decide)) (cqI ?_)))
    rintro v21 M17 ⟨hP18, hQ19, h22, h23⟩
    have hF20 : Fr fm_m153_6v2 M0 M17 := hF0.tr hQ19 rfl
    refine wk_ifeq r153_22 ⟨by omega, by omega⟩ ?_ ?_
    · intro h24
      refine wk_al0 r153_38 (wk_c8 r153_39 (wk_cv2 r153_41 kc_6_175 rfl (m175_6 _ M17 4115 hP18 (by decide)) (cqI ?_)))
      rintro v29 M25 ⟨hP26, hQ27, h30, h31⟩
      have hF28 : Fr fm_m153_6v2 M0 M25 := hF20.tr hQ27 rfl
      refine wk_ifeq r153_44 ⟨by omega, by omega⟩ ?_ ?_
      · intro h32
        refine wk_al0 r153_61 (wk_c8 r153_62 (wk_cv2 r153_64 kc_6_175 rfl (m175_6 _ M25 4116 hP26 (by decide)) (cqI ?_)))
        rintro v37 M33 ⟨hP34, hQ35, h38, h39⟩
        have hF36 : Fr fm_m153_6v2 M0 M33 := hF28.tr hQ35 rfl
        refine wk_ifeq r153_67 ⟨by omega, by omega⟩ ?_ ?_
        · intro h40
          refine wk_al0 r153_83 (wk_c8 r153_84 (wk_cv2 r153_86 kc_6_175 rfl (m175_6 _ M33 4117 hP34 (by decide)) (cqI ?_)))
          rintro v45 M41 ⟨hP42, hQ43, h46, h47⟩
          have hF44 : Fr fm_m153_6v2 M0 M41 := hF36.tr hQ43 rfl
          refine wk_ifeq r153_89 ⟨by omega, by omega⟩ ?_ ?_
          · intro h48
            refine wk_al0 r153_97 (wk_c8 r153_98 (wk_cv2 r153_100 kc_6_175 rfl (m175_6 _ M41 4118 hP42 (by decide)) (cqI ?_)))
            rintro v53 M49 ⟨hP50, hQ51, h54, h55⟩
            have hF52 : Fr fm_m153_6v2 M0 M49 := hF44.tr hQ51 rfl
            refine wk_ifeq r153_103 ⟨by omega, by omega⟩ ?_ ?_
            · intro h56
              refine wk_al0 r153_117 (wk_c1 r153_118 (wk_cv2 r153_119 kc_6_159 rfl (m159_6 _ M49 1 hP50 (by decide) (by decide)) (cqI ?_)))
              rintro v61 M57 ⟨hP58, hQ59, h62, h63⟩
              have hF60 : Fr fm_m153_6v2 M0 M57 := hF52.tr hQ59 rfl
              subst hQ; exact wk_zret r153_122 ⟨by omega, by omega⟩ (⟨rfl, _, rfl, hP58, hF60, by omega, by omega⟩)
            · intro h64
              refine wk_al0 r153_106 (wk_al0 r153_107 (wk_cv1 r153_108 kc_6_173 rfl (m173_6 _ M49 hP50) (cqI ?_)))
              rintro v69 M65 ⟨hP66, hQ67, h70, h71⟩
              have hF68 : Fr fm_m153_6v2 M0 M65 := hF52.tr hQ67 rfl
              refine wk_cv2 r153_111 kc_6_163 rfl (m163_6 _ M65 v69 hP66 (by omega) (by omega)) (cqI ?_)
              rintro v76 M72 ⟨hP73, hQ74, h77, h78⟩
              have hF75 : Fr fm_m153_6v2 M0 M72 := hF68.tr hQ74 rfl
              refine wk_goto r153_114 ?_
              subst hQ; exact wk_zret r153_122 ⟨by omega, by omega⟩ (⟨rfl, _, rfl, hP73, hF75, by omega, by omega⟩)
          · intro h79
            refine wk_al0 r153_92 (wk_cv1 r153_93 kc_6_176 rfl (m176_6 _ M41 hP42) (cqI ?_))
            rintro v84 M80 ⟨hP81, hQ82, h85, h86⟩
            have hF83 : Fr fm_m153_6v2 M0 M80 := hF44.tr hQ82 rfl
            subst hQ; exact wk_zret r153_96 ⟨by omega, by omega⟩ (⟨rfl, _, rfl, hP81, hF83, by omega, by omega⟩)
        · intro h87
          refine wk_al0 r153_70 (wk_c2 r153_71 (wk_al0 r153_73 (wk_c1 r153_74 (wk_c1 r153_75 (wk_cv3 r153_76 kc_6_167 rfl (m167_6v1 _ M33 0 1 hP34 (by decide) (by decide) (by decide) (by decide)) (cqI ?_))))))
          rintro v92 M88 ⟨hP89, hQ90, h93, h94⟩
          have hF91 : Fr fm_m153_6v2 M0 M88 := hF36.tr hQ90 rfl
          refine wk_cv3 r153_79 kc_6_171 rfl (m171_6 _ M88 46 v92 hP89 (by decide) (by decide) (by omega) (by omega)) (cqI ?_)
          rintro v99 M95 ⟨hP96, hQ97, h100, h101⟩
          have hF98 : Fr fm_m153_6v2 M0 M95 := hF91.tr hQ97 rfl
          subst hQ; exact wk_zret r153_82 ⟨by omega, by omega⟩ (⟨rfl, _, rfl, hP96, hF98, by omega, by omega⟩)
      · intro h102
        refine wk_al0 r153_47 (wk_c2 r153_48 (wk_al0 r153_50 (wk_c1 r153_51 (wk_c2 r153_52 (wk_cv3 r153_54 kc_6_167 rfl (m167_6v2 _ M25 0 6 hP26 (by decide) (by decide) (by decide) (by decide)) (cqI ?_))))))
        rintro v107 M103 ⟨hP104, hQ105, h108, h109⟩
        have hF106 : Fr fm_m153_6v2 M0 M103 := hF28.tr hQ105 rfl
        refine wk_cv3 r153_57 kc_6_171 rfl (m171_6v1 _ M103 39 v107 hP104 (by decide) (by decide) (by omega) (by omega)) (cqI ?_)
        rintro v114 M110 ⟨hP111, hQ112, h115, h116⟩
        have hF113 : Fr fm_m153_6v2 M0 M110 := hF106.tr hQ112 rfl
        subst hQ; exact wk_zret r153_60 ⟨by omega, by omega⟩ (⟨rfl, _, rfl, hP111, hF113, by omega, by omega⟩)
    · intro h117
      refine wk_al0 r153_25 (wk_c2 r153_26 (wk_al0 r153_28 (wk_c1 r153_29 (wk_c1 r153_30 (wk_cv3 r153_31 kc_6_167 rfl (m167_6v3 _ M17 0 3 hP18 (by decide) (by decide) (by decide) (by decide)) (cqI ?_))))))
      rintro v122 M118 ⟨hP119, hQ120, h123, h124⟩
      have hF121 : Fr fm_m153_6v2 M0 M118 := hF20.tr hQ120 rfl
      refine wk_cv3 r153_34 kc_6_171 rfl (m171_6v2 _ M118 35 v122 hP119 (by decide) (by decide) (by omega) (by omega)) (cqI ?_)
      rintro v129 M125 ⟨hP126, hQ127, h130, h131⟩
      have hF128 : Fr fm_m153_6v2 M0 M125 := hF121.tr hQ127 rfl
      subst hQ; exact wk_zret r153_37 ⟨by omega, by omega⟩ (⟨rfl, _, rfl, hP126, hF128, by omega, by omega⟩)
  · intro h132
    refine wk_al0 r153_10 (wk_il1 r153_11 (wk_cv2 r153_12 kc_6_152 rfl (m152_6v2 _ M0 p1 hP0 (by omega) (by omega)) (cqI ?_)))
    rintro v137 M133 ⟨hP134, hQ135, h138, h139⟩
    have hF136 : Fr fm_m153_6v2 M0 M133 := hF0.tr hQ135 rfl
    subst hQ; exact wk_zret r153_15 ⟨by omega, by omega⟩ (⟨rfl, _, rfl, hP134, hF136, by omega, by omega⟩)
def fm_m166_6v2 : Nat := 3941070043873280
/-- IslandHall$Parser.negation -/
theorem m166_6v2 {B : eB} (d : Nat) (M0 : Mm) (p1 : Int) (hP0 : Pw M0) (l1 : 2 ≤ p1) (u1 : p1 ≤ 2) : Ct B (d + 26) 166 [R 6, I p1] M0 (qI fun z M => Pw M ∧ Fr fm_m166_6v2 M0 M ∧ 0 ≤ z ∧ z ≤ 1) := by
  refine ct_of (d := d + 25) (k := 2) (L := [some (R 6), some (I p1), none, none]) rfl rfl rfl ?_
  have hF0 := Fr.rf fm_m166_6v2 M0
  generalize hQ : (qI fun z M => Pw M ∧ Fr fm_m166_6v2 M0 M ∧ 0 ≤ z ∧ z ≤ 1) = Q
  refine wk_c1 r166_0 (wk_is2 r166_1 rfl ?_)
  have c2_551 : ∀ (k551 : Nat) (M472 : Mm) (v469 : Int), (6 - v469).toNat = k551 → Pw M472 → Fr fm_m166_6v2 M0 M472 → 0 ≤ v469 → v469 ≤ 6 → Wp B (d + 25) 166 2 [some (R 6), some (I p1), some (I v469), none] [] M472 Q := by
    refine lp_ind ?_
    intro k551 ih551 M472 v469 hk551 hP473 hF474 h470 h471
    refine wk_il2 r166_2 (wk_c2 r166_3 ?_)
    have c23_550 : ∀ (M486 : Mm), Pw M486 → Fr fm_m166_6v2 M0 M486 → Wp B (d + 25) 166 23 [some (R 6), some (I p1), some (I v469), none] [] M486 Q := by
      intro M486 hP487 hF488
      refine wk_al0 r166_23 (wk_getfr r166_24 fd_6_0 (br_6_0 hP487) (wk_c8 r166_27 (wk_cv2 r166_29 kc_9_239 rfl (m239_9 _ M486 4119 hP487 (by decide)) (cqI ?_))))
      rintro v494 M489 ⟨hP490, hQ491, h495, h496, xh493⟩
      obtain rfl := Fr.same hQ491
      refine wk_ifeq r166_32 ⟨by omega, by omega⟩ ?_ ?_
      · intro h497
        refine wk_al0 r166_41 (wk_getfr r166_42 fd_6_0 (br_6_0 hP487) (wk_c2 r166_45 (wk_cv2 r166_47 kc_9_238 rfl (m238_9 _ M486 40 hP487 (by decide) (by decide)) (cqI ?_))))
        rintro v502 M498 ⟨hP499, hQ500, h503, h504⟩
        obtain rfl := Fr.same hQ500
        have c66_541 : ∀ (M524 : Mm) (v521 : Int), Pw M524 → Fr fm_m166_6v2 M0 M524 → 0 ≤ v521 → v521 ≤ 1 → Wp B (d + 25) 166 66 [some (R 6), none, some (I v469), none] [I v521] M524 Q := by
          intro M524 v521 hP525 hF526 h522 h523
          refine wk_is3 r166_66 rfl (wk_il3 r166_67 ?_)
          refine wk_ifeq r166_68 ⟨by omega, by omega⟩ ?_ ?_
          · intro h527
            refine wk_c1 r166_90 ?_
            subst hQ; exact wk_zret r166_91 (by decide) (⟨rfl, _, rfl, hP525, hF526, by omega, by omega⟩)
          · intro h528
            refine wk_il2 r166_71 (wk_c1 r166_72 (wk_iandc 1 2 r166_73 ⟨rfl, by decide⟩ rfl ?_))
            refine wk_ifeq r166_74 ⟨by omega, by omega⟩ ?_ ?_
            · intro h530
              refine wk_c1 r166_86 (wk_goto r166_87 ?_)
              subst hQ; exact wk_zret r166_91 (by decide) (⟨rfl, _, rfl, hP525, hF526, by omega, by omega⟩)
            · intro h531
              refine wk_al0 r166_77 (wk_c1 r166_78 (wk_c1 r166_79 (wk_cv3 r166_80 kc_6_172 rfl (m172_6 _ M524 1 0 hP525 (by decide) (by decide) (by decide) (by decide) (by first | assumption | omega | (unfold stepok; omega))) (cqI ?_))))
              rintro v536 M532 ⟨hP533, hQ534, h537, h538⟩
              have hF535 : Fr fm_m166_6v2 M0 M532 := hF526.tr hQ534 rfl
              refine wk_ifeq r166_83 ⟨by omega, by omega⟩ ?_ ?_
              · intro h539
                exfalso
                omega
              · intro h540
                refine wk_c1 r166_86 (wk_goto r166_87 ?_)
                subst hQ; exact wk_zret r166_91 (by decide) (⟨rfl, _, rfl, hP533, hF535, by omega, by omega⟩)
        refine wk_ifeq r166_50 ⟨by omega, by omega⟩ ?_ ?_
        · intro h505
          refine wk_al0 r166_61 (wk_il1 r166_62 (wk_cv2 r166_63 kc_6_153 rfl (m153_6v2 _ M486 p1 hP487 (by omega) (by omega)) (cqI ?_)))
          rintro v510 M506 ⟨hP507, hQ508, h511, h512⟩
          have hF509 : Fr fm_m166_6v2 M0 M506 := hF488.tr hQ508 rfl
          exact wp_fg (le_s (le_n (le_s (le_s le_0)))) (c66_541 M506 v510 hP507 hF509 (by omega) (by omega))
        · intro h513
          refine wk_al0 r166_53 (wk_il1 r166_54 (wk_cv2 r166_55 kc_6_168 rfl (m168_6v2 _ M486 p1 hP487 (by omega) (by omega)) (cqI ?_)))
          rintro v518 M514 ⟨hP515, hQ516, h519, h520⟩
          have hF517 : Fr fm_m166_6v2 M0 M514 := hF488.tr hQ516 rfl
          refine wk_goto r166_58 ?_
          exact wp_fg (le_s (le_n (le_s (le_s le_0)))) (c66_541 M514 v518 hP515 hF517 (by omega) (by omega))
      · intro h542
        refine wk_al0 r166_35 (wk_c1 r166_36 (wk_cv2 r166_37 kc_6_159 rfl (m159_6v1 _ M486 2 hP487 (by decide) (by decide)) (cqI ?_)))
        rintro v547 M543 ⟨hP544, hQ545, h548, h549⟩
        have hF546 : Fr fm_m166_6v2 M0 M543 := hF488.tr hQ545 rfl
        subst hQ; exact wk_zret r166_40 ⟨by omega, by omega⟩ (⟨rfl, _, rfl, hP544, hF546, by omega, by omega⟩)
    refine wk_icge r166_5 ⟨by omega, by omega⟩ (by decide) ?_ ?_
    · intro h475
      exact wp_fg (le_s (le_s (le_s (le_s le_0)))) (c23_550 M472 hP473 hF474)
    · intro h476
      refine wk_al0 r166_8 (wk_c8 r166_9 (wk_cv2 r166_11 kc_6_175 rfl (m175_6 _ M472 4119 hP473 (by decide)) (cqI ?_)))
      rintro v481 M477 ⟨hP478, hQ479, h482, h483⟩
      have hF480 : Fr fm_m166_6v2 M0 M477 := hF474.tr hQ479 rfl
      refine wk_ifeq r166_14 ⟨by omega, by omega⟩ ?_ ?_
      · intro h484
        exact wp_fg (le_s (le_s (le_s (le_s le_0)))) (c23_550 M477 hP478 hF480)
      · intro h485
        refine wk_inc2 r166_17 rfl (wk_goto r166_20 ?_)
        exact wp_fg (le_s (le_s (le_s (le_s le_0)))) (ih551 (6 - (v469 + 1)).toNat (by omega) M477 (v469 + 1) rfl hP478 hF480 (by omega) (by omega))
  exact wp_fg (le_s (le_s (le_s (le_s le_0)))) (c2_551 _ M0 0 rfl hP0 hF0 (by omega) (by omega))
def fm_m157_6v2 : Nat := 3941070043873280
/-- IslandHall$Parser.conjunction -/
theorem m157_6v2 {B : eB} (d : Nat) (M0 : Mm) (p1 : Int) (hP0 : Pw M0) (l1 : 2 ≤ p1) (u1 : p1 ≤ 2) : Ct B (d + 27) 157 [R 6, I p1] M0 (qI fun z M => Pw M ∧ Fr fm_m157_6v2 M0 M ∧ 0 ≤ z ∧ z ≤ 1) := by
  refine ct_of (d := d + 26) (k := 1) (L := [some (R 6), some (I p1), none]) rfl rfl rfl ?_
  have hF0 := Fr.rf fm_m157_6v2 M0
  generalize hQ : (qI fun z M => Pw M ∧ Fr fm_m157_6v2 M0 M ∧ 0 ≤ z ∧ z ≤ 1) = Q
  refine wk_al0 r157_0 (wk_il1 r157_1 (wk_cv2 r157_2 kc_6_166 rfl (m166_6v2 _ M0 p1 hP0 (by omega) (by omega)) (cqI ?_)))
  rintro v5 M1 ⟨hP2, hQ3, h6, h7⟩
  have hF4 : Fr fm_m157_6v2 M0 M1 := hF0.tr hQ3 rfl
  refine wk_ifne r157_5 ⟨by omega, by omega⟩ ?_ ?_
  · intro h8
    refine wk_c1 r157_10 (wk_is2 r157_11 rfl ?_)
    have c12_359 : ∀ (k359 : Nat) (M327 : Mm) (v324 : Int), (500 - v324).toNat = k359 → Pw M327 → Fr fm_m157_6v2 M0 M327 → 0 ≤ v324 → v324 ≤ 500 → Wp B (d + 26) 157 12 [some (R 6), some (I p1), some (I v324)] [] M327 Q := by
      refine lp_ind ?_
      intro k359 ih359 M327 v324 hk359 hP328 hF329 h325 h326
      refine wk_il2 r157_12 (wk_c3 r157_13 ?_)
      refine wk_icge r157_16 ⟨by omega, by omega⟩ (by decide) ?_ ?_
      · intro h330
        refine wk_c1 r157_53 ?_
        subst hQ; exact wk_zret r157_54 (by decide) (⟨rfl, _, rfl, hP328, hF329, by omega, by omega⟩)
      · intro h331
        refine wk_al0 r157_19 (wk_c8 r157_20 (wk_cv2 r157_22 kc_6_175 rfl (m175_6 _ M327 4125 hP328 (by decide)) (cqI ?_)))
        rintro v336 M332 ⟨hP333, hQ334, h337, h338⟩
        have hF335 : Fr fm_m157_6v2 M0 M332 := hF329.tr hQ334 rfl
        refine wk_ifeq r157_25 ⟨by omega, by omega⟩ ?_ ?_
        · intro h339
          refine wk_c1 r157_53 ?_
          subst hQ; exact wk_zret r157_54 (by decide) (⟨rfl, _, rfl, hP333, hF335, by omega, by omega⟩)
        · intro h340
          refine wk_al0 r157_28 (wk_il1 r157_29 (wk_cv2 r157_30 kc_6_166 rfl (m166_6v2 _ M332 p1 hP333 (by omega) (by omega)) (cqI ?_)))
          rintro v345 M341 ⟨hP342, hQ343, h346, h347⟩
          have hF344 : Fr fm_m157_6v2 M0 M341 := hF335.tr hQ343 rfl
          refine wk_ifeq r157_33 ⟨by omega, by omega⟩ ?_ ?_
          · intro h348
            refine wk_c1 r157_45 ?_
            subst hQ; exact wk_zret r157_46 (by decide) (⟨rfl, _, rfl, hP342, hF344, by omega, by omega⟩)
          · intro h349
            refine wk_al0 r157_36 (wk_c1 r157_37 (wk_c1 r157_38 (wk_cv3 r157_39 kc_6_172 rfl (m172_6 _ M341 2 0 hP342 (by decide) (by decide) (by decide) (by decide) (by first | assumption | omega | (unfold stepok; omega))) (cqI ?_))))
            rintro v354 M350 ⟨hP351, hQ352, h355, h356⟩
            have hF353 : Fr fm_m157_6v2 M0 M350 := hF344.tr hQ352 rfl
            refine wk_ifne r157_42 ⟨by omega, by omega⟩ ?_ ?_
            · intro h357
              refine wk_inc2 r157_47 rfl (wk_goto r157_50 ?_)
              exact wp_fg (le_s (le_s (le_s le_0))) (ih359 (500 - (v324 + 1)).toNat (by omega) M350 (v324 + 1) rfl hP351 hF353 (by omega) (by omega))
            · intro h358
              exfalso
              omega
    exact wp_fg (le_s (le_s (le_s le_0))) (c12_359 _ M1 0 rfl hP2 hF4 (by omega) (by omega))
  · intro h360
    refine wk_c1 r157_8 ?_
    subst hQ; exact wk_zret r157_9 (by decide) (⟨rfl, _, rfl, hP2, hF4, by omega, by omega⟩)
def fm_m158_6v2 : Nat := 3941070043873280
/-- IslandHall$Parser.expr -/
theorem m158_6v2 {B : eB} (d : Nat) (M0 : Mm) (p1 : Int) (hP0 : Pw M0) (l1 : 2 ≤ p1) (u1 : p1 ≤ 2) : Ct B (d + 28) 158 [R 6, I p1] M0 (qI fun z M => Pw M ∧ Fr fm_m158_6v2 M0 M ∧ 0 ≤ z ∧ z ≤ 1) := by
  refine ct_of (d := d + 27) (k := 1) (L := [some (R 6), some (I p1), none]) rfl rfl rfl ?_
  have hF0 := Fr.rf fm_m158_6v2 M0
  generalize hQ : (qI fun z M => Pw M ∧ Fr fm_m158_6v2 M0 M ∧ 0 ≤ z ∧ z ≤ 1) = Q
  refine wk_al0 r158_0 (wk_cv1 r158_1 kc_6_155 rfl (m155_6 _ M0 hP0) (cqI ?_))
  rintro v5 M1 ⟨hP2, hQ3, h6, h7⟩
  obtain rfl := Fr.same hQ3
  refine wk_ifne r158_4 ⟨by omega, by omega⟩ ?_ ?_
  · intro h8
    refine wk_il1 r158_13 (wk_c2 r158_14 ?_)
    refine wk_iclt r158_16 ⟨by omega, by omega⟩ (by decide) ?_ ?_
    · intro h9
      refine wk_al0 r158_25 (wk_il1 r158_26 (wk_cv2 r158_27 kc_6_157 rfl (m157_6v2 _ M0 p1 hP0 (by omega) (by omega)) (cqI ?_)))
      rintro v14 M10 ⟨hP11, hQ12, h15, h16⟩
      have hF13 : Fr fm_m158_6v2 M0 M10 := hF0.tr hQ12 rfl
      refine wk_ifne r158_30 ⟨by omega, by omega⟩ ?_ ?_
      · intro h17
        refine wk_c1 r158_35 (wk_is2 r158_36 rfl ?_)
        have c37_368 : ∀ (k368 : Nat) (M336 : Mm) (v333 : Int), (500 - v333).toNat = k368 → Pw M336 → Fr fm_m158_6v2 M0 M336 → 0 ≤ v333 → v333 ≤ 500 → Wp B (d + 27) 158 37 [some (R 6), some (I p1), some (I v333)] [] M336 Q := by
          refine lp_ind ?_
          intro k368 ih368 M336 v333 hk368 hP337 hF338 h334 h335
          refine wk_il2 r158_37 (wk_c3 r158_38 ?_)
          refine wk_icge r158_41 ⟨by omega, by omega⟩ (by decide) ?_ ?_
          · intro h339
            refine wk_c1 r158_78 ?_
            subst hQ; exact wk_zret r158_79 (by decide) (⟨rfl, _, rfl, hP337, hF338, by omega, by omega⟩)
          · intro h340
            refine wk_al0 r158_44 (wk_c8 r158_45 (wk_cv2 r158_47 kc_6_175 rfl (m175_6 _ M336 4126 hP337 (by decide)) (cqI ?_)))
            rintro v345 M341 ⟨hP342, hQ343, h346, h347⟩
            have hF344 : Fr fm_m158_6v2 M0 M341 := hF338.tr hQ343 rfl
            refine wk_ifeq r158_50 ⟨by omega, by omega⟩ ?_ ?_
            · intro h348
              refine wk_c1 r158_78 ?_
              subst hQ; exact wk_zret r158_79 (by decide) (⟨rfl, _, rfl, hP342, hF344, by omega, by omega⟩)
            · intro h349
              refine wk_al0 r158_53 (wk_il1 r158_54 (wk_cv2 r158_55 kc_6_157 rfl (m157_6v2 _ M341 p1 hP342 (by omega) (by omega)) (cqI ?_)))
              rintro v354 M350 ⟨hP351, hQ352, h355, h356⟩
              have hF353 : Fr fm_m158_6v2 M0 M350 := hF344.tr hQ352 rfl
              refine wk_ifeq r158_58 ⟨by omega, by omega⟩ ?_ ?_
              · intro h357
                refine wk_c1 r158_70 ?_
                subst hQ; exact wk_zret r158_71 (by decide) (⟨rfl, _, rfl, hP351, hF353, by omega, by omega⟩)
              · intro h358
                refine wk_al0 r158_61 (wk_c1 r158_62 (wk_c1 r158_63 (wk_cv3 r158_64 kc_6_172 rfl (m172_6 _ M350 3 0 hP351 (by decide) (by decide) (by decide) (by decide) (by first | assumption | omega | (unfold stepok; omega))) (cqI ?_))))
                rintro v363 M359 ⟨hP360, hQ361, h364, h365⟩
                have hF362 : Fr fm_m158_6v2 M0 M359 := hF353.tr hQ361 rfl
                refine wk_ifne r158_67 ⟨by omega, by omega⟩ ?_ ?_
                · intro h366
                  refine wk_inc2 r158_72 rfl (wk_goto r158_75 ?_)
                  exact wp_fg (le_s (le_s (le_s le_0))) (ih368 (500 - (v333 + 1)).toNat (by omega) M359 (v333 + 1) rfl hP360 hF362 (by omega) (by omega))
                · intro h367
                  exfalso
                  omega
        exact wp_fg (le_s (le_s (le_s le_0))) (c37_368 _ M10 0 rfl hP11 hF13 (by omega) (by omega))
      · intro h369
        refine wk_c1 r158_33 ?_
        subst hQ; exact wk_zret r158_34 (by decide) (⟨rfl, _, rfl, hP11, hF13, by omega, by omega⟩)
    · intro h370
      exfalso
      omega
  · intro h371
    refine wk_al0 r158_7 (wk_c1 r158_8 (wk_cv2 r158_9 kc_6_159 rfl (m159_6 _ M0 1 hP0 (by decide) (by decide)) (cqI ?_)))
    rintro v376 M372 ⟨hP373, hQ374, h377, h378⟩
    have hF375 : Fr fm_m158_6v2 M0 M372 := hF0.tr hQ374 rfl
    subst hQ; exact wk_zret r158_12 ⟨by omega, by omega⟩ (⟨rfl, _, rfl, hP373, hF375, by omega, by omega⟩)
def fm_m168_6v1 : Nat := 3941070043873280
/-- IslandHall$Parser.parenthesis -/
theorem m168_6v1 {B : eB} (d : Nat) (M0 : Mm) (p1 : Int) (hP0 : Pw M0) (l1 : 1 ≤ p1) (u1 : p1 ≤ 1) : Ct B (d + 29) 168 [R 6, I p1] M0 (qI fun z M => Pw M ∧ Fr fm_m168_6v1 M0 M ∧ 0 ≤ z ∧ z ≤ 1) := by
  refine ct_of (d := d + 28) (k := 0) (L := [some (R 6), some (I p1)]) rfl rfl rfl ?_
  have hF0 := Fr.rf fm_m168_6v1 M0
  generalize hQ : (qI fun z M => Pw M ∧ Fr fm_m168_6v1 M0 M ∧ 0 ≤ z ∧ z ≤ 1) = Q
  refine wk_al0 r168_0 (wk_c2 r168_1 (wk_cv2 r168_3 kc_6_174 rfl (m174_6 _ M0 40 hP0 (by decide) (by decide)) (cqI ?_)))
  rintro v5 M1 ⟨hP2, hQ3, h6, h7⟩
  have hF4 : Fr fm_m168_6v1 M0 M1 := hF0.tr hQ3 rfl
  refine wk_ifeq r168_6 ⟨by omega, by omega⟩ ?_ ?_
  · intro h8
    refine wk_c1 r168_32 ?_
    subst hQ; exact wk_zret r168_33 (by decide) (⟨rfl, _, rfl, hP2, hF4, by omega, by omega⟩)
  · intro h9
    refine wk_al0 r168_9 (wk_il1 r168_10 (wk_c1 r168_11 (wk_iadd r168_12 (wk_cv2 r168_13 kc_6_158 rfl (m158_6v2 _ M1 (p1 + 1) hP2 (by omega) (by omega)) (cqI ?_)))))
    rintro v14 M10 ⟨hP11, hQ12, h15, h16⟩
    have hF13 : Fr fm_m168_6v1 M0 M10 := hF4.tr hQ12 rfl
    refine wk_ifeq r168_16 ⟨by omega, by omega⟩ ?_ ?_
    · intro h17
      refine wk_c1 r168_32 ?_
      subst hQ; exact wk_zret r168_33 (by decide) (⟨rfl, _, rfl, hP11, hF13, by omega, by omega⟩)
    · intro h18
      refine wk_al0 r168_19 (wk_c2 r168_20 (wk_cv2 r168_22 kc_6_174 rfl (m174_6v1 _ M10 41 hP11 (by decide) (by decide)) (cqI ?_)))
      rintro v23 M19 ⟨hP20, hQ21, h24, h25⟩
      have hF22 : Fr fm_m168_6v1 M0 M19 := hF13.tr hQ21 rfl
      refine wk_ifeq r168_25 ⟨by omega, by omega⟩ ?_ ?_
      · intro h26
        refine wk_c1 r168_32 ?_
        subst hQ; exact wk_zret r168_33 (by decide) (⟨rfl, _, rfl, hP20, hF22, by omega, by omega⟩)
      · intro h27
        refine wk_c1 r168_28 (wk_goto r168_29 ?_)
        subst hQ; exact wk_zret r168_33 (by decide) (⟨rfl, _, rfl, hP20, hF22, by omega, by omega⟩)
def fm_m152_6v1 : Nat := 3941070043873280
/-- IslandHall$Parser.aboutSomeone -/
theorem m152_6v1 {B : eB} (d : Nat) (M0 : Mm) (p1 : Int) (hP0 : Pw M0) (l1 : 1 ≤ p1) (u1 : p1 ≤ 1) : Ct B (d + 30) 152 [R 6, I p1] M0 (qI fun z M => Pw M ∧ Fr fm_m152_6v1 M0 M ∧ 0 ≤ z ∧ z ≤ 1) := by
  refine ct_of (d := d + 29) (k := 2) (L := [some (R 6), some (I p1), none, none]) rfl rfl rfl ?_
  have hF0 := Fr.rf fm_m152_6v1 M0
  generalize hQ : (qI fun z M => Pw M ∧ Fr fm_m152_6v1 M0 M ∧ 0 ≤ z ∧ z ≤ 1) = Q
  refine wk_al0 r152_0 (wk_cv1 r152_1 kc_6_165 rfl (m165_6 _ M0 hP0) (cqI ?_))
  rintro v5 M1 ⟨hP2, hQ3, h6, h7⟩
  have hF4 : Fr fm_m152_6v1 M0 M1 := hF0.tr hQ3 rfl
  refine wk_is2 r152_4 rfl (wk_il2 r152_5 (wk_c1 r152_6 ?_))
  refine wk_icne r152_7 ⟨by omega, by omega⟩ (by decide) ?_ ?_
  · intro h8
    refine wk_al0 r152_12 (wk_c8 r152_13 (wk_cv2 r152_15 kc_6_175 rfl (m175_6 _ M1 4111 hP2 (by decide)) (cqI ?_)))
    rintro v13 M9 ⟨hP10, hQ11, h14, h15⟩
    have hF12 : Fr fm_m152_6v1 M0 M9 := hF4.tr hQ11 rfl
    refine wk_ifeq r152_18 ⟨by omega, by omega⟩ ?_ ?_
    · intro h16
      refine wk_al0 r152_35 (wk_c8 r152_36 (wk_cv2 r152_38 kc_6_175 rfl (m175_6 _ M9 4112 hP10 (by decide)) (cqI ?_)))
      rintro v21 M17 ⟨hP18, hQ19, h22, h23⟩
      have hF20 : Fr fm_m152_6v1 M0 M17 := hF12.tr hQ19 rfl
      refine wk_ifeq r152_41 ⟨by omega, by omega⟩ ?_ ?_
      · intro h24
        refine wk_al0 r152_73 (wk_c8 r152_74 (wk_cv2 r152_76 kc_6_175 rfl (m175_6 _ M17 4113 hP18 (by decide)) (cqI ?_)))
        rintro v29 M25 ⟨hP26, hQ27, h30, h31⟩
        have hF28 : Fr fm_m152_6v1 M0 M25 := hF20.tr hQ27 rfl
        refine wk_ifne r152_79 ⟨by omega, by omega⟩ ?_ ?_
        · intro h32
          refine wk_al0 r152_88 (wk_il1 r152_89 (wk_cv2 r152_90 kc_6_168 rfl (m168_6v1 _ M25 p1 hP26 (by omega) (by omega)) (cqI ?_)))
          rintro v37 M33 ⟨hP34, hQ35, h38, h39⟩
          have hF36 : Fr fm_m152_6v1 M0 M33 := hF28.tr hQ35 rfl
          refine wk_ifne r152_93 ⟨by omega, by omega⟩ ?_ ?_
          · intro h40
            refine wk_al0 r152_98 ?_
            obtain ⟨v41, e42⟩ : ∃ v, M33 6 2 = v := ⟨_, rfl⟩
            have hC43 : isC v41 := by have := pcE hP34; rw [e42] at this; exact this
            refine wk_getfr r152_99 fd_6_2 e42 (wk_il2 r152_102 (wk_cv2 r152_103 (kcC_139 hC43) rfl (m139 _ M33 v41 v5 hP34 hC43 (by omega) (by omega)) (cqV ?_)))
            rintro M44 ⟨hP45, hQ46⟩
            have hF47 : Fr fm_m152_6v1 M0 M44 := hF36.tr hQ46 rfl
            refine wk_c1 r152_106 ?_
            subst hQ; exact wk_zret r152_107 (by decide) (⟨rfl, _, rfl, hP45, hF47, by omega, by omega⟩)
          · intro h48
            refine wk_c1 r152_96 ?_
            subst hQ; exact wk_zret r152_97 (by decide) (⟨rfl, _, rfl, hP34, hF36, by omega, by omega⟩)
        · intro h49
          refine wk_al0 r152_82 (wk_c1 r152_83 (wk_cv2 r152_84 kc_6_159 rfl (m159_6 _ M25 1 hP26 (by decide) (by decide)) (cqI ?_)))
          rintro v54 M50 ⟨hP51, hQ52, h55, h56⟩
          have hF53 : Fr fm_m152_6v1 M0 M50 := hF28.tr hQ52 rfl
          subst hQ; exact wk_zret r152_87 ⟨by omega, by omega⟩ (⟨rfl, _, rfl, hP51, hF53, by omega, by omega⟩)
      · intro h57
        refine wk_al0 r152_44 (wk_cv1 r152_45 kc_6_165 rfl (m165_6 _ M17 hP18) (cqI ?_))
        rintro v62 M58 ⟨hP59, hQ60, h63, h64⟩
        have hF61 : Fr fm_m152_6v1 M0 M58 := hF20.tr hQ60 rfl
        refine wk_is3 r152_48 rfl (wk_il3 r152_49 (wk_c1 r152_50 ?_))
        refine wk_iceq r152_51 ⟨by omega, by omega⟩ (by decide) ?_ ?_
        · intro h65
          refine wk_c1 r152_71 ?_
          subst hQ; exact wk_zret r152_72 (by decide) (⟨rfl, _, rfl, hP59, hF61, by omega, by omega⟩)
        · intro h66
          refine wk_al0 r152_54 (wk_c1 r152_55 (wk_il2 r152_56 (wk_c1 r152_57 (wk_ishlc r152_58 (by decide) pwl_3 (wk_il3 r152_59 (wk_iord2 3 8 r152_60 (by decide) ⟨by omega, by omega⟩ ⟨by omega, by omega, by omega⟩ (wk_cv3 r152_61 kc_6_172 rfl (m172_6 _ M58 5 ((v5 * 8) + v62) hP59 (by decide) (by decide) (by omega) (by omega) (by first | assumption | omega | (unfold stepok; omega))) (cqI ?_))))))))
          rintro v71 M67 ⟨hP68, hQ69, h72, h73⟩
          have hF70 : Fr fm_m152_6v1 M0 M67 := hF61.tr hQ69 rfl
          refine wk_ifeq r152_64 ⟨by omega, by omega⟩ ?_ ?_
          · intro h74
            exfalso
            omega
          · intro h75
            refine wk_c1 r152_67 (wk_goto r152_68 ?_)
            subst hQ; exact wk_zret r152_72 (by decide) (⟨rfl, _, rfl, hP68, hF70, by omega, by omega⟩)
    · intro h76
      refine wk_al0 r152_21 (wk_c1 r152_22 (wk_il2 r152_23 (wk_c1 r152_24 (wk_imul r152_25 (wk_iadd r152_26 (wk_al0 r152_27 (wk_cv1 r152_28 kc_6_173 rfl (m173_6 _ M9 hP10) (cqI ?_))))))))
      rintro v81 M77 ⟨hP78, hQ79, h82, h83⟩
      have hF80 : Fr fm_m152_6v1 M0 M77 := hF12.tr hQ79 rfl
      refine wk_cv3 r152_31 kc_6_171 rfl (m171_6v3 _ M77 (0 + (v5 * 5)) v81 hP78 (by omega) (by omega) (by omega) (by omega)) (cqI ?_)
      rintro v88 M84 ⟨hP85, hQ86, h89, h90⟩
      have hF87 : Fr fm_m152_6v1 M0 M84 := hF80.tr hQ86 rfl
      subst hQ; exact wk_zret r152_34 ⟨by omega, by omega⟩ (⟨rfl, _, rfl, hP85, hF87, by omega, by omega⟩)
  · intro h91
    refine wk_c1 r152_10 ?_
    subst hQ; exact wk_zret r152_11 (by decide) (⟨rfl, _, rfl, hP2, hF4, by omega, by omega⟩)
def fm_m153_6v1 : Nat := 3941070043873280
/-- IslandHall$Parser.atom -/
theorem m153_6v1 {B : eB} (d : Nat) (M0 : Mm) (p1 : Int) (hP0 : Pw M0) (l1 : 1 ≤ p1) (u1 : p1 ≤ 1) : Ct B (d + 31) 153 [R 6, I p1] M0 (qI fun z M => Pw M ∧ Fr fm_m153_6v1 M0 M ∧ 0 ≤ z ∧ z ≤ 1) := by
  refine ct_of (d := d + 30) (k := 0) (L := [some (R 6), some (I p1)]) rfl rfl rfl ?_
  have hF0 := Fr.rf fm_m153_6v1 M0
  generalize hQ : (qI fun z M => Pw M ∧ Fr fm_m153_6v1 M0 M ∧ 0 ≤ z ∧ z ≤ 1) = Q
  refine wk_al0 r153_0 (wk_getfr r153_1 fd_6_0 (br_6_0 hP0) (wk_cv1 r153_4 kc_9_237 rfl (m237_9 _ M0 hP0) (cqI ?_)))
  rintro v7 M1 ⟨hP2, hQ3, h8, h9, h5, h6⟩
  obtain rfl := Fr.same hQ3
  obtain ⟨v10, e11⟩ : ∃ v, M0 9 2 = v := ⟨_, rfl⟩
  have h12 := bf_9_2 hP0; rw [e11] at h12
  obtain ⟨v13, e14⟩ : ∃ v, M0 9 3 = v := ⟨_, rfl⟩
  have h15 := bf_9_3 hP0; rw [e14] at h15
  refine wk_ifeq r153_7 ⟨by omega, by omega⟩ ?_ ?_
  · intro h16
    refine wk_al0 r153_16 (wk_c8 r153_17 (wk_cv2 r153_19 kc_6_175 rfl (m175_6 _ M0 4114 hP0 (by decide)) (cqI ?_)))
    rintro v21 M17 ⟨hP18, hQ19, h22, h23⟩
    have hF20 : Fr fm_m153_6v1 M0 M17 := hF0.tr hQ19 rfl
    refine wk_ifeq r153_22 ⟨by omega, by omega⟩ ?_ ?_
    · intro h24
      refine wk_al0 r153_38 (wk_c8 r153_39 (wk_cv2 r153_41 kc_6_175 rfl (m175_6 _ M17 4115 hP18 (by decide)) (cqI ?_)))
      rintro v29 M25 ⟨hP26, hQ27, h30, h31⟩
      have hF28 : Fr fm_m153_6v1 M0 M25 := hF20.tr hQ27 rfl
      refine wk_ifeq r153_44 ⟨by omega, by omega⟩ ?_ ?_
      · intro h32
        refine wk_al0 r153_61 (wk_c8 r153_62 (wk_cv2 r153_64 kc_6_175 rfl (m175_6 _ M25 4116 hP26 (by decide)) (cqI ?_)))
        rintro v37 M33 ⟨hP34, hQ35, h38, h39⟩
        have hF36 : Fr fm_m153_6v1 M0 M33 := hF28.tr hQ35 rfl
        refine wk_ifeq r153_67 ⟨by omega, by omega⟩ ?_ ?_
        · intro h40
          refine wk_al0 r153_83 (wk_c8 r153_84 (wk_cv2 r153_86 kc_6_175 rfl (m175_6 _ M33 4117 hP34 (by decide)) (cqI ?_)))
          rintro v45 M41 ⟨hP42, hQ43, h46, h47⟩
          have hF44 : Fr fm_m153_6v1 M0 M41 := hF36.tr hQ43 rfl
          refine wk_ifeq r153_89 ⟨by omega, by omega⟩ ?_ ?_
          · intro h48
            refine wk_al0 r153_97 (wk_c8 r153_98 (wk_cv2 r153_100 kc_6_175 rfl (m175_6 _ M41 4118 hP42 (by decide)) (cqI ?_)))
            rintro v53 M49 ⟨hP50, hQ51, h54, h55⟩
            have hF52 : Fr fm_m153_6v1 M0 M49 := hF44.tr hQ51 rfl
            refine wk_ifeq r153_103 ⟨by omega, by omega⟩ ?_ ?_
            · intro h56
              refine wk_al0 r153_117 (wk_c1 r153_118 (wk_cv2 r153_119 kc_6_159 rfl (m159_6 _ M49 1 hP50 (by decide) (by decide)) (cqI ?_)))
              rintro v61 M57 ⟨hP58, hQ59, h62, h63⟩
              have hF60 : Fr fm_m153_6v1 M0 M57 := hF52.tr hQ59 rfl
              subst hQ; exact wk_zret r153_122 ⟨by omega, by omega⟩ (⟨rfl, _, rfl, hP58, hF60, by omega, by omega⟩)
            · intro h64
              refine wk_al0 r153_106 (wk_al0 r153_107 (wk_cv1 r153_108 kc_6_173 rfl (m173_6 _ M49 hP50) (cqI ?_)))
              rintro v69 M65 ⟨hP66, hQ67, h70, h71⟩
              have hF68 : Fr fm_m153_6v1 M0 M65 := hF52.tr hQ67 rfl
              refine wk_cv2 r153_111 kc_6_163 rfl (m163_6 _ M65 v69 hP66 (by omega) (by omega)) (cqI ?_)
              rintro v76 M72 ⟨hP73, hQ74, h77, h78⟩
              have hF75 : Fr fm_m153_6v1 M0 M72 := hF68.tr hQ74 rfl
              refine wk_goto r153_114 ?_
              subst hQ; exact wk_zret r153_122 ⟨by omega, by omega⟩ (⟨rfl, _, rfl, hP73, hF75, by omega, by omega⟩)
          · intro h79
            refine wk_al0 r153_92 (wk_cv1 r153_93 kc_6_176 rfl (m176_6 _ M41 hP42) (cqI ?_))
            rintro v84 M80 ⟨hP81, hQ82, h85, h86⟩
            have hF83 : Fr fm_m153_6v1 M0 M80 := hF44.tr hQ82 rfl
            subst hQ; exact wk_zret r153_96 ⟨by omega, by omega⟩ (⟨rfl, _, rfl, hP81, hF83, by omega, by omega⟩)
        · intro h87
          refine wk_al0 r153_70 (wk_c2 r153_71 (wk_al0 r153_73 (wk_c1 r153_74 (wk_c1 r153_75 (wk_cv3 r153_76 kc_6_167 rfl (m167_6v1 _ M33 0 1 hP34 (by decide) (by decide) (by decide) (by decide)) (cqI ?_))))))
          rintro v92 M88 ⟨hP89, hQ90, h93, h94⟩
          have hF91 : Fr fm_m153_6v1 M0 M88 := hF36.tr hQ90 rfl
          refine wk_cv3 r153_79 kc_6_171 rfl (m171_6 _ M88 46 v92 hP89 (by decide) (by decide) (by omega) (by omega)) (cqI ?_)
          rintro v99 M95 ⟨hP96, hQ97, h100, h101⟩
          have hF98 : Fr fm_m153_6v1 M0 M95 := hF91.tr hQ97 rfl
          subst hQ; exact wk_zret r153_82 ⟨by omega, by omega⟩ (⟨rfl, _, rfl, hP96, hF98, by omega, by omega⟩)
      · intro h102
        refine wk_al0 r153_47 (wk_c2 r153_48 (wk_al0 r153_50 (wk_c1 r153_51 (wk_c2 r153_52 (wk_cv3 r153_54 kc_6_167 rfl (m167_6v2 _ M25 0 6 hP26 (by decide) (by decide) (by decide) (by decide)) (cqI ?_))))))
        rintro v107 M103 ⟨hP104, hQ105, h108, h109⟩
        have hF106 : Fr fm_m153_6v1 M0 M103 := hF28.tr hQ105 rfl
        refine wk_cv3 r153_57 kc_6_171 rfl (m171_6v1 _ M103 39 v107 hP104 (by decide) (by decide) (by omega) (by omega)) (cqI ?_)
        rintro v114 M110 ⟨hP111, hQ112, h115, h116⟩
        have hF113 : Fr fm_m153_6v1 M0 M110 := hF106.tr hQ112 rfl
        subst hQ; exact wk_zret r153_60 ⟨by omega, by omega⟩ (⟨rfl, _, rfl, hP111, hF113, by omega, by omega⟩)
    · intro h117
      refine wk_al0 r153_25 (wk_c2 r153_26 (wk_al0 r153_28 (wk_c1 r153_29 (wk_c1 r153_30 (wk_cv3 r153_31 kc_6_167 rfl (m167_6v3 _ M17 0 3 hP18 (by decide) (by decide) (by decide) (by decide)) (cqI ?_))))))
      rintro v122 M118 ⟨hP119, hQ120, h123, h124⟩
      have hF121 : Fr fm_m153_6v1 M0 M118 := hF20.tr hQ120 rfl
      refine wk_cv3 r153_34 kc_6_171 rfl (m171_6v2 _ M118 35 v122 hP119 (by decide) (by decide) (by omega) (by omega)) (cqI ?_)
      rintro v129 M125 ⟨hP126, hQ127, h130, h131⟩
      have hF128 : Fr fm_m153_6v1 M0 M125 := hF121.tr hQ127 rfl
      subst hQ; exact wk_zret r153_37 ⟨by omega, by omega⟩ (⟨rfl, _, rfl, hP126, hF128, by omega, by omega⟩)
  · intro h132
    refine wk_al0 r153_10 (wk_il1 r153_11 (wk_cv2 r153_12 kc_6_152 rfl (m152_6v1 _ M0 p1 hP0 (by omega) (by omega)) (cqI ?_)))
    rintro v137 M133 ⟨hP134, hQ135, h138, h139⟩
    have hF136 : Fr fm_m153_6v1 M0 M133 := hF0.tr hQ135 rfl
    subst hQ; exact wk_zret r153_15 ⟨by omega, by omega⟩ (⟨rfl, _, rfl, hP134, hF136, by omega, by omega⟩)
def fm_m166_6v1 : Nat := 3941070043873280
/-- IslandHall$Parser.negation -/
theorem m166_6v1 {B : eB} (d : Nat) (M0 : Mm) (p1 : Int) (hP0 : Pw M0) (l1 : 1 ≤ p1) (u1 : p1 ≤ 1) : Ct B (d + 32) 166 [R 6, I p1] M0 (qI fun z M => Pw M ∧ Fr fm_m166_6v1 M0 M ∧ 0 ≤ z ∧ z ≤ 1) := by
  refine ct_of (d := d + 31) (k := 2) (L := [some (R 6), some (I p1), none, none]) rfl rfl rfl ?_
  have hF0 := Fr.rf fm_m166_6v1 M0
  generalize hQ : (qI fun z M => Pw M ∧ Fr fm_m166_6v1 M0 M ∧ 0 ≤ z ∧ z ≤ 1) = Q
  refine wk_c1 r166_0 (wk_is2 r166_1 rfl ?_)
  have c2_551 : ∀ (k551 : Nat) (M472 : Mm) (v469 : Int), (6 - v469).toNat = k551 → Pw M472 → Fr fm_m166_6v1 M0 M472 → 0 ≤ v469 → v469 ≤ 6 → Wp B (d + 31) 166 2 [some (R 6), some (I p1), some (I v469), none] [] M472 Q := by
    refine lp_ind ?_
    intro k551 ih551 M472 v469 hk551 hP473 hF474 h470 h471
    refine wk_il2 r166_2 (wk_c2 r166_3 ?_)
    have c23_550 : ∀ (M486 : Mm), Pw M486 → Fr fm_m166_6v1 M0 M486 → Wp B (d + 31) 166 23 [some (R 6), some (I p1), some (I v469), none] [] M486 Q := by
      intro M486 hP487 hF488
      refine wk_al0 r166_23 (wk_getfr r166_24 fd_6_0 (br_6_0 hP487) (wk_c8 r166_27 (wk_cv2 r166_29 kc_9_239 rfl (m239_9 _ M486 4119 hP487 (by decide)) (cqI ?_))))
      rintro v494 M489 ⟨hP490, hQ491, h495, h496, xh493⟩
      obtain rfl := Fr.same hQ491
      refine wk_ifeq r166_32 ⟨by omega, by omega⟩ ?_ ?_
      · intro h497
        refine wk_al0 r166_41 (wk_getfr r166_42 fd_6_0 (br_6_0 hP487) (wk_c2 r166_45 (wk_cv2 r166_47 kc_9_238 rfl (m238_9 _ M486 40 hP487 (by decide) (by decide)) (cqI ?_))))
        rintro v502 M498 ⟨hP499, hQ500, h503, h504⟩
        obtain rfl := Fr.same hQ500
        have c66_541 : ∀ (M524 : Mm) (v521 : Int), Pw M524 → Fr fm_m166_6v1 M0 M524 → 0 ≤ v521 → v521 ≤ 1 → Wp B (d + 31) 166 66 [some (R 6), none, some (I v469), none] [I v521] M524 Q := by
          intro M524 v521 hP525 hF526 h522 h523
          refine wk_is3 r166_66 rfl (wk_il3 r166_67 ?_)
          refine wk_ifeq r166_68 ⟨by omega, by omega⟩ ?_ ?_
          · intro h527
            refine wk_c1 r166_90 ?_
            subst hQ; exact wk_zret r166_91 (by decide) (⟨rfl, _, rfl, hP525, hF526, by omega, by omega⟩)
          · intro h528
            refine wk_il2 r166_71 (wk_c1 r166_72 (wk_iandc 1 2 r166_73 ⟨rfl, by decide⟩ rfl ?_))
            refine wk_ifeq r166_74 ⟨by omega, by omega⟩ ?_ ?_
            · intro h530
              refine wk_c1 r166_86 (wk_goto r166_87 ?_)
              subst hQ; exact wk_zret r166_91 (by decide) (⟨rfl, _, rfl, hP525, hF526, by omega, by omega⟩)
            · intro h531
              refine wk_al0 r166_77 (wk_c1 r166_78 (wk_c1 r166_79 (wk_cv3 r166_80 kc_6_172 rfl (m172_6 _ M524 1 0 hP525 (by decide) (by decide) (by decide) (by decide) (by first | assumption | omega | (unfold stepok; omega))) (cqI ?_))))
              rintro v536 M532 ⟨hP533, hQ534, h537, h538⟩
              have hF535 : Fr fm_m166_6v1 M0 M532 := hF526.tr hQ534 rfl
              refine wk_ifeq r166_83 ⟨by omega, by omega⟩ ?_ ?_
              · intro h539
                exfalso
                omega
              · intro h540
                refine wk_c1 r166_86 (wk_goto r166_87 ?_)
                subst hQ; exact wk_zret r166_91 (by decide) (⟨rfl, _, rfl, hP533, hF535, by omega, by omega⟩)
        refine wk_ifeq r166_50 ⟨by omega, by omega⟩ ?_ ?_
        · intro h505
          refine wk_al0 r166_61 (wk_il1 r166_62 (wk_cv2 r166_63 kc_6_153 rfl (m153_6v1 _ M486 p1 hP487 (by omega) (by omega)) (cqI ?_)))
          rintro v510 M506 ⟨hP507, hQ508, h511, h512⟩
          have hF509 : Fr fm_m166_6v1 M0 M506 := hF488.tr hQ508 rfl
          exact wp_fg (le_s (le_n (le_s (le_s le_0)))) (c66_541 M506 v510 hP507 hF509 (by omega) (by omega))
        · intro h513
          refine wk_al0 r166_53 (wk_il1 r166_54 (wk_cv2 r166_55 kc_6_168 rfl (m168_6v1 _ M486 p1 hP487 (by omega) (by omega)) (cqI ?_)))
          rintro v518 M514 ⟨hP515, hQ516, h519, h520⟩
          have hF517 : Fr fm_m166_6v1 M0 M514 := hF488.tr hQ516 rfl
          refine wk_goto r166_58 ?_
          exact wp_fg (le_s (le_n (le_s (le_s le_0)))) (c66_541 M514 v518 hP515 hF517 (by omega) (by omega))
      · intro h542
        refine wk_al0 r166_35 (wk_c1 r166_36 (wk_cv2 r166_37 kc_6_159 rfl (m159_6v1 _ M486 2 hP487 (by decide) (by decide)) (cqI ?_)))
        rintro v547 M543 ⟨hP544, hQ545, h548, h549⟩
        have hF546 : Fr fm_m166_6v1 M0 M543 := hF488.tr hQ545 rfl
        subst hQ; exact wk_zret r166_40 ⟨by omega, by omega⟩ (⟨rfl, _, rfl, hP544, hF546, by omega, by omega⟩)
    refine wk_icge r166_5 ⟨by omega, by omega⟩ (by decide) ?_ ?_
    · intro h475
      exact wp_fg (le_s (le_s (le_s (le_s le_0)))) (c23_550 M472 hP473 hF474)
    · intro h476
      refine wk_al0 r166_8 (wk_c8 r166_9 (wk_cv2 r166_11 kc_6_175 rfl (m175_6 _ M472 4119 hP473 (by decide)) (cqI ?_)))
      rintro v481 M477 ⟨hP478, hQ479, h482, h483⟩
      have hF480 : Fr fm_m166_6v1 M0 M477 := hF474.tr hQ479 rfl
      refine wk_ifeq r166_14 ⟨by omega, by omega⟩ ?_ ?_
      · intro h484
        exact wp_fg (le_s (le_s (le_s (le_s le_0)))) (c23_550 M477 hP478 hF480)
      · intro h485
        refine wk_inc2 r166_17 rfl (wk_goto r166_20 ?_)
        exact wp_fg (le_s (le_s (le_s (le_s le_0)))) (ih551 (6 - (v469 + 1)).toNat (by omega) M477 (v469 + 1) rfl hP478 hF480 (by omega) (by omega))
  exact wp_fg (le_s (le_s (le_s (le_s le_0)))) (c2_551 _ M0 0 rfl hP0 hF0 (by omega) (by omega))
def fm_m157_6v1 : Nat := 3941070043873280
/-- IslandHall$Parser.conjunction -/
theorem m157_6v1 {B : eB} (d : Nat) (M0 : Mm) (p1 : Int) (hP0 : Pw M0) (l1 : 1 ≤ p1) (u1 : p1 ≤ 1) : Ct B (d + 33) 157 [R 6, I p1] M0 (qI fun z M => Pw M ∧ Fr fm_m157_6v1 M0 M ∧ 0 ≤ z ∧ z ≤ 1) := by
  refine ct_of (d := d + 32) (k := 1) (L := [some (R 6), some (I p1), none]) rfl rfl rfl ?_
  have hF0 := Fr.rf fm_m157_6v1 M0
  generalize hQ : (qI fun z M => Pw M ∧ Fr fm_m157_6v1 M0 M ∧ 0 ≤ z ∧ z ≤ 1) = Q
  refine wk_al0 r157_0 (wk_il1 r157_1 (wk_cv2 r157_2 kc_6_166 rfl (m166_6v1 _ M0 p1 hP0 (by omega) (by omega)) (cqI ?_)))
  rintro v5 M1 ⟨hP2, hQ3, h6, h7⟩
  have hF4 : Fr fm_m157_6v1 M0 M1 := hF0.tr hQ3 rfl
  refine wk_ifne r157_5 ⟨by omega, by omega⟩ ?_ ?_
  · intro h8
    refine wk_c1 r157_10 (wk_is2 r157_11 rfl ?_)
    have c12_359 : ∀ (k359 : Nat) (M327 : Mm) (v324 : Int), (500 - v324).toNat = k359 → Pw M327 → Fr fm_m157_6v1 M0 M327 → 0 ≤ v324 → v324 ≤ 500 → Wp B (d + 32) 157 12 [some (R 6), some (I p1), some (I v324)] [] M327 Q := by
      refine lp_ind ?_
      intro k359 ih359 M327 v324 hk359 hP328 hF329 h325 h326
      refine wk_il2 r157_12 (wk_c3 r157_13 ?_)
      refine wk_icge r157_16 ⟨by omega, by omega⟩ (by decide) ?_ ?_
      · intro h330
        refine wk_c1 r157_53 ?_
        subst hQ; exact wk_zret r157_54 (by decide) (⟨rfl, _, rfl, hP328, hF329, by omega, by omega⟩)
      · intro h331
        refine wk_al0 r157_19 (wk_c8 r157_20 (wk_cv2 r157_22 kc_6_175 rfl (m175_6 _ M327 4125 hP328 (by decide)) (cqI ?_)))
        rintro v336 M332 ⟨hP333, hQ334, h337, h338⟩
        have hF335 : Fr fm_m157_6v1 M0 M332 := hF329.tr hQ334 rfl
        refine wk_ifeq r157_25 ⟨by omega, by omega⟩ ?_ ?_
        · intro h339
          refine wk_c1 r157_53 ?_
          subst hQ; exact wk_zret r157_54 (by decide) (⟨rfl, _, rfl, hP333, hF335, by omega, by omega⟩)
        · intro h340
          refine wk_al0 r157_28 (wk_il1 r157_29 (wk_cv2 r157_30 kc_6_166 rfl (m166_6v1 _ M332 p1 hP333 (by omega) (by omega)) (cqI ?_)))
          rintro v345 M341 ⟨hP342, hQ343, h346, h347⟩
          have hF344 : Fr fm_m157_6v1 M0 M341 := hF335.tr hQ343 rfl
          refine wk_ifeq r157_33 ⟨by omega, by omega⟩ ?_ ?_
          · intro h348
            refine wk_c1 r157_45 ?_
            subst hQ; exact wk_zret r157_46 (by decide) (⟨rfl, _, rfl, hP342, hF344, by omega, by omega⟩)
          · intro h349
            refine wk_al0 r157_36 (wk_c1 r157_37 (wk_c1 r157_38 (wk_cv3 r157_39 kc_6_172 rfl (m172_6 _ M341 2 0 hP342 (by decide) (by decide) (by decide) (by decide) (by first | assumption | omega | (unfold stepok; omega))) (cqI ?_))))
            rintro v354 M350 ⟨hP351, hQ352, h355, h356⟩
            have hF353 : Fr fm_m157_6v1 M0 M350 := hF344.tr hQ352 rfl
            refine wk_ifne r157_42 ⟨by omega, by omega⟩ ?_ ?_
            · intro h357
              refine wk_inc2 r157_47 rfl (wk_goto r157_50 ?_)
              exact wp_fg (le_s (le_s (le_s le_0))) (ih359 (500 - (v324 + 1)).toNat (by omega) M350 (v324 + 1) rfl hP351 hF353 (by omega) (by omega))
            · intro h358
              exfalso
              omega
    exact wp_fg (le_s (le_s (le_s le_0))) (c12_359 _ M1 0 rfl hP2 hF4 (by omega) (by omega))
  · intro h360
    refine wk_c1 r157_8 ?_
    subst hQ; exact wk_zret r157_9 (by decide) (⟨rfl, _, rfl, hP2, hF4, by omega, by omega⟩)
def fm_m158_6v1 : Nat := 3941070043873280
/-- IslandHall$Parser.expr -/
theorem m158_6v1 {B : eB} (d : Nat) (M0 : Mm) (p1 : Int) (hP0 : Pw M0) (l1 : 1 ≤ p1) (u1 : p1 ≤ 1) : Ct B (d + 34) 158 [R 6, I p1] M0 (qI fun z M => Pw M ∧ Fr fm_m158_6v1 M0 M ∧ 0 ≤ z ∧ z ≤ 1) := by
  refine ct_of (d := d + 33) (k := 1) (L := [some (R 6), some (I p1), none]) rfl rfl rfl ?_
  have hF0 := Fr.rf fm_m158_6v1 M0
  generalize hQ : (qI fun z M => Pw M ∧ Fr fm_m158_6v1 M0 M ∧ 0 ≤ z ∧ z ≤ 1) = Q
  refine wk_al0 r158_0 (wk_cv1 r158_1 kc_6_155 rfl (m155_6 _ M0 hP0) (cqI ?_))
  rintro v5 M1 ⟨hP2, hQ3, h6, h7⟩
  obtain rfl := Fr.same hQ3
  refine wk_ifne r158_4 ⟨by omega, by omega⟩ ?_ ?_
  · intro h8
    refine wk_il1 r158_13 (wk_c2 r158_14 ?_)
    refine wk_iclt r158_16 ⟨by omega, by omega⟩ (by decide) ?_ ?_
    · intro h9
      refine wk_al0 r158_25 (wk_il1 r158_26 (wk_cv2 r158_27 kc_6_157 rfl (m157_6v1 _ M0 p1 hP0 (by omega) (by omega)) (cqI ?_)))
      rintro v14 M10 ⟨hP11, hQ12, h15, h16⟩
      have hF13 : Fr fm_m158_6v1 M0 M10 := hF0.tr hQ12 rfl
      refine wk_ifne r158_30 ⟨by omega, by omega⟩ ?_ ?_
      · intro h17
        refine wk_c1 r158_35 (wk_is2 r158_36 rfl ?_)
        have c37_368 : ∀ (k368 : Nat) (M336 : Mm) (v333 : Int), (500 - v333).toNat = k368 → Pw M336 → Fr fm_m158_6v1 M0 M336 → 0 ≤ v333 → v333 ≤ 500 → Wp B (d + 33) 158 37 [some (R 6), some (I p1), some (I v333)] [] M336 Q := by
          refine lp_ind ?_
          intro k368 ih368 M336 v333 hk368 hP337 hF338 h334 h335
          refine wk_il2 r158_37 (wk_c3 r158_38 ?_)
          refine wk_icge r158_41 ⟨by omega, by omega⟩ (by decide) ?_ ?_
          · intro h339
            refine wk_c1 r158_78 ?_
            subst hQ; exact wk_zret r158_79 (by decide) (⟨rfl, _, rfl, hP337, hF338, by omega, by omega⟩)
          · intro h340
            refine wk_al0 r158_44 (wk_c8 r158_45 (wk_cv2 r158_47 kc_6_175 rfl (m175_6 _ M336 4126 hP337 (by decide)) (cqI ?_)))
            rintro v345 M341 ⟨hP342, hQ343, h346, h347⟩
            have hF344 : Fr fm_m158_6v1 M0 M341 := hF338.tr hQ343 rfl
            refine wk_ifeq r158_50 ⟨by omega, by omega⟩ ?_ ?_
            · intro h348
              refine wk_c1 r158_78 ?_
              subst hQ; exact wk_zret r158_79 (by decide) (⟨rfl, _, rfl, hP342, hF344, by omega, by omega⟩)
            · intro h349
              refine wk_al0 r158_53 (wk_il1 r158_54 (wk_cv2 r158_55 kc_6_157 rfl (m157_6v1 _ M341 p1 hP342 (by omega) (by omega)) (cqI ?_)))
              rintro v354 M350 ⟨hP351, hQ352, h355, h356⟩
              have hF353 : Fr fm_m158_6v1 M0 M350 := hF344.tr hQ352 rfl
              refine wk_ifeq r158_58 ⟨by omega, by omega⟩ ?_ ?_
              · intro h357
                refine wk_c1 r158_70 ?_
                subst hQ; exact wk_zret r158_71 (by decide) (⟨rfl, _, rfl, hP351, hF353, by omega, by omega⟩)
              · intro h358
                refine wk_al0 r158_61 (wk_c1 r158_62 (wk_c1 r158_63 (wk_cv3 r158_64 kc_6_172 rfl (m172_6 _ M350 3 0 hP351 (by decide) (by decide) (by decide) (by decide) (by first | assumption | omega | (unfold stepok; omega))) (cqI ?_))))
                rintro v363 M359 ⟨hP360, hQ361, h364, h365⟩
                have hF362 : Fr fm_m158_6v1 M0 M359 := hF353.tr hQ361 rfl
                refine wk_ifne r158_67 ⟨by omega, by omega⟩ ?_ ?_
                · intro h366
                  refine wk_inc2 r158_72 rfl (wk_goto r158_75 ?_)
                  exact wp_fg (le_s (le_s (le_s le_0))) (ih368 (500 - (v333 + 1)).toNat (by omega) M359 (v333 + 1) rfl hP360 hF362 (by omega) (by omega))
                · intro h367
                  exfalso
                  omega
        exact wp_fg (le_s (le_s (le_s le_0))) (c37_368 _ M10 0 rfl hP11 hF13 (by omega) (by omega))
      · intro h369
        refine wk_c1 r158_33 ?_
        subst hQ; exact wk_zret r158_34 (by decide) (⟨rfl, _, rfl, hP11, hF13, by omega, by omega⟩)
    · intro h370
      exfalso
      omega
  · intro h371
    refine wk_al0 r158_7 (wk_c1 r158_8 (wk_cv2 r158_9 kc_6_159 rfl (m159_6 _ M0 1 hP0 (by decide) (by decide)) (cqI ?_)))
    rintro v376 M372 ⟨hP373, hQ374, h377, h378⟩
    have hF375 : Fr fm_m158_6v1 M0 M372 := hF0.tr hQ374 rfl
    subst hQ; exact wk_zret r158_12 ⟨by omega, by omega⟩ (⟨rfl, _, rfl, hP373, hF375, by omega, by omega⟩)
def fm_m168_6 : Nat := 3941070043873280
/-- IslandHall$Parser.parenthesis -/
theorem m168_6 {B : eB} (d : Nat) (M0 : Mm) (p1 : Int) (hP0 : Pw M0) (l1 : 0 ≤ p1) (u1 : p1 ≤ 0) : Ct B (d + 35) 168 [R 6, I p1] M0 (qI fun z M => Pw M ∧ Fr fm_m168_6 M0 M ∧ 0 ≤ z ∧ z ≤ 1) := by
  refine ct_of (d := d + 34) (k := 0) (L := [some (R 6), some (I p1)]) rfl rfl rfl ?_
  have hF0 := Fr.rf fm_m168_6 M0
  generalize hQ : (qI fun z M => Pw M ∧ Fr fm_m168_6 M0 M ∧ 0 ≤ z ∧ z ≤ 1) = Q
  refine wk_al0 r168_0 (wk_c2 r168_1 (wk_cv2 r168_3 kc_6_174 rfl (m174_6 _ M0 40 hP0 (by decide) (by decide)) (cqI ?_)))
  rintro v5 M1 ⟨hP2, hQ3, h6, h7⟩
  have hF4 : Fr fm_m168_6 M0 M1 := hF0.tr hQ3 rfl
  refine wk_ifeq r168_6 ⟨by omega, by omega⟩ ?_ ?_
  · intro h8
    refine wk_c1 r168_32 ?_
    subst hQ; exact wk_zret r168_33 (by decide) (⟨rfl, _, rfl, hP2, hF4, by omega, by omega⟩)
  · intro h9
    refine wk_al0 r168_9 (wk_il1 r168_10 (wk_c1 r168_11 (wk_iadd r168_12 (wk_cv2 r168_13 kc_6_158 rfl (m158_6v1 _ M1 (p1 + 1) hP2 (by omega) (by omega)) (cqI ?_)))))
    rintro v14 M10 ⟨hP11, hQ12, h15, h16⟩
    have hF13 : Fr fm_m168_6 M0 M10 := hF4.tr hQ12 rfl
    refine wk_ifeq r168_16 ⟨by omega, by omega⟩ ?_ ?_
    · intro h17
      refine wk_c1 r168_32 ?_
      subst hQ; exact wk_zret r168_33 (by decide) (⟨rfl, _, rfl, hP11, hF13, by omega, by omega⟩)
    · intro h18
      refine wk_al0 r168_19 (wk_c2 r168_20 (wk_cv2 r168_22 kc_6_174 rfl (m174_6v1 _ M10 41 hP11 (by decide) (by decide)) (cqI ?_)))
      rintro v23 M19 ⟨hP20, hQ21, h24, h25⟩
      have hF22 : Fr fm_m168_6 M0 M19 := hF13.tr hQ21 rfl
      refine wk_ifeq r168_25 ⟨by omega, by omega⟩ ?_ ?_
      · intro h26
        refine wk_c1 r168_32 ?_
        subst hQ; exact wk_zret r168_33 (by decide) (⟨rfl, _, rfl, hP20, hF22, by omega, by omega⟩)
      · intro h27
        refine wk_c1 r168_28 (wk_goto r168_29 ?_)
        subst hQ; exact wk_zret r168_33 (by decide) (⟨rfl, _, rfl, hP20, hF22, by omega, by omega⟩)
def fm_m152_6 : Nat := 3941070043873280
/-- IslandHall$Parser.aboutSomeone -/
theorem m152_6 {B : eB} (d : Nat) (M0 : Mm) (p1 : Int) (hP0 : Pw M0) (l1 : 0 ≤ p1) (u1 : p1 ≤ 0) : Ct B (d + 36) 152 [R 6, I p1] M0 (qI fun z M => Pw M ∧ Fr fm_m152_6 M0 M ∧ 0 ≤ z ∧ z ≤ 1) := by
  refine ct_of (d := d + 35) (k := 2) (L := [some (R 6), some (I p1), none, none]) rfl rfl rfl ?_
  have hF0 := Fr.rf fm_m152_6 M0
  generalize hQ : (qI fun z M => Pw M ∧ Fr fm_m152_6 M0 M ∧ 0 ≤ z ∧ z ≤ 1) = Q
  refine wk_al0 r152_0 (wk_cv1 r152_1 kc_6_165 rfl (m165_6 _ M0 hP0) (cqI ?_))
  rintro v5 M1 ⟨hP2, hQ3, h6, h7⟩
  have hF4 : Fr fm_m152_6 M0 M1 := hF0.tr hQ3 rfl
  refine wk_is2 r152_4 rfl (wk_il2 r152_5 (wk_c1 r152_6 ?_))
  refine wk_icne r152_7 ⟨by omega, by omega⟩ (by decide) ?_ ?_
  · intro h8
    refine wk_al0 r152_12 (wk_c8 r152_13 (wk_cv2 r152_15 kc_6_175 rfl (m175_6 _ M1 4111 hP2 (by decide)) (cqI ?_)))
    rintro v13 M9 ⟨hP10, hQ11, h14, h15⟩
    have hF12 : Fr fm_m152_6 M0 M9 := hF4.tr hQ11 rfl
    refine wk_ifeq r152_18 ⟨by omega, by omega⟩ ?_ ?_
    · intro h16
      refine wk_al0 r152_35 (wk_c8 r152_36 (wk_cv2 r152_38 kc_6_175 rfl (m175_6 _ M9 4112 hP10 (by decide)) (cqI ?_)))
      rintro v21 M17 ⟨hP18, hQ19, h22, h23⟩
      have hF20 : Fr fm_m152_6 M0 M17 := hF12.tr hQ19 rfl
      refine wk_ifeq r152_41 ⟨by omega, by omega⟩ ?_ ?_
      · intro h24
        refine wk_al0 r152_73 (wk_c8 r152_74 (wk_cv2 r152_76 kc_6_175 rfl (m175_6 _ M17 4113 hP18 (by decide)) (cqI ?_)))
        rintro v29 M25 ⟨hP26, hQ27, h30, h31⟩
        have hF28 : Fr fm_m152_6 M0 M25 := hF20.tr hQ27 rfl
        refine wk_ifne r152_79 ⟨by omega, by omega⟩ ?_ ?_
        · intro h32
          refine wk_al0 r152_88 (wk_il1 r152_89 (wk_cv2 r152_90 kc_6_168 rfl (m168_6 _ M25 p1 hP26 (by omega) (by omega)) (cqI ?_)))
          rintro v37 M33 ⟨hP34, hQ35, h38, h39⟩
          have hF36 : Fr fm_m152_6 M0 M33 := hF28.tr hQ35 rfl
          refine wk_ifne r152_93 ⟨by omega, by omega⟩ ?_ ?_
          · intro h40
            refine wk_al0 r152_98 ?_
            obtain ⟨v41, e42⟩ : ∃ v, M33 6 2 = v := ⟨_, rfl⟩
            have hC43 : isC v41 := by have := pcE hP34; rw [e42] at this; exact this
            refine wk_getfr r152_99 fd_6_2 e42 (wk_il2 r152_102 (wk_cv2 r152_103 (kcC_139 hC43) rfl (m139 _ M33 v41 v5 hP34 hC43 (by omega) (by omega)) (cqV ?_)))
            rintro M44 ⟨hP45, hQ46⟩
            have hF47 : Fr fm_m152_6 M0 M44 := hF36.tr hQ46 rfl
            refine wk_c1 r152_106 ?_
            subst hQ; exact wk_zret r152_107 (by decide) (⟨rfl, _, rfl, hP45, hF47, by omega, by omega⟩)
          · intro h48
            refine wk_c1 r152_96 ?_
            subst hQ; exact wk_zret r152_97 (by decide) (⟨rfl, _, rfl, hP34, hF36, by omega, by omega⟩)
        · intro h49
          refine wk_al0 r152_82 (wk_c1 r152_83 (wk_cv2 r152_84 kc_6_159 rfl (m159_6 _ M25 1 hP26 (by decide) (by decide)) (cqI ?_)))
          rintro v54 M50 ⟨hP51, hQ52, h55, h56⟩
          have hF53 : Fr fm_m152_6 M0 M50 := hF28.tr hQ52 rfl
          subst hQ; exact wk_zret r152_87 ⟨by omega, by omega⟩ (⟨rfl, _, rfl, hP51, hF53, by omega, by omega⟩)
      · intro h57
        refine wk_al0 r152_44 (wk_cv1 r152_45 kc_6_165 rfl (m165_6 _ M17 hP18) (cqI ?_))
        rintro v62 M58 ⟨hP59, hQ60, h63, h64⟩
        have hF61 : Fr fm_m152_6 M0 M58 := hF20.tr hQ60 rfl
        refine wk_is3 r152_48 rfl (wk_il3 r152_49 (wk_c1 r152_50 ?_))
        refine wk_iceq r152_51 ⟨by omega, by omega⟩ (by decide) ?_ ?_
        · intro h65
          refine wk_c1 r152_71 ?_
          subst hQ; exact wk_zret r152_72 (by decide) (⟨rfl, _, rfl, hP59, hF61, by omega, by omega⟩)
        · intro h66
          refine wk_al0 r152_54 (wk_c1 r152_55 (wk_il2 r152_56 (wk_c1 r152_57 (wk_ishlc r152_58 (by decide) pwl_3 (wk_il3 r152_59 (wk_iord2 3 8 r152_60 (by decide) ⟨by omega, by omega⟩ ⟨by omega, by omega, by omega⟩ (wk_cv3 r152_61 kc_6_172 rfl (m172_6 _ M58 5 ((v5 * 8) + v62) hP59 (by decide) (by decide) (by omega) (by omega) (by first | assumption | omega | (unfold stepok; omega))) (cqI ?_))))))))
          rintro v71 M67 ⟨hP68, hQ69, h72, h73⟩
          have hF70 : Fr fm_m152_6 M0 M67 := hF61.tr hQ69 rfl
          refine wk_ifeq r152_64 ⟨by omega, by omega⟩ ?_ ?_
          · intro h74
            exfalso
            omega
          · intro h75
            refine wk_c1 r152_67 (wk_goto r152_68 ?_)
            subst hQ; exact wk_zret r152_72 (by decide) (⟨rfl, _, rfl, hP68, hF70, by omega, by omega⟩)
    · intro h76
      refine wk_al0 r152_21 (wk_c1 r152_22 (wk_il2 r152_23 (wk_c1 r152_24 (wk_imul r152_25 (wk_iadd r152_26 (wk_al0 r152_27 (wk_cv1 r152_28 kc_6_173 rfl (m173_6 _ M9 hP10) (cqI ?_))))))))
      rintro v81 M77 ⟨hP78, hQ79, h82, h83⟩
      have hF80 : Fr fm_m152_6 M0 M77 := hF12.tr hQ79 rfl
      refine wk_cv3 r152_31 kc_6_171 rfl (m171_6v3 _ M77 (0 + (v5 * 5)) v81 hP78 (by omega) (by omega) (by omega) (by omega)) (cqI ?_)
      rintro v88 M84 ⟨hP85, hQ86, h89, h90⟩
      have hF87 : Fr fm_m152_6 M0 M84 := hF80.tr hQ86 rfl
      subst hQ; exact wk_zret r152_34 ⟨by omega, by omega⟩ (⟨rfl, _, rfl, hP85, hF87, by omega, by omega⟩)
  · intro h91
    refine wk_c1 r152_10 ?_
    subst hQ; exact wk_zret r152_11 (by decide) (⟨rfl, _, rfl, hP2, hF4, by omega, by omega⟩)
def fm_m153_6 : Nat := 3941070043873280
/-- IslandHall$Parser.atom -/
theorem m153_6 {B : eB} (d : Nat) (M0 : Mm) (p1 : Int) (hP0 : Pw M0) (l1 : 0 ≤ p1) (u1 : p1 ≤ 0) : Ct B (d + 37) 153 [R 6, I p1] M0 (qI fun z M => Pw M ∧ Fr fm_m153_6 M0 M ∧ 0 ≤ z ∧ z ≤ 1) := by
  refine ct_of (d := d + 36) (k := 0) (L := [some (R 6), some (I p1)]) rfl rfl rfl ?_
  have hF0 := Fr.rf fm_m153_6 M0
  generalize hQ : (qI fun z M => Pw M ∧ Fr fm_m153_6 M0 M ∧ 0 ≤ z ∧ z ≤ 1) = Q
  refine wk_al0 r153_0 (wk_getfr r153_1 fd_6_0 (br_6_0 hP0) (wk_cv1 r153_4 kc_9_237 rfl (m237_9 _ M0 hP0) (cqI ?_)))
  rintro v7 M1 ⟨hP2, hQ3, h8, h9, h5, h6⟩
  obtain rfl := Fr.same hQ3
  obtain ⟨v10, e11⟩ : ∃ v, M0 9 2 = v := ⟨_, rfl⟩
  have h12 := bf_9_2 hP0; rw [e11] at h12
  obtain ⟨v13, e14⟩ : ∃ v, M0 9 3 = v := ⟨_, rfl⟩
  have h15 := bf_9_3 hP0; rw [e14] at h15
  refine wk_ifeq r153_7 ⟨by omega, by omega⟩ ?_ ?_
  · intro h16
    refine wk_al0 r153_16 (wk_c8 r153_17 (wk_cv2 r153_19 kc_6_175 rfl (m175_6 _ M0 4114 hP0 (by decide)) (cqI ?_)))
    rintro v21 M17 ⟨hP18, hQ19, h22, h23⟩
    have hF20 : Fr fm_m153_6 M0 M17 := hF0.tr hQ19 rfl
    refine wk_ifeq r153_22 ⟨by omega, by omega⟩ ?_ ?_
    · intro h24
      refine wk_al0 r153_38 (wk_c8 r153_39 (wk_cv2 r153_41 kc_6_175 rfl (m175_6 _ M17 4115 hP18 (by decide)) (cqI ?_)))
      rintro v29 M25 ⟨hP26, hQ27, h30, h31⟩
      have hF28 : Fr fm_m153_6 M0 M25 := hF20.tr hQ27 rfl
      refine wk_ifeq r153_44 ⟨by omega, by omega⟩ ?_ ?_
      · intro h32
        refine wk_al0 r153_61 (wk_c8 r153_62 (wk_cv2 r153_64 kc_6_175 rfl (m175_6 _ M25 4116 hP26 (by decide)) (cqI ?_)))
        rintro v37 M33 ⟨hP34, hQ35, h38, h39⟩
        have hF36 : Fr fm_m153_6 M0 M33 := hF28.tr hQ35 rfl
        refine wk_ifeq r153_67 ⟨by omega, by omega⟩ ?_ ?_
        · intro h40
          refine wk_al0 r153_83 (wk_c8 r153_84 (wk_cv2 r153_86 kc_6_175 rfl (m175_6 _ M33 4117 hP34 (by decide)) (cqI ?_)))
          rintro v45 M41 ⟨hP42, hQ43, h46, h47⟩
          have hF44 : Fr fm_m153_6 M0 M41 := hF36.tr hQ43 rfl
          refine wk_ifeq r153_89 ⟨by omega, by omega⟩ ?_ ?_
          · intro h48
            refine wk_al0 r153_97 (wk_c8 r153_98 (wk_cv2 r153_100 kc_6_175 rfl (m175_6 _ M41 4118 hP42 (by decide)) (cqI ?_)))
            rintro v53 M49 ⟨hP50, hQ51, h54, h55⟩
            have hF52 : Fr fm_m153_6 M0 M49 := hF44.tr hQ51 rfl
            refine wk_ifeq r153_103 ⟨by omega, by omega⟩ ?_ ?_
            · intro h56
              refine wk_al0 r153_117 (wk_c1 r153_118 (wk_cv2 r153_119 kc_6_159 rfl (m159_6 _ M49 1 hP50 (by decide) (by decide)) (cqI ?_)))
              rintro v61 M57 ⟨hP58, hQ59, h62, h63⟩
              have hF60 : Fr fm_m153_6 M0 M57 := hF52.tr hQ59 rfl
              subst hQ; exact wk_zret r153_122 ⟨by omega, by omega⟩ (⟨rfl, _, rfl, hP58, hF60, by omega, by omega⟩)
            · intro h64
              refine wk_al0 r153_106 (wk_al0 r153_107 (wk_cv1 r153_108 kc_6_173 rfl (m173_6 _ M49 hP50) (cqI ?_)))
              rintro v69 M65 ⟨hP66, hQ67, h70, h71⟩
              have hF68 : Fr fm_m153_6 M0 M65 := hF52.tr hQ67 rfl
              refine wk_cv2 r153_111 kc_6_163 rfl (m163_6 _ M65 v69 hP66 (by omega) (by omega)) (cqI ?_)
              rintro v76 M72 ⟨hP73, hQ74, h77, h78⟩
              have hF75 : Fr fm_m153_6 M0 M72 := hF68.tr hQ74 rfl
              refine wk_goto r153_114 ?_
              subst hQ; exact wk_zret r153_122 ⟨by omega, by omega⟩ (⟨rfl, _, rfl, hP73, hF75, by omega, by omega⟩)
          · intro h79
            refine wk_al0 r153_92 (wk_cv1 r153_93 kc_6_176 rfl (m176_6 _ M41 hP42) (cqI ?_))
            rintro v84 M80 ⟨hP81, hQ82, h85, h86⟩
            have hF83 : Fr fm_m153_6 M0 M80 := hF44.tr hQ82 rfl
            subst hQ; exact wk_zret r153_96 ⟨by omega, by omega⟩ (⟨rfl, _, rfl, hP81, hF83, by omega, by omega⟩)
        · intro h87
          refine wk_al0 r153_70 (wk_c2 r153_71 (wk_al0 r153_73 (wk_c1 r153_74 (wk_c1 r153_75 (wk_cv3 r153_76 kc_6_167 rfl (m167_6v1 _ M33 0 1 hP34 (by decide) (by decide) (by decide) (by decide)) (cqI ?_))))))
          rintro v92 M88 ⟨hP89, hQ90, h93, h94⟩
          have hF91 : Fr fm_m153_6 M0 M88 := hF36.tr hQ90 rfl
          refine wk_cv3 r153_79 kc_6_171 rfl (m171_6 _ M88 46 v92 hP89 (by decide) (by decide) (by omega) (by omega)) (cqI ?_)
          rintro v99 M95 ⟨hP96, hQ97, h100, h101⟩
          have hF98 : Fr fm_m153_6 M0 M95 := hF91.tr hQ97 rfl
          subst hQ; exact wk_zret r153_82 ⟨by omega, by omega⟩ (⟨rfl, _, rfl, hP96, hF98, by omega, by omega⟩)
      · intro h102
        refine wk_al0 r153_47 (wk_c2 r153_48 (wk_al0 r153_50 (wk_c1 r153_51 (wk_c2 r153_52 (wk_cv3 r153_54 kc_6_167 rfl (m167_6v2 _ M25 0 6 hP26 (by decide) (by decide) (by decide) (by decide)) (cqI ?_))))))
        rintro v107 M103 ⟨hP104, hQ105, h108, h109⟩
        have hF106 : Fr fm_m153_6 M0 M103 := hF28.tr hQ105 rfl
        refine wk_cv3 r153_57 kc_6_171 rfl (m171_6v1 _ M103 39 v107 hP104 (by decide) (by decide) (by omega) (by omega)) (cqI ?_)
        rintro v114 M110 ⟨hP111, hQ112, h115, h116⟩
        have hF113 : Fr fm_m153_6 M0 M110 := hF106.tr hQ112 rfl
        subst hQ; exact wk_zret r153_60 ⟨by omega, by omega⟩ (⟨rfl, _, rfl, hP111, hF113, by omega, by omega⟩)
    · intro h117
      refine wk_al0 r153_25 (wk_c2 r153_26 (wk_al0 r153_28 (wk_c1 r153_29 (wk_c1 r153_30 (wk_cv3 r153_31 kc_6_167 rfl (m167_6v3 _ M17 0 3 hP18 (by decide) (by decide) (by decide) (by decide)) (cqI ?_))))))
      rintro v122 M118 ⟨hP119, hQ120, h123, h124⟩
      have hF121 : Fr fm_m153_6 M0 M118 := hF20.tr hQ120 rfl
      refine wk_cv3 r153_34 kc_6_171 rfl (m171_6v2 _ M118 35 v122 hP119 (by decide) (by decide) (by omega) (by omega)) (cqI ?_)
      rintro v129 M125 ⟨hP126, hQ127, h130, h131⟩
      have hF128 : Fr fm_m153_6 M0 M125 := hF121.tr hQ127 rfl
      subst hQ; exact wk_zret r153_37 ⟨by omega, by omega⟩ (⟨rfl, _, rfl, hP126, hF128, by omega, by omega⟩)
  · intro h132
    refine wk_al0 r153_10 (wk_il1 r153_11 (wk_cv2 r153_12 kc_6_152 rfl (m152_6 _ M0 p1 hP0 (by omega) (by omega)) (cqI ?_)))
    rintro v137 M133 ⟨hP134, hQ135, h138, h139⟩
    have hF136 : Fr fm_m153_6 M0 M133 := hF0.tr hQ135 rfl
    subst hQ; exact wk_zret r153_15 ⟨by omega, by omega⟩ (⟨rfl, _, rfl, hP134, hF136, by omega, by omega⟩)
def fm_m166_6 : Nat := 3941070043873280
/-- IslandHall$Parser.negation -/
theorem m166_6 {B : eB} (d : Nat) (M0 : Mm) (p1 : Int) (hP0 : Pw M0) (l1 : 0 ≤ p1) (u1 : p1 ≤ 0) : Ct B (d + 38) 166 [R 6, I p1] M0 (qI fun z M => Pw M ∧ Fr fm_m166_6 M0 M ∧ 0 ≤ z ∧ z ≤ 1) := by
  refine ct_of (d := d + 37) (k := 2) (L := [some (R 6), some (I p1), none, none]) rfl rfl rfl ?_
  have hF0 := Fr.rf fm_m166_6 M0
  generalize hQ : (qI fun z M => Pw M ∧ Fr fm_m166_6 M0 M ∧ 0 ≤ z ∧ z ≤ 1) = Q
  refine wk_c1 r166_0 (wk_is2 r166_1 rfl ?_)
  have c2_551 : ∀ (k551 : Nat) (M472 : Mm) (v469 : Int), (6 - v469).toNat = k551 → Pw M472 → Fr fm_m166_6 M0 M472 → 0 ≤ v469 → v469 ≤ 6 → Wp B (d + 37) 166 2 [some (R 6), some (I p1), some (I v469), none] [] M472 Q := by
    refine lp_ind ?_
    intro k551 ih551 M472 v469 hk551 hP473 hF474 h470 h471
    refine wk_il2 r166_2 (wk_c2 r166_3 ?_)
    have c23_550 : ∀ (M486 : Mm), Pw M486 → Fr fm_m166_6 M0 M486 → Wp B (d + 37) 166 23 [some (R 6), some (I p1), some (I v469), none] [] M486 Q := by
      intro M486 hP487 hF488
      refine wk_al0 r166_23 (wk_getfr r166_24 fd_6_0 (br_6_0 hP487) (wk_c8 r166_27 (wk_cv2 r166_29 kc_9_239 rfl (m239_9 _ M486 4119 hP487 (by decide)) (cqI ?_))))
      rintro v494 M489 ⟨hP490, hQ491, h495, h496, xh493⟩
      obtain rfl := Fr.same hQ491
      refine wk_ifeq r166_32 ⟨by omega, by omega⟩ ?_ ?_
      · intro h497
        refine wk_al0 r166_41 (wk_getfr r166_42 fd_6_0 (br_6_0 hP487) (wk_c2 r166_45 (wk_cv2 r166_47 kc_9_238 rfl (m238_9 _ M486 40 hP487 (by decide) (by decide)) (cqI ?_))))
        rintro v502 M498 ⟨hP499, hQ500, h503, h504⟩
        obtain rfl := Fr.same hQ500
        have c66_541 : ∀ (M524 : Mm) (v521 : Int), Pw M524 → Fr fm_m166_6 M0 M524 → 0 ≤ v521 → v521 ≤ 1 → Wp B (d + 37) 166 66 [some (R 6), none, some (I v469), none] [I v521] M524 Q := by
          intro M524 v521 hP525 hF526 h522 h523
          refine wk_is3 r166_66 rfl (wk_il3 r166_67 ?_)
          refine wk_ifeq r166_68 ⟨by omega, by omega⟩ ?_ ?_
          · intro h527
            refine wk_c1 r166_90 ?_
            subst hQ; exact wk_zret r166_91 (by decide) (⟨rfl, _, rfl, hP525, hF526, by omega, by omega⟩)
          · intro h528
            refine wk_il2 r166_71 (wk_c1 r166_72 (wk_iandc 1 2 r166_73 ⟨rfl, by decide⟩ rfl ?_))
            refine wk_ifeq r166_74 ⟨by omega, by omega⟩ ?_ ?_
            · intro h530
              refine wk_c1 r166_86 (wk_goto r166_87 ?_)
              subst hQ; exact wk_zret r166_91 (by decide) (⟨rfl, _, rfl, hP525, hF526, by omega, by omega⟩)
            · intro h531
              refine wk_al0 r166_77 (wk_c1 r166_78 (wk_c1 r166_79 (wk_cv3 r166_80 kc_6_172 rfl (m172_6 _ M524 1 0 hP525 (by decide) (by decide) (by decide) (by decide) (by first | assumption | omega | (unfold stepok; omega))) (cqI ?_))))
              rintro v536 M532 ⟨hP533, hQ534, h537, h538⟩
              have hF535 : Fr fm_m166_6 M0 M532 := hF526.tr hQ534 rfl
              refine wk_ifeq r166_83 ⟨by omega, by omega⟩ ?_ ?_
              · intro h539
                exfalso
                omega
              · intro h540
                refine wk_c1 r166_86 (wk_goto r166_87 ?_)
                subst hQ; exact wk_zret r166_91 (by decide) (⟨rfl, _, rfl, hP533, hF535, by omega, by omega⟩)
        refine wk_ifeq r166_50 ⟨by omega, by omega⟩ ?_ ?_
        · intro h505
          refine wk_al0 r166_61 (wk_il1 r166_62 (wk_cv2 r166_63 kc_6_153 rfl (m153_6 _ M486 p1 hP487 (by omega) (by omega)) (cqI ?_)))
          rintro v510 M506 ⟨hP507, hQ508, h511, h512⟩
          have hF509 : Fr fm_m166_6 M0 M506 := hF488.tr hQ508 rfl
          exact wp_fg (le_s (le_n (le_s (le_s le_0)))) (c66_541 M506 v510 hP507 hF509 (by omega) (by omega))
        · intro h513
          refine wk_al0 r166_53 (wk_il1 r166_54 (wk_cv2 r166_55 kc_6_168 rfl (m168_6 _ M486 p1 hP487 (by omega) (by omega)) (cqI ?_)))
          rintro v518 M514 ⟨hP515, hQ516, h519, h520⟩
          have hF517 : Fr fm_m166_6 M0 M514 := hF488.tr hQ516 rfl
          refine wk_goto r166_58 ?_
          exact wp_fg (le_s (le_n (le_s (le_s le_0)))) (c66_541 M514 v518 hP515 hF517 (by omega) (by omega))
      · intro h542
        refine wk_al0 r166_35 (wk_c1 r166_36 (wk_cv2 r166_37 kc_6_159 rfl (m159_6v1 _ M486 2 hP487 (by decide) (by decide)) (cqI ?_)))
        rintro v547 M543 ⟨hP544, hQ545, h548, h549⟩
        have hF546 : Fr fm_m166_6 M0 M543 := hF488.tr hQ545 rfl
        subst hQ; exact wk_zret r166_40 ⟨by omega, by omega⟩ (⟨rfl, _, rfl, hP544, hF546, by omega, by omega⟩)
    refine wk_icge r166_5 ⟨by omega, by omega⟩ (by decide) ?_ ?_
    · intro h475
      exact wp_fg (le_s (le_s (le_s (le_s le_0)))) (c23_550 M472 hP473 hF474)
    · intro h476
      refine wk_al0 r166_8 (wk_c8 r166_9 (wk_cv2 r166_11 kc_6_175 rfl (m175_6 _ M472 4119 hP473 (by decide)) (cqI ?_)))
      rintro v481 M477 ⟨hP478, hQ479, h482, h483⟩
      have hF480 : Fr fm_m166_6 M0 M477 := hF474.tr hQ479 rfl
      refine wk_ifeq r166_14 ⟨by omega, by omega⟩ ?_ ?_
      · intro h484
        exact wp_fg (le_s (le_s (le_s (le_s le_0)))) (c23_550 M477 hP478 hF480)
      · intro h485
        refine wk_inc2 r166_17 rfl (wk_goto r166_20 ?_)
        exact wp_fg (le_s (le_s (le_s (le_s le_0)))) (ih551 (6 - (v469 + 1)).toNat (by omega) M477 (v469 + 1) rfl hP478 hF480 (by omega) (by omega))
  exact wp_fg (le_s (le_s (le_s (le_s le_0)))) (c2_551 _ M0 0 rfl hP0 hF0 (by omega) (by omega))
def fm_m157_6 : Nat := 3941070043873280
/-- IslandHall$Parser.conjunction -/
theorem m157_6 {B : eB} (d : Nat) (M0 : Mm) (p1 : Int) (hP0 : Pw M0) (l1 : 0 ≤ p1) (u1 : p1 ≤ 0) : Ct B (d + 39) 157 [R 6, I p1] M0 (qI fun z M => Pw M ∧ Fr fm_m157_6 M0 M ∧ 0 ≤ z ∧ z ≤ 1) := by
  refine ct_of (d := d + 38) (k := 1) (L := [some (R 6), some (I p1), none]) rfl rfl rfl ?_
  have hF0 := Fr.rf fm_m157_6 M0
  generalize hQ : (qI fun z M => Pw M ∧ Fr fm_m157_6 M0 M ∧ 0 ≤ z ∧ z ≤ 1) = Q
  refine wk_al0 r157_0 (wk_il1 r157_1 (wk_cv2 r157_2 kc_6_166 rfl (m166_6 _ M0 p1 hP0 (by omega) (by omega)) (cqI ?_)))
  rintro v5 M1 ⟨hP2, hQ3, h6, h7⟩
  have hF4 : Fr fm_m157_6 M0 M1 := hF0.tr hQ3 rfl
  refine wk_ifne r157_5 ⟨by omega, by omega⟩ ?_ ?_
  · intro h8
    refine wk_c1 r157_10 (wk_is2 r157_11 rfl ?_)
    have c12_359 : ∀ (k359 : Nat) (M327 : Mm) (v324 : Int), (500 - v324).toNat = k359 → Pw M327 → Fr fm_m157_6 M0 M327 → 0 ≤ v324 → v324 ≤ 500 → Wp B (d + 38) 157 12 [some (R 6), some (I p1), some (I v324)] [] M327 Q := by
      refine lp_ind ?_
      intro k359 ih359 M327 v324 hk359 hP328 hF329 h325 h326
      refine wk_il2 r157_12 (wk_c3 r157_13 ?_)
      refine wk_icge r157_16 ⟨by omega, by omega⟩ (by decide) ?_ ?_
      · intro h330
        refine wk_c1 r157_53 ?_
        subst hQ; exact wk_zret r157_54 (by decide) (⟨rfl, _, rfl, hP328, hF329, by omega, by omega⟩)
      · intro h331
        refine wk_al0 r157_19 (wk_c8 r157_20 (wk_cv2 r157_22 kc_6_175 rfl (m175_6 _ M327 4125 hP328 (by decide)) (cqI ?_)))
        rintro v336 M332 ⟨hP333, hQ334, h337, h338⟩
        have hF335 : Fr fm_m157_6 M0 M332 := hF329.tr hQ334 rfl
        refine wk_ifeq r157_25 ⟨by omega, by omega⟩ ?_ ?_
        · intro h339
          refine wk_c1 r157_53 ?_
          subst hQ; exact wk_zret r157_54 (by decide) (⟨rfl, _, rfl, hP333, hF335, by omega, by omega⟩)
        · intro h340
          refine wk_al0 r157_28 (wk_il1 r157_29 (wk_cv2 r157_30 kc_6_166 rfl (m166_6 _ M332 p1 hP333 (by omega) (by omega)) (cqI ?_)))
          rintro v345 M341 ⟨hP342, hQ343, h346, h347⟩
          have hF344 : Fr fm_m157_6 M0 M341 := hF335.tr hQ343 rfl
          refine wk_ifeq r157_33 ⟨by omega, by omega⟩ ?_ ?_
          · intro h348
            refine wk_c1 r157_45 ?_
            subst hQ; exact wk_zret r157_46 (by decide) (⟨rfl, _, rfl, hP342, hF344, by omega, by omega⟩)
          · intro h349
            refine wk_al0 r157_36 (wk_c1 r157_37 (wk_c1 r157_38 (wk_cv3 r157_39 kc_6_172 rfl (m172_6 _ M341 2 0 hP342 (by decide) (by decide) (by decide) (by decide) (by first | assumption | omega | (unfold stepok; omega))) (cqI ?_))))
            rintro v354 M350 ⟨hP351, hQ352, h355, h356⟩
            have hF353 : Fr fm_m157_6 M0 M350 := hF344.tr hQ352 rfl
            refine wk_ifne r157_42 ⟨by omega, by omega⟩ ?_ ?_
            · intro h357
              refine wk_inc2 r157_47 rfl (wk_goto r157_50 ?_)
              exact wp_fg (le_s (le_s (le_s le_0))) (ih359 (500 - (v324 + 1)).toNat (by omega) M350 (v324 + 1) rfl hP351 hF353 (by omega) (by omega))
            · intro h358
              exfalso
              omega
    exact wp_fg (le_s (le_s (le_s le_0))) (c12_359 _ M1 0 rfl hP2 hF4 (by omega) (by omega))
  · intro h360
    refine wk_c1 r157_8 ?_
    subst hQ; exact wk_zret r157_9 (by decide) (⟨rfl, _, rfl, hP2, hF4, by omega, by omega⟩)
def fm_m158_6 : Nat := 3941070043873280
/-- IslandHall$Parser.expr -/
theorem m158_6 {B : eB} (d : Nat) (M0 : Mm) (p1 : Int) (hP0 : Pw M0) (l1 : 0 ≤ p1) (u1 : p1 ≤ 0) : Ct B (d + 40) 158 [R 6, I p1] M0 (qI fun z M => Pw M ∧ Fr fm_m158_6 M0 M ∧ 0 ≤ z ∧ z ≤ 1) := by
  refine ct_of (d := d + 39) (k := 1) (L := [some (R 6), some (I p1), none]) rfl rfl rfl ?_
  have hF0 := Fr.rf fm_m158_6 M0
  generalize hQ : (qI fun z M => Pw M ∧ Fr fm_m158_6 M0 M ∧ 0 ≤ z ∧ z ≤ 1) = Q
  refine wk_al0 r158_0 (wk_cv1 r158_1 kc_6_155 rfl (m155_6 _ M0 hP0) (cqI ?_))
  rintro v5 M1 ⟨hP2, hQ3, h6, h7⟩
  obtain rfl := Fr.same hQ3
  refine wk_ifne r158_4 ⟨by omega, by omega⟩ ?_ ?_
  · intro h8
    refine wk_il1 r158_13 (wk_c2 r158_14 ?_)
    refine wk_iclt r158_16 ⟨by omega, by omega⟩ (by decide) ?_ ?_
    · intro h9
      refine wk_al0 r158_25 (wk_il1 r158_26 (wk_cv2 r158_27 kc_6_157 rfl (m157_6 _ M0 p1 hP0 (by omega) (by omega)) (cqI ?_)))
      rintro v14 M10 ⟨hP11, hQ12, h15, h16⟩
      have hF13 : Fr fm_m158_6 M0 M10 := hF0.tr hQ12 rfl
      refine wk_ifne r158_30 ⟨by omega, by omega⟩ ?_ ?_
      · intro h17
        refine wk_c1 r158_35 (wk_is2 r158_36 rfl ?_)
        have c37_368 : ∀ (k368 : Nat) (M336 : Mm) (v333 : Int), (500 - v333).toNat = k368 → Pw M336 → Fr fm_m158_6 M0 M336 → 0 ≤ v333 → v333 ≤ 500 → Wp B (d + 39) 158 37 [some (R 6), some (I p1), some (I v333)] [] M336 Q := by
          refine lp_ind ?_
          intro k368 ih368 M336 v333 hk368 hP337 hF338 h334 h335
          refine wk_il2 r158_37 (wk_c3 r158_38 ?_)
          refine wk_icge r158_41 ⟨by omega, by omega⟩ (by decide) ?_ ?_
          · intro h339
            refine wk_c1 r158_78 ?_
            subst hQ; exact wk_zret r158_79 (by decide) (⟨rfl, _, rfl, hP337, hF338, by omega, by omega⟩)
          · intro h340
            refine wk_al0 r158_44 (wk_c8 r158_45 (wk_cv2 r158_47 kc_6_175 rfl (m175_6 _ M336 4126 hP337 (by decide)) (cqI ?_)))
            rintro v345 M341 ⟨hP342, hQ343, h346, h347⟩
            have hF344 : Fr fm_m158_6 M0 M341 := hF338.tr hQ343 rfl
            refine wk_ifeq r158_50 ⟨by omega, by omega⟩ ?_ ?_
            · intro h348
              refine wk_c1 r158_78 ?_
              subst hQ; exact wk_zret r158_79 (by decide) (⟨rfl, _, rfl, hP342, hF344, by omega, by omega⟩)
            · intro h349
              refine wk_al0 r158_53 (wk_il1 r158_54 (wk_cv2 r158_55 kc_6_157 rfl (m157_6 _ M341 p1 hP342 (by omega) (by omega)) (cqI ?_)))
              rintro v354 M350 ⟨hP351, hQ352, h355, h356⟩
              have hF353 : Fr fm_m158_6 M0 M350 := hF344.tr hQ352 rfl
              refine wk_ifeq r158_58 ⟨by omega, by omega⟩ ?_ ?_
              · intro h357
                refine wk_c1 r158_70 ?_
                subst hQ; exact wk_zret r158_71 (by decide) (⟨rfl, _, rfl, hP351, hF353, by omega, by omega⟩)
              · intro h358
                refine wk_al0 r158_61 (wk_c1 r158_62 (wk_c1 r158_63 (wk_cv3 r158_64 kc_6_172 rfl (m172_6 _ M350 3 0 hP351 (by decide) (by decide) (by decide) (by decide) (by first | assumption | omega | (unfold stepok; omega))) (cqI ?_))))
                rintro v363 M359 ⟨hP360, hQ361, h364, h365⟩
                have hF362 : Fr fm_m158_6 M0 M359 := hF353.tr hQ361 rfl
                refine wk_ifne r158_67 ⟨by omega, by omega⟩ ?_ ?_
                · intro h366
                  refine wk_inc2 r158_72 rfl (wk_goto r158_75 ?_)
                  exact wp_fg (le_s (le_s (le_s le_0))) (ih368 (500 - (v333 + 1)).toNat (by omega) M359 (v333 + 1) rfl hP360 hF362 (by omega) (by omega))
                · intro h367
                  exfalso
                  omega
        exact wp_fg (le_s (le_s (le_s le_0))) (c37_368 _ M10 0 rfl hP11 hF13 (by omega) (by omega))
      · intro h369
        refine wk_c1 r158_33 ?_
        subst hQ; exact wk_zret r158_34 (by decide) (⟨rfl, _, rfl, hP11, hF13, by omega, by omega⟩)
    · intro h370
      exfalso
      omega
  · intro h371
    refine wk_al0 r158_7 (wk_c1 r158_8 (wk_cv2 r158_9 kc_6_159 rfl (m159_6 _ M0 1 hP0 (by decide) (by decide)) (cqI ?_)))
    rintro v376 M372 ⟨hP373, hQ374, h377, h378⟩
    have hF375 : Fr fm_m158_6 M0 M372 := hF0.tr hQ374 rfl
    subst hQ; exact wk_zret r158_12 ⟨by omega, by omega⟩ (⟨rfl, _, rfl, hP373, hF375, by omega, by omega⟩)
def fm_m174_6v2 : Nat := 3941061990809600
/-- IslandHall$Parser.takeSign -/
theorem m174_6v2 {B : eB} (d : Nat) (M0 : Mm) (p1 : Int) (hP0 : Pw M0) (l1 : 40 ≤ p1) (u1 : p1 ≤ 59) : Ct B (d + 3) 174 [R 6, I p1] M0 (qI fun z M => Pw M ∧ Fr fm_m174_6v2 M0 M ∧ 0 ≤ z ∧ z ≤ 1) := by
  refine ct_of (d := d + 2) (k := 0) (L := [some (R 6), some (I p1)]) rfl rfl rfl ?_
  have hF0 := Fr.rf fm_m174_6v2 M0
  generalize hQ : (qI fun z M => Pw M ∧ Fr fm_m174_6v2 M0 M ∧ 0 ≤ z ∧ z ≤ 1) = Q
  refine wk_al0 r174_0 (wk_getfr r174_1 fd_6_0 (br_6_0 hP0) (wk_il1 r174_4 (wk_cv2 r174_5 kc_9_238 rfl (m238_9v1 _ M0 p1 hP0 (by omega) (by omega)) (cqI ?_))))
  rintro v5 M1 ⟨hP2, hQ3, h6, h7⟩
  obtain rfl := Fr.same hQ3
  refine wk_ifne r174_8 ⟨by omega, by omega⟩ ?_ ?_
  · intro h8
    refine wk_al0 r174_17 (wk_getfr r174_18 fd_6_0 (br_6_0 hP0) (wk_cv1 r174_21 kc_9_241 rfl (m241_9 _ M0 hP0) (cqV ?_)))
    rintro M9 ⟨hP10, hQ11⟩
    have hF12 : Fr fm_m174_6v2 M0 M9 := hF0.tr hQ11 rfl
    refine wk_c1 r174_24 ?_
    subst hQ; exact wk_zret r174_25 (by decide) (⟨rfl, _, rfl, hP10, hF12, by omega, by omega⟩)
  · intro h13
    refine wk_al0 r174_11 (wk_c1 r174_12 (wk_cv2 r174_13 kc_6_159 rfl (m159_6 _ M0 1 hP0 (by decide) (by decide)) (cqI ?_)))
    rintro v18 M14 ⟨hP15, hQ16, h19, h20⟩
    have hF17 : Fr fm_m174_6v2 M0 M14 := hF0.tr hQ16 rfl
    subst hQ; exact wk_zret r174_16 ⟨by omega, by omega⟩ (⟨rfl, _, rfl, hP15, hF17, by omega, by omega⟩)
def fm_m170_6 : Nat := 4222648099799040
/-- IslandHall$Parser.readSentence -/
theorem m170_6 {B : eB} (d : Nat) (M0 : Mm) (p1 : Int) (p2 : Int) (c3 : Int) (hP0 : Pw M0) (l1 : 0 ≤ p1) (u1 : p1 ≤ 500) (l2 : (-1) ≤ p2) (u2 : p2 ≤ 7) (hC3 : isC c3) : Ct B (d + 41) 170 [R 6, I p1, I p2, R c3] M0 (qI fun z M => Pw M ∧ Fr fm_m170_6 M0 M ∧ 0 ≤ z ∧ z ≤ 6) := by
  refine ct_of (d := d + 40) (k := 0) (L := [some (R 6), some (I p1), some (I p2), some (R c3)]) rfl rfl rfl ?_
  have hF0 := Fr.rf fm_m170_6 M0
  generalize hQ : (qI fun z M => Pw M ∧ Fr fm_m170_6 M0 M ∧ 0 ≤ z ∧ z ≤ 6) = Q
  refine wk_al0 r170_0 (wk_il1 r170_1 (wk_al3 r170_2 (wk_cv3 r170_3 kc_6_154 rfl (m154_6 _ M0 p1 c3 hP0 (by omega) (by omega) hC3) (cqV ?_))))
  rintro M1 ⟨hP2, hQ3⟩
  have hF4 : Fr fm_m170_6 M0 M1 := hF0.tr hQ3 rfl
  refine wk_al3 r170_6 (wk_cv1 r170_7 (kcC_141 hC3) rfl (m141 _ M1 c3 hP2 hC3) (cqV ?_))
  rintro M5 ⟨hP6, hQ7⟩
  have hF8 : Fr fm_m170_6 M0 M5 := hF4.tr hQ7 rfl
  refine wk_al0 r170_10 (wk_il2 r170_11 (wk_putfi81 r170_12 fd_6_3 (wk_nw g_6_3 rfl hP6 hF8 (uf_6_3 ⟨by omega, by omega⟩) ?_)))
  intro M9 hP10 hF11 e12
  refine wk_al0 r170_15 (wk_c1 r170_16 (wk_cv2 r170_17 kc_6_158 rfl (m158_6 _ M9 0 hP10 (by decide) (by decide)) (cqI ?_)))
  rintro v17 M13 ⟨hP14, hQ15, h18, h19⟩
  have hF16 : Fr fm_m170_6 M0 M13 := hF11.tr hQ15 rfl
  refine wk_ifeq r170_20 ⟨by omega, by omega⟩ ?_ ?_
  · intro h20
    refine wk_al0 r170_48 (wk_getfb r170_49 fd_6_4 (bf_6_4 hP14) ?_)
    intro v21 h23 h24 e22
    subst hQ; exact wk_iret r170_52 (⟨rfl, _, rfl, hP14, hF16, by omega, by omega⟩)
  · intro h25
    refine wk_al0 r170_23 (wk_c2 r170_24 (wk_cv2 r170_26 kc_6_174 rfl (m174_6v2 _ M13 59 hP14 (by decide) (by decide)) (cqI ?_)))
    rintro v30 M26 ⟨hP27, hQ28, h31, h32⟩
    have hF29 : Fr fm_m170_6 M0 M26 := hF16.tr hQ28 rfl
    refine wk_ifeq r170_29 ⟨by omega, by omega⟩ ?_ ?_
    · intro h33
      refine wk_al0 r170_48 (wk_getfb r170_49 fd_6_4 (bf_6_4 hP27) ?_)
      intro v34 h36 h37 e35
      subst hQ; exact wk_iret r170_52 (⟨rfl, _, rfl, hP27, hF29, by omega, by omega⟩)
    · intro h38
      refine wk_al0 r170_32 (wk_getfr r170_33 fd_6_0 (br_6_0 hP27) (wk_getfb r170_36 fd_9_4 (bf_9_4 hP27) ?_))
      intro v39 h41 h42 e40
      refine wk_ifeq r170_39 ⟨by omega, by omega⟩ ?_ ?_
      · intro h43
        refine wk_al0 r170_48 (wk_getfb r170_49 fd_6_4 (bf_6_4 hP27) ?_)
        intro v44 h46 h47 e45
        subst hQ; exact wk_iret r170_52 (⟨rfl, _, rfl, hP27, hF29, by omega, by omega⟩)
      · intro h48
        refine wk_al0 r170_42 (wk_c1 r170_43 (wk_cv2 r170_44 kc_6_159 rfl (m159_6 _ M26 1 hP27 (by decide) (by decide)) (cqI ?_)))
        rintro v53 M49 ⟨hP50, hQ51, h54, h55⟩
        have hF52 : Fr fm_m170_6 M0 M49 := hF29.tr hQ51 rfl
        refine wk_popi r170_47 (wk_al0 r170_48 (wk_getfb r170_49 fd_6_4 (bf_6_4 hP50) ?_))
        intro v56 h58 h59 e57
        subst hQ; exact wk_iret r170_52 (⟨rfl, _, rfl, hP50, hF52, by omega, by omega⟩)
def fm_m39_0 : Nat := 4222648099800132
/-- IslandHall.sentence -/
theorem m39_0 {B : eB} (d : Nat) (M0 : Mm) (p1 : Int) (hP0 : Pw M0) (l1 : (-2147483648) ≤ p1) (u1 : p1 ≤ 2147483647) : Ct B (d + 42) 39 [R 0, I p1] M0 (qX 1 (fun M => Pw M ∧ Fr (fm_m39_0 ||| 1) M0 M ∧ M (-1) 0 = M0 (-1) 0 + 1) (qI fun z M => Pw M ∧ Fr fm_m39_0 M0 M ∧ (-9) ≤ z ∧ z ≤ 29)) := by
  refine ct_of (d := d + 41) (k := 1) (L := [some (R 0), some (I p1), none]) rfl rfl rfl ?_
  have hF0 := Fr.rf fm_m39_0 M0
  generalize hQ : (qX 1 (fun M => Pw M ∧ Fr (fm_m39_0 ||| 1) M0 M ∧ M (-1) 0 = M0 (-1) 0 + 1) (qI fun z M => Pw M ∧ Fr fm_m39_0 M0 M ∧ (-9) ≤ z ∧ z ≤ 29)) = Q
  refine wk_al0 r39_0 (wk_il1 r39_1 ?_)
  obtain ⟨v1, e2⟩ : ∃ v, M0 0 1 = v := ⟨_, rfl⟩
  have h3 := bf_0_1 hP0; rw [e2] at h3
  refine wk_cv2 r39_2 kc_0_40 rfl (m40_0 _ M0 p1 v1 hP0 (by omega) (by omega) e2 (by omega) (by omega)) (cqX (fun _ _ x8 => by subst hQ; exact Or.inl ⟨rfl, x8.1, Fr.trx hF0 x8.2.1 rfl, (by rw [x8.2.2, hF0.at g_below rfl])⟩) (cqV ?_))
  rintro M4 ⟨hP5, hQ6, h11, h12⟩
  have hF7 : Fr fm_m39_0 M0 M4 := hF0.tr hQ6 rfl
  refine wk_al0 r39_5 (wk_getfb r39_6 fd_0_9 (bf_0_9 hP5) ?_)
  intro v13 h15 h16 e14
  refine wk_c2 r39_9 ?_
  refine wk_iclt r39_11 ⟨by omega, by omega⟩ (by decide) ?_ ?_
  · intro h17
    refine wk_al0 r39_22 (wk_getfr r39_23 fd_0_4 (br_0_4 hP5) (wk_il1 r39_26 (wk_al0 r39_27 (wk_getfr r39_28 fd_0_2 (br_0_2 hP5) (wk_getfb r39_31 fd_2_1 (bf_2_1 hP5) ?_)))))
    intro v18 h20 h21 e19
    refine wk_al0 r39_34 (wk_getfr r39_35 fd_0_8 (br_0_8 hP5) (wk_al0 r39_38 (wk_getfi r39_39 fd_0_9 e14 (wk_caldb r39_42 ar_168 ⟨by omega, by omega⟩ (fun q0 q1 => ba_168 hP5 q0 q1) ?_))))
    intro v22 e23
    have hC24 : isC v22 := Or.inr (by omega)
    refine wk_cv4 r39_43 kc_6_170 rfl (m170_6 _ M4 p1 v18 v22 hP5 (by omega) (by omega) (by omega) (by omega) hC24) (cqI ?_)
    rintro v29 M25 ⟨hP26, hQ27, h30, h31⟩
    have hF28 : Fr fm_m39_0 M0 M25 := hF7.tr hQ27 rfl
    refine wk_is2 r39_46 rfl (wk_al0 r39_47 (wk_al0 r39_48 (wk_getfr r39_49 fd_0_4 (br_0_4 hP26) (wk_getfb r39_52 fd_6_5 (bf_6_5 hP26) ?_))))
    intro v32 h34 h35 e33
    refine wk_putfi81 r39_55 fd_0_5 (wk_nw g_0_5 rfl hP26 hF28 (uf_0_5 ⟨by omega, by omega⟩) ?_)
    intro M36 hP37 hF38 e39
    refine wk_il2 r39_58 ?_
    refine wk_ifeq r39_59 ⟨by omega, by omega⟩ ?_ ?_
    · intro h40
      refine wk_al0 r39_66 (wk_dupr r39_67 (wk_getfi r39_68 fd_0_9 (mUp_no e39 ((hQ27.at g_0_9 rfl).trans e14) (Or.inr (by decide))) (wk_c1 r39_71 (wk_iadd r39_72 (wk_putfi81 r39_73 fd_0_9 (wk_nw g_0_9 rfl hP37 hF38 (uf_0_9 ⟨by omega, by omega⟩) ?_))))))
      intro M41 hP42 hF43 e44
      refine wk_al0 r39_76 (wk_getfi r39_77 fd_0_9 (mUp_at e44) (wk_c1 r39_80 (wk_isub r39_81 ?_)))
      subst hQ; exact wk_iret r39_82 (Or.inr ⟨rfl, _, rfl, hP42, hF43, by omega, by omega⟩)
    · intro h45
      refine wk_c1 r39_62 (wk_il2 r39_63 (wk_isub r39_64 ?_))
      subst hQ; exact wk_iret r39_65 (Or.inr ⟨rfl, _, rfl, hP37, hF38, by omega, by omega⟩)
  · intro h46
    refine wk_al0 r39_14 (wk_c1 r39_15 (wk_putfi81 r39_16 fd_0_5 (wk_nw g_0_5 rfl hP5 hF7 (uf_0_5 (by decide)) ?_)))
    intro M47 hP48 hF49 e50
    refine wk_c2 r39_19 ?_
    subst hQ; exact wk_iret r39_21 (Or.inr ⟨rfl, _, rfl, hP48, hF49, by omega, by omega⟩)
