/-! ===== methods ===== -/
theorem r24_0 : Rw 24 0 1 1 14 0 0 0 := rw_of (by decide +kernel)
theorem r24_1 : Rw 24 1 2 1 10 1 0 0 := rw_of (by decide +kernel)
theorem r24_2 : Rw 24 2 5 3 100 40 2 130 := rw_of (by decide +kernel)
theorem r40_0 : Rw 40 0 1 1 10 1 0 0 := rw_of (by decide +kernel)
theorem r40_1 : Rw 40 1 4 3 63 12 0 0 := rw_of (by decide +kernel)
theorem r40_12 : Rw 40 12 15 3 105 1 10 164 := rw_of (by decide +kernel)
theorem r40_4 : Rw 40 4 5 1 10 1 0 0 := rw_of (by decide +kernel)
theorem r40_5 : Rw 40 5 6 1 14 0 0 0 := rw_of (by decide +kernel)
theorem r40_6 : Rw 40 6 9 3 80 11 1 13 := rw_of (by decide +kernel)
theorem fd_0_1 : Fdl 0 11 1 1 0 := fd_of (by decide) rfl (by decide +kernel)
theorem bf_0_1 {M : Mm} (h : Pw M) : 0 ≤ M 0 1 ∧ M 0 1 ≤ 500 := (h 0 1 (by decide) (by decide) (by decide) (by decide +kernel)).get0 g_0_1 rfl rfl rfl rfl
theorem r40_9 : Rw 40 9 12 3 72 22 0 0 := rw_of (by decide +kernel)
theorem r40_22 : Rw 40 22 23 1 14 0 0 0 := rw_of (by decide +kernel)
theorem r40_23 : Rw 40 23 24 1 1 (cd 0) 1 0 := rw_of (by decide +kernel)
theorem r40_24 : Rw 40 24 27 3 81 11 1 0 := rw_of (by decide +kernel)
theorem uf_0_1 {z : Int} (hz : 0 ≤ z ∧ z ≤ 500) : Bd 0 1 z := Bd.of0 g_0_1 rfl rfl rfl rfl rfl hz
theorem r40_27 : Rw 40 27 28 1 77 0 0 0 := rw_of (by decide +kernel)
theorem kc_0_40 : Kc 0 40 := kc_of (by decide) (by decide +kernel)
theorem r24_5 : Rw 24 5 6 1 14 0 0 0 := rw_of (by decide +kernel)
theorem r24_6 : Rw 24 6 9 3 80 11 4 36 := rw_of (by decide +kernel)
theorem fd_0_4 : Fdl 0 11 4 4 2 := fd_of (by decide) rfl (by decide +kernel)
theorem bf_0_4 {M : Mm} (h : Pw M) : 6 ≤ M 0 4 ∧ M 0 4 ≤ 6 := (h 0 4 (by decide) (by decide) (by decide) (by decide +kernel)).get0 g_0_4 rfl rfl rfl rfl
theorem br_0_4 {M : Mm} (h : Pw M) : M 0 4 = 6 := by have := bf_0_4 h; omega
theorem r24_9 : Rw 24 9 10 1 10 1 0 0 := rw_of (by decide +kernel)
theorem r24_10 : Rw 24 10 11 1 14 0 0 0 := rw_of (by decide +kernel)
theorem r24_11 : Rw 24 11 14 3 80 11 3 27 := rw_of (by decide +kernel)
theorem fd_0_3 : Fdl 0 11 3 3 2 := fd_of (by decide) rfl (by decide +kernel)
theorem bf_0_3 {M : Mm} (h : Pw M) : 4 ≤ M 0 3 ∧ M 0 3 ≤ 4 := (h 0 3 (by decide) (by decide) (by decide) (by decide +kernel)).get0 g_0_3 rfl rfl rfl rfl
theorem br_0_3 {M : Mm} (h : Pw M) : M 0 3 = 4 := by have := bf_0_3 h; omega
theorem r24_14 : Rw 24 14 17 3 100 169 3 133 := rw_of (by decide +kernel)
theorem r169_0 : Rw 169 0 1 1 14 0 0 0 := rw_of (by decide +kernel)
theorem r169_1 : Rw 169 1 2 1 10 1 0 0 := rw_of (by decide +kernel)
theorem r169_2 : Rw 169 2 3 1 14 2 0 0 := rw_of (by decide +kernel)
theorem r169_3 : Rw 169 3 6 3 100 154 3 41 := rw_of (by decide +kernel)
theorem r154_0 : Rw 154 0 1 1 14 0 0 0 := rw_of (by decide +kernel)
theorem r154_1 : Rw 154 1 2 1 14 2 0 0 := rw_of (by decide +kernel)
theorem r154_2 : Rw 154 2 5 3 81 3 2 3 := rw_of (by decide +kernel)
theorem fd_6_2 : Fdl 6 3 2 2 2 := fd_of (by decide) rfl (by decide +kernel)
theorem pcU {z : Int} (hz : isC z) : Bd 6 2 z := Bd.ofe (l := 4) (u := 737) g_6_2 rfl rfl rfl rfl ⟨fun e => absurd e (by decide), fun _ => hz, fun e => absurd e (by decide), fun e => absurd e (by decide)⟩ (by unfold isC at hz; omega)
theorem r154_5 : Rw 154 5 6 1 14 0 0 0 := rw_of (by decide +kernel)
theorem r154_6 : Rw 154 6 7 1 1 (cd 0) 1 0 := rw_of (by decide +kernel)
theorem r154_7 : Rw 154 7 10 3 81 3 4 0 := rw_of (by decide +kernel)
theorem fd_6_4 : Fdl 6 3 4 4 0 := fd_of (by decide) rfl (by decide +kernel)
theorem uf_6_4 {z : Int} (hz : 0 ≤ z ∧ z ≤ 6) : Bd 6 4 z := Bd.of0 g_6_4 rfl rfl rfl rfl rfl hz
theorem r154_10 : Rw 154 10 11 1 14 0 0 0 := rw_of (by decide +kernel)
theorem r154_11 : Rw 154 11 12 1 1 (cd (-1)) 0 0 := rw_of (by decide +kernel)
theorem r154_12 : Rw 154 12 15 3 81 3 5 0 := rw_of (by decide +kernel)
theorem fd_6_5 : Fdl 6 3 5 5 0 := fd_of (by decide) rfl (by decide +kernel)
theorem uf_6_5 {z : Int} (hz : (-1) ≤ z ∧ z ≤ 500) : Bd 6 5 z := Bd.of0 g_6_5 rfl rfl rfl rfl rfl hz
theorem r154_15 : Rw 154 15 16 1 14 0 0 0 := rw_of (by decide +kernel)
theorem r154_16 : Rw 154 16 19 3 80 3 0 33 := rw_of (by decide +kernel)
theorem fd_6_0 : Fdl 6 3 0 0 2 := fd_of (by decide) rfl (by decide +kernel)
theorem bf_6_0 {M : Mm} (h : Pw M) : 9 ≤ M 6 0 ∧ M 6 0 ≤ 9 := (h 6 0 (by decide) (by decide) (by decide) (by decide +kernel)).get0 g_6_0 rfl rfl rfl rfl
theorem br_6_0 {M : Mm} (h : Pw M) : M 6 0 = 9 := by have := bf_6_0 h; omega
theorem r154_19 : Rw 154 19 20 1 10 1 0 0 := rw_of (by decide +kernel)
theorem r154_20 : Rw 154 20 23 3 100 235 2 81 := rw_of (by decide +kernel)
theorem r235_0 : Rw 235 0 1 1 14 0 0 0 := rw_of (by decide +kernel)
theorem r235_1 : Rw 235 1 2 1 10 1 0 0 := rw_of (by decide +kernel)
theorem r235_2 : Rw 235 2 3 1 14 0 0 0 := rw_of (by decide +kernel)
theorem r235_3 : Rw 235 3 6 3 80 9 0 24 := rw_of (by decide +kernel)
theorem fd_9_0 : Fdl 9 9 0 0 2 := fd_of (by decide) rfl (by decide +kernel)
theorem bf_9_0 {M : Mm} (h : Pw M) : 1 ≤ M 9 0 ∧ M 9 0 ≤ 1 := (h 9 0 (by decide) (by decide) (by decide) (by decide +kernel)).get0 g_9_0 rfl rfl rfl rfl
theorem br_9_0 {M : Mm} (h : Pw M) : M 9 0 = 1 := by have := bf_9_0 h; omega
theorem r235_6 : Rw 235 6 7 1 92 0 0 0 := rw_of (by decide +kernel)
theorem ar_1 : Ar 1 101 500 := ar_of (by decide) (by decide) (by decide +kernel)
theorem ba_1 {M : Mm} (h : Pw M) {i : Int} (h0 : 0 ≤ i) (h1 : i < 500) : (-128) ≤ M 1 i ∧ M 1 i ≤ 127 := (h 1 i (by decide) (by decide) h0 (by rw [ar_1.2.2.2.1]; exact h1)).get0 (gr_1 (by decide) (by decide) i) rfl rfl rfl rfl
theorem r235_7 : Rw 235 7 10 3 114 0 0 28 := rw_of (by decide +kernel)
theorem r235_10 : Rw 235 10 13 3 81 9 1 0 := rw_of (by decide +kernel)
theorem fd_9_1 : Fdl 9 9 1 1 0 := fd_of (by decide) rfl (by decide +kernel)
theorem uf_9_1 {z : Int} (hz : 0 ≤ z ∧ z ≤ 500) : Bd 9 1 z := Bd.of0 g_9_1 rfl rfl rfl rfl rfl hz
theorem r235_13 : Rw 235 13 14 1 14 0 0 0 := rw_of (by decide +kernel)
theorem r235_14 : Rw 235 14 15 1 1 (cd 0) 1 0 := rw_of (by decide +kernel)
theorem r235_15 : Rw 235 15 18 3 81 9 2 0 := rw_of (by decide +kernel)
theorem fd_9_2 : Fdl 9 9 2 2 0 := fd_of (by decide) rfl (by decide +kernel)
theorem uf_9_2 {z : Int} (hz : 0 ≤ z ∧ z ≤ 500) : Bd 9 2 z := Bd.of0 g_9_2 rfl rfl rfl rfl rfl hz
theorem r235_18 : Rw 235 18 19 1 14 0 0 0 := rw_of (by decide +kernel)
theorem r235_19 : Rw 235 19 22 3 100 241 1 34 := rw_of (by decide +kernel)
theorem r241_0 : Rw 241 0 1 1 14 0 0 0 := rw_of (by decide +kernel)
theorem r241_1 : Rw 241 1 2 1 14 0 0 0 := rw_of (by decide +kernel)
theorem r241_2 : Rw 241 2 5 3 80 9 2 15 := rw_of (by decide +kernel)
theorem bf_9_2 {M : Mm} (h : Pw M) : 0 ≤ M 9 2 ∧ M 9 2 ≤ 500 := (h 9 2 (by decide) (by decide) (by decide) (by decide +kernel)).get0 g_9_2 rfl rfl rfl rfl
theorem r241_5 : Rw 241 5 8 3 81 9 3 0 := rw_of (by decide +kernel)
theorem fd_9_3 : Fdl 9 9 3 3 0 := fd_of (by decide) rfl (by decide +kernel)
theorem uf_9_3 {z : Int} (hz : 0 ≤ z ∧ z ≤ 500) : Bd 9 3 z := Bd.of0 g_9_3 rfl rfl rfl rfl rfl hz
theorem r241_8 : Rw 241 8 9 1 14 0 0 0 := rw_of (by decide +kernel)
theorem r241_9 : Rw 241 9 12 3 80 9 3 18 := rw_of (by decide +kernel)
theorem bf_9_3 {M : Mm} (h : Pw M) : 0 ≤ M 9 3 ∧ M 9 3 ≤ 500 := (h 9 3 (by decide) (by decide) (by decide) (by decide +kernel)).get0 g_9_3 rfl rfl rfl rfl
theorem r241_12 : Rw 241 12 13 1 14 0 0 0 := rw_of (by decide +kernel)
theorem r241_13 : Rw 241 13 16 3 80 9 1 9 := rw_of (by decide +kernel)
theorem bf_9_1 {M : Mm} (h : Pw M) : 0 ≤ M 9 1 ∧ M 9 1 ≤ 500 := (h 9 1 (by decide) (by decide) (by decide) (by decide +kernel)).get0 g_9_1 rfl rfl rfl rfl
theorem r241_16 : Rw 241 16 19 3 70 60 0 0 := rw_of (by decide +kernel)
theorem r241_19 : Rw 241 19 20 1 14 0 0 0 := rw_of (by decide +kernel)
theorem r241_20 : Rw 241 20 23 3 80 9 0 24 := rw_of (by decide +kernel)
theorem r241_23 : Rw 241 23 24 1 14 0 0 0 := rw_of (by decide +kernel)
theorem r241_24 : Rw 241 24 27 3 80 9 3 18 := rw_of (by decide +kernel)
theorem r241_27 : Rw 241 27 28 1 85 0 0 0 := rw_of (by decide +kernel)
theorem r241_28 : Rw 241 28 30 2 2 (cd 32) 160 0 := rw_of (by decide +kernel)
theorem r241_30 : Rw 241 30 33 3 67 47 0 0 := rw_of (by decide +kernel)
theorem r241_47 : Rw 241 47 48 1 14 0 0 0 := rw_of (by decide +kernel)
theorem r241_48 : Rw 241 48 49 1 52 0 0 0 := rw_of (by decide +kernel)
theorem r241_49 : Rw 241 49 52 3 80 9 3 18 := rw_of (by decide +kernel)
theorem r241_52 : Rw 241 52 53 1 1 (cd 1) 2 0 := rw_of (by decide +kernel)
theorem r241_53 : Rw 241 53 54 1 30 0 0 0 := rw_of (by decide +kernel)
theorem r241_54 : Rw 241 54 57 3 81 9 3 0 := rw_of (by decide +kernel)
theorem r241_57 : Rw 241 57 60 3 60 8 0 0 := rw_of (by decide +kernel)
theorem r241_33 : Rw 241 33 34 1 14 0 0 0 := rw_of (by decide +kernel)
theorem r241_34 : Rw 241 34 37 3 80 9 0 24 := rw_of (by decide +kernel)
theorem r241_37 : Rw 241 37 38 1 14 0 0 0 := rw_of (by decide +kernel)
theorem r241_38 : Rw 241 38 41 3 80 9 3 18 := rw_of (by decide +kernel)
theorem r241_41 : Rw 241 41 42 1 85 0 0 0 := rw_of (by decide +kernel)
theorem r241_42 : Rw 241 42 44 2 2 (cd 10) 138 0 := rw_of (by decide +kernel)
theorem r241_44 : Rw 241 44 47 3 68 60 0 0 := rw_of (by decide +kernel)
theorem r241_60 : Rw 241 60 61 1 14 0 0 0 := rw_of (by decide +kernel)
theorem r241_61 : Rw 241 61 64 3 80 9 3 18 := rw_of (by decide +kernel)
theorem r241_64 : Rw 241 64 65 1 14 0 0 0 := rw_of (by decide +kernel)
theorem r241_65 : Rw 241 65 68 3 80 9 1 9 := rw_of (by decide +kernel)
theorem r241_68 : Rw 241 68 71 3 69 85 0 0 := rw_of (by decide +kernel)
theorem r241_85 : Rw 241 85 86 1 14 0 0 0 := rw_of (by decide +kernel)
theorem r241_86 : Rw 241 86 87 1 14 0 0 0 := rw_of (by decide +kernel)
theorem r241_87 : Rw 241 87 90 3 80 9 0 24 := rw_of (by decide +kernel)
theorem r241_90 : Rw 241 90 91 1 14 0 0 0 := rw_of (by decide +kernel)
theorem r241_91 : Rw 241 91 94 3 80 9 3 18 := rw_of (by decide +kernel)
theorem r241_94 : Rw 241 94 95 1 85 0 0 0 := rw_of (by decide +kernel)
theorem r241_95 : Rw 241 95 98 3 102 243 1 37 := rw_of (by decide +kernel)
theorem r243_0 : Rw 243 0 1 1 10 0 0 0 := rw_of (by decide +kernel)
theorem r243_1 : Rw 243 1 3 2 2 (cd 97) 225 0 := rw_of (by decide +kernel)
theorem r243_3 : Rw 243 3 6 3 69 14 0 0 := rw_of (by decide +kernel)
theorem r243_6 : Rw 243 6 7 1 10 0 0 0 := rw_of (by decide +kernel)
theorem r243_7 : Rw 243 7 9 2 2 (cd 122) 250 0 := rw_of (by decide +kernel)
theorem r243_9 : Rw 243 9 12 3 71 14 0 0 := rw_of (by decide +kernel)
theorem r243_12 : Rw 243 12 13 1 1 (cd 1) 2 0 := rw_of (by decide +kernel)
theorem r243_13 : Rw 243 13 14 1 74 0 0 0 := rw_of (by decide +kernel)
theorem r243_14 : Rw 243 14 15 1 10 0 0 0 := rw_of (by decide +kernel)
theorem r243_15 : Rw 243 15 17 2 2 (cd 48) 176 0 := rw_of (by decide +kernel)
theorem r243_17 : Rw 243 17 20 3 69 28 0 0 := rw_of (by decide +kernel)
theorem r243_20 : Rw 243 20 21 1 10 0 0 0 := rw_of (by decide +kernel)
theorem r243_21 : Rw 243 21 23 2 2 (cd 57) 185 0 := rw_of (by decide +kernel)
theorem r243_23 : Rw 243 23 26 3 71 28 0 0 := rw_of (by decide +kernel)
theorem r243_26 : Rw 243 26 27 1 1 (cd 2) 3 0 := rw_of (by decide +kernel)
theorem r243_27 : Rw 243 27 28 1 74 0 0 0 := rw_of (by decide +kernel)
theorem r243_28 : Rw 243 28 29 1 10 0 0 0 := rw_of (by decide +kernel)
theorem r243_29 : Rw 243 29 31 2 2 (cd 59) 187 0 := rw_of (by decide +kernel)
theorem r243_31 : Rw 243 31 34 3 67 64 0 0 := rw_of (by decide +kernel)
theorem r243_64 : Rw 243 64 65 1 1 (cd 1) 2 0 := rw_of (by decide +kernel)
theorem r243_65 : Rw 243 65 68 3 60 69 0 0 := rw_of (by decide +kernel)
theorem r243_69 : Rw 243 69 70 1 16 1 0 0 := rw_of (by decide +kernel)
theorem r243_70 : Rw 243 70 71 1 10 1 0 0 := rw_of (by decide +kernel)
theorem r243_71 : Rw 243 71 74 3 61 78 0 0 := rw_of (by decide +kernel)
theorem r243_74 : Rw 243 74 75 1 1 (cd 3) 4 0 := rw_of (by decide +kernel)
theorem r243_75 : Rw 243 75 78 3 60 79 0 0 := rw_of (by decide +kernel)
theorem r243_79 : Rw 243 79 80 1 74 0 0 0 := rw_of (by decide +kernel)
theorem r243_34 : Rw 243 34 35 1 10 0 0 0 := rw_of (by decide +kernel)
theorem r243_35 : Rw 243 35 37 2 2 (cd 40) 168 0 := rw_of (by decide +kernel)
theorem r243_37 : Rw 243 37 40 3 67 64 0 0 := rw_of (by decide +kernel)
theorem r243_40 : Rw 243 40 41 1 10 0 0 0 := rw_of (by decide +kernel)
theorem r243_41 : Rw 243 41 43 2 2 (cd 41) 169 0 := rw_of (by decide +kernel)
theorem r243_43 : Rw 243 43 46 3 67 64 0 0 := rw_of (by decide +kernel)
theorem r243_46 : Rw 243 46 47 1 10 0 0 0 := rw_of (by decide +kernel)
theorem r243_47 : Rw 243 47 49 2 2 (cd 60) 188 0 := rw_of (by decide +kernel)
theorem r243_49 : Rw 243 49 52 3 67 64 0 0 := rw_of (by decide +kernel)
theorem r243_52 : Rw 243 52 53 1 10 0 0 0 := rw_of (by decide +kernel)
theorem r243_53 : Rw 243 53 55 2 2 (cd 61) 189 0 := rw_of (by decide +kernel)
theorem r243_55 : Rw 243 55 58 3 67 64 0 0 := rw_of (by decide +kernel)
theorem r243_58 : Rw 243 58 59 1 10 0 0 0 := rw_of (by decide +kernel)
theorem r243_59 : Rw 243 59 61 2 2 (cd 62) 190 0 := rw_of (by decide +kernel)
theorem r243_61 : Rw 243 61 64 3 68 68 0 0 := rw_of (by decide +kernel)
theorem r243_68 : Rw 243 68 69 1 1 (cd 0) 1 0 := rw_of (by decide +kernel)
theorem r243_78 : Rw 243 78 79 1 1 (cd 4) 5 0 := rw_of (by decide +kernel)
theorem r241_98 : Rw 241 98 101 3 81 9 4 0 := rw_of (by decide +kernel)
theorem fd_9_4 : Fdl 9 9 4 4 0 := fd_of (by decide) rfl (by decide +kernel)
theorem uf_9_4 {z : Int} (hz : 0 ≤ z ∧ z ≤ 4) : Bd 9 4 z := Bd.of0 g_9_4 rfl rfl rfl rfl rfl hz
theorem r241_101 : Rw 241 101 102 1 14 0 0 0 := rw_of (by decide +kernel)
theorem r241_102 : Rw 241 102 103 1 14 0 0 0 := rw_of (by decide +kernel)
theorem r241_103 : Rw 241 103 106 3 80 9 3 18 := rw_of (by decide +kernel)
theorem r241_106 : Rw 241 106 107 1 1 (cd 1) 2 0 := rw_of (by decide +kernel)
theorem r241_107 : Rw 241 107 108 1 30 0 0 0 := rw_of (by decide +kernel)
theorem r241_108 : Rw 241 108 111 3 81 9 2 0 := rw_of (by decide +kernel)
theorem r241_111 : Rw 241 111 112 1 14 0 0 0 := rw_of (by decide +kernel)
theorem r241_112 : Rw 241 112 115 3 80 9 4 21 := rw_of (by decide +kernel)
theorem bf_9_4 {M : Mm} (h : Pw M) : 0 ≤ M 9 4 ∧ M 9 4 ≤ 4 := (h 9 4 (by decide) (by decide) (by decide) (by decide +kernel)).get0 g_9_4 rfl rfl rfl rfl
theorem r241_115 : Rw 241 115 116 1 1 (cd 1) 2 0 := rw_of (by decide +kernel)
theorem r241_116 : Rw 241 116 119 3 67 127 0 0 := rw_of (by decide +kernel)
theorem r241_119 : Rw 241 119 120 1 14 0 0 0 := rw_of (by decide +kernel)
theorem r241_120 : Rw 241 120 123 3 80 9 4 21 := rw_of (by decide +kernel)
theorem r241_123 : Rw 241 123 124 1 1 (cd 2) 3 0 := rw_of (by decide +kernel)
theorem r241_124 : Rw 241 124 127 3 68 131 0 0 := rw_of (by decide +kernel)
theorem r241_131 : Rw 241 131 132 1 1 (cd 0) 1 0 := rw_of (by decide +kernel)
theorem r241_127 : Rw 241 127 128 1 1 (cd 1) 2 0 := rw_of (by decide +kernel)
theorem r241_128 : Rw 241 128 131 3 60 132 0 0 := rw_of (by decide +kernel)
theorem r241_132 : Rw 241 132 133 1 16 1 0 0 := rw_of (by decide +kernel)
theorem r241_133 : Rw 241 133 134 1 10 1 0 0 := rw_of (by decide +kernel)
theorem r241_134 : Rw 241 134 137 3 61 180 0 0 := rw_of (by decide +kernel)
theorem r241_180 : Rw 241 180 181 1 77 0 0 0 := rw_of (by decide +kernel)
theorem r241_137 : Rw 241 137 138 1 14 0 0 0 := rw_of (by decide +kernel)
theorem r241_138 : Rw 241 138 141 3 80 9 2 15 := rw_of (by decide +kernel)
theorem r241_141 : Rw 241 141 142 1 14 0 0 0 := rw_of (by decide +kernel)
theorem r241_142 : Rw 241 142 145 3 80 9 1 9 := rw_of (by decide +kernel)
theorem r241_145 : Rw 241 145 148 3 70 180 0 0 := rw_of (by decide +kernel)
theorem r241_148 : Rw 241 148 149 1 14 0 0 0 := rw_of (by decide +kernel)
theorem r241_149 : Rw 241 149 152 3 80 9 0 24 := rw_of (by decide +kernel)
theorem r241_152 : Rw 241 152 153 1 14 0 0 0 := rw_of (by decide +kernel)
theorem r241_153 : Rw 241 153 156 3 80 9 2 15 := rw_of (by decide +kernel)
theorem r241_156 : Rw 241 156 157 1 85 0 0 0 := rw_of (by decide +kernel)
theorem r241_157 : Rw 241 157 160 3 102 243 1 37 := rw_of (by decide +kernel)
theorem r241_160 : Rw 241 160 161 1 14 0 0 0 := rw_of (by decide +kernel)
theorem r241_161 : Rw 241 161 164 3 80 9 4 21 := rw_of (by decide +kernel)
theorem r241_164 : Rw 241 164 167 3 68 180 0 0 := rw_of (by decide +kernel)
theorem r241_167 : Rw 241 167 168 1 14 0 0 0 := rw_of (by decide +kernel)
theorem r241_168 : Rw 241 168 169 1 52 0 0 0 := rw_of (by decide +kernel)
theorem r241_169 : Rw 241 169 172 3 80 9 2 15 := rw_of (by decide +kernel)
theorem r241_172 : Rw 241 172 173 1 1 (cd 1) 2 0 := rw_of (by decide +kernel)
theorem r241_173 : Rw 241 173 174 1 30 0 0 0 := rw_of (by decide +kernel)
theorem r241_174 : Rw 241 174 177 3 81 9 2 0 := rw_of (by decide +kernel)
theorem r241_177 : Rw 241 177 180 3 60 133 0 0 := rw_of (by decide +kernel)
theorem r241_71 : Rw 241 71 72 1 14 0 0 0 := rw_of (by decide +kernel)
theorem r241_72 : Rw 241 72 73 1 1 (cd 0) 1 0 := rw_of (by decide +kernel)
theorem r241_73 : Rw 241 73 76 3 81 9 4 0 := rw_of (by decide +kernel)
theorem r241_76 : Rw 241 76 77 1 14 0 0 0 := rw_of (by decide +kernel)
theorem r241_77 : Rw 241 77 78 1 14 0 0 0 := rw_of (by decide +kernel)
theorem r241_78 : Rw 241 78 81 3 80 9 3 18 := rw_of (by decide +kernel)
theorem r241_81 : Rw 241 81 84 3 81 9 2 0 := rw_of (by decide +kernel)
theorem r241_84 : Rw 241 84 85 1 77 0 0 0 := rw_of (by decide +kernel)
theorem kc_9_241 : Kc 9 241 := kc_of (by decide) (by decide +kernel)
theorem r235_22 : Rw 235 22 23 1 77 0 0 0 := rw_of (by decide +kernel)
theorem kc_9_235 : Kc 9 235 := kc_of (by decide) (by decide +kernel)
theorem r154_23 : Rw 154 23 24 1 77 0 0 0 := rw_of (by decide +kernel)
theorem kc_6_154 : Kc 6 154 := kc_of (by decide) (by decide +kernel)
theorem r169_6 : Rw 169 6 7 1 14 0 0 0 := rw_of (by decide +kernel)
theorem r169_7 : Rw 169 7 10 3 80 3 1 12 := rw_of (by decide +kernel)
theorem fd_6_1 : Fdl 6 3 1 1 2 := fd_of (by decide) rfl (by decide +kernel)
theorem bf_6_1 {M : Mm} (h : Pw M) : 7 ≤ M 6 1 ∧ M 6 1 ≤ 7 := (h 6 1 (by decide) (by decide) (by decide) (by decide +kernel)).get0 g_6_1 rfl rfl rfl rfl
theorem br_6_1 {M : Mm} (h : Pw M) : M 6 1 = 7 := by have := bf_6_1 h; omega
theorem r169_10 : Rw 169 10 13 3 100 183 1 45 := rw_of (by decide +kernel)
theorem r183_0 : Rw 183 0 1 1 14 0 0 0 := rw_of (by decide +kernel)
theorem r183_1 : Rw 183 1 4 3 80 4 0 9 := rw_of (by decide +kernel)
theorem fd_7_0 : Fdl 7 4 0 0 2 := fd_of (by decide) rfl (by decide +kernel)
theorem bf_7_0 {M : Mm} (h : Pw M) : 8 ≤ M 7 0 ∧ M 7 0 ≤ 8 := (h 7 0 (by decide) (by decide) (by decide) (by decide +kernel)).get0 g_7_0 rfl rfl rfl rfl
theorem br_7_0 {M : Mm} (h : Pw M) : M 7 0 = 8 := by have := bf_7_0 h; omega
theorem r183_4 : Rw 183 4 5 1 1 (cd 3) 4 0 := rw_of (by decide +kernel)
theorem r183_5 : Rw 183 5 8 3 102 265 2 15 := rw_of (by decide +kernel)
theorem ar_8 : Ar 8 100 7 := ar_of (by decide) (by decide) (by decide +kernel)
theorem ba_8 {M : Mm} (h : Pw M) {i : Int} (h0 : 0 ≤ i) (h1 : i < 7) : 1 ≤ M 8 i ∧ M 8 i ≤ 31 := (h 8 i (by decide) (by decide) h0 (by rw [ar_8.2.2.2.1]; exact h1)).get0 (gr_8 (by decide) (by decide) i) rfl rfl rfl rfl
theorem ga_8 (i : Int) : grp 8 i = 46 := gr_8 (by decide) (by decide) i
theorem ua_8 {i z : Int} (hz : 1 ≤ z ∧ z ≤ 31) : Bd 8 i z := Bd.of0 (gr_8 (by decide) (by decide) i) rfl rfl rfl rfl rfl hz
theorem r183_8 : Rw 183 8 9 1 14 0 0 0 := rw_of (by decide +kernel)
theorem r183_9 : Rw 183 9 10 1 1 (cd 0) 1 0 := rw_of (by decide +kernel)
theorem r183_10 : Rw 183 10 13 3 81 4 1 0 := rw_of (by decide +kernel)
theorem fd_7_1 : Fdl 7 4 1 1 0 := fd_of (by decide) rfl (by decide +kernel)
theorem uf_7_1 {z : Int} (hz : (-1) ≤ z ∧ z ≤ 7) : Bd 7 1 z := Bd.of0 g_7_1 rfl rfl rfl rfl rfl hz
theorem r183_13 : Rw 183 13 14 1 14 0 0 0 := rw_of (by decide +kernel)
theorem r183_14 : Rw 183 14 15 1 1 (cd 1) 2 0 := rw_of (by decide +kernel)
theorem r183_15 : Rw 183 15 18 3 81 4 2 0 := rw_of (by decide +kernel)
theorem fd_7_2 : Fdl 7 4 2 2 0 := fd_of (by decide) rfl (by decide +kernel)
theorem uf_7_2 {z : Int} (hz : (-1) ≤ z ∧ z ≤ 4) : Bd 7 2 z := Bd.of0 g_7_2 rfl rfl rfl rfl rfl hz
theorem r183_18 : Rw 183 18 19 1 14 0 0 0 := rw_of (by decide +kernel)
theorem r183_19 : Rw 183 19 20 1 1 (cd (-1)) 0 0 := rw_of (by decide +kernel)
theorem r183_20 : Rw 183 20 23 3 81 4 3 0 := rw_of (by decide +kernel)
theorem fd_7_3 : Fdl 7 4 3 3 0 := fd_of (by decide) rfl (by decide +kernel)
theorem uf_7_3 {z : Int} (hz : (-1) ≤ z ∧ z ≤ 6) : Bd 7 3 z := Bd.of0 g_7_3 rfl rfl rfl rfl rfl hz
theorem r183_23 : Rw 183 23 24 1 14 0 0 0 := rw_of (by decide +kernel)
theorem r183_24 : Rw 183 24 25 1 1 (cd 0) 1 0 := rw_of (by decide +kernel)
theorem r183_25 : Rw 183 25 28 3 81 4 4 0 := rw_of (by decide +kernel)
theorem fd_7_4 : Fdl 7 4 4 4 0 := fd_of (by decide) rfl (by decide +kernel)
theorem uf_7_4 {z : Int} (hz : 0 ≤ z ∧ z ≤ 127) : Bd 7 4 z := Bd.of0 g_7_4 rfl rfl rfl rfl rfl hz
theorem r183_28 : Rw 183 28 29 1 14 0 0 0 := rw_of (by decide +kernel)
theorem r183_29 : Rw 183 29 30 1 1 (cd 0) 1 0 := rw_of (by decide +kernel)
theorem r183_30 : Rw 183 30 33 3 81 4 5 1 := rw_of (by decide +kernel)
theorem fd_7_5 : Fdl 7 4 5 5 0 := fd_of (by decide) rfl (by decide +kernel)
theorem uf_7_5 {z : Int} (hz : 0 ≤ z ∧ z ≤ 1) : Bd 7 5 z := Bd.of0 g_7_5 rfl rfl rfl rfl rfl hz
theorem r183_33 : Rw 183 33 34 1 14 0 0 0 := rw_of (by decide +kernel)
theorem r183_34 : Rw 183 34 35 1 1 (cd 0) 1 0 := rw_of (by decide +kernel)
theorem r183_35 : Rw 183 35 38 3 81 4 6 1 := rw_of (by decide +kernel)
theorem fd_7_6 : Fdl 7 4 6 6 0 := fd_of (by decide) rfl (by decide +kernel)
theorem uf_7_6 {z : Int} (hz : 0 ≤ z ∧ z ≤ 1) : Bd 7 6 z := Bd.of0 g_7_6 rfl rfl rfl rfl rfl hz
theorem r183_38 : Rw 183 38 39 1 77 0 0 0 := rw_of (by decide +kernel)
theorem kc_7_183 : Kc 7 183 := kc_of (by decide) (by decide +kernel)
theorem r169_13 : Rw 169 13 14 1 14 2 0 0 := rw_of (by decide +kernel)
theorem r169_14 : Rw 169 14 17 3 100 144 1 48 := rw_of (by decide +kernel)
theorem r144_0 : Rw 144 0 1 1 14 0 0 0 := rw_of (by decide +kernel)
theorem r144_1 : Rw 144 1 4 3 100 141 1 25 := rw_of (by decide +kernel)
theorem r141_0 : Rw 141 0 1 1 14 0 0 0 := rw_of (by decide +kernel)
theorem r141_1 : Rw 141 1 2 1 1 (cd 0) 1 0 := rw_of (by decide +kernel)
theorem r141_2 : Rw 141 2 5 3 81 1 1 0 := rw_of (by decide +kernel)
theorem fdCb_1 : (List.range 30).all (fun j => fdb (679 + 2 * j) 1 1 0) = true := by decide +kernel
theorem fdC_1 {a : Int} (h : isC a) : Fdl a 1 1 1 0 := by
  rcases h with rfl | h
  · exact fd_of (by decide) rfl (by decide +kernel)
  · refine fd_of (by omega) rfl ?_
    have h2 := List.all_eq_true.mp fdCb_1 ((a.toNat - 679) / 2) (List.mem_range.mpr (by omega))
    rw [show 679 + 2 * ((a.toNat - 679) / 2) = a.toNat by omega] at h2
    exact h2
theorem uC_1 {a z : Int} (ha : isC a) (hz : 0 ≤ z ∧ z ≤ 256) : Bd a 1 z := Bd.of0 (g_c1 ha) rfl rfl rfl rfl rfl hz
theorem r141_5 : Rw 141 5 6 1 14 0 0 0 := rw_of (by decide +kernel)
theorem r141_6 : Rw 141 6 7 1 1 (cd 0) 1 0 := rw_of (by decide +kernel)
theorem r141_7 : Rw 141 7 10 3 81 1 2 0 := rw_of (by decide +kernel)
theorem fdCb_2 : (List.range 30).all (fun j => fdb (679 + 2 * j) 1 2 0) = true := by decide +kernel
theorem fdC_2 {a : Int} (h : isC a) : Fdl a 1 2 2 0 := by
  rcases h with rfl | h
  · exact fd_of (by decide) rfl (by decide +kernel)
  · refine fd_of (by omega) rfl ?_
    have h2 := List.all_eq_true.mp fdCb_2 ((a.toNat - 679) / 2) (List.mem_range.mpr (by omega))
    rw [show 679 + 2 * ((a.toNat - 679) / 2) = a.toNat by omega] at h2
    exact h2
theorem uC_2 {a z : Int} (ha : isC a) (hz : 0 ≤ z ∧ z ≤ 127) : Bd a 2 z := Bd.of0 (g_c2 ha) rfl rfl rfl rfl rfl hz
theorem r141_10 : Rw 141 10 11 1 14 0 0 0 := rw_of (by decide +kernel)
theorem r141_11 : Rw 141 11 12 1 1 (cd 0) 1 0 := rw_of (by decide +kernel)
theorem r141_12 : Rw 141 12 15 3 81 1 3 0 := rw_of (by decide +kernel)
theorem fdCb_3 : (List.range 30).all (fun j => fdb (679 + 2 * j) 1 3 0) = true := by decide +kernel
theorem fdC_3 {a : Int} (h : isC a) : Fdl a 1 3 3 0 := by
  rcases h with rfl | h
  · exact fd_of (by decide) rfl (by decide +kernel)
  · refine fd_of (by omega) rfl ?_
    have h2 := List.all_eq_true.mp fdCb_3 ((a.toNat - 679) / 2) (List.mem_range.mpr (by omega))
    rw [show 679 + 2 * ((a.toNat - 679) / 2) = a.toNat by omega] at h2
    exact h2
theorem uC_3 {a z : Int} (ha : isC a) (hz : 0 ≤ z ∧ z ≤ 32767) : Bd a 3 z := Bd.of0 (g_c3 ha) rfl rfl rfl rfl rfl hz
theorem r141_15 : Rw 141 15 16 1 77 0 0 0 := rw_of (by decide +kernel)
theorem kcCb_141 : (List.range 30).all (fun j => kcb (679 + 2 * j) 141) = true := by decide +kernel
theorem kcC_141 {a : Int} (h : isC a) : Kc a 141 := by
  rcases h with rfl | h
  · exact kc_of (by decide) (by decide +kernel)
  · refine kc_of (by omega) ?_
    have h2 := List.all_eq_true.mp kcCb_141 ((a.toNat - 679) / 2) (List.mem_range.mpr (by omega))
    rw [show 679 + 2 * ((a.toNat - 679) / 2) = a.toNat by omega] at h2
    exact h2
theorem r144_4 : Rw 144 4 5 1 14 0 0 0 := rw_of (by decide +kernel)
theorem r144_5 : Rw 144 5 6 1 1 (cd 0) 1 0 := rw_of (by decide +kernel)
theorem r144_6 : Rw 144 6 8 2 2 (cd 118) 246 0 := rw_of (by decide +kernel)
theorem r144_8 : Rw 144 8 11 3 100 138 3 28 := rw_of (by decide +kernel)
theorem r138_0 : Rw 138 0 1 1 14 0 0 0 := rw_of (by decide +kernel)
theorem r138_1 : Rw 138 1 4 3 80 1 1 15 := rw_of (by decide +kernel)
theorem fdCb_0 : (List.range 30).all (fun j => fdb (679 + 2 * j) 1 0 2) = true := by decide +kernel
theorem fdC_0 {a : Int} (h : isC a) : Fdl a 1 0 0 2 := by
  rcases h with rfl | h
  · exact fd_of (by decide) rfl (by decide +kernel)
  · refine fd_of (by omega) rfl ?_
    have h2 := List.all_eq_true.mp fdCb_0 ((a.toNat - 679) / 2) (List.mem_range.mpr (by omega))
    rw [show 679 + 2 * ((a.toNat - 679) / 2) = a.toNat by omega] at h2
    exact h2
theorem lnCb : (List.range 30).all (fun j => Nat.beq (ln (679 + 2 * j)) 4) = true := by decide +kernel
theorem lnC {a : Int} (h : isC a) : (ln a.toNat : Int) = 4 := by
  rcases h with rfl | h
  · decide +kernel
  · have h2 := List.all_eq_true.mp lnCb ((a.toNat - 679) / 2) (List.mem_range.mpr (by omega))
    rw [show 679 + 2 * ((a.toNat - 679) / 2) = a.toNat by omega] at h2
    rw [Nat.eq_of_beq_eq_true h2]
    rfl
theorem isC_rg {a : Int} (h : isC a) : 0 ≤ a ∧ a < 769 := by
  unfold isC at h
  omega
theorem bC_1 {M : Mm} (h : Pw M) {a : Int} (ha : isC a) : 0 ≤ M a 1 ∧ M a 1 ≤ 256 := (h a 1 (isC_rg ha).1 (by have := isC_rg ha; omega) (by decide) (by rw [lnC ha]; decide)).get0 (g_c1 ha) rfl rfl rfl rfl
theorem r138_4 : Rw 138 4 5 1 14 0 0 0 := rw_of (by decide +kernel)
theorem r138_5 : Rw 138 5 8 3 80 1 0 9 := rw_of (by decide +kernel)
theorem bC_0 {M : Mm} (h : Pw M) {a : Int} (ha : isC a) : M a 0 = a + 1 := by
  have := (h a 0 (isC_rg ha).1 (by have := isC_rg ha; omega) (by decide) (by rw [lnC ha]; decide)).get (l := 1) (u := 1) (c := 0) (s := 1) (g_c0 ha) rfl rfl rfl rfl
  omega
theorem r138_8 : Rw 138 8 9 1 92 0 0 0 := rw_of (by decide +kernel)
theorem arCb : (List.range 30).all (fun j => arb (680 + 2 * j) 100 256) = true := by decide +kernel
theorem arC {a : Int} (h : isC a) : Ar (a + 1) 100 256 := by
  rcases h with rfl | h
  · exact ar_of (by decide) (by decide) (by decide +kernel)
  · refine ar_of (by omega) (by decide) ?_
    have h2 := List.all_eq_true.mp arCb ((a.toNat - 679) / 2) (List.mem_range.mpr (by omega))
    rw [show 680 + 2 * ((a.toNat - 679) / 2) = (a + 1).toNat by omega] at h2
    exact h2
theorem baC {M : Mm} (h : Pw M) {a i : Int} (ha : isC a) (h0 : 0 ≤ i) (h1 : i < 256) : 0 ≤ M (a + 1) i ∧ M (a + 1) i ≤ 10239 := (h (a + 1) i (by have := isC_rg ha; omega) (by have := isC_rg ha; omega) h0 (by rw [(arC ha).2.2.2.1]; exact h1)).get0 (g_cs ha i) rfl rfl rfl rfl
theorem r138_9 : Rw 138 9 12 3 70 36 0 0 := rw_of (by decide +kernel)
theorem r138_36 : Rw 138 36 37 1 77 0 0 0 := rw_of (by decide +kernel)
theorem r138_12 : Rw 138 12 13 1 14 0 0 0 := rw_of (by decide +kernel)
theorem r138_13 : Rw 138 13 16 3 80 1 0 9 := rw_of (by decide +kernel)
theorem r138_16 : Rw 138 16 17 1 14 0 0 0 := rw_of (by decide +kernel)
theorem r138_17 : Rw 138 17 20 3 80 1 1 15 := rw_of (by decide +kernel)
theorem r138_20 : Rw 138 20 21 1 10 1 0 0 := rw_of (by decide +kernel)
theorem r138_21 : Rw 138 21 22 1 10 2 0 0 := rw_of (by decide +kernel)
theorem r138_22 : Rw 138 22 23 1 1 (cd 3) 4 0 := rw_of (by decide +kernel)
theorem r138_23 : Rw 138 23 24 1 36 0 0 0 := rw_of (by decide +kernel)
theorem pwl_3 : pw 3 = 8 := by decide
theorem r138_24 : Rw 138 24 25 1 34 0 0 0 := rw_of (by decide +kernel)
theorem r138_25 : Rw 138 25 26 1 88 0 0 0 := rw_of (by decide +kernel)
theorem uaC {a i z : Int} (ha : isC a) (hz : stepok z) : Bd (a + 1) i z := Bd.ofe (l := 0) (u := 10239) (g_cs ha i) rfl rfl rfl rfl ⟨fun _ => hz, fun e => absurd e (by decide), fun e => absurd e (by decide), fun e => absurd e (by decide)⟩ ⟨hz.1, hz.2.1⟩
theorem r138_26 : Rw 138 26 27 1 14 0 0 0 := rw_of (by decide +kernel)
theorem r138_27 : Rw 138 27 28 1 52 0 0 0 := rw_of (by decide +kernel)
theorem r138_28 : Rw 138 28 31 3 80 1 1 15 := rw_of (by decide +kernel)
theorem r138_31 : Rw 138 31 32 1 1 (cd 1) 2 0 := rw_of (by decide +kernel)
theorem r138_32 : Rw 138 32 33 1 30 0 0 0 := rw_of (by decide +kernel)
theorem r138_33 : Rw 138 33 36 3 81 1 1 0 := rw_of (by decide +kernel)
theorem kcCb_138 : (List.range 30).all (fun j => kcb (679 + 2 * j) 138) = true := by decide +kernel
theorem kcC_138 {a : Int} (h : isC a) : Kc a 138 := by
  rcases h with rfl | h
  · exact kc_of (by decide) (by decide +kernel)
  · refine kc_of (by omega) ?_
    have h2 := List.all_eq_true.mp kcCb_138 ((a.toNat - 679) / 2) (List.mem_range.mpr (by omega))
    rw [show 679 + 2 * ((a.toNat - 679) / 2) = a.toNat by omega] at h2
    exact h2
theorem r144_11 : Rw 144 11 12 1 77 0 0 0 := rw_of (by decide +kernel)
theorem kcCb_144 : (List.range 30).all (fun j => kcb (679 + 2 * j) 144) = true := by decide +kernel
theorem kcC_144 {a : Int} (h : isC a) : Kc a 144 := by
  rcases h with rfl | h
  · exact kc_of (by decide) (by decide +kernel)
  · refine kc_of (by omega) ?_
    have h2 := List.all_eq_true.mp kcCb_144 ((a.toNat - 679) / 2) (List.mem_range.mpr (by omega))
    rw [show 679 + 2 * ((a.toNat - 679) / 2) = a.toNat by omega] at h2
    exact h2
theorem r169_17 : Rw 169 17 18 1 14 0 0 0 := rw_of (by decide +kernel)
theorem r169_18 : Rw 169 18 21 3 100 160 1 53 := rw_of (by decide +kernel)
theorem r160_0 : Rw 160 0 1 1 14 0 0 0 := rw_of (by decide +kernel)
theorem r160_1 : Rw 160 1 3 2 8 (Int.toNat 4127) 87 30 := rw_of (by decide +kernel)
theorem r160_3 : Rw 160 3 6 3 100 175 2 88 := rw_of (by decide +kernel)
theorem r175_0 : Rw 175 0 1 1 14 0 0 0 := rw_of (by decide +kernel)
theorem r175_1 : Rw 175 1 4 3 80 3 0 33 := rw_of (by decide +kernel)
theorem r175_4 : Rw 175 4 5 1 14 1 0 0 := rw_of (by decide +kernel)
theorem r175_5 : Rw 175 5 8 3 100 239 2 162 := rw_of (by decide +kernel)
theorem r239_0 : Rw 239 0 1 1 14 0 0 0 := rw_of (by decide +kernel)
theorem r239_1 : Rw 239 1 4 3 80 9 4 21 := rw_of (by decide +kernel)
theorem r239_4 : Rw 239 4 5 1 1 (cd 1) 2 0 := rw_of (by decide +kernel)
theorem r239_5 : Rw 239 5 8 3 68 24 0 0 := rw_of (by decide +kernel)
theorem r239_24 : Rw 239 24 25 1 1 (cd 0) 1 0 := rw_of (by decide +kernel)
theorem r239_25 : Rw 239 25 26 1 74 1 0 0 := rw_of (by decide +kernel)
theorem r239_8 : Rw 239 8 9 1 14 0 0 0 := rw_of (by decide +kernel)
theorem r239_9 : Rw 239 9 12 3 80 9 2 15 := rw_of (by decide +kernel)
theorem r239_12 : Rw 239 12 13 1 14 0 0 0 := rw_of (by decide +kernel)
theorem r239_13 : Rw 239 13 16 3 80 9 3 18 := rw_of (by decide +kernel)
theorem r239_16 : Rw 239 16 17 1 31 0 0 0 := rw_of (by decide +kernel)
theorem r239_17 : Rw 239 17 18 1 14 1 0 0 := rw_of (by decide +kernel)
theorem r239_18 : Rw 239 18 21 3 115 268 1 41 := rw_of (by decide +kernel)
theorem r239_21 : Rw 239 21 24 3 67 26 0 0 := rw_of (by decide +kernel)
theorem r239_26 : Rw 239 26 27 1 1 (cd 0) 1 0 := rw_of (by decide +kernel)
theorem r239_27 : Rw 239 27 28 1 16 2 0 0 := rw_of (by decide +kernel)
theorem r239_28 : Rw 239 28 29 1 10 2 0 0 := rw_of (by decide +kernel)
theorem r239_29 : Rw 239 29 30 1 14 1 0 0 := rw_of (by decide +kernel)
theorem r239_30 : Rw 239 30 33 3 115 268 1 41 := rw_of (by decide +kernel)
theorem r239_33 : Rw 239 33 36 3 70 63 0 0 := rw_of (by decide +kernel)
theorem r239_63 : Rw 239 63 64 1 1 (cd 1) 2 0 := rw_of (by decide +kernel)
theorem r239_64 : Rw 239 64 65 1 74 1 0 0 := rw_of (by decide +kernel)
theorem r239_36 : Rw 239 36 37 1 14 0 0 0 := rw_of (by decide +kernel)
theorem r239_37 : Rw 239 37 40 3 80 9 0 24 := rw_of (by decide +kernel)
theorem r239_40 : Rw 239 40 41 1 14 0 0 0 := rw_of (by decide +kernel)
theorem r239_41 : Rw 239 41 44 3 80 9 3 18 := rw_of (by decide +kernel)
theorem r239_44 : Rw 239 44 45 1 10 2 0 0 := rw_of (by decide +kernel)
theorem r239_45 : Rw 239 45 46 1 30 0 0 0 := rw_of (by decide +kernel)
theorem r239_46 : Rw 239 46 47 1 85 0 0 0 := rw_of (by decide +kernel)
theorem r239_47 : Rw 239 47 48 1 14 1 0 0 := rw_of (by decide +kernel)
theorem r239_48 : Rw 239 48 49 1 10 2 0 0 := rw_of (by decide +kernel)
theorem r239_49 : Rw 239 49 52 3 115 269 2 47 := rw_of (by decide +kernel)
theorem r239_52 : Rw 239 52 55 3 67 57 0 0 := rw_of (by decide +kernel)
theorem r239_57 : Rw 239 57 60 3 22 2 (cd 1) 32769 := rw_of (by decide +kernel)
theorem r239_60 : Rw 239 60 63 3 60 28 0 0 := rw_of (by decide +kernel)
theorem r239_55 : Rw 239 55 56 1 1 (cd 0) 1 0 := rw_of (by decide +kernel)
theorem r239_56 : Rw 239 56 57 1 74 1 0 0 := rw_of (by decide +kernel)
theorem kc_9_239 : Kc 9 239 := kc_of (by decide) (by decide +kernel)
theorem r175_8 : Rw 175 8 11 3 62 13 0 0 := rw_of (by decide +kernel)
theorem r175_13 : Rw 175 13 14 1 14 0 0 0 := rw_of (by decide +kernel)
theorem r175_14 : Rw 175 14 17 3 80 3 0 33 := rw_of (by decide +kernel)
theorem r175_17 : Rw 175 17 20 3 100 241 1 135 := rw_of (by decide +kernel)
theorem r175_20 : Rw 175 20 21 1 1 (cd 1) 2 0 := rw_of (by decide +kernel)
theorem r175_21 : Rw 175 21 22 1 74 1 0 0 := rw_of (by decide +kernel)
theorem r175_11 : Rw 175 11 12 1 1 (cd 0) 1 0 := rw_of (by decide +kernel)
theorem r175_12 : Rw 175 12 13 1 74 1 0 0 := rw_of (by decide +kernel)
theorem kc_6_175 : Kc 6 175 := kc_of (by decide) (by decide +kernel)
theorem r160_6 : Rw 160 6 9 3 62 15 0 0 := rw_of (by decide +kernel)
theorem r160_15 : Rw 160 15 16 1 14 0 0 0 := rw_of (by decide +kernel)
theorem r160_16 : Rw 160 16 17 1 14 0 0 0 := rw_of (by decide +kernel)
theorem r160_17 : Rw 160 17 18 1 1 (cd 0) 1 0 := rw_of (by decide +kernel)
theorem r160_18 : Rw 160 18 20 2 2 (cd 7) 135 0 := rw_of (by decide +kernel)
theorem r160_20 : Rw 160 20 23 3 100 167 3 92 := rw_of (by decide +kernel)
theorem r167_0 : Rw 167 0 1 1 14 0 0 0 := rw_of (by decide +kernel)
theorem r167_1 : Rw 167 1 4 3 80 3 0 33 := rw_of (by decide +kernel)
theorem r167_4 : Rw 167 4 7 3 80 9 4 57 := rw_of (by decide +kernel)
theorem r167_7 : Rw 167 7 8 1 1 (cd 2) 3 0 := rw_of (by decide +kernel)
theorem r167_8 : Rw 167 8 11 3 67 19 0 0 := rw_of (by decide +kernel)
theorem r167_19 : Rw 167 19 20 1 14 0 0 0 := rw_of (by decide +kernel)
theorem r167_20 : Rw 167 20 23 3 80 3 0 33 := rw_of (by decide +kernel)
theorem r167_23 : Rw 167 23 26 3 100 244 1 216 := rw_of (by decide +kernel)
theorem r244_0 : Rw 244 0 1 1 14 0 0 0 := rw_of (by decide +kernel)
theorem r244_1 : Rw 244 1 4 3 80 9 2 15 := rw_of (by decide +kernel)
theorem r244_4 : Rw 244 4 5 1 14 0 0 0 := rw_of (by decide +kernel)
theorem r244_5 : Rw 244 5 8 3 80 9 3 18 := rw_of (by decide +kernel)
theorem r244_8 : Rw 244 8 9 1 31 0 0 0 := rw_of (by decide +kernel)
theorem r244_9 : Rw 244 9 10 1 1 (cd 3) 4 0 := rw_of (by decide +kernel)
theorem r244_10 : Rw 244 10 13 3 72 15 0 0 := rw_of (by decide +kernel)
theorem r244_15 : Rw 244 15 16 1 1 (cd 0) 1 0 := rw_of (by decide +kernel)
theorem r244_16 : Rw 244 16 17 1 16 1 0 0 := rw_of (by decide +kernel)
theorem r244_17 : Rw 244 17 18 1 14 0 0 0 := rw_of (by decide +kernel)
theorem r244_18 : Rw 244 18 21 3 80 9 3 18 := rw_of (by decide +kernel)
theorem r244_21 : Rw 244 21 22 1 16 2 0 0 := rw_of (by decide +kernel)
theorem r244_22 : Rw 244 22 23 1 10 2 0 0 := rw_of (by decide +kernel)
theorem r244_23 : Rw 244 23 24 1 14 0 0 0 := rw_of (by decide +kernel)
theorem r244_24 : Rw 244 24 27 3 80 9 2 15 := rw_of (by decide +kernel)
theorem r244_27 : Rw 244 27 30 3 70 51 0 0 := rw_of (by decide +kernel)
theorem r244_51 : Rw 244 51 52 1 10 1 0 0 := rw_of (by decide +kernel)
theorem r244_52 : Rw 244 52 53 1 74 0 0 0 := rw_of (by decide +kernel)
theorem r244_30 : Rw 244 30 32 2 2 (cd 10) 138 0 := rw_of (by decide +kernel)
theorem r244_32 : Rw 244 32 33 1 10 1 0 0 := rw_of (by decide +kernel)
theorem r244_33 : Rw 244 33 34 1 32 0 0 0 := rw_of (by decide +kernel)
theorem r244_34 : Rw 244 34 35 1 14 0 0 0 := rw_of (by decide +kernel)
theorem r244_35 : Rw 244 35 38 3 80 9 0 24 := rw_of (by decide +kernel)
theorem r244_38 : Rw 244 38 39 1 10 2 0 0 := rw_of (by decide +kernel)
theorem r244_39 : Rw 244 39 40 1 85 0 0 0 := rw_of (by decide +kernel)
theorem r244_40 : Rw 244 40 42 2 2 (cd 48) 176 0 := rw_of (by decide +kernel)
theorem r244_42 : Rw 244 42 43 1 31 0 0 0 := rw_of (by decide +kernel)
theorem r244_43 : Rw 244 43 44 1 30 0 0 0 := rw_of (by decide +kernel)
theorem r244_44 : Rw 244 44 45 1 16 1 0 0 := rw_of (by decide +kernel)
theorem r244_45 : Rw 244 45 48 3 22 2 (cd 1) 32769 := rw_of (by decide +kernel)
theorem r244_48 : Rw 244 48 51 3 60 22 0 0 := rw_of (by decide +kernel)
theorem r244_13 : Rw 244 13 14 1 1 (cd (-1)) 0 0 := rw_of (by decide +kernel)
theorem r244_14 : Rw 244 14 15 1 74 0 0 0 := rw_of (by decide +kernel)
theorem kc_9_244 : Kc 9 244 := kc_of (by decide) (by decide +kernel)
theorem r167_26 : Rw 167 26 27 1 16 3 0 0 := rw_of (by decide +kernel)
theorem r167_27 : Rw 167 27 28 1 10 3 0 0 := rw_of (by decide +kernel)
theorem r167_28 : Rw 167 28 29 1 10 1 0 0 := rw_of (by decide +kernel)
theorem r167_29 : Rw 167 29 32 3 69 37 0 0 := rw_of (by decide +kernel)
theorem r167_37 : Rw 167 37 38 1 14 0 0 0 := rw_of (by decide +kernel)
theorem r167_38 : Rw 167 38 39 1 1 (cd 2) 3 0 := rw_of (by decide +kernel)
theorem r167_39 : Rw 167 39 42 3 100 159 2 71 := rw_of (by decide +kernel)
theorem r159_0 : Rw 159 0 1 1 14 0 0 0 := rw_of (by decide +kernel)
theorem r159_1 : Rw 159 1 2 1 10 1 0 0 := rw_of (by decide +kernel)
theorem r159_2 : Rw 159 2 5 3 81 3 4 0 := rw_of (by decide +kernel)
theorem r159_5 : Rw 159 5 6 1 14 0 0 0 := rw_of (by decide +kernel)
theorem r159_6 : Rw 159 6 7 1 14 0 0 0 := rw_of (by decide +kernel)
theorem r159_7 : Rw 159 7 10 3 80 3 0 33 := rw_of (by decide +kernel)
theorem r159_10 : Rw 159 10 13 3 80 9 3 84 := rw_of (by decide +kernel)
theorem r159_13 : Rw 159 13 16 3 81 3 5 0 := rw_of (by decide +kernel)
theorem r159_16 : Rw 159 16 17 1 1 (cd 0) 1 0 := rw_of (by decide +kernel)
theorem r159_17 : Rw 159 17 18 1 74 1 0 0 := rw_of (by decide +kernel)
theorem kc_6_159 : Kc 6 159 := kc_of (by decide) (by decide +kernel)
theorem bf_6_4 {M : Mm} (h : Pw M) : 0 ≤ M 6 4 ∧ M 6 4 ≤ 6 := (h 6 4 (by decide) (by decide) (by decide) (by decide +kernel)).get0 g_6_4 rfl rfl rfl rfl
theorem r167_42 : Rw 167 42 43 1 53 0 0 0 := rw_of (by decide +kernel)
theorem r167_43 : Rw 167 43 44 1 1 (cd (-1)) 0 0 := rw_of (by decide +kernel)
theorem r167_44 : Rw 167 44 45 1 74 0 0 0 := rw_of (by decide +kernel)
theorem r167_32 : Rw 167 32 33 1 10 3 0 0 := rw_of (by decide +kernel)
theorem r167_33 : Rw 167 33 34 1 10 2 0 0 := rw_of (by decide +kernel)
theorem r167_34 : Rw 167 34 37 3 72 45 0 0 := rw_of (by decide +kernel)
theorem r167_45 : Rw 167 45 46 1 14 0 0 0 := rw_of (by decide +kernel)
theorem r167_46 : Rw 167 46 49 3 80 3 0 33 := rw_of (by decide +kernel)
theorem r167_49 : Rw 167 49 52 3 100 241 1 135 := rw_of (by decide +kernel)
theorem r167_52 : Rw 167 52 53 1 10 3 0 0 := rw_of (by decide +kernel)
theorem r167_53 : Rw 167 53 54 1 74 0 0 0 := rw_of (by decide +kernel)
theorem r167_11 : Rw 167 11 12 1 14 0 0 0 := rw_of (by decide +kernel)
theorem r167_12 : Rw 167 12 13 1 1 (cd 1) 2 0 := rw_of (by decide +kernel)
theorem r167_13 : Rw 167 13 16 3 100 159 2 71 := rw_of (by decide +kernel)
theorem r167_16 : Rw 167 16 17 1 53 0 0 0 := rw_of (by decide +kernel)
theorem r167_17 : Rw 167 17 18 1 1 (cd (-1)) 0 0 := rw_of (by decide +kernel)
theorem r167_18 : Rw 167 18 19 1 74 0 0 0 := rw_of (by decide +kernel)
theorem kc_6_167 : Kc 6 167 := kc_of (by decide) (by decide +kernel)
theorem r160_23 : Rw 160 23 26 3 81 3 3 0 := rw_of (by decide +kernel)
theorem fd_6_3 : Fdl 6 3 3 3 0 := fd_of (by decide) rfl (by decide +kernel)
theorem uf_6_3 {z : Int} (hz : (-1) ≤ z ∧ z ≤ 7) : Bd 6 3 z := Bd.of0 g_6_3 rfl rfl rfl rfl rfl hz
theorem r160_26 : Rw 160 26 27 1 14 0 0 0 := rw_of (by decide +kernel)
theorem r160_27 : Rw 160 27 30 3 80 3 1 12 := rw_of (by decide +kernel)
theorem r160_30 : Rw 160 30 31 1 14 0 0 0 := rw_of (by decide +kernel)
theorem r160_31 : Rw 160 31 34 3 80 3 3 18 := rw_of (by decide +kernel)
theorem bf_6_3 {M : Mm} (h : Pw M) : (-1) ≤ M 6 3 ∧ M 6 3 ≤ 7 := (h 6 3 (by decide) (by decide) (by decide) (by decide +kernel)).get0 g_6_3 rfl rfl rfl rfl
theorem r160_34 : Rw 160 34 37 3 81 4 1 0 := rw_of (by decide +kernel)
theorem r160_37 : Rw 160 37 38 1 14 0 0 0 := rw_of (by decide +kernel)
theorem r160_38 : Rw 160 38 41 3 80 3 3 18 := rw_of (by decide +kernel)
theorem r160_41 : Rw 160 41 42 1 1 (cd (-1)) 0 0 := rw_of (by decide +kernel)
theorem r160_42 : Rw 160 42 45 3 67 58 0 0 := rw_of (by decide +kernel)
theorem r160_58 : Rw 160 58 59 1 1 (cd 0) 1 0 := rw_of (by decide +kernel)
theorem r160_59 : Rw 160 59 60 1 74 1 0 0 := rw_of (by decide +kernel)
theorem r160_45 : Rw 160 45 46 1 14 0 0 0 := rw_of (by decide +kernel)
theorem r160_46 : Rw 160 46 48 2 2 (cd 59) 187 0 := rw_of (by decide +kernel)
theorem r160_48 : Rw 160 48 51 3 100 174 2 63 := rw_of (by decide +kernel)
theorem r174_0 : Rw 174 0 1 1 14 0 0 0 := rw_of (by decide +kernel)
theorem r174_1 : Rw 174 1 4 3 80 3 0 33 := rw_of (by decide +kernel)
theorem r174_4 : Rw 174 4 5 1 10 1 0 0 := rw_of (by decide +kernel)
theorem r174_5 : Rw 174 5 8 3 100 238 2 154 := rw_of (by decide +kernel)
theorem r238_0 : Rw 238 0 1 1 14 0 0 0 := rw_of (by decide +kernel)
theorem r238_1 : Rw 238 1 4 3 80 9 4 21 := rw_of (by decide +kernel)
theorem r238_4 : Rw 238 4 5 1 1 (cd 3) 4 0 := rw_of (by decide +kernel)
theorem r238_5 : Rw 238 5 8 3 68 36 0 0 := rw_of (by decide +kernel)
theorem r238_36 : Rw 238 36 37 1 1 (cd 0) 1 0 := rw_of (by decide +kernel)
theorem r238_37 : Rw 238 37 38 1 74 1 0 0 := rw_of (by decide +kernel)
theorem r238_8 : Rw 238 8 9 1 14 0 0 0 := rw_of (by decide +kernel)
theorem r238_9 : Rw 238 9 12 3 80 9 3 18 := rw_of (by decide +kernel)
theorem r238_12 : Rw 238 12 13 1 14 0 0 0 := rw_of (by decide +kernel)
theorem r238_13 : Rw 238 13 16 3 80 9 1 9 := rw_of (by decide +kernel)
theorem r238_16 : Rw 238 16 19 3 70 36 0 0 := rw_of (by decide +kernel)
theorem r238_19 : Rw 238 19 20 1 14 0 0 0 := rw_of (by decide +kernel)
theorem r238_20 : Rw 238 20 23 3 80 9 0 24 := rw_of (by decide +kernel)
theorem r238_23 : Rw 238 23 24 1 14 0 0 0 := rw_of (by decide +kernel)
theorem r238_24 : Rw 238 24 27 3 80 9 3 18 := rw_of (by decide +kernel)
theorem r238_27 : Rw 238 27 28 1 85 0 0 0 := rw_of (by decide +kernel)
theorem r238_28 : Rw 238 28 29 1 10 1 0 0 := rw_of (by decide +kernel)
theorem r238_29 : Rw 238 29 32 3 68 36 0 0 := rw_of (by decide +kernel)
theorem r238_32 : Rw 238 32 33 1 1 (cd 1) 2 0 := rw_of (by decide +kernel)
theorem r238_33 : Rw 238 33 36 3 60 37 0 0 := rw_of (by decide +kernel)
theorem kc_9_238 : Kc 9 238 := kc_of (by decide) (by decide +kernel)
theorem r174_8 : Rw 174 8 11 3 62 17 0 0 := rw_of (by decide +kernel)
theorem r174_17 : Rw 174 17 18 1 14 0 0 0 := rw_of (by decide +kernel)
theorem r174_18 : Rw 174 18 21 3 80 3 0 33 := rw_of (by decide +kernel)
theorem r174_21 : Rw 174 21 24 3 100 241 1 135 := rw_of (by decide +kernel)
theorem r174_24 : Rw 174 24 25 1 1 (cd 1) 2 0 := rw_of (by decide +kernel)
theorem r174_25 : Rw 174 25 26 1 74 1 0 0 := rw_of (by decide +kernel)
theorem r174_11 : Rw 174 11 12 1 14 0 0 0 := rw_of (by decide +kernel)
theorem r174_12 : Rw 174 12 13 1 1 (cd 1) 2 0 := rw_of (by decide +kernel)
theorem r174_13 : Rw 174 13 16 3 100 159 2 71 := rw_of (by decide +kernel)
theorem r174_16 : Rw 174 16 17 1 74 1 0 0 := rw_of (by decide +kernel)
theorem kc_6_174 : Kc 6 174 := kc_of (by decide) (by decide +kernel)
theorem r160_51 : Rw 160 51 54 3 61 58 0 0 := rw_of (by decide +kernel)
theorem r160_54 : Rw 160 54 55 1 1 (cd 1) 2 0 := rw_of (by decide +kernel)
theorem r160_55 : Rw 160 55 58 3 60 59 0 0 := rw_of (by decide +kernel)
theorem r160_9 : Rw 160 9 10 1 14 0 0 0 := rw_of (by decide +kernel)
theorem r160_10 : Rw 160 10 11 1 1 (cd 1) 2 0 := rw_of (by decide +kernel)
theorem r160_11 : Rw 160 11 14 3 100 159 2 71 := rw_of (by decide +kernel)
theorem r160_14 : Rw 160 14 15 1 74 1 0 0 := rw_of (by decide +kernel)
theorem kc_6_160 : Kc 6 160 := kc_of (by decide) (by decide +kernel)
theorem r169_21 : Rw 169 21 22 1 16 3 0 0 := rw_of (by decide +kernel)
theorem r169_22 : Rw 169 22 23 1 1 (cd 0) 1 0 := rw_of (by decide +kernel)
theorem r169_23 : Rw 169 23 25 2 17 4 0 0 := rw_of (by decide +kernel)
theorem r169_25 : Rw 169 25 27 2 11 4 0 0 := rw_of (by decide +kernel)
theorem r169_27 : Rw 169 27 30 3 3 (cd 500) 33268 0 := rw_of (by decide +kernel)
theorem r169_30 : Rw 169 30 33 3 70 75 0 0 := rw_of (by decide +kernel)
theorem r169_33 : Rw 169 33 34 1 10 3 0 0 := rw_of (by decide +kernel)
theorem r169_34 : Rw 169 34 37 3 61 75 0 0 := rw_of (by decide +kernel)
theorem r169_75 : Rw 169 75 76 1 10 3 0 0 := rw_of (by decide +kernel)
theorem r169_76 : Rw 169 76 79 3 61 99 0 0 := rw_of (by decide +kernel)
theorem r169_99 : Rw 169 99 100 1 14 0 0 0 := rw_of (by decide +kernel)
theorem r169_100 : Rw 169 100 103 3 80 3 4 22 := rw_of (by decide +kernel)
theorem r169_103 : Rw 169 103 104 1 74 0 0 0 := rw_of (by decide +kernel)
theorem r169_37 : Rw 169 37 38 1 14 0 0 0 := rw_of (by decide +kernel)
theorem r169_38 : Rw 169 38 41 3 80 3 0 33 := rw_of (by decide +kernel)
theorem r169_41 : Rw 169 41 44 3 80 9 4 57 := rw_of (by decide +kernel)
theorem r169_44 : Rw 169 44 47 3 61 75 0 0 := rw_of (by decide +kernel)
theorem r169_79 : Rw 169 79 80 1 14 0 0 0 := rw_of (by decide +kernel)
theorem r169_80 : Rw 169 80 83 3 80 3 1 12 := rw_of (by decide +kernel)
theorem r169_83 : Rw 169 83 86 3 100 184 1 67 := rw_of (by decide +kernel)
theorem r184_0 : Rw 184 0 1 1 14 0 0 0 := rw_of (by decide +kernel)
theorem r184_1 : Rw 184 1 4 3 80 4 2 25 := rw_of (by decide +kernel)
theorem bf_7_2 {M : Mm} (h : Pw M) : (-1) ≤ M 7 2 ∧ M 7 2 ≤ 4 := (h 7 2 (by decide) (by decide) (by decide) (by decide +kernel)).get0 g_7_2 rfl rfl rfl rfl
theorem r184_4 : Rw 184 4 5 1 14 0 0 0 := rw_of (by decide +kernel)
theorem r184_5 : Rw 184 5 8 3 100 181 1 51 := rw_of (by decide +kernel)
theorem r181_0 : Rw 181 0 1 1 14 0 0 0 := rw_of (by decide +kernel)
theorem r181_1 : Rw 181 1 4 3 80 4 3 28 := rw_of (by decide +kernel)
theorem bf_7_3 {M : Mm} (h : Pw M) : (-1) ≤ M 7 3 ∧ M 7 3 ≤ 6 := (h 7 3 (by decide) (by decide) (by decide) (by decide +kernel)).get0 g_7_3 rfl rfl rfl rfl
theorem r181_4 : Rw 181 4 5 1 1 (cd (-1)) 0 0 := rw_of (by decide +kernel)
theorem r181_5 : Rw 181 5 8 3 68 20 0 0 := rw_of (by decide +kernel)
theorem r181_20 : Rw 181 20 21 1 14 0 0 0 := rw_of (by decide +kernel)
theorem r181_21 : Rw 181 21 24 3 100 179 1 47 := rw_of (by decide +kernel)
theorem r179_0 : Rw 179 0 1 1 14 0 0 0 := rw_of (by decide +kernel)
theorem r179_1 : Rw 179 1 4 3 80 4 3 28 := rw_of (by decide +kernel)
theorem r179_4 : Rw 179 4 5 1 1 (cd (-1)) 0 0 := rw_of (by decide +kernel)
theorem r179_5 : Rw 179 5 8 3 68 12 0 0 := rw_of (by decide +kernel)
theorem r179_12 : Rw 179 12 13 1 14 0 0 0 := rw_of (by decide +kernel)
theorem r179_13 : Rw 179 13 16 3 80 4 3 28 := rw_of (by decide +kernel)
theorem r179_16 : Rw 179 16 17 1 74 0 0 0 := rw_of (by decide +kernel)
theorem r179_8 : Rw 179 8 9 1 1 (cd 0) 1 0 := rw_of (by decide +kernel)
theorem r179_9 : Rw 179 9 12 3 60 16 0 0 := rw_of (by decide +kernel)
theorem kc_7_179 : Kc 7 179 := kc_of (by decide) (by decide +kernel)
theorem r181_24 : Rw 181 24 25 1 74 0 0 0 := rw_of (by decide +kernel)
theorem r181_8 : Rw 181 8 9 1 14 0 0 0 := rw_of (by decide +kernel)
theorem r181_9 : Rw 181 9 12 3 80 4 5 34 := rw_of (by decide +kernel)
theorem bf_7_5 {M : Mm} (h : Pw M) : 0 ≤ M 7 5 ∧ M 7 5 ≤ 1 := (h 7 5 (by decide) (by decide) (by decide) (by decide +kernel)).get0 g_7_5 rfl rfl rfl rfl
theorem r181_12 : Rw 181 12 15 3 61 20 0 0 := rw_of (by decide +kernel)
theorem r181_15 : Rw 181 15 17 2 2 (cd 6) 134 0 := rw_of (by decide +kernel)
theorem r181_17 : Rw 181 17 20 3 60 24 0 0 := rw_of (by decide +kernel)
theorem kc_7_181 : Kc 7 181 := kc_of (by decide) (by decide +kernel)
theorem r184_8 : Rw 184 8 9 1 14 0 0 0 := rw_of (by decide +kernel)
theorem r184_9 : Rw 184 9 12 3 100 179 1 47 := rw_of (by decide +kernel)
theorem r184_12 : Rw 184 12 13 1 31 0 0 0 := rw_of (by decide +kernel)
theorem r184_13 : Rw 184 13 14 1 1 (cd 1) 2 0 := rw_of (by decide +kernel)
theorem r184_14 : Rw 184 14 15 1 30 0 0 0 := rw_of (by decide +kernel)
theorem r184_15 : Rw 184 15 16 1 32 0 0 0 := rw_of (by decide +kernel)
theorem r184_16 : Rw 184 16 17 1 14 0 0 0 := rw_of (by decide +kernel)
theorem r184_17 : Rw 184 17 20 3 100 182 1 54 := rw_of (by decide +kernel)
theorem r182_0 : Rw 182 0 1 1 14 0 0 0 := rw_of (by decide +kernel)
theorem r182_1 : Rw 182 1 4 3 80 4 6 38 := rw_of (by decide +kernel)
theorem bf_7_6 {M : Mm} (h : Pw M) : 0 ≤ M 7 6 ∧ M 7 6 ≤ 1 := (h 7 6 (by decide) (by decide) (by decide) (by decide +kernel)).get0 g_7_6 rfl rfl rfl rfl
theorem r182_4 : Rw 182 4 7 3 61 11 0 0 := rw_of (by decide +kernel)
theorem r182_11 : Rw 182 11 12 1 1 (cd 0) 1 0 := rw_of (by decide +kernel)
theorem r182_12 : Rw 182 12 13 1 74 0 0 0 := rw_of (by decide +kernel)
theorem r182_7 : Rw 182 7 8 1 1 (cd 1) 2 0 := rw_of (by decide +kernel)
theorem r182_8 : Rw 182 8 11 3 60 12 0 0 := rw_of (by decide +kernel)
theorem kc_7_182 : Kc 7 182 := kc_of (by decide) (by decide +kernel)
theorem r184_20 : Rw 184 20 21 1 1 (cd 1) 2 0 := rw_of (by decide +kernel)
theorem r184_21 : Rw 184 21 22 1 30 0 0 0 := rw_of (by decide +kernel)
theorem r184_22 : Rw 184 22 23 1 32 0 0 0 := rw_of (by decide +kernel)
theorem r184_23 : Rw 184 23 24 1 16 1 0 0 := rw_of (by decide +kernel)
theorem r184_24 : Rw 184 24 25 1 1 (cd 0) 1 0 := rw_of (by decide +kernel)
theorem r184_25 : Rw 184 25 26 1 16 2 0 0 := rw_of (by decide +kernel)
theorem r184_26 : Rw 184 26 27 1 10 2 0 0 := rw_of (by decide +kernel)
theorem r184_27 : Rw 184 27 28 1 14 0 0 0 := rw_of (by decide +kernel)
theorem r184_28 : Rw 184 28 31 3 80 4 1 21 := rw_of (by decide +kernel)
theorem bf_7_1 {M : Mm} (h : Pw M) : (-1) ≤ M 7 1 ∧ M 7 1 ≤ 7 := (h 7 1 (by decide) (by decide) (by decide) (by decide +kernel)).get0 g_7_1 rfl rfl rfl rfl
theorem r184_31 : Rw 184 31 34 3 70 63 0 0 := rw_of (by decide +kernel)
theorem r184_63 : Rw 184 63 64 1 10 1 0 0 := rw_of (by decide +kernel)
theorem r184_64 : Rw 184 64 65 1 74 0 0 0 := rw_of (by decide +kernel)
theorem r184_34 : Rw 184 34 35 1 10 1 0 0 := rw_of (by decide +kernel)
theorem r184_35 : Rw 184 35 36 1 14 0 0 0 := rw_of (by decide +kernel)
theorem r184_36 : Rw 184 36 39 3 80 4 0 9 := rw_of (by decide +kernel)
theorem r184_39 : Rw 184 39 40 1 10 2 0 0 := rw_of (by decide +kernel)
theorem r184_40 : Rw 184 40 41 1 83 0 0 0 := rw_of (by decide +kernel)
theorem r184_41 : Rw 184 41 44 3 102 246 1 57 := rw_of (by decide +kernel)
theorem r246_0 : Rw 246 0 1 1 10 0 0 0 := rw_of (by decide +kernel)
theorem r246_1 : Rw 246 1 2 1 10 0 0 0 := rw_of (by decide +kernel)
theorem r246_2 : Rw 246 2 3 1 1 (cd 1) 2 0 := rw_of (by decide +kernel)
theorem r246_3 : Rw 246 3 4 1 38 0 0 0 := rw_of (by decide +kernel)
theorem r246_4 : Rw 246 4 7 3 5 (cd 1431655765) 265 0 := rw_of (by decide +kernel)
theorem r246_7 : Rw 246 7 8 1 33 0 0 0 := rw_of (by decide +kernel)
theorem r246_8 : Rw 246 8 9 1 31 0 0 0 := rw_of (by decide +kernel)
theorem r246_9 : Rw 246 9 10 1 16 0 0 0 := rw_of (by decide +kernel)
theorem r246_10 : Rw 246 10 11 1 10 0 0 0 := rw_of (by decide +kernel)
theorem r246_11 : Rw 246 11 14 3 5 (cd 858993459) 266 0 := rw_of (by decide +kernel)
theorem r246_14 : Rw 246 14 15 1 33 0 0 0 := rw_of (by decide +kernel)
theorem r246_15 : Rw 246 15 16 1 10 0 0 0 := rw_of (by decide +kernel)
theorem r246_16 : Rw 246 16 17 1 1 (cd 2) 3 0 := rw_of (by decide +kernel)
theorem r246_17 : Rw 246 17 18 1 38 0 0 0 := rw_of (by decide +kernel)
theorem r246_18 : Rw 246 18 21 3 5 (cd 858993459) 266 0 := rw_of (by decide +kernel)
theorem r246_21 : Rw 246 21 22 1 33 0 0 0 := rw_of (by decide +kernel)
theorem r246_22 : Rw 246 22 23 1 30 0 0 0 := rw_of (by decide +kernel)
theorem r246_23 : Rw 246 23 24 1 16 0 0 0 := rw_of (by decide +kernel)
theorem r246_24 : Rw 246 24 25 1 10 0 0 0 := rw_of (by decide +kernel)
theorem r246_25 : Rw 246 25 26 1 10 0 0 0 := rw_of (by decide +kernel)
theorem r246_26 : Rw 246 26 27 1 1 (cd 4) 5 0 := rw_of (by decide +kernel)
theorem r246_27 : Rw 246 27 28 1 38 0 0 0 := rw_of (by decide +kernel)
theorem r246_28 : Rw 246 28 29 1 30 0 0 0 := rw_of (by decide +kernel)
theorem r246_29 : Rw 246 29 32 3 5 (cd 252645135) 267 0 := rw_of (by decide +kernel)
theorem r246_32 : Rw 246 32 33 1 33 0 0 0 := rw_of (by decide +kernel)
theorem r246_33 : Rw 246 33 34 1 16 0 0 0 := rw_of (by decide +kernel)
theorem r246_34 : Rw 246 34 35 1 10 0 0 0 := rw_of (by decide +kernel)
theorem r246_35 : Rw 246 35 36 1 10 0 0 0 := rw_of (by decide +kernel)
theorem r246_36 : Rw 246 36 38 2 2 (cd 8) 136 0 := rw_of (by decide +kernel)
theorem r246_38 : Rw 246 38 39 1 38 0 0 0 := rw_of (by decide +kernel)
theorem r246_39 : Rw 246 39 40 1 30 0 0 0 := rw_of (by decide +kernel)
theorem r246_40 : Rw 246 40 41 1 16 0 0 0 := rw_of (by decide +kernel)
theorem r246_41 : Rw 246 41 42 1 10 0 0 0 := rw_of (by decide +kernel)
theorem r246_42 : Rw 246 42 43 1 10 0 0 0 := rw_of (by decide +kernel)
theorem r246_43 : Rw 246 43 45 2 2 (cd 16) 144 0 := rw_of (by decide +kernel)
theorem r246_45 : Rw 246 45 46 1 38 0 0 0 := rw_of (by decide +kernel)
theorem r246_46 : Rw 246 46 47 1 30 0 0 0 := rw_of (by decide +kernel)
theorem r246_47 : Rw 246 47 48 1 16 0 0 0 := rw_of (by decide +kernel)
theorem r246_48 : Rw 246 48 49 1 10 0 0 0 := rw_of (by decide +kernel)
theorem r246_49 : Rw 246 49 51 2 2 (cd 63) 191 0 := rw_of (by decide +kernel)
theorem r246_51 : Rw 246 51 52 1 33 0 0 0 := rw_of (by decide +kernel)
theorem r246_52 : Rw 246 52 53 1 74 0 0 0 := rw_of (by decide +kernel)
theorem r184_44 : Rw 184 44 45 1 14 0 0 0 := rw_of (by decide +kernel)
theorem r184_45 : Rw 184 45 48 3 80 4 0 9 := rw_of (by decide +kernel)
theorem r184_48 : Rw 184 48 49 1 10 2 0 0 := rw_of (by decide +kernel)
theorem r184_49 : Rw 184 49 50 1 83 0 0 0 := rw_of (by decide +kernel)
theorem r184_50 : Rw 184 50 51 1 1 (cd 2) 3 0 := rw_of (by decide +kernel)
theorem r184_51 : Rw 184 51 52 1 37 0 0 0 := rw_of (by decide +kernel)
theorem pwl_2 : pw 2 = 4 := by decide
theorem r184_52 : Rw 184 52 53 1 1 (cd 1) 2 0 := rw_of (by decide +kernel)
theorem r184_53 : Rw 184 53 54 1 33 0 0 0 := rw_of (by decide +kernel)
theorem r184_54 : Rw 184 54 55 1 30 0 0 0 := rw_of (by decide +kernel)
theorem r184_55 : Rw 184 55 56 1 32 0 0 0 := rw_of (by decide +kernel)
theorem r184_56 : Rw 184 56 57 1 16 1 0 0 := rw_of (by decide +kernel)
theorem r184_57 : Rw 184 57 60 3 22 2 (cd 1) 32769 := rw_of (by decide +kernel)
theorem r184_60 : Rw 184 60 63 3 60 26 0 0 := rw_of (by decide +kernel)
theorem kc_7_184 : Kc 7 184 := kc_of (by decide) (by decide +kernel)
theorem r169_86 : Rw 169 86 89 3 3 (cd 3000) 35768 0 := rw_of (by decide +kernel)
theorem r169_89 : Rw 169 89 92 3 72 99 0 0 := rw_of (by decide +kernel)
theorem r169_92 : Rw 169 92 93 1 14 0 0 0 := rw_of (by decide +kernel)
theorem r169_93 : Rw 169 93 95 2 2 (cd 6) 134 0 := rw_of (by decide +kernel)
theorem r169_95 : Rw 169 95 98 3 100 159 2 71 := rw_of (by decide +kernel)
theorem r169_98 : Rw 169 98 99 1 53 0 0 0 := rw_of (by decide +kernel)
theorem r169_47 : Rw 169 47 48 1 14 0 0 0 := rw_of (by decide +kernel)
theorem r169_48 : Rw 169 48 51 3 100 156 1 60 := rw_of (by decide +kernel)
theorem r156_0 : Rw 156 0 1 1 14 0 0 0 := rw_of (by decide +kernel)
theorem r156_1 : Rw 156 1 3 2 8 (Int.toNat 4120) 97 23 := rw_of (by decide +kernel)
theorem r156_3 : Rw 156 3 6 3 100 175 2 88 := rw_of (by decide +kernel)
theorem r156_6 : Rw 156 6 9 3 61 14 0 0 := rw_of (by decide +kernel)
theorem r156_14 : Rw 156 14 15 1 14 0 0 0 := rw_of (by decide +kernel)
theorem r156_15 : Rw 156 15 17 2 8 (Int.toNat 4121) 102 24 := rw_of (by decide +kernel)
theorem r156_17 : Rw 156 17 20 3 100 175 2 88 := rw_of (by decide +kernel)
theorem r156_20 : Rw 156 20 23 3 61 28 0 0 := rw_of (by decide +kernel)
theorem r156_28 : Rw 156 28 29 1 14 0 0 0 := rw_of (by decide +kernel)
theorem r156_29 : Rw 156 29 31 2 8 (Int.toNat 4122) 107 25 := rw_of (by decide +kernel)
theorem r156_31 : Rw 156 31 34 3 100 175 2 88 := rw_of (by decide +kernel)
theorem r156_34 : Rw 156 34 37 3 61 60 0 0 := rw_of (by decide +kernel)
theorem r156_60 : Rw 156 60 61 1 14 0 0 0 := rw_of (by decide +kernel)
theorem r156_61 : Rw 156 61 63 2 8 (Int.toNat 4123) 113 26 := rw_of (by decide +kernel)
theorem r156_63 : Rw 156 63 66 3 100 175 2 88 := rw_of (by decide +kernel)
theorem r156_66 : Rw 156 66 69 3 61 79 0 0 := rw_of (by decide +kernel)
theorem r156_79 : Rw 156 79 80 1 14 0 0 0 := rw_of (by decide +kernel)
theorem r156_80 : Rw 156 80 82 2 8 (Int.toNat 4124) 118 27 := rw_of (by decide +kernel)
theorem r156_82 : Rw 156 82 85 3 100 175 2 88 := rw_of (by decide +kernel)
theorem r156_85 : Rw 156 85 88 3 61 118 0 0 := rw_of (by decide +kernel)
theorem r156_118 : Rw 156 118 119 1 14 0 0 0 := rw_of (by decide +kernel)
theorem r156_119 : Rw 156 119 121 2 8 (Int.toNat 4115) 122 18 := rw_of (by decide +kernel)
theorem r156_121 : Rw 156 121 124 3 100 175 2 88 := rw_of (by decide +kernel)
theorem r156_124 : Rw 156 124 127 3 61 158 0 0 := rw_of (by decide +kernel)
theorem r156_158 : Rw 156 158 159 1 14 0 0 0 := rw_of (by decide +kernel)
theorem r156_159 : Rw 156 159 160 1 1 (cd 1) 2 0 := rw_of (by decide +kernel)
theorem r156_160 : Rw 156 160 163 3 100 159 2 71 := rw_of (by decide +kernel)
theorem r156_163 : Rw 156 163 164 1 74 1 0 0 := rw_of (by decide +kernel)
theorem r156_127 : Rw 156 127 128 1 14 0 0 0 := rw_of (by decide +kernel)
theorem r156_128 : Rw 156 128 131 3 80 3 1 12 := rw_of (by decide +kernel)
theorem r156_131 : Rw 156 131 132 1 14 0 0 0 := rw_of (by decide +kernel)
theorem r156_132 : Rw 156 132 133 1 1 (cd 0) 1 0 := rw_of (by decide +kernel)
theorem r156_133 : Rw 156 133 135 2 2 (cd 6) 134 0 := rw_of (by decide +kernel)
theorem r156_135 : Rw 156 135 138 3 100 167 3 92 := rw_of (by decide +kernel)
theorem r156_138 : Rw 156 138 141 3 81 4 3 0 := rw_of (by decide +kernel)
theorem r156_141 : Rw 156 141 142 1 14 0 0 0 := rw_of (by decide +kernel)
theorem r156_142 : Rw 156 142 145 3 80 3 1 12 := rw_of (by decide +kernel)
theorem r156_145 : Rw 156 145 148 3 80 4 3 124 := rw_of (by decide +kernel)
theorem r156_148 : Rw 156 148 149 1 1 (cd (-1)) 0 0 := rw_of (by decide +kernel)
theorem r156_149 : Rw 156 149 152 3 67 156 0 0 := rw_of (by decide +kernel)
theorem r156_156 : Rw 156 156 157 1 1 (cd 0) 1 0 := rw_of (by decide +kernel)
theorem r156_157 : Rw 156 157 158 1 74 1 0 0 := rw_of (by decide +kernel)
theorem r156_152 : Rw 156 152 153 1 1 (cd 1) 2 0 := rw_of (by decide +kernel)
theorem r156_153 : Rw 156 153 156 3 60 157 0 0 := rw_of (by decide +kernel)
theorem r156_88 : Rw 156 88 89 1 14 0 0 0 := rw_of (by decide +kernel)
theorem r156_89 : Rw 156 89 92 3 80 3 1 12 := rw_of (by decide +kernel)
theorem r156_92 : Rw 156 92 93 1 14 0 0 0 := rw_of (by decide +kernel)
theorem r156_93 : Rw 156 93 94 1 1 (cd 1) 2 0 := rw_of (by decide +kernel)
theorem r156_94 : Rw 156 94 95 1 1 (cd 4) 5 0 := rw_of (by decide +kernel)
theorem r156_95 : Rw 156 95 98 3 100 167 3 92 := rw_of (by decide +kernel)
theorem r156_98 : Rw 156 98 101 3 81 4 2 0 := rw_of (by decide +kernel)
theorem r156_101 : Rw 156 101 102 1 14 0 0 0 := rw_of (by decide +kernel)
theorem r156_102 : Rw 156 102 105 3 80 3 1 12 := rw_of (by decide +kernel)
theorem r156_105 : Rw 156 105 108 3 80 4 2 120 := rw_of (by decide +kernel)
theorem r156_108 : Rw 156 108 109 1 1 (cd (-1)) 0 0 := rw_of (by decide +kernel)
theorem r156_109 : Rw 156 109 112 3 67 116 0 0 := rw_of (by decide +kernel)
theorem r156_116 : Rw 156 116 117 1 1 (cd 0) 1 0 := rw_of (by decide +kernel)
theorem r156_117 : Rw 156 117 118 1 74 1 0 0 := rw_of (by decide +kernel)
theorem r156_112 : Rw 156 112 113 1 1 (cd 1) 2 0 := rw_of (by decide +kernel)
theorem r156_113 : Rw 156 113 116 3 60 117 0 0 := rw_of (by decide +kernel)
theorem r156_69 : Rw 156 69 70 1 14 0 0 0 := rw_of (by decide +kernel)
theorem r156_70 : Rw 156 70 73 3 80 3 1 12 := rw_of (by decide +kernel)
theorem r156_73 : Rw 156 73 74 1 1 (cd 1) 2 0 := rw_of (by decide +kernel)
theorem r156_74 : Rw 156 74 77 3 81 4 6 1 := rw_of (by decide +kernel)
theorem r156_77 : Rw 156 77 78 1 1 (cd 1) 2 0 := rw_of (by decide +kernel)
theorem r156_78 : Rw 156 78 79 1 74 1 0 0 := rw_of (by decide +kernel)
theorem r156_37 : Rw 156 37 38 1 14 0 0 0 := rw_of (by decide +kernel)
theorem r156_38 : Rw 156 38 39 1 1 (cd 0) 1 0 := rw_of (by decide +kernel)
theorem r156_39 : Rw 156 39 42 3 100 158 2 78 := rw_of (by decide +kernel)
theorem r158_0 : Rw 158 0 1 1 14 0 0 0 := rw_of (by decide +kernel)
theorem r158_1 : Rw 158 1 4 3 100 155 1 146 := rw_of (by decide +kernel)
theorem r155_0 : Rw 155 0 1 1 14 0 0 0 := rw_of (by decide +kernel)
theorem r155_1 : Rw 155 1 4 3 80 3 0 33 := rw_of (by decide +kernel)
theorem r155_4 : Rw 155 4 6 2 2 (cd 40) 168 0 := rw_of (by decide +kernel)
theorem r155_6 : Rw 155 6 9 3 100 238 2 154 := rw_of (by decide +kernel)
theorem r155_9 : Rw 155 9 12 3 62 94 0 0 := rw_of (by decide +kernel)
theorem r155_94 : Rw 155 94 95 1 1 (cd 1) 2 0 := rw_of (by decide +kernel)
theorem r155_95 : Rw 155 95 98 3 60 99 0 0 := rw_of (by decide +kernel)
theorem r155_99 : Rw 155 99 100 1 74 1 0 0 := rw_of (by decide +kernel)
theorem r155_12 : Rw 155 12 13 1 14 0 0 0 := rw_of (by decide +kernel)
theorem r155_13 : Rw 155 13 16 3 80 3 0 33 := rw_of (by decide +kernel)
theorem r155_16 : Rw 155 16 19 3 100 237 1 157 := rw_of (by decide +kernel)
theorem r237_0 : Rw 237 0 1 1 14 0 0 0 := rw_of (by decide +kernel)
theorem r237_1 : Rw 237 1 4 3 80 9 4 21 := rw_of (by decide +kernel)
theorem r237_4 : Rw 237 4 5 1 1 (cd 1) 2 0 := rw_of (by decide +kernel)
theorem r237_5 : Rw 237 5 8 3 68 25 0 0 := rw_of (by decide +kernel)
theorem r237_25 : Rw 237 25 26 1 1 (cd 0) 1 0 := rw_of (by decide +kernel)
theorem r237_26 : Rw 237 26 27 1 74 1 0 0 := rw_of (by decide +kernel)
theorem r237_8 : Rw 237 8 9 1 14 0 0 0 := rw_of (by decide +kernel)
theorem r237_9 : Rw 237 9 12 3 80 9 2 15 := rw_of (by decide +kernel)
theorem r237_12 : Rw 237 12 13 1 14 0 0 0 := rw_of (by decide +kernel)
theorem r237_13 : Rw 237 13 16 3 80 9 3 18 := rw_of (by decide +kernel)
theorem r237_16 : Rw 237 16 17 1 31 0 0 0 := rw_of (by decide +kernel)
theorem r237_17 : Rw 237 17 18 1 1 (cd 1) 2 0 := rw_of (by decide +kernel)
theorem r237_18 : Rw 237 18 21 3 68 25 0 0 := rw_of (by decide +kernel)
theorem r237_21 : Rw 237 21 22 1 1 (cd 1) 2 0 := rw_of (by decide +kernel)
theorem r237_22 : Rw 237 22 25 3 60 26 0 0 := rw_of (by decide +kernel)
theorem kc_9_237 : Kc 9 237 := kc_of (by decide) (by decide +kernel)
theorem r155_19 : Rw 155 19 22 3 62 94 0 0 := rw_of (by decide +kernel)
theorem r155_22 : Rw 155 22 23 1 14 0 0 0 := rw_of (by decide +kernel)
theorem r155_23 : Rw 155 23 26 3 80 3 0 33 := rw_of (by decide +kernel)
theorem r155_26 : Rw 155 26 28 2 8 (Int.toNat 4119) 160 22 := rw_of (by decide +kernel)
theorem r155_28 : Rw 155 28 31 3 100 239 2 162 := rw_of (by decide +kernel)
theorem r155_31 : Rw 155 31 34 3 62 94 0 0 := rw_of (by decide +kernel)
theorem r155_34 : Rw 155 34 35 1 14 0 0 0 := rw_of (by decide +kernel)
theorem r155_35 : Rw 155 35 38 3 80 3 0 33 := rw_of (by decide +kernel)
theorem r155_38 : Rw 155 38 40 2 8 (Int.toNat 4114) 165 17 := rw_of (by decide +kernel)
theorem r155_40 : Rw 155 40 43 3 100 239 2 162 := rw_of (by decide +kernel)
theorem r155_43 : Rw 155 43 46 3 62 94 0 0 := rw_of (by decide +kernel)
theorem r155_46 : Rw 155 46 47 1 14 0 0 0 := rw_of (by decide +kernel)
theorem r155_47 : Rw 155 47 50 3 80 3 0 33 := rw_of (by decide +kernel)
theorem r155_50 : Rw 155 50 52 2 8 (Int.toNat 4115) 122 18 := rw_of (by decide +kernel)
theorem r155_52 : Rw 155 52 55 3 100 239 2 162 := rw_of (by decide +kernel)
theorem r155_55 : Rw 155 55 58 3 62 94 0 0 := rw_of (by decide +kernel)
theorem r155_58 : Rw 155 58 59 1 14 0 0 0 := rw_of (by decide +kernel)
theorem r155_59 : Rw 155 59 62 3 80 3 0 33 := rw_of (by decide +kernel)
theorem r155_62 : Rw 155 62 64 2 8 (Int.toNat 4118) 167 21 := rw_of (by decide +kernel)
theorem r155_64 : Rw 155 64 67 3 100 239 2 162 := rw_of (by decide +kernel)
theorem r155_67 : Rw 155 67 70 3 62 94 0 0 := rw_of (by decide +kernel)
theorem r155_70 : Rw 155 70 71 1 14 0 0 0 := rw_of (by decide +kernel)
theorem r155_71 : Rw 155 71 74 3 80 3 0 33 := rw_of (by decide +kernel)
theorem r155_74 : Rw 155 74 76 2 8 (Int.toNat 4116) 169 19 := rw_of (by decide +kernel)
theorem r155_76 : Rw 155 76 79 3 100 239 2 162 := rw_of (by decide +kernel)
theorem r155_79 : Rw 155 79 82 3 62 94 0 0 := rw_of (by decide +kernel)
theorem r155_82 : Rw 155 82 83 1 14 0 0 0 := rw_of (by decide +kernel)
theorem r155_83 : Rw 155 83 86 3 80 3 0 33 := rw_of (by decide +kernel)
theorem r155_86 : Rw 155 86 88 2 8 (Int.toNat 4117) 171 20 := rw_of (by decide +kernel)
theorem r155_88 : Rw 155 88 91 3 100 239 2 162 := rw_of (by decide +kernel)
theorem r155_91 : Rw 155 91 94 3 61 98 0 0 := rw_of (by decide +kernel)
theorem r155_98 : Rw 155 98 99 1 1 (cd 0) 1 0 := rw_of (by decide +kernel)
theorem kc_6_155 : Kc 6 155 := kc_of (by decide) (by decide +kernel)
theorem r158_4 : Rw 158 4 7 3 62 13 0 0 := rw_of (by decide +kernel)
theorem r158_13 : Rw 158 13 14 1 10 1 0 0 := rw_of (by decide +kernel)
theorem r158_14 : Rw 158 14 16 2 2 (cd 6) 134 0 := rw_of (by decide +kernel)
theorem r158_16 : Rw 158 16 19 3 69 25 0 0 := rw_of (by decide +kernel)
theorem r158_25 : Rw 158 25 26 1 14 0 0 0 := rw_of (by decide +kernel)
theorem r158_26 : Rw 158 26 27 1 10 1 0 0 := rw_of (by decide +kernel)
theorem r158_27 : Rw 158 27 30 3 100 157 2 149 := rw_of (by decide +kernel)
theorem r157_0 : Rw 157 0 1 1 14 0 0 0 := rw_of (by decide +kernel)
theorem r157_1 : Rw 157 1 2 1 10 1 0 0 := rw_of (by decide +kernel)
theorem r157_2 : Rw 157 2 5 3 100 166 2 173 := rw_of (by decide +kernel)
theorem r166_0 : Rw 166 0 1 1 1 (cd 0) 1 0 := rw_of (by decide +kernel)
theorem r166_1 : Rw 166 1 2 1 16 2 0 0 := rw_of (by decide +kernel)
theorem r166_2 : Rw 166 2 3 1 10 2 0 0 := rw_of (by decide +kernel)
theorem r166_3 : Rw 166 3 5 2 2 (cd 6) 134 0 := rw_of (by decide +kernel)
theorem r166_5 : Rw 166 5 8 3 70 23 0 0 := rw_of (by decide +kernel)
theorem r166_8 : Rw 166 8 9 1 14 0 0 0 := rw_of (by decide +kernel)
theorem r166_9 : Rw 166 9 11 2 8 (Int.toNat 4119) 160 22 := rw_of (by decide +kernel)
theorem r166_11 : Rw 166 11 14 3 100 175 2 88 := rw_of (by decide +kernel)
theorem r166_14 : Rw 166 14 17 3 61 23 0 0 := rw_of (by decide +kernel)
theorem r166_17 : Rw 166 17 20 3 22 2 (cd 1) 32769 := rw_of (by decide +kernel)
theorem r166_20 : Rw 166 20 23 3 60 2 0 0 := rw_of (by decide +kernel)
theorem r166_23 : Rw 166 23 24 1 14 0 0 0 := rw_of (by decide +kernel)
theorem r166_24 : Rw 166 24 27 3 80 3 0 33 := rw_of (by decide +kernel)
theorem r166_27 : Rw 166 27 29 2 8 (Int.toNat 4119) 160 22 := rw_of (by decide +kernel)
theorem r166_29 : Rw 166 29 32 3 100 239 2 162 := rw_of (by decide +kernel)
theorem r166_32 : Rw 166 32 35 3 61 41 0 0 := rw_of (by decide +kernel)
theorem r166_41 : Rw 166 41 42 1 14 0 0 0 := rw_of (by decide +kernel)
theorem r166_42 : Rw 166 42 45 3 80 3 0 33 := rw_of (by decide +kernel)
theorem r166_45 : Rw 166 45 47 2 2 (cd 40) 168 0 := rw_of (by decide +kernel)
theorem r166_47 : Rw 166 47 50 3 100 238 2 154 := rw_of (by decide +kernel)
theorem r166_50 : Rw 166 50 53 3 61 61 0 0 := rw_of (by decide +kernel)
theorem r166_61 : Rw 166 61 62 1 14 0 0 0 := rw_of (by decide +kernel)
theorem r166_62 : Rw 166 62 63 1 10 1 0 0 := rw_of (by decide +kernel)
theorem r166_63 : Rw 166 63 66 3 100 153 2 181 := rw_of (by decide +kernel)
theorem r153_0 : Rw 153 0 1 1 14 0 0 0 := rw_of (by decide +kernel)
theorem r153_1 : Rw 153 1 4 3 80 3 0 33 := rw_of (by decide +kernel)
theorem r153_4 : Rw 153 4 7 3 100 237 1 157 := rw_of (by decide +kernel)
theorem r153_7 : Rw 153 7 10 3 61 16 0 0 := rw_of (by decide +kernel)
theorem r153_16 : Rw 153 16 17 1 14 0 0 0 := rw_of (by decide +kernel)
theorem r153_17 : Rw 153 17 19 2 8 (Int.toNat 4114) 165 17 := rw_of (by decide +kernel)
theorem r153_19 : Rw 153 19 22 3 100 175 2 88 := rw_of (by decide +kernel)
theorem r153_22 : Rw 153 22 25 3 61 38 0 0 := rw_of (by decide +kernel)
theorem r153_38 : Rw 153 38 39 1 14 0 0 0 := rw_of (by decide +kernel)
theorem r153_39 : Rw 153 39 41 2 8 (Int.toNat 4115) 122 18 := rw_of (by decide +kernel)
theorem r153_41 : Rw 153 41 44 3 100 175 2 88 := rw_of (by decide +kernel)
theorem r153_44 : Rw 153 44 47 3 61 61 0 0 := rw_of (by decide +kernel)
theorem r153_61 : Rw 153 61 62 1 14 0 0 0 := rw_of (by decide +kernel)
theorem r153_62 : Rw 153 62 64 2 8 (Int.toNat 4116) 169 19 := rw_of (by decide +kernel)
theorem r153_64 : Rw 153 64 67 3 100 175 2 88 := rw_of (by decide +kernel)
theorem r153_67 : Rw 153 67 70 3 61 83 0 0 := rw_of (by decide +kernel)
theorem r153_83 : Rw 153 83 84 1 14 0 0 0 := rw_of (by decide +kernel)
theorem r153_84 : Rw 153 84 86 2 8 (Int.toNat 4117) 171 20 := rw_of (by decide +kernel)
theorem r153_86 : Rw 153 86 89 3 100 175 2 88 := rw_of (by decide +kernel)
theorem r153_89 : Rw 153 89 92 3 61 97 0 0 := rw_of (by decide +kernel)
theorem r153_97 : Rw 153 97 98 1 14 0 0 0 := rw_of (by decide +kernel)
theorem r153_98 : Rw 153 98 100 2 8 (Int.toNat 4118) 167 21 := rw_of (by decide +kernel)
theorem r153_100 : Rw 153 100 103 3 100 175 2 88 := rw_of (by decide +kernel)
theorem r153_103 : Rw 153 103 106 3 61 117 0 0 := rw_of (by decide +kernel)
theorem r153_117 : Rw 153 117 118 1 14 0 0 0 := rw_of (by decide +kernel)
theorem r153_118 : Rw 153 118 119 1 1 (cd 1) 2 0 := rw_of (by decide +kernel)
theorem r153_119 : Rw 153 119 122 3 100 159 2 71 := rw_of (by decide +kernel)
theorem r153_122 : Rw 153 122 123 1 74 1 0 0 := rw_of (by decide +kernel)
theorem r153_106 : Rw 153 106 107 1 14 0 0 0 := rw_of (by decide +kernel)
theorem r153_107 : Rw 153 107 108 1 14 0 0 0 := rw_of (by decide +kernel)
theorem r153_108 : Rw 153 108 111 3 100 173 1 129 := rw_of (by decide +kernel)
theorem r173_0 : Rw 173 0 1 1 14 0 0 0 := rw_of (by decide +kernel)
theorem r173_1 : Rw 173 1 4 3 80 3 0 33 := rw_of (by decide +kernel)
theorem r173_4 : Rw 173 4 7 3 100 240 1 132 := rw_of (by decide +kernel)
theorem r240_0 : Rw 240 0 1 1 14 0 0 0 := rw_of (by decide +kernel)
theorem r240_1 : Rw 240 1 3 2 8 (Int.toNat 4128) 51 31 := rw_of (by decide +kernel)
theorem r240_3 : Rw 240 3 6 3 100 239 2 53 := rw_of (by decide +kernel)
theorem r240_6 : Rw 240 6 9 3 61 11 0 0 := rw_of (by decide +kernel)
theorem r240_11 : Rw 240 11 12 1 14 0 0 0 := rw_of (by decide +kernel)
theorem r240_12 : Rw 240 12 14 2 8 (Int.toNat 4129) 57 32 := rw_of (by decide +kernel)
theorem r240_14 : Rw 240 14 17 3 100 239 2 53 := rw_of (by decide +kernel)
theorem r240_17 : Rw 240 17 20 3 61 22 0 0 := rw_of (by decide +kernel)
theorem r240_22 : Rw 240 22 23 1 14 0 0 0 := rw_of (by decide +kernel)
theorem r240_23 : Rw 240 23 25 2 8 (Int.toNat 4130) 59 33 := rw_of (by decide +kernel)
theorem r240_25 : Rw 240 25 28 3 100 239 2 53 := rw_of (by decide +kernel)
theorem r240_28 : Rw 240 28 31 3 61 33 0 0 := rw_of (by decide +kernel)
theorem r240_33 : Rw 240 33 34 1 14 0 0 0 := rw_of (by decide +kernel)
theorem r240_34 : Rw 240 34 36 2 8 (Int.toNat 4131) 61 34 := rw_of (by decide +kernel)
theorem r240_36 : Rw 240 36 39 3 100 239 2 53 := rw_of (by decide +kernel)
theorem r240_39 : Rw 240 39 42 3 61 44 0 0 := rw_of (by decide +kernel)
theorem r240_44 : Rw 240 44 45 1 14 0 0 0 := rw_of (by decide +kernel)
theorem r240_45 : Rw 240 45 47 2 8 (Int.toNat 4132) 63 35 := rw_of (by decide +kernel)
theorem r240_47 : Rw 240 47 50 3 100 239 2 53 := rw_of (by decide +kernel)
theorem r240_50 : Rw 240 50 53 3 61 57 0 0 := rw_of (by decide +kernel)
theorem r240_57 : Rw 240 57 58 1 1 (cd (-1)) 0 0 := rw_of (by decide +kernel)
theorem r240_58 : Rw 240 58 59 1 74 0 0 0 := rw_of (by decide +kernel)
theorem r240_53 : Rw 240 53 54 1 1 (cd 4) 5 0 := rw_of (by decide +kernel)
theorem r240_54 : Rw 240 54 57 3 60 58 0 0 := rw_of (by decide +kernel)
theorem r240_42 : Rw 240 42 43 1 1 (cd 3) 4 0 := rw_of (by decide +kernel)
theorem r240_43 : Rw 240 43 44 1 74 0 0 0 := rw_of (by decide +kernel)
theorem r240_31 : Rw 240 31 32 1 1 (cd 2) 3 0 := rw_of (by decide +kernel)
theorem r240_32 : Rw 240 32 33 1 74 0 0 0 := rw_of (by decide +kernel)
theorem r240_20 : Rw 240 20 21 1 1 (cd 1) 2 0 := rw_of (by decide +kernel)
theorem r240_21 : Rw 240 21 22 1 74 0 0 0 := rw_of (by decide +kernel)
theorem r240_9 : Rw 240 9 10 1 1 (cd 0) 1 0 := rw_of (by decide +kernel)
theorem r240_10 : Rw 240 10 11 1 74 0 0 0 := rw_of (by decide +kernel)
theorem kc_9_240 : Kc 9 240 := kc_of (by decide) (by decide +kernel)
theorem r173_7 : Rw 173 7 8 1 16 1 0 0 := rw_of (by decide +kernel)
theorem r173_8 : Rw 173 8 9 1 10 1 0 0 := rw_of (by decide +kernel)
theorem r173_9 : Rw 173 9 10 1 1 (cd (-1)) 0 0 := rw_of (by decide +kernel)
theorem r173_10 : Rw 173 10 13 3 68 36 0 0 := rw_of (by decide +kernel)
theorem r173_36 : Rw 173 36 37 1 14 0 0 0 := rw_of (by decide +kernel)
theorem r173_37 : Rw 173 37 40 3 80 3 0 33 := rw_of (by decide +kernel)
theorem r173_40 : Rw 173 40 43 3 100 241 1 135 := rw_of (by decide +kernel)
theorem r173_43 : Rw 173 43 44 1 10 1 0 0 := rw_of (by decide +kernel)
theorem r173_44 : Rw 173 44 45 1 74 0 0 0 := rw_of (by decide +kernel)
theorem r173_13 : Rw 173 13 14 1 14 0 0 0 := rw_of (by decide +kernel)
theorem r173_14 : Rw 173 14 15 1 14 0 0 0 := rw_of (by decide +kernel)
theorem r173_15 : Rw 173 15 18 3 80 3 0 33 := rw_of (by decide +kernel)
theorem r173_18 : Rw 173 18 21 3 80 9 4 57 := rw_of (by decide +kernel)
theorem r173_21 : Rw 173 21 22 1 1 (cd 1) 2 0 := rw_of (by decide +kernel)
theorem r173_22 : Rw 173 22 25 3 68 29 0 0 := rw_of (by decide +kernel)
theorem r173_29 : Rw 173 29 30 1 1 (cd 1) 2 0 := rw_of (by decide +kernel)
theorem r173_30 : Rw 173 30 33 3 100 159 2 71 := rw_of (by decide +kernel)
theorem r173_33 : Rw 173 33 34 1 53 0 0 0 := rw_of (by decide +kernel)
theorem r173_34 : Rw 173 34 35 1 1 (cd (-1)) 0 0 := rw_of (by decide +kernel)
theorem r173_35 : Rw 173 35 36 1 74 0 0 0 := rw_of (by decide +kernel)
theorem r173_25 : Rw 173 25 26 1 1 (cd 3) 4 0 := rw_of (by decide +kernel)
theorem r173_26 : Rw 173 26 29 3 60 30 0 0 := rw_of (by decide +kernel)
theorem kc_6_173 : Kc 6 173 := kc_of (by decide) (by decide +kernel)
theorem r153_111 : Rw 153 111 114 3 100 163 2 193 := rw_of (by decide +kernel)
theorem r163_0 : Rw 163 0 1 1 10 1 0 0 := rw_of (by decide +kernel)
theorem r163_1 : Rw 163 1 2 1 1 (cd (-1)) 0 0 := rw_of (by decide +kernel)
theorem r163_2 : Rw 163 2 5 3 68 7 0 0 := rw_of (by decide +kernel)
theorem r163_7 : Rw 163 7 8 1 14 0 0 0 := rw_of (by decide +kernel)
theorem r163_8 : Rw 163 8 11 3 80 3 0 33 := rw_of (by decide +kernel)
theorem r163_11 : Rw 163 11 13 2 2 (cd 60) 188 0 := rw_of (by decide +kernel)
theorem r163_13 : Rw 163 13 16 3 100 238 2 154 := rw_of (by decide +kernel)
theorem r163_16 : Rw 163 16 19 3 61 23 0 0 := rw_of (by decide +kernel)
theorem r163_23 : Rw 163 23 24 1 14 0 0 0 := rw_of (by decide +kernel)
theorem r163_24 : Rw 163 24 27 3 80 3 0 33 := rw_of (by decide +kernel)
theorem r163_27 : Rw 163 27 29 2 2 (cd 62) 190 0 := rw_of (by decide +kernel)
theorem r163_29 : Rw 163 29 32 3 100 238 2 154 := rw_of (by decide +kernel)
theorem r163_32 : Rw 163 32 35 3 61 39 0 0 := rw_of (by decide +kernel)
theorem r163_39 : Rw 163 39 40 1 1 (cd 0) 1 0 := rw_of (by decide +kernel)
theorem r163_35 : Rw 163 35 36 1 1 (cd 1) 2 0 := rw_of (by decide +kernel)
theorem r163_36 : Rw 163 36 39 3 60 40 0 0 := rw_of (by decide +kernel)
theorem r163_19 : Rw 163 19 20 1 1 (cd (-1)) 0 0 := rw_of (by decide +kernel)
theorem r163_20 : Rw 163 20 23 3 60 40 0 0 := rw_of (by decide +kernel)
theorem r163_40 : Rw 163 40 41 1 16 2 0 0 := rw_of (by decide +kernel)
theorem r163_41 : Rw 163 41 42 1 10 2 0 0 := rw_of (by decide +kernel)
theorem r163_42 : Rw 163 42 45 3 62 63 0 0 := rw_of (by decide +kernel)
theorem r163_45 : Rw 163 45 46 1 14 0 0 0 := rw_of (by decide +kernel)
theorem r163_46 : Rw 163 46 49 3 80 3 0 33 := rw_of (by decide +kernel)
theorem r163_49 : Rw 163 49 51 2 2 (cd 61) 189 0 := rw_of (by decide +kernel)
theorem r163_51 : Rw 163 51 54 3 100 238 2 154 := rw_of (by decide +kernel)
theorem r163_54 : Rw 163 54 57 3 62 63 0 0 := rw_of (by decide +kernel)
theorem r163_57 : Rw 163 57 58 1 14 0 0 0 := rw_of (by decide +kernel)
theorem r163_58 : Rw 163 58 59 1 1 (cd 1) 2 0 := rw_of (by decide +kernel)
theorem r163_59 : Rw 163 59 62 3 100 159 2 71 := rw_of (by decide +kernel)
theorem r163_62 : Rw 163 62 63 1 74 1 0 0 := rw_of (by decide +kernel)
theorem r163_63 : Rw 163 63 64 1 14 0 0 0 := rw_of (by decide +kernel)
theorem r163_64 : Rw 163 64 67 3 80 3 0 33 := rw_of (by decide +kernel)
theorem r163_67 : Rw 163 67 70 3 100 241 1 135 := rw_of (by decide +kernel)
theorem r163_70 : Rw 163 70 71 1 14 0 0 0 := rw_of (by decide +kernel)
theorem r163_71 : Rw 163 71 72 1 1 (cd 0) 1 0 := rw_of (by decide +kernel)
theorem r163_72 : Rw 163 72 74 2 2 (cd 99) 227 0 := rw_of (by decide +kernel)
theorem r163_74 : Rw 163 74 77 3 100 167 3 92 := rw_of (by decide +kernel)
theorem r163_77 : Rw 163 77 78 1 16 3 0 0 := rw_of (by decide +kernel)
theorem r163_78 : Rw 163 78 79 1 10 3 0 0 := rw_of (by decide +kernel)
theorem r163_79 : Rw 163 79 80 1 1 (cd (-1)) 0 0 := rw_of (by decide +kernel)
theorem r163_80 : Rw 163 80 83 3 68 85 0 0 := rw_of (by decide +kernel)
theorem r163_85 : Rw 163 85 86 1 10 3 0 0 := rw_of (by decide +kernel)
theorem r163_86 : Rw 163 86 88 2 2 (cd 8) 136 0 := rw_of (by decide +kernel)
theorem r163_88 : Rw 163 88 91 3 114 0 0 199 := rw_of (by decide +kernel)
theorem r163_91 : Rw 163 91 93 2 17 4 0 0 := rw_of (by decide +kernel)
theorem r163_93 : Rw 163 93 94 1 10 2 0 0 := rw_of (by decide +kernel)
theorem r163_94 : Rw 163 94 97 3 64 106 0 0 := rw_of (by decide +kernel)
theorem r163_106 : Rw 163 106 107 1 10 2 0 0 := rw_of (by decide +kernel)
theorem r163_107 : Rw 163 107 110 3 66 119 0 0 := rw_of (by decide +kernel)
theorem r163_119 : Rw 163 119 120 1 1 (cd 1) 2 0 := rw_of (by decide +kernel)
theorem r163_120 : Rw 163 120 122 2 11 4 0 0 := rw_of (by decide +kernel)
theorem r163_122 : Rw 163 122 123 1 36 0 0 0 := rw_of (by decide +kernel)
theorem pwl_8 : pw 8 = 256 := by decide
theorem r163_123 : Rw 163 123 125 2 17 5 0 0 := rw_of (by decide +kernel)
theorem r163_125 : Rw 163 125 126 1 14 0 0 0 := rw_of (by decide +kernel)
theorem r163_126 : Rw 163 126 128 2 2 (cd 6) 134 0 := rw_of (by decide +kernel)
theorem r163_128 : Rw 163 128 129 1 10 1 0 0 := rw_of (by decide +kernel)
theorem r163_129 : Rw 163 129 131 2 2 (cd 8) 136 0 := rw_of (by decide +kernel)
theorem r163_131 : Rw 163 131 132 1 36 0 0 0 := rw_of (by decide +kernel)
theorem r163_132 : Rw 163 132 134 2 11 5 0 0 := rw_of (by decide +kernel)
theorem r163_134 : Rw 163 134 137 3 3 (cd 255) 33023 0 := rw_of (by decide +kernel)
theorem r163_137 : Rw 163 137 138 1 33 0 0 0 := rw_of (by decide +kernel)
theorem r163_138 : Rw 163 138 139 1 34 0 0 0 := rw_of (by decide +kernel)
theorem r163_139 : Rw 163 139 142 3 100 172 3 109 := rw_of (by decide +kernel)
theorem r172_0 : Rw 172 0 1 1 14 0 0 0 := rw_of (by decide +kernel)
theorem r172_1 : Rw 172 1 4 3 80 3 2 37 := rw_of (by decide +kernel)
theorem pcE {M : Mm} (h : Pw M) : isC (M 6 2) := ((h 6 2 (by decide) (by decide) (by decide) (by decide +kernel)).ex g_6_2).2.1 rfl
theorem r172_4 : Rw 172 4 5 1 10 1 0 0 := rw_of (by decide +kernel)
theorem r172_5 : Rw 172 5 6 1 10 2 0 0 := rw_of (by decide +kernel)
theorem r172_6 : Rw 172 6 9 3 100 138 3 219 := rw_of (by decide +kernel)
theorem r172_9 : Rw 172 9 10 1 1 (cd 1) 2 0 := rw_of (by decide +kernel)
theorem r172_10 : Rw 172 10 11 1 74 1 0 0 := rw_of (by decide +kernel)
theorem kc_6_172 : Kc 6 172 := kc_of (by decide) (by decide +kernel)
theorem r163_142 : Rw 163 142 143 1 74 1 0 0 := rw_of (by decide +kernel)
theorem r163_110 : Rw 163 110 111 1 1 (cd (-1)) 0 0 := rw_of (by decide +kernel)
theorem r163_111 : Rw 163 111 113 2 11 4 0 0 := rw_of (by decide +kernel)
theorem r163_113 : Rw 163 113 114 1 1 (cd 1) 2 0 := rw_of (by decide +kernel)
theorem r163_114 : Rw 163 114 115 1 30 0 0 0 := rw_of (by decide +kernel)
theorem r163_115 : Rw 163 115 116 1 36 0 0 0 := rw_of (by decide +kernel)
theorem r163_116 : Rw 163 116 119 3 60 123 0 0 := rw_of (by decide +kernel)
theorem r163_97 : Rw 163 97 98 1 1 (cd 1) 2 0 := rw_of (by decide +kernel)
theorem r163_98 : Rw 163 98 100 2 11 4 0 0 := rw_of (by decide +kernel)
theorem r163_100 : Rw 163 100 101 1 36 0 0 0 := rw_of (by decide +kernel)
theorem r163_101 : Rw 163 101 102 1 1 (cd 1) 2 0 := rw_of (by decide +kernel)
theorem r163_102 : Rw 163 102 103 1 31 0 0 0 := rw_of (by decide +kernel)
theorem r163_103 : Rw 163 103 106 3 60 123 0 0 := rw_of (by decide +kernel)
theorem r163_83 : Rw 163 83 84 1 1 (cd 0) 1 0 := rw_of (by decide +kernel)
theorem r163_84 : Rw 163 84 85 1 74 1 0 0 := rw_of (by decide +kernel)
theorem r163_5 : Rw 163 5 6 1 1 (cd 0) 1 0 := rw_of (by decide +kernel)
theorem r163_6 : Rw 163 6 7 1 74 1 0 0 := rw_of (by decide +kernel)
theorem kc_6_163 : Kc 6 163 := kc_of (by decide) (by decide +kernel)
theorem r153_114 : Rw 153 114 117 3 60 122 0 0 := rw_of (by decide +kernel)
theorem r153_92 : Rw 153 92 93 1 14 0 0 0 := rw_of (by decide +kernel)
theorem r153_93 : Rw 153 93 96 3 100 176 1 190 := rw_of (by decide +kernel)
theorem r176_0 : Rw 176 0 1 1 14 0 0 0 := rw_of (by decide +kernel)
theorem r176_1 : Rw 176 1 2 1 1 (cd 0) 1 0 := rw_of (by decide +kernel)
theorem r176_2 : Rw 176 2 4 2 2 (cd 99) 227 0 := rw_of (by decide +kernel)
theorem r176_4 : Rw 176 4 7 3 100 167 3 92 := rw_of (by decide +kernel)
theorem r176_7 : Rw 176 7 8 1 16 1 0 0 := rw_of (by decide +kernel)
theorem r176_8 : Rw 176 8 9 1 10 1 0 0 := rw_of (by decide +kernel)
theorem r176_9 : Rw 176 9 10 1 1 (cd (-1)) 0 0 := rw_of (by decide +kernel)
theorem r176_10 : Rw 176 10 13 3 68 15 0 0 := rw_of (by decide +kernel)
theorem r176_15 : Rw 176 15 16 1 14 0 0 0 := rw_of (by decide +kernel)
theorem r176_16 : Rw 176 16 19 3 80 3 2 37 := rw_of (by decide +kernel)
theorem r176_19 : Rw 176 19 20 1 10 1 0 0 := rw_of (by decide +kernel)
theorem r176_20 : Rw 176 20 23 3 100 140 2 196 := rw_of (by decide +kernel)
theorem r140_0 : Rw 140 0 1 1 10 1 0 0 := rw_of (by decide +kernel)
theorem r140_1 : Rw 140 1 3 2 2 (cd 15) 143 0 := rw_of (by decide +kernel)
theorem r140_3 : Rw 140 3 6 3 70 10 0 0 := rw_of (by decide +kernel)
theorem r140_10 : Rw 140 10 11 1 1 (cd 0) 1 0 := rw_of (by decide +kernel)
theorem r140_11 : Rw 140 11 12 1 16 2 0 0 := rw_of (by decide +kernel)
theorem r140_12 : Rw 140 12 13 1 14 0 0 0 := rw_of (by decide +kernel)
theorem r140_13 : Rw 140 13 14 1 1 (cd 0) 1 0 := rw_of (by decide +kernel)
theorem r140_14 : Rw 140 14 15 1 10 2 0 0 := rw_of (by decide +kernel)
theorem r140_15 : Rw 140 15 18 3 61 25 0 0 := rw_of (by decide +kernel)
theorem r140_25 : Rw 140 25 27 2 2 (cd 117) 245 0 := rw_of (by decide +kernel)
theorem r140_27 : Rw 140 27 30 3 100 138 3 28 := rw_of (by decide +kernel)
theorem r140_30 : Rw 140 30 31 1 10 2 0 0 := rw_of (by decide +kernel)
theorem r140_31 : Rw 140 31 34 3 61 46 0 0 := rw_of (by decide +kernel)
theorem r140_46 : Rw 140 46 47 1 77 0 0 0 := rw_of (by decide +kernel)
theorem r140_6 : Rw 140 6 7 1 1 (cd 1) 2 0 := rw_of (by decide +kernel)
theorem r140_7 : Rw 140 7 10 3 60 11 0 0 := rw_of (by decide +kernel)
theorem r140_18 : Rw 140 18 20 2 2 (cd 102) 230 0 := rw_of (by decide +kernel)
theorem r140_20 : Rw 140 20 21 1 10 1 0 0 := rw_of (by decide +kernel)
theorem r140_21 : Rw 140 21 22 1 30 0 0 0 := rw_of (by decide +kernel)
theorem r140_22 : Rw 140 22 25 3 60 27 0 0 := rw_of (by decide +kernel)
theorem r140_34 : Rw 140 34 35 1 14 0 0 0 := rw_of (by decide +kernel)
theorem r140_35 : Rw 140 35 36 1 52 0 0 0 := rw_of (by decide +kernel)
theorem r140_36 : Rw 140 36 39 3 80 1 3 22 := rw_of (by decide +kernel)
theorem bC_3 {M : Mm} (h : Pw M) {a : Int} (ha : isC a) : 0 ≤ M a 3 ∧ M a 3 ≤ 32767 := (h a 3 (isC_rg ha).1 (by have := isC_rg ha; omega) (by decide) (by rw [lnC ha]; decide)).get0 (g_c3 ha) rfl rfl rfl rfl
theorem r140_39 : Rw 140 39 40 1 1 (cd 1) 2 0 := rw_of (by decide +kernel)
theorem r140_40 : Rw 140 40 41 1 10 1 0 0 := rw_of (by decide +kernel)
theorem r140_41 : Rw 140 41 42 1 36 0 0 0 := rw_of (by decide +kernel)
theorem pwl_14 : pw 14 = 16384 := by decide
theorem r140_42 : Rw 140 42 43 1 34 0 0 0 := rw_of (by decide +kernel)
theorem r140_43 : Rw 140 43 46 3 81 1 3 0 := rw_of (by decide +kernel)
theorem kcCb_140 : (List.range 30).all (fun j => kcb (679 + 2 * j) 140) = true := by decide +kernel
theorem kcC_140 {a : Int} (h : isC a) : Kc a 140 := by
  rcases h with rfl | h
  · exact kc_of (by decide) (by decide +kernel)
  · refine kc_of (by omega) ?_
    have h2 := List.all_eq_true.mp kcCb_140 ((a.toNat - 679) / 2) (List.mem_range.mpr (by omega))
    rw [show 679 + 2 * ((a.toNat - 679) / 2) = a.toNat by omega] at h2
    exact h2
theorem r176_23 : Rw 176 23 24 1 1 (cd 1) 2 0 := rw_of (by decide +kernel)
theorem r176_24 : Rw 176 24 25 1 74 1 0 0 := rw_of (by decide +kernel)
theorem r176_13 : Rw 176 13 14 1 1 (cd 0) 1 0 := rw_of (by decide +kernel)
theorem r176_14 : Rw 176 14 15 1 74 1 0 0 := rw_of (by decide +kernel)
theorem kc_6_176 : Kc 6 176 := kc_of (by decide) (by decide +kernel)
theorem r153_96 : Rw 153 96 97 1 74 1 0 0 := rw_of (by decide +kernel)
theorem r153_70 : Rw 153 70 71 1 14 0 0 0 := rw_of (by decide +kernel)
theorem r153_71 : Rw 153 71 73 2 2 (cd 46) 174 0 := rw_of (by decide +kernel)
theorem r153_73 : Rw 153 73 74 1 14 0 0 0 := rw_of (by decide +kernel)
theorem r153_74 : Rw 153 74 75 1 1 (cd 0) 1 0 := rw_of (by decide +kernel)
theorem r153_75 : Rw 153 75 76 1 1 (cd 1) 2 0 := rw_of (by decide +kernel)
theorem r153_76 : Rw 153 76 79 3 100 167 3 92 := rw_of (by decide +kernel)
theorem r153_79 : Rw 153 79 82 3 100 171 3 187 := rw_of (by decide +kernel)
theorem r171_0 : Rw 171 0 1 1 10 2 0 0 := rw_of (by decide +kernel)
theorem r171_1 : Rw 171 1 2 1 1 (cd (-1)) 0 0 := rw_of (by decide +kernel)
theorem r171_2 : Rw 171 2 5 3 67 20 0 0 := rw_of (by decide +kernel)
theorem r171_20 : Rw 171 20 21 1 1 (cd 0) 1 0 := rw_of (by decide +kernel)
theorem r171_21 : Rw 171 21 22 1 74 1 0 0 := rw_of (by decide +kernel)
theorem r171_5 : Rw 171 5 6 1 14 0 0 0 := rw_of (by decide +kernel)
theorem r171_6 : Rw 171 6 7 1 1 (cd 0) 1 0 := rw_of (by decide +kernel)
theorem r171_7 : Rw 171 7 8 1 10 1 0 0 := rw_of (by decide +kernel)
theorem r171_8 : Rw 171 8 9 1 10 2 0 0 := rw_of (by decide +kernel)
theorem r171_9 : Rw 171 9 10 1 30 0 0 0 := rw_of (by decide +kernel)
theorem r171_10 : Rw 171 10 13 3 100 172 3 109 := rw_of (by decide +kernel)
theorem r171_13 : Rw 171 13 16 3 61 20 0 0 := rw_of (by decide +kernel)
theorem r171_16 : Rw 171 16 17 1 1 (cd 1) 2 0 := rw_of (by decide +kernel)
theorem r171_17 : Rw 171 17 20 3 60 21 0 0 := rw_of (by decide +kernel)
theorem kc_6_171 : Kc 6 171 := kc_of (by decide) (by decide +kernel)
theorem r153_82 : Rw 153 82 83 1 74 1 0 0 := rw_of (by decide +kernel)
theorem r153_47 : Rw 153 47 48 1 14 0 0 0 := rw_of (by decide +kernel)
theorem r153_48 : Rw 153 48 50 2 2 (cd 39) 167 0 := rw_of (by decide +kernel)
theorem r153_50 : Rw 153 50 51 1 14 0 0 0 := rw_of (by decide +kernel)
theorem r153_51 : Rw 153 51 52 1 1 (cd 0) 1 0 := rw_of (by decide +kernel)
theorem r153_52 : Rw 153 52 54 2 2 (cd 6) 134 0 := rw_of (by decide +kernel)
theorem r153_54 : Rw 153 54 57 3 100 167 3 92 := rw_of (by decide +kernel)
theorem r153_57 : Rw 153 57 60 3 100 171 3 187 := rw_of (by decide +kernel)
theorem r153_60 : Rw 153 60 61 1 74 1 0 0 := rw_of (by decide +kernel)
theorem r153_25 : Rw 153 25 26 1 14 0 0 0 := rw_of (by decide +kernel)
theorem r153_26 : Rw 153 26 28 2 2 (cd 35) 163 0 := rw_of (by decide +kernel)
theorem r153_28 : Rw 153 28 29 1 14 0 0 0 := rw_of (by decide +kernel)
theorem r153_29 : Rw 153 29 30 1 1 (cd 0) 1 0 := rw_of (by decide +kernel)
theorem r153_30 : Rw 153 30 31 1 1 (cd 3) 4 0 := rw_of (by decide +kernel)
theorem r153_31 : Rw 153 31 34 3 100 167 3 92 := rw_of (by decide +kernel)
theorem r153_34 : Rw 153 34 37 3 100 171 3 187 := rw_of (by decide +kernel)
theorem r153_37 : Rw 153 37 38 1 74 1 0 0 := rw_of (by decide +kernel)
theorem r153_10 : Rw 153 10 11 1 14 0 0 0 := rw_of (by decide +kernel)
theorem r153_11 : Rw 153 11 12 1 10 1 0 0 := rw_of (by decide +kernel)
theorem r153_12 : Rw 153 12 15 3 100 152 2 184 := rw_of (by decide +kernel)
theorem r152_0 : Rw 152 0 1 1 14 0 0 0 := rw_of (by decide +kernel)
theorem r152_1 : Rw 152 1 4 3 100 165 1 126 := rw_of (by decide +kernel)
theorem r165_0 : Rw 165 0 1 1 14 0 0 0 := rw_of (by decide +kernel)
theorem r165_1 : Rw 165 1 4 3 80 3 0 33 := rw_of (by decide +kernel)
theorem r165_4 : Rw 165 4 7 3 100 237 1 157 := rw_of (by decide +kernel)
theorem r165_7 : Rw 165 7 10 3 62 18 0 0 := rw_of (by decide +kernel)
theorem r165_18 : Rw 165 18 19 1 14 0 0 0 := rw_of (by decide +kernel)
theorem r165_19 : Rw 165 19 22 3 80 3 0 33 := rw_of (by decide +kernel)
theorem r165_22 : Rw 165 22 25 3 100 242 1 213 := rw_of (by decide +kernel)
theorem r242_0 : Rw 242 0 1 1 14 0 0 0 := rw_of (by decide +kernel)
theorem r242_1 : Rw 242 1 4 3 80 9 0 24 := rw_of (by decide +kernel)
theorem r242_4 : Rw 242 4 5 1 14 0 0 0 := rw_of (by decide +kernel)
theorem r242_5 : Rw 242 5 8 3 80 9 3 18 := rw_of (by decide +kernel)
theorem r242_8 : Rw 242 8 9 1 85 0 0 0 := rw_of (by decide +kernel)
theorem r242_9 : Rw 242 9 11 2 2 (cd 97) 225 0 := rw_of (by decide +kernel)
theorem r242_11 : Rw 242 11 12 1 31 0 0 0 := rw_of (by decide +kernel)
theorem r242_12 : Rw 242 12 13 1 74 0 0 0 := rw_of (by decide +kernel)
theorem kc_9_242 : Kc 9 242 := kc_of (by decide) (by decide +kernel)
theorem r165_25 : Rw 165 25 26 1 16 1 0 0 := rw_of (by decide +kernel)
theorem r165_26 : Rw 165 26 27 1 10 1 0 0 := rw_of (by decide +kernel)
theorem r165_27 : Rw 165 27 30 3 63 38 0 0 := rw_of (by decide +kernel)
theorem r165_38 : Rw 165 38 39 1 14 0 0 0 := rw_of (by decide +kernel)
theorem r165_39 : Rw 165 39 40 1 1 (cd 4) 5 0 := rw_of (by decide +kernel)
theorem r165_40 : Rw 165 40 43 3 100 159 2 71 := rw_of (by decide +kernel)
theorem r165_43 : Rw 165 43 44 1 53 0 0 0 := rw_of (by decide +kernel)
theorem r165_44 : Rw 165 44 45 1 1 (cd (-1)) 0 0 := rw_of (by decide +kernel)
theorem r165_45 : Rw 165 45 46 1 74 0 0 0 := rw_of (by decide +kernel)
theorem r165_30 : Rw 165 30 31 1 10 1 0 0 := rw_of (by decide +kernel)
theorem r165_31 : Rw 165 31 32 1 14 0 0 0 := rw_of (by decide +kernel)
theorem r165_32 : Rw 165 32 35 3 80 3 3 18 := rw_of (by decide +kernel)
theorem r165_35 : Rw 165 35 38 3 69 46 0 0 := rw_of (by decide +kernel)
theorem r165_46 : Rw 165 46 47 1 14 0 0 0 := rw_of (by decide +kernel)
theorem r165_47 : Rw 165 47 50 3 80 3 0 33 := rw_of (by decide +kernel)
theorem r165_50 : Rw 165 50 53 3 100 241 1 135 := rw_of (by decide +kernel)
theorem r165_53 : Rw 165 53 54 1 10 1 0 0 := rw_of (by decide +kernel)
theorem r165_54 : Rw 165 54 55 1 74 0 0 0 := rw_of (by decide +kernel)
theorem r165_10 : Rw 165 10 11 1 14 0 0 0 := rw_of (by decide +kernel)
theorem r165_11 : Rw 165 11 12 1 1 (cd 1) 2 0 := rw_of (by decide +kernel)
theorem r165_12 : Rw 165 12 15 3 100 159 2 71 := rw_of (by decide +kernel)
theorem r165_15 : Rw 165 15 16 1 53 0 0 0 := rw_of (by decide +kernel)
theorem r165_16 : Rw 165 16 17 1 1 (cd (-1)) 0 0 := rw_of (by decide +kernel)
theorem r165_17 : Rw 165 17 18 1 74 0 0 0 := rw_of (by decide +kernel)
theorem kc_6_165 : Kc 6 165 := kc_of (by decide) (by decide +kernel)
theorem r152_4 : Rw 152 4 5 1 16 2 0 0 := rw_of (by decide +kernel)
theorem r152_5 : Rw 152 5 6 1 10 2 0 0 := rw_of (by decide +kernel)
theorem r152_6 : Rw 152 6 7 1 1 (cd (-1)) 0 0 := rw_of (by decide +kernel)
theorem r152_7 : Rw 152 7 10 3 68 12 0 0 := rw_of (by decide +kernel)
theorem r152_12 : Rw 152 12 13 1 14 0 0 0 := rw_of (by decide +kernel)
theorem r152_13 : Rw 152 13 15 2 8 (Int.toNat 4111) 204 14 := rw_of (by decide +kernel)
theorem r152_15 : Rw 152 15 18 3 100 175 2 88 := rw_of (by decide +kernel)
theorem r152_18 : Rw 152 18 21 3 61 35 0 0 := rw_of (by decide +kernel)
theorem r152_35 : Rw 152 35 36 1 14 0 0 0 := rw_of (by decide +kernel)
theorem r152_36 : Rw 152 36 38 2 8 (Int.toNat 4112) 206 15 := rw_of (by decide +kernel)
theorem r152_38 : Rw 152 38 41 3 100 175 2 88 := rw_of (by decide +kernel)
theorem r152_41 : Rw 152 41 44 3 61 73 0 0 := rw_of (by decide +kernel)
theorem r152_73 : Rw 152 73 74 1 14 0 0 0 := rw_of (by decide +kernel)
theorem r152_74 : Rw 152 74 76 2 8 (Int.toNat 4113) 208 16 := rw_of (by decide +kernel)
theorem r152_76 : Rw 152 76 79 3 100 175 2 88 := rw_of (by decide +kernel)
theorem r152_79 : Rw 152 79 82 3 62 88 0 0 := rw_of (by decide +kernel)
theorem r152_88 : Rw 152 88 89 1 14 0 0 0 := rw_of (by decide +kernel)
theorem r152_89 : Rw 152 89 90 1 10 1 0 0 := rw_of (by decide +kernel)
theorem r152_90 : Rw 152 90 93 3 100 168 2 178 := rw_of (by decide +kernel)
theorem r168_0 : Rw 168 0 1 1 14 0 0 0 := rw_of (by decide +kernel)
theorem r168_1 : Rw 168 1 3 2 2 (cd 40) 168 0 := rw_of (by decide +kernel)
theorem r168_3 : Rw 168 3 6 3 100 174 2 63 := rw_of (by decide +kernel)
theorem r168_6 : Rw 168 6 9 3 61 32 0 0 := rw_of (by decide +kernel)
theorem r168_32 : Rw 168 32 33 1 1 (cd 0) 1 0 := rw_of (by decide +kernel)
theorem r168_33 : Rw 168 33 34 1 74 1 0 0 := rw_of (by decide +kernel)
theorem r168_9 : Rw 168 9 10 1 14 0 0 0 := rw_of (by decide +kernel)
theorem r168_10 : Rw 168 10 11 1 10 1 0 0 := rw_of (by decide +kernel)
theorem r168_11 : Rw 168 11 12 1 1 (cd 1) 2 0 := rw_of (by decide +kernel)
theorem r168_12 : Rw 168 12 13 1 30 0 0 0 := rw_of (by decide +kernel)
theorem r168_13 : Rw 168 13 16 3 100 158 2 78 := rw_of (by decide +kernel)
theorem r158_19 : Rw 158 19 20 1 14 0 0 0 := rw_of (by decide +kernel)
theorem r158_20 : Rw 158 20 21 1 1 (cd 2) 3 0 := rw_of (by decide +kernel)
theorem r158_21 : Rw 158 21 24 3 100 159 2 71 := rw_of (by decide +kernel)
theorem r158_24 : Rw 158 24 25 1 74 1 0 0 := rw_of (by decide +kernel)
theorem r158_7 : Rw 158 7 8 1 14 0 0 0 := rw_of (by decide +kernel)
theorem r158_8 : Rw 158 8 9 1 1 (cd 1) 2 0 := rw_of (by decide +kernel)
theorem r158_9 : Rw 158 9 12 3 100 159 2 71 := rw_of (by decide +kernel)
theorem r158_12 : Rw 158 12 13 1 74 1 0 0 := rw_of (by decide +kernel)
theorem kc_6_158 : Kc 6 158 := kc_of (by decide) (by decide +kernel)
theorem r168_16 : Rw 168 16 19 3 61 32 0 0 := rw_of (by decide +kernel)
theorem kc_6_168 : Kc 6 168 := kc_of (by decide) (by decide +kernel)
theorem r152_93 : Rw 152 93 96 3 62 98 0 0 := rw_of (by decide +kernel)
theorem r152_96 : Rw 152 96 97 1 1 (cd 0) 1 0 := rw_of (by decide +kernel)
theorem r152_97 : Rw 152 97 98 1 74 1 0 0 := rw_of (by decide +kernel)
theorem r152_82 : Rw 152 82 83 1 14 0 0 0 := rw_of (by decide +kernel)
theorem r152_83 : Rw 152 83 84 1 1 (cd 1) 2 0 := rw_of (by decide +kernel)
theorem r152_84 : Rw 152 84 87 3 100 159 2 71 := rw_of (by decide +kernel)
theorem r152_87 : Rw 152 87 88 1 74 1 0 0 := rw_of (by decide +kernel)
theorem r152_44 : Rw 152 44 45 1 14 0 0 0 := rw_of (by decide +kernel)
theorem r152_45 : Rw 152 45 48 3 100 165 1 126 := rw_of (by decide +kernel)
theorem r152_48 : Rw 152 48 49 1 16 3 0 0 := rw_of (by decide +kernel)
theorem r152_49 : Rw 152 49 50 1 10 3 0 0 := rw_of (by decide +kernel)
theorem r152_50 : Rw 152 50 51 1 1 (cd (-1)) 0 0 := rw_of (by decide +kernel)
theorem r152_51 : Rw 152 51 54 3 67 71 0 0 := rw_of (by decide +kernel)
theorem r152_71 : Rw 152 71 72 1 1 (cd 0) 1 0 := rw_of (by decide +kernel)
theorem r152_72 : Rw 152 72 73 1 74 1 0 0 := rw_of (by decide +kernel)
theorem r152_54 : Rw 152 54 55 1 14 0 0 0 := rw_of (by decide +kernel)
theorem r152_55 : Rw 152 55 56 1 1 (cd 5) 6 0 := rw_of (by decide +kernel)
theorem r152_56 : Rw 152 56 57 1 10 2 0 0 := rw_of (by decide +kernel)
theorem r152_57 : Rw 152 57 58 1 1 (cd 3) 4 0 := rw_of (by decide +kernel)
theorem r152_58 : Rw 152 58 59 1 36 0 0 0 := rw_of (by decide +kernel)
theorem r152_59 : Rw 152 59 60 1 10 3 0 0 := rw_of (by decide +kernel)
theorem r152_60 : Rw 152 60 61 1 34 0 0 0 := rw_of (by decide +kernel)
theorem r152_61 : Rw 152 61 64 3 100 172 3 109 := rw_of (by decide +kernel)
theorem r152_64 : Rw 152 64 67 3 61 71 0 0 := rw_of (by decide +kernel)
theorem r152_67 : Rw 152 67 68 1 1 (cd 1) 2 0 := rw_of (by decide +kernel)
theorem r152_68 : Rw 152 68 71 3 60 72 0 0 := rw_of (by decide +kernel)
theorem r152_21 : Rw 152 21 22 1 14 0 0 0 := rw_of (by decide +kernel)
theorem r152_22 : Rw 152 22 23 1 1 (cd 0) 1 0 := rw_of (by decide +kernel)
theorem r152_23 : Rw 152 23 24 1 10 2 0 0 := rw_of (by decide +kernel)
theorem r152_24 : Rw 152 24 25 1 1 (cd 5) 6 0 := rw_of (by decide +kernel)
theorem r152_25 : Rw 152 25 26 1 32 0 0 0 := rw_of (by decide +kernel)
theorem r152_26 : Rw 152 26 27 1 30 0 0 0 := rw_of (by decide +kernel)
theorem r152_27 : Rw 152 27 28 1 14 0 0 0 := rw_of (by decide +kernel)
theorem r152_28 : Rw 152 28 31 3 100 173 1 129 := rw_of (by decide +kernel)
theorem r152_31 : Rw 152 31 34 3 100 171 3 187 := rw_of (by decide +kernel)
theorem r152_34 : Rw 152 34 35 1 74 1 0 0 := rw_of (by decide +kernel)
theorem r152_10 : Rw 152 10 11 1 1 (cd 0) 1 0 := rw_of (by decide +kernel)
theorem r152_11 : Rw 152 11 12 1 74 1 0 0 := rw_of (by decide +kernel)
theorem kc_6_152 : Kc 6 152 := kc_of (by decide) (by decide +kernel)
theorem r153_15 : Rw 153 15 16 1 74 1 0 0 := rw_of (by decide +kernel)
theorem kc_6_153 : Kc 6 153 := kc_of (by decide) (by decide +kernel)
theorem r166_53 : Rw 166 53 54 1 14 0 0 0 := rw_of (by decide +kernel)
theorem r166_54 : Rw 166 54 55 1 10 1 0 0 := rw_of (by decide +kernel)
theorem r166_55 : Rw 166 55 58 3 100 168 2 178 := rw_of (by decide +kernel)
theorem r166_58 : Rw 166 58 61 3 60 66 0 0 := rw_of (by decide +kernel)
theorem r166_66 : Rw 166 66 67 1 16 3 0 0 := rw_of (by decide +kernel)
theorem r166_67 : Rw 166 67 68 1 10 3 0 0 := rw_of (by decide +kernel)
theorem r166_68 : Rw 166 68 71 3 61 90 0 0 := rw_of (by decide +kernel)
theorem r166_90 : Rw 166 90 91 1 1 (cd 0) 1 0 := rw_of (by decide +kernel)
theorem r166_91 : Rw 166 91 92 1 74 1 0 0 := rw_of (by decide +kernel)
theorem r166_71 : Rw 166 71 72 1 10 2 0 0 := rw_of (by decide +kernel)
theorem r166_72 : Rw 166 72 73 1 1 (cd 1) 2 0 := rw_of (by decide +kernel)
theorem r166_73 : Rw 166 73 74 1 33 0 0 0 := rw_of (by decide +kernel)
theorem r166_74 : Rw 166 74 77 3 61 86 0 0 := rw_of (by decide +kernel)
theorem r166_86 : Rw 166 86 87 1 1 (cd 1) 2 0 := rw_of (by decide +kernel)
theorem r166_87 : Rw 166 87 90 3 60 91 0 0 := rw_of (by decide +kernel)
theorem r166_35 : Rw 166 35 36 1 14 0 0 0 := rw_of (by decide +kernel)
theorem r166_36 : Rw 166 36 37 1 1 (cd 2) 3 0 := rw_of (by decide +kernel)
theorem r166_37 : Rw 166 37 40 3 100 159 2 71 := rw_of (by decide +kernel)
theorem r166_40 : Rw 166 40 41 1 74 1 0 0 := rw_of (by decide +kernel)
theorem r166_77 : Rw 166 77 78 1 14 0 0 0 := rw_of (by decide +kernel)
theorem r166_78 : Rw 166 78 79 1 1 (cd 1) 2 0 := rw_of (by decide +kernel)
theorem r166_79 : Rw 166 79 80 1 1 (cd 0) 1 0 := rw_of (by decide +kernel)
theorem r166_80 : Rw 166 80 83 3 100 172 3 109 := rw_of (by decide +kernel)
theorem r166_83 : Rw 166 83 86 3 61 90 0 0 := rw_of (by decide +kernel)
theorem kc_6_166 : Kc 6 166 := kc_of (by decide) (by decide +kernel)
theorem r157_5 : Rw 157 5 8 3 62 10 0 0 := rw_of (by decide +kernel)
theorem r157_10 : Rw 157 10 11 1 1 (cd 0) 1 0 := rw_of (by decide +kernel)
theorem r157_11 : Rw 157 11 12 1 16 2 0 0 := rw_of (by decide +kernel)
theorem r157_12 : Rw 157 12 13 1 10 2 0 0 := rw_of (by decide +kernel)
theorem r157_13 : Rw 157 13 16 3 3 (cd 500) 33268 0 := rw_of (by decide +kernel)
theorem r157_16 : Rw 157 16 19 3 70 53 0 0 := rw_of (by decide +kernel)
theorem r157_19 : Rw 157 19 20 1 14 0 0 0 := rw_of (by decide +kernel)
theorem r157_20 : Rw 157 20 22 2 8 (Int.toNat 4125) 176 28 := rw_of (by decide +kernel)
theorem r157_22 : Rw 157 22 25 3 100 175 2 88 := rw_of (by decide +kernel)
theorem r157_25 : Rw 157 25 28 3 61 53 0 0 := rw_of (by decide +kernel)
theorem r157_53 : Rw 157 53 54 1 1 (cd 1) 2 0 := rw_of (by decide +kernel)
theorem r157_54 : Rw 157 54 55 1 74 1 0 0 := rw_of (by decide +kernel)
theorem r157_28 : Rw 157 28 29 1 14 0 0 0 := rw_of (by decide +kernel)
theorem r157_29 : Rw 157 29 30 1 10 1 0 0 := rw_of (by decide +kernel)
theorem r157_30 : Rw 157 30 33 3 100 166 2 173 := rw_of (by decide +kernel)
theorem r157_33 : Rw 157 33 36 3 61 45 0 0 := rw_of (by decide +kernel)
theorem r157_45 : Rw 157 45 46 1 1 (cd 0) 1 0 := rw_of (by decide +kernel)
theorem r157_46 : Rw 157 46 47 1 74 1 0 0 := rw_of (by decide +kernel)
theorem r157_36 : Rw 157 36 37 1 14 0 0 0 := rw_of (by decide +kernel)
theorem r157_37 : Rw 157 37 38 1 1 (cd 2) 3 0 := rw_of (by decide +kernel)
theorem r157_38 : Rw 157 38 39 1 1 (cd 0) 1 0 := rw_of (by decide +kernel)
theorem r157_39 : Rw 157 39 42 3 100 172 3 109 := rw_of (by decide +kernel)
theorem r157_42 : Rw 157 42 45 3 62 47 0 0 := rw_of (by decide +kernel)
theorem r157_47 : Rw 157 47 50 3 22 2 (cd 1) 32769 := rw_of (by decide +kernel)
theorem r157_50 : Rw 157 50 53 3 60 12 0 0 := rw_of (by decide +kernel)
theorem r157_8 : Rw 157 8 9 1 1 (cd 0) 1 0 := rw_of (by decide +kernel)
theorem r157_9 : Rw 157 9 10 1 74 1 0 0 := rw_of (by decide +kernel)
theorem kc_6_157 : Kc 6 157 := kc_of (by decide) (by decide +kernel)
theorem r158_30 : Rw 158 30 33 3 62 35 0 0 := rw_of (by decide +kernel)
theorem r158_35 : Rw 158 35 36 1 1 (cd 0) 1 0 := rw_of (by decide +kernel)
theorem r158_36 : Rw 158 36 37 1 16 2 0 0 := rw_of (by decide +kernel)
theorem r158_37 : Rw 158 37 38 1 10 2 0 0 := rw_of (by decide +kernel)
theorem r158_38 : Rw 158 38 41 3 3 (cd 500) 33268 0 := rw_of (by decide +kernel)
theorem r158_41 : Rw 158 41 44 3 70 78 0 0 := rw_of (by decide +kernel)
theorem r158_44 : Rw 158 44 45 1 14 0 0 0 := rw_of (by decide +kernel)
theorem r158_45 : Rw 158 45 47 2 8 (Int.toNat 4126) 152 29 := rw_of (by decide +kernel)
theorem r158_47 : Rw 158 47 50 3 100 175 2 88 := rw_of (by decide +kernel)
theorem r158_50 : Rw 158 50 53 3 61 78 0 0 := rw_of (by decide +kernel)
theorem r158_78 : Rw 158 78 79 1 1 (cd 1) 2 0 := rw_of (by decide +kernel)
theorem r158_79 : Rw 158 79 80 1 74 1 0 0 := rw_of (by decide +kernel)
theorem r158_53 : Rw 158 53 54 1 14 0 0 0 := rw_of (by decide +kernel)
theorem r158_54 : Rw 158 54 55 1 10 1 0 0 := rw_of (by decide +kernel)
theorem r158_55 : Rw 158 55 58 3 100 157 2 149 := rw_of (by decide +kernel)
theorem r158_58 : Rw 158 58 61 3 61 70 0 0 := rw_of (by decide +kernel)
theorem r158_70 : Rw 158 70 71 1 1 (cd 0) 1 0 := rw_of (by decide +kernel)
theorem r158_71 : Rw 158 71 72 1 74 1 0 0 := rw_of (by decide +kernel)
theorem r158_61 : Rw 158 61 62 1 14 0 0 0 := rw_of (by decide +kernel)
theorem r158_62 : Rw 158 62 63 1 1 (cd 3) 4 0 := rw_of (by decide +kernel)
theorem r158_63 : Rw 158 63 64 1 1 (cd 0) 1 0 := rw_of (by decide +kernel)
theorem r158_64 : Rw 158 64 67 3 100 172 3 109 := rw_of (by decide +kernel)
theorem r158_67 : Rw 158 67 70 3 62 72 0 0 := rw_of (by decide +kernel)
theorem r158_72 : Rw 158 72 75 3 22 2 (cd 1) 32769 := rw_of (by decide +kernel)
theorem r158_75 : Rw 158 75 78 3 60 37 0 0 := rw_of (by decide +kernel)
theorem r158_33 : Rw 158 33 34 1 1 (cd 0) 1 0 := rw_of (by decide +kernel)
theorem r158_34 : Rw 158 34 35 1 74 1 0 0 := rw_of (by decide +kernel)
theorem r168_19 : Rw 168 19 20 1 14 0 0 0 := rw_of (by decide +kernel)
theorem r168_20 : Rw 168 20 22 2 2 (cd 41) 169 0 := rw_of (by decide +kernel)
theorem r168_22 : Rw 168 22 25 3 100 174 2 63 := rw_of (by decide +kernel)
theorem r168_25 : Rw 168 25 28 3 61 32 0 0 := rw_of (by decide +kernel)
theorem r168_28 : Rw 168 28 29 1 1 (cd 1) 2 0 := rw_of (by decide +kernel)
theorem r168_29 : Rw 168 29 32 3 60 33 0 0 := rw_of (by decide +kernel)
theorem r152_98 : Rw 152 98 99 1 14 0 0 0 := rw_of (by decide +kernel)
theorem r152_99 : Rw 152 99 102 3 80 3 2 37 := rw_of (by decide +kernel)
theorem r152_102 : Rw 152 102 103 1 10 2 0 0 := rw_of (by decide +kernel)
theorem r152_103 : Rw 152 103 106 3 100 139 2 210 := rw_of (by decide +kernel)
theorem r139_0 : Rw 139 0 1 1 14 0 0 0 := rw_of (by decide +kernel)
theorem r139_1 : Rw 139 1 2 1 1 (cd 4) 5 0 := rw_of (by decide +kernel)
theorem r139_2 : Rw 139 2 3 1 10 1 0 0 := rw_of (by decide +kernel)
theorem r139_3 : Rw 139 3 6 3 100 138 3 28 := rw_of (by decide +kernel)
theorem r139_6 : Rw 139 6 7 1 14 0 0 0 := rw_of (by decide +kernel)
theorem r139_7 : Rw 139 7 8 1 52 0 0 0 := rw_of (by decide +kernel)
theorem r139_8 : Rw 139 8 11 3 80 1 2 19 := rw_of (by decide +kernel)
theorem bC_2 {M : Mm} (h : Pw M) {a : Int} (ha : isC a) : 0 ≤ M a 2 ∧ M a 2 ≤ 127 := (h a 2 (isC_rg ha).1 (by have := isC_rg ha; omega) (by decide) (by rw [lnC ha]; decide)).get0 (g_c2 ha) rfl rfl rfl rfl
theorem r139_11 : Rw 139 11 12 1 1 (cd 1) 2 0 := rw_of (by decide +kernel)
theorem r139_12 : Rw 139 12 13 1 10 1 0 0 := rw_of (by decide +kernel)
theorem r139_13 : Rw 139 13 14 1 36 0 0 0 := rw_of (by decide +kernel)
theorem pwl_6 : pw 6 = 64 := by decide
theorem r139_14 : Rw 139 14 15 1 34 0 0 0 := rw_of (by decide +kernel)
theorem r139_15 : Rw 139 15 18 3 81 1 2 0 := rw_of (by decide +kernel)
theorem r139_18 : Rw 139 18 19 1 77 0 0 0 := rw_of (by decide +kernel)
theorem kcCb_139 : (List.range 30).all (fun j => kcb (679 + 2 * j) 139) = true := by decide +kernel
theorem kcC_139 {a : Int} (h : isC a) : Kc a 139 := by
  rcases h with rfl | h
  · exact kc_of (by decide) (by decide +kernel)
  · refine kc_of (by omega) ?_
    have h2 := List.all_eq_true.mp kcCb_139 ((a.toNat - 679) / 2) (List.mem_range.mpr (by omega))
    rw [show 679 + 2 * ((a.toNat - 679) / 2) = a.toNat by omega] at h2
    exact h2
theorem r152_106 : Rw 152 106 107 1 1 (cd 1) 2 0 := rw_of (by decide +kernel)
theorem r152_107 : Rw 152 107 108 1 74 1 0 0 := rw_of (by decide +kernel)
theorem r156_42 : Rw 156 42 45 3 61 58 0 0 := rw_of (by decide +kernel)
theorem r156_58 : Rw 156 58 59 1 1 (cd 0) 1 0 := rw_of (by decide +kernel)
theorem r156_59 : Rw 156 59 60 1 74 1 0 0 := rw_of (by decide +kernel)
theorem r156_45 : Rw 156 45 46 1 14 0 0 0 := rw_of (by decide +kernel)
theorem r156_46 : Rw 156 46 47 1 1 (cd 2) 3 0 := rw_of (by decide +kernel)
theorem r156_47 : Rw 156 47 48 1 1 (cd 0) 1 0 := rw_of (by decide +kernel)
theorem r156_48 : Rw 156 48 51 3 100 172 3 109 := rw_of (by decide +kernel)
theorem r156_51 : Rw 156 51 54 3 61 58 0 0 := rw_of (by decide +kernel)
theorem r156_54 : Rw 156 54 55 1 1 (cd 1) 2 0 := rw_of (by decide +kernel)
theorem r156_55 : Rw 156 55 58 3 60 59 0 0 := rw_of (by decide +kernel)
theorem r156_23 : Rw 156 23 24 1 14 0 0 0 := rw_of (by decide +kernel)
theorem r156_24 : Rw 156 24 27 3 100 162 1 104 := rw_of (by decide +kernel)
theorem r162_0 : Rw 162 0 1 1 1 (cd 0) 1 0 := rw_of (by decide +kernel)
theorem r162_1 : Rw 162 1 2 1 16 1 0 0 := rw_of (by decide +kernel)
theorem r162_2 : Rw 162 2 3 1 1 (cd 0) 1 0 := rw_of (by decide +kernel)
theorem r162_3 : Rw 162 3 4 1 16 2 0 0 := rw_of (by decide +kernel)
theorem r162_4 : Rw 162 4 5 1 10 2 0 0 := rw_of (by decide +kernel)
theorem r162_5 : Rw 162 5 8 3 3 (cd 500) 33268 0 := rw_of (by decide +kernel)
theorem r162_8 : Rw 162 8 11 3 70 53 0 0 := rw_of (by decide +kernel)
theorem r162_11 : Rw 162 11 12 1 10 2 0 0 := rw_of (by decide +kernel)
theorem r162_12 : Rw 162 12 15 3 61 26 0 0 := rw_of (by decide +kernel)
theorem r162_26 : Rw 162 26 27 1 14 0 0 0 := rw_of (by decide +kernel)
theorem r162_27 : Rw 162 27 28 1 1 (cd 0) 1 0 := rw_of (by decide +kernel)
theorem r162_28 : Rw 162 28 30 2 2 (cd 6) 134 0 := rw_of (by decide +kernel)
theorem r162_30 : Rw 162 30 33 3 100 167 3 92 := rw_of (by decide +kernel)
theorem r162_33 : Rw 162 33 34 1 16 3 0 0 := rw_of (by decide +kernel)
theorem r162_34 : Rw 162 34 35 1 10 3 0 0 := rw_of (by decide +kernel)
theorem r162_35 : Rw 162 35 36 1 1 (cd (-1)) 0 0 := rw_of (by decide +kernel)
theorem r162_36 : Rw 162 36 39 3 68 41 0 0 := rw_of (by decide +kernel)
theorem r162_41 : Rw 162 41 42 1 10 1 0 0 := rw_of (by decide +kernel)
theorem r162_42 : Rw 162 42 43 1 1 (cd 1) 2 0 := rw_of (by decide +kernel)
theorem r162_43 : Rw 162 43 44 1 10 3 0 0 := rw_of (by decide +kernel)
theorem r162_44 : Rw 162 44 45 1 36 0 0 0 := rw_of (by decide +kernel)
theorem r162_45 : Rw 162 45 46 1 34 0 0 0 := rw_of (by decide +kernel)
theorem r162_46 : Rw 162 46 47 1 16 1 0 0 := rw_of (by decide +kernel)
theorem r162_47 : Rw 162 47 50 3 22 2 (cd 1) 32769 := rw_of (by decide +kernel)
theorem r162_50 : Rw 162 50 53 3 60 4 0 0 := rw_of (by decide +kernel)
theorem r162_39 : Rw 162 39 40 1 1 (cd 0) 1 0 := rw_of (by decide +kernel)
theorem r162_40 : Rw 162 40 41 1 74 1 0 0 := rw_of (by decide +kernel)
theorem r162_15 : Rw 162 15 16 1 14 0 0 0 := rw_of (by decide +kernel)
theorem r162_16 : Rw 162 16 19 3 80 3 0 33 := rw_of (by decide +kernel)
theorem r162_19 : Rw 162 19 22 3 80 9 4 57 := rw_of (by decide +kernel)
theorem r162_22 : Rw 162 22 23 1 1 (cd 2) 3 0 := rw_of (by decide +kernel)
theorem r162_23 : Rw 162 23 26 3 68 53 0 0 := rw_of (by decide +kernel)
theorem r162_53 : Rw 162 53 54 1 14 0 0 0 := rw_of (by decide +kernel)
theorem r162_54 : Rw 162 54 57 3 80 3 1 12 := rw_of (by decide +kernel)
theorem r162_57 : Rw 162 57 58 1 10 1 0 0 := rw_of (by decide +kernel)
theorem r162_58 : Rw 162 58 61 3 81 4 4 0 := rw_of (by decide +kernel)
theorem r162_61 : Rw 162 61 62 1 14 0 0 0 := rw_of (by decide +kernel)
theorem r162_62 : Rw 162 62 65 3 80 3 1 12 := rw_of (by decide +kernel)
theorem r162_65 : Rw 162 65 66 1 1 (cd 1) 2 0 := rw_of (by decide +kernel)
theorem r162_66 : Rw 162 66 69 3 81 4 5 1 := rw_of (by decide +kernel)
theorem r162_69 : Rw 162 69 70 1 1 (cd 1) 2 0 := rw_of (by decide +kernel)
theorem r162_70 : Rw 162 70 71 1 74 1 0 0 := rw_of (by decide +kernel)
theorem kc_6_162 : Kc 6 162 := kc_of (by decide) (by decide +kernel)
theorem r156_27 : Rw 156 27 28 1 74 1 0 0 := rw_of (by decide +kernel)
theorem r156_9 : Rw 156 9 10 1 14 0 0 0 := rw_of (by decide +kernel)
theorem r156_10 : Rw 156 10 13 3 100 164 1 99 := rw_of (by decide +kernel)
theorem r164_0 : Rw 164 0 1 1 14 0 0 0 := rw_of (by decide +kernel)
theorem r164_1 : Rw 164 1 4 3 100 165 1 126 := rw_of (by decide +kernel)
theorem r164_4 : Rw 164 4 5 1 16 1 0 0 := rw_of (by decide +kernel)
theorem r164_5 : Rw 164 5 6 1 10 1 0 0 := rw_of (by decide +kernel)
theorem r164_6 : Rw 164 6 7 1 1 (cd (-1)) 0 0 := rw_of (by decide +kernel)
theorem r164_7 : Rw 164 7 10 3 68 14 0 0 := rw_of (by decide +kernel)
theorem r164_14 : Rw 164 14 15 1 14 0 0 0 := rw_of (by decide +kernel)
theorem r164_15 : Rw 164 15 18 3 100 173 1 129 := rw_of (by decide +kernel)
theorem r164_18 : Rw 164 18 19 1 16 2 0 0 := rw_of (by decide +kernel)
theorem r164_19 : Rw 164 19 20 1 10 2 0 0 := rw_of (by decide +kernel)
theorem r164_20 : Rw 164 20 21 1 1 (cd (-1)) 0 0 := rw_of (by decide +kernel)
theorem r164_21 : Rw 164 21 24 3 68 26 0 0 := rw_of (by decide +kernel)
theorem r164_26 : Rw 164 26 27 1 1 (cd 1) 2 0 := rw_of (by decide +kernel)
theorem r164_27 : Rw 164 27 28 1 10 2 0 0 := rw_of (by decide +kernel)
theorem r164_28 : Rw 164 28 29 1 36 0 0 0 := rw_of (by decide +kernel)
theorem pwl_4 : pw 4 = 16 := by decide
theorem r164_29 : Rw 164 29 30 1 16 3 0 0 := rw_of (by decide +kernel)
theorem r164_30 : Rw 164 30 31 1 1 (cd 0) 1 0 := rw_of (by decide +kernel)
theorem r164_31 : Rw 164 31 33 2 17 4 0 0 := rw_of (by decide +kernel)
theorem r164_33 : Rw 164 33 35 2 11 4 0 0 := rw_of (by decide +kernel)
theorem r164_35 : Rw 164 35 36 1 1 (cd 5) 6 0 := rw_of (by decide +kernel)
theorem r164_36 : Rw 164 36 39 3 70 92 0 0 := rw_of (by decide +kernel)
theorem r164_39 : Rw 164 39 40 1 14 0 0 0 := rw_of (by decide +kernel)
theorem r164_40 : Rw 164 40 43 3 80 3 0 33 := rw_of (by decide +kernel)
theorem r164_43 : Rw 164 43 46 3 100 240 1 132 := rw_of (by decide +kernel)
theorem r164_46 : Rw 164 46 47 1 1 (cd (-1)) 0 0 := rw_of (by decide +kernel)
theorem r164_47 : Rw 164 47 50 3 67 92 0 0 := rw_of (by decide +kernel)
theorem r164_92 : Rw 164 92 93 1 14 0 0 0 := rw_of (by decide +kernel)
theorem r164_93 : Rw 164 93 96 3 80 3 1 12 := rw_of (by decide +kernel)
theorem r164_96 : Rw 164 96 99 3 80 4 0 138 := rw_of (by decide +kernel)
theorem r164_99 : Rw 164 99 100 1 10 1 0 0 := rw_of (by decide +kernel)
theorem r164_100 : Rw 164 100 101 1 10 3 0 0 := rw_of (by decide +kernel)
theorem r164_101 : Rw 164 101 102 1 88 0 0 0 := rw_of (by decide +kernel)
theorem r164_102 : Rw 164 102 103 1 1 (cd 1) 2 0 := rw_of (by decide +kernel)
theorem r164_103 : Rw 164 103 104 1 74 1 0 0 := rw_of (by decide +kernel)
theorem r164_50 : Rw 164 50 51 1 1 (cd 1) 2 0 := rw_of (by decide +kernel)
theorem r164_51 : Rw 164 51 52 1 14 0 0 0 := rw_of (by decide +kernel)
theorem r164_52 : Rw 164 52 55 3 80 3 0 33 := rw_of (by decide +kernel)
theorem r164_55 : Rw 164 55 58 3 100 240 1 132 := rw_of (by decide +kernel)
theorem r164_58 : Rw 164 58 59 1 36 0 0 0 := rw_of (by decide +kernel)
theorem r164_59 : Rw 164 59 61 2 17 5 0 0 := rw_of (by decide +kernel)
theorem r164_61 : Rw 164 61 62 1 10 3 0 0 := rw_of (by decide +kernel)
theorem r164_62 : Rw 164 62 64 2 11 5 0 0 := rw_of (by decide +kernel)
theorem r164_64 : Rw 164 64 65 1 33 0 0 0 := rw_of (by decide +kernel)
theorem r164_65 : Rw 164 65 68 3 61 74 0 0 := rw_of (by decide +kernel)
theorem r164_74 : Rw 164 74 75 1 10 3 0 0 := rw_of (by decide +kernel)
theorem r164_75 : Rw 164 75 77 2 11 5 0 0 := rw_of (by decide +kernel)
theorem r164_77 : Rw 164 77 78 1 34 0 0 0 := rw_of (by decide +kernel)
theorem r164_78 : Rw 164 78 79 1 16 3 0 0 := rw_of (by decide +kernel)
theorem r164_79 : Rw 164 79 80 1 14 0 0 0 := rw_of (by decide +kernel)
theorem r164_80 : Rw 164 80 83 3 80 3 0 33 := rw_of (by decide +kernel)
theorem r164_83 : Rw 164 83 86 3 100 241 1 135 := rw_of (by decide +kernel)
theorem r164_86 : Rw 164 86 89 3 22 4 (cd 1) 32769 := rw_of (by decide +kernel)
theorem r164_89 : Rw 164 89 92 3 60 33 0 0 := rw_of (by decide +kernel)
theorem r164_68 : Rw 164 68 69 1 14 0 0 0 := rw_of (by decide +kernel)
theorem r164_69 : Rw 164 69 70 1 1 (cd 5) 6 0 := rw_of (by decide +kernel)
theorem r164_70 : Rw 164 70 73 3 100 159 2 71 := rw_of (by decide +kernel)
theorem r164_73 : Rw 164 73 74 1 74 1 0 0 := rw_of (by decide +kernel)
theorem r164_24 : Rw 164 24 25 1 1 (cd 0) 1 0 := rw_of (by decide +kernel)
theorem r164_25 : Rw 164 25 26 1 74 1 0 0 := rw_of (by decide +kernel)
theorem r164_10 : Rw 164 10 11 1 1 (cd (-1)) 0 0 := rw_of (by decide +kernel)
theorem r164_11 : Rw 164 11 14 3 60 18 0 0 := rw_of (by decide +kernel)
theorem kc_6_164 : Kc 6 164 := kc_of (by decide) (by decide +kernel)
theorem r156_13 : Rw 156 13 14 1 74 1 0 0 := rw_of (by decide +kernel)
theorem kc_6_156 : Kc 6 156 := kc_of (by decide) (by decide +kernel)
theorem r169_51 : Rw 169 51 54 3 61 67 0 0 := rw_of (by decide +kernel)
theorem r169_67 : Rw 169 67 68 1 1 (cd 0) 1 0 := rw_of (by decide +kernel)
theorem r169_68 : Rw 169 68 69 1 16 3 0 0 := rw_of (by decide +kernel)
theorem r169_69 : Rw 169 69 72 3 22 4 (cd 1) 32769 := rw_of (by decide +kernel)
theorem r169_72 : Rw 169 72 75 3 60 25 0 0 := rw_of (by decide +kernel)
theorem r169_54 : Rw 169 54 55 1 14 0 0 0 := rw_of (by decide +kernel)
theorem r169_55 : Rw 169 55 57 2 2 (cd 59) 187 0 := rw_of (by decide +kernel)
theorem r169_57 : Rw 169 57 60 3 100 174 2 63 := rw_of (by decide +kernel)
theorem r169_60 : Rw 169 60 63 3 61 67 0 0 := rw_of (by decide +kernel)
theorem r169_63 : Rw 169 63 64 1 1 (cd 1) 2 0 := rw_of (by decide +kernel)
theorem r169_64 : Rw 169 64 67 3 60 68 0 0 := rw_of (by decide +kernel)
theorem kc_6_169 : Kc 6 169 := kc_of (by decide) (by decide +kernel)
theorem r24_17 : Rw 24 17 18 1 16 2 0 0 := rw_of (by decide +kernel)
theorem r24_18 : Rw 24 18 19 1 14 0 0 0 := rw_of (by decide +kernel)
theorem r24_19 : Rw 24 19 20 1 14 0 0 0 := rw_of (by decide +kernel)
theorem r24_20 : Rw 24 20 23 3 80 11 4 36 := rw_of (by decide +kernel)
theorem r24_23 : Rw 24 23 26 3 80 3 5 137 := rw_of (by decide +kernel)
theorem bf_6_5 {M : Mm} (h : Pw M) : (-1) ≤ M 6 5 ∧ M 6 5 ≤ 500 := (h 6 5 (by decide) (by decide) (by decide) (by decide +kernel)).get0 g_6_5 rfl rfl rfl rfl
theorem r24_26 : Rw 24 26 29 3 81 11 5 0 := rw_of (by decide +kernel)
theorem fd_0_5 : Fdl 0 11 5 5 0 := fd_of (by decide) rfl (by decide +kernel)
theorem uf_0_5 {z : Int} (hz : (-1) ≤ z ∧ z ≤ 500) : Bd 0 5 z := Bd.of0 g_0_5 rfl rfl rfl rfl rfl hz
theorem r24_29 : Rw 24 29 30 1 10 2 0 0 := rw_of (by decide +kernel)
theorem r24_30 : Rw 24 30 33 3 61 35 0 0 := rw_of (by decide +kernel)
theorem r24_35 : Rw 24 35 36 1 14 0 0 0 := rw_of (by decide +kernel)
theorem r24_36 : Rw 24 36 39 3 80 11 2 20 := rw_of (by decide +kernel)
theorem fd_0_2 : Fdl 0 11 2 2 2 := fd_of (by decide) rfl (by decide +kernel)
theorem bf_0_2 {M : Mm} (h : Pw M) : 2 ≤ M 0 2 ∧ M 0 2 ≤ 2 := (h 0 2 (by decide) (by decide) (by decide) (by decide +kernel)).get0 g_0_2 rfl rfl rfl rfl
theorem br_0_2 {M : Mm} (h : Pw M) : M 0 2 = 2 := by have := bf_0_2 h; omega
theorem r24_39 : Rw 24 39 40 1 14 0 0 0 := rw_of (by decide +kernel)
theorem r24_40 : Rw 24 40 43 3 80 11 4 36 := rw_of (by decide +kernel)
theorem r24_43 : Rw 24 43 46 3 80 3 1 140 := rw_of (by decide +kernel)
theorem r24_46 : Rw 24 46 49 3 100 178 2 143 := rw_of (by decide +kernel)
theorem r178_0 : Rw 178 0 1 1 14 1 0 0 := rw_of (by decide +kernel)
theorem r178_1 : Rw 178 1 4 3 80 4 0 9 := rw_of (by decide +kernel)
theorem r178_4 : Rw 178 4 5 1 1 (cd 0) 1 0 := rw_of (by decide +kernel)
theorem r178_5 : Rw 178 5 6 1 14 0 0 0 := rw_of (by decide +kernel)
theorem r178_6 : Rw 178 6 9 3 80 4 0 9 := rw_of (by decide +kernel)
theorem fd_2_0 : Fdl 2 4 0 0 2 := fd_of (by decide) rfl (by decide +kernel)
theorem bf_2_0 {M : Mm} (h : Pw M) : 3 ≤ M 2 0 ∧ M 2 0 ≤ 3 := (h 2 0 (by decide) (by decide) (by decide) (by decide +kernel)).get0 g_2_0 rfl rfl rfl rfl
theorem br_2_0 {M : Mm} (h : Pw M) : M 2 0 = 3 := by have := bf_2_0 h; omega
theorem r178_9 : Rw 178 9 10 1 1 (cd 0) 1 0 := rw_of (by decide +kernel)
theorem r178_10 : Rw 178 10 12 2 2 (cd 7) 135 0 := rw_of (by decide +kernel)
theorem r178_12 : Rw 178 12 15 3 109 0 0 41 := rw_of (by decide +kernel)
theorem ar_3 : Ar 3 100 7 := ar_of (by decide) (by decide) (by decide +kernel)
theorem ba_3 {M : Mm} (h : Pw M) {i : Int} (h0 : 0 ≤ i) (h1 : i < 7) : 1 ≤ M 3 i ∧ M 3 i ≤ 31 := (h 3 i (by decide) (by decide) h0 (by rw [ar_3.2.2.2.1]; exact h1)).get0 (gr_3 (by decide) (by decide) i) rfl rfl rfl rfl
theorem ga_3 (i : Int) : grp 3 i = 27 := gr_3 (by decide) (by decide) i
theorem ua_3 {i z : Int} (hz : 1 ≤ z ∧ z ≤ 31) : Bd 3 i z := Bd.of0 (gr_3 (by decide) (by decide) i) rfl rfl rfl rfl rfl hz
theorem r178_15 : Rw 178 15 16 1 14 0 0 0 := rw_of (by decide +kernel)
theorem r178_16 : Rw 178 16 17 1 14 1 0 0 := rw_of (by decide +kernel)
theorem r178_17 : Rw 178 17 20 3 80 4 1 21 := rw_of (by decide +kernel)
theorem r178_20 : Rw 178 20 23 3 81 4 1 0 := rw_of (by decide +kernel)
theorem fd_2_1 : Fdl 2 4 1 1 0 := fd_of (by decide) rfl (by decide +kernel)
theorem uf_2_1 {z : Int} (hz : (-1) ≤ z ∧ z ≤ 7) : Bd 2 1 z := Bd.of0 g_2_1 rfl rfl rfl rfl rfl hz
theorem r178_23 : Rw 178 23 24 1 14 0 0 0 := rw_of (by decide +kernel)
theorem r178_24 : Rw 178 24 25 1 14 1 0 0 := rw_of (by decide +kernel)
theorem r178_25 : Rw 178 25 28 3 80 4 2 25 := rw_of (by decide +kernel)
theorem r178_28 : Rw 178 28 31 3 81 4 2 0 := rw_of (by decide +kernel)
theorem fd_2_2 : Fdl 2 4 2 2 0 := fd_of (by decide) rfl (by decide +kernel)
theorem uf_2_2 {z : Int} (hz : (-1) ≤ z ∧ z ≤ 4) : Bd 2 2 z := Bd.of0 g_2_2 rfl rfl rfl rfl rfl hz
theorem r178_31 : Rw 178 31 32 1 14 0 0 0 := rw_of (by decide +kernel)
theorem r178_32 : Rw 178 32 33 1 14 1 0 0 := rw_of (by decide +kernel)
theorem r178_33 : Rw 178 33 36 3 80 4 3 28 := rw_of (by decide +kernel)
theorem r178_36 : Rw 178 36 39 3 81 4 3 0 := rw_of (by decide +kernel)
theorem fd_2_3 : Fdl 2 4 3 3 0 := fd_of (by decide) rfl (by decide +kernel)
theorem uf_2_3 {z : Int} (hz : (-1) ≤ z ∧ z ≤ 6) : Bd 2 3 z := Bd.of0 g_2_3 rfl rfl rfl rfl rfl hz
theorem r178_39 : Rw 178 39 40 1 14 0 0 0 := rw_of (by decide +kernel)
theorem r178_40 : Rw 178 40 41 1 14 1 0 0 := rw_of (by decide +kernel)
theorem r178_41 : Rw 178 41 44 3 80 4 4 31 := rw_of (by decide +kernel)
theorem bf_7_4 {M : Mm} (h : Pw M) : 0 ≤ M 7 4 ∧ M 7 4 ≤ 127 := (h 7 4 (by decide) (by decide) (by decide) (by decide +kernel)).get0 g_7_4 rfl rfl rfl rfl
theorem r178_44 : Rw 178 44 47 3 81 4 4 0 := rw_of (by decide +kernel)
theorem fd_2_4 : Fdl 2 4 4 4 0 := fd_of (by decide) rfl (by decide +kernel)
theorem uf_2_4 {z : Int} (hz : 0 ≤ z ∧ z ≤ 127) : Bd 2 4 z := Bd.of0 g_2_4 rfl rfl rfl rfl rfl hz
theorem r178_47 : Rw 178 47 48 1 14 0 0 0 := rw_of (by decide +kernel)
theorem r178_48 : Rw 178 48 49 1 14 1 0 0 := rw_of (by decide +kernel)
theorem r178_49 : Rw 178 49 52 3 80 4 5 34 := rw_of (by decide +kernel)
theorem r178_52 : Rw 178 52 55 3 81 4 5 1 := rw_of (by decide +kernel)
theorem fd_2_5 : Fdl 2 4 5 5 0 := fd_of (by decide) rfl (by decide +kernel)
theorem uf_2_5 {z : Int} (hz : 0 ≤ z ∧ z ≤ 1) : Bd 2 5 z := Bd.of0 g_2_5 rfl rfl rfl rfl rfl hz
theorem r178_55 : Rw 178 55 56 1 14 0 0 0 := rw_of (by decide +kernel)
theorem r178_56 : Rw 178 56 57 1 14 1 0 0 := rw_of (by decide +kernel)
theorem r178_57 : Rw 178 57 60 3 80 4 6 38 := rw_of (by decide +kernel)
theorem r178_60 : Rw 178 60 63 3 81 4 6 1 := rw_of (by decide +kernel)
theorem fd_2_6 : Fdl 2 4 6 6 0 := fd_of (by decide) rfl (by decide +kernel)
theorem uf_2_6 {z : Int} (hz : 0 ≤ z ∧ z ≤ 1) : Bd 2 6 z := Bd.of0 g_2_6 rfl rfl rfl rfl rfl hz
theorem r178_63 : Rw 178 63 64 1 77 0 0 0 := rw_of (by decide +kernel)
theorem kc_2_178 : Kc 2 178 := kc_of (by decide) (by decide +kernel)
theorem r24_49 : Rw 24 49 50 1 14 0 0 0 := rw_of (by decide +kernel)
theorem r24_50 : Rw 24 50 53 3 80 11 6 48 := rw_of (by decide +kernel)
theorem fd_0_6 : Fdl 0 11 6 6 2 := fd_of (by decide) rfl (by decide +kernel)
theorem bf_0_6 {M : Mm} (h : Pw M) : 10 ≤ M 0 6 ∧ M 0 6 ≤ 10 := (h 0 6 (by decide) (by decide) (by decide) (by decide +kernel)).get0 g_0_6 rfl rfl rfl rfl
theorem br_0_6 {M : Mm} (h : Pw M) : M 0 6 = 10 := by have := bf_0_6 h; omega
theorem r24_53 : Rw 24 53 54 1 14 0 0 0 := rw_of (by decide +kernel)
theorem r24_54 : Rw 24 54 57 3 80 11 2 20 := rw_of (by decide +kernel)
theorem r24_57 : Rw 24 57 60 3 100 205 2 119 := rw_of (by decide +kernel)
theorem bf_2_1 {M : Mm} (h : Pw M) : (-1) ≤ M 2 1 ∧ M 2 1 ≤ 7 := (h 2 1 (by decide) (by decide) (by decide) (by decide +kernel)).get0 g_2_1 rfl rfl rfl rfl
theorem r205_0 : Rw 205 0 1 1 14 0 0 0 := rw_of (by decide +kernel)
theorem r205_1 : Rw 205 1 2 1 14 1 0 0 := rw_of (by decide +kernel)
theorem r205_2 : Rw 205 2 5 3 80 4 1 53 := rw_of (by decide +kernel)
theorem r205_5 : Rw 205 5 6 1 14 1 0 0 := rw_of (by decide +kernel)
theorem r205_6 : Rw 205 6 9 3 80 4 4 56 := rw_of (by decide +kernel)
theorem bf_2_4 {M : Mm} (h : Pw M) : 0 ≤ M 2 4 ∧ M 2 4 ≤ 127 := (h 2 4 (by decide) (by decide) (by decide) (by decide +kernel)).get0 g_2_4 rfl rfl rfl rfl
theorem r205_9 : Rw 205 9 12 3 100 187 3 57 := rw_of (by decide +kernel)
theorem r187_0 : Rw 187 0 1 1 14 0 0 0 := rw_of (by decide +kernel)
theorem r187_1 : Rw 187 1 2 1 10 1 0 0 := rw_of (by decide +kernel)
theorem r187_2 : Rw 187 2 5 3 81 5 7 0 := rw_of (by decide +kernel)
theorem fd_10_7 : Fdl 10 5 7 7 0 := fd_of (by decide) rfl (by decide +kernel)
theorem uf_10_7 {z : Int} (hz : (-1) ≤ z ∧ z ≤ 7) : Bd 10 7 z := Bd.of0 g_10_7 rfl rfl rfl rfl rfl hz
theorem r187_5 : Rw 187 5 6 1 14 0 0 0 := rw_of (by decide +kernel)
theorem r187_6 : Rw 187 6 7 1 10 2 0 0 := rw_of (by decide +kernel)
theorem r187_7 : Rw 187 7 10 3 81 5 8 0 := rw_of (by decide +kernel)
theorem fd_10_8 : Fdl 10 5 8 8 0 := fd_of (by decide) rfl (by decide +kernel)
theorem uf_10_8 {z : Int} (hz : 0 ≤ z ∧ z ≤ 127) : Bd 10 8 z := Bd.of0 g_10_8 rfl rfl rfl rfl rfl hz
theorem r187_10 : Rw 187 10 11 1 14 0 0 0 := rw_of (by decide +kernel)
theorem r187_11 : Rw 187 11 12 1 1 (cd 0) 1 0 := rw_of (by decide +kernel)
theorem r187_12 : Rw 187 12 15 3 81 5 9 0 := rw_of (by decide +kernel)
theorem fd_10_9 : Fdl 10 5 9 9 0 := fd_of (by decide) rfl (by decide +kernel)
theorem uf_10_9 {z : Int} (hz : 0 ≤ z ∧ z ≤ 3000) : Bd 10 9 z := Bd.of0 g_10_9 rfl rfl rfl rfl rfl hz
theorem r187_15 : Rw 187 15 16 1 14 0 0 0 := rw_of (by decide +kernel)
theorem r187_16 : Rw 187 16 17 1 1 (cd 0) 1 0 := rw_of (by decide +kernel)
theorem r187_17 : Rw 187 17 20 3 81 5 10 0 := rw_of (by decide +kernel)
theorem fd_10_10 : Fdl 10 5 10 10 0 := fd_of (by decide) rfl (by decide +kernel)
theorem uf_10_10 {z : Int} (hz : 0 ≤ z ∧ z ≤ 47) : Bd 10 10 z := Bd.of0 g_10_10 rfl rfl rfl rfl rfl hz
theorem r187_20 : Rw 187 20 21 1 1 (cd 0) 1 0 := rw_of (by decide +kernel)
theorem r187_21 : Rw 187 21 22 1 16 3 0 0 := rw_of (by decide +kernel)
theorem r187_22 : Rw 187 22 23 1 10 3 0 0 := rw_of (by decide +kernel)
theorem r187_23 : Rw 187 23 25 2 2 (cd 119) 247 0 := rw_of (by decide +kernel)
theorem r187_25 : Rw 187 25 28 3 70 44 0 0 := rw_of (by decide +kernel)
theorem r187_28 : Rw 187 28 29 1 14 0 0 0 := rw_of (by decide +kernel)
theorem r187_29 : Rw 187 29 32 3 80 5 0 44 := rw_of (by decide +kernel)
theorem fd_10_0 : Fdl 10 5 0 0 2 := fd_of (by decide) rfl (by decide +kernel)
theorem bf_10_0 {M : Mm} (h : Pw M) : 16 ≤ M 10 0 ∧ M 10 0 ≤ 16 := (h 10 0 (by decide) (by decide) (by decide) (by decide +kernel)).get0 g_10_0 rfl rfl rfl rfl
theorem br_10_0 {M : Mm} (h : Pw M) : M 10 0 = 16 := by have := bf_10_0 h; omega
theorem r187_32 : Rw 187 32 33 1 10 3 0 0 := rw_of (by decide +kernel)
theorem r187_33 : Rw 187 33 34 1 87 0 0 0 := rw_of (by decide +kernel)
theorem ar_16 : Ar 16 104 119 := ar_of (by decide) (by decide) (by decide +kernel)
theorem ba_16 {M : Mm} (h : Pw M) {i : Int} (h0 : 0 ≤ i) (h1 : i < 119) : M 16 i = 17 + i := by
  have := (h 16 i (by decide) (by decide) h0 (by rw [ar_16.2.2.2.1]; exact h1)).get (l := 17) (u := 17) (c := 1) (s := 0) (gr_16 (by decide) (by decide) i) rfl rfl rfl rfl
  omega
theorem r187_34 : Rw 187 34 35 1 6 0 0 0 := rw_of (by decide +kernel)
theorem r187_35 : Rw 187 35 38 3 102 266 2 98 := rw_of (by decide +kernel)
theorem arb_17 : (List.range 119).all (fun j => arb (17 + j) 102 47) = true := by decide +kernel
theorem arF_17 {a : Int} (h0 : 17 ≤ a) (h1 : a ≤ 135) : Ar a 102 47 := ar_of (by omega) (by decide) (by
  have h := List.all_eq_true.mp arb_17 (a.toNat - 17) (List.mem_range.mpr (by omega))
  rw [show 17 + (a.toNat - 17) = a.toNat by omega] at h
  exact h)
theorem baF_17 {M : Mm} (h : Pw M) {a i : Int} (ha : 17 ≤ a) (hb : a ≤ 135) (h0 : 0 ≤ i) (h1 : i < 47) : 0 ≤ M a i ∧ M a i ≤ 18446744073709551615 := (h a i (by omega) (by omega) h0 (by rw [(arF_17 ha hb).2.2.2.1]; exact h1)).get0 (gr_17 ha hb i) rfl rfl rfl rfl
theorem uaF_17 {a i z : Int} (ha : 17 ≤ a) (hb : a ≤ 135) (hz : 0 ≤ z ∧ z ≤ 18446744073709551615) : Bd a i z := Bd.of0 (gr_17 ha hb i) rfl rfl rfl rfl rfl hz
theorem r187_38 : Rw 187 38 41 3 22 3 (cd 1) 32769 := rw_of (by decide +kernel)
theorem r187_41 : Rw 187 41 44 3 60 22 0 0 := rw_of (by decide +kernel)
theorem r187_44 : Rw 187 44 45 1 14 0 0 0 := rw_of (by decide +kernel)
theorem r187_45 : Rw 187 45 48 3 80 5 3 9 := rw_of (by decide +kernel)
theorem fd_10_3 : Fdl 10 5 3 3 2 := fd_of (by decide) rfl (by decide +kernel)
theorem bf_10_3 {M : Mm} (h : Pw M) : 11 ≤ M 10 3 ∧ M 10 3 ≤ 11 := (h 10 3 (by decide) (by decide) (by decide) (by decide +kernel)).get0 g_10_3 rfl rfl rfl rfl
theorem br_10_3 {M : Mm} (h : Pw M) : M 10 3 = 11 := by have := bf_10_3 h; omega
theorem r187_48 : Rw 187 48 49 1 1 (cd 0) 1 0 := rw_of (by decide +kernel)
theorem r187_49 : Rw 187 49 52 3 102 265 2 104 := rw_of (by decide +kernel)
theorem ar_11 : Ar 11 100 7 := ar_of (by decide) (by decide) (by decide +kernel)
theorem ba_11 {M : Mm} (h : Pw M) {i : Int} (h0 : 0 ≤ i) (h1 : i < 7) : 0 ≤ M 11 i ∧ M 11 i ≤ 1 := (h 11 i (by decide) (by decide) h0 (by rw [ar_11.2.2.2.1]; exact h1)).get0 (gr_11 (by decide) (by decide) i) rfl rfl rfl rfl
theorem ga_11 (i : Int) : grp 11 i = 63 := gr_11 (by decide) (by decide) i
theorem ua_11 {i z : Int} (hz : 0 ≤ z ∧ z ≤ 1) : Bd 11 i z := Bd.of0 (gr_11 (by decide) (by decide) i) rfl rfl rfl rfl rfl hz
theorem r187_52 : Rw 187 52 53 1 77 0 0 0 := rw_of (by decide +kernel)
theorem kc_10_187 : Kc 10 187 := kc_of (by decide) (by decide +kernel)
theorem bf_10_9 {M : Mm} (h : Pw M) : 0 ≤ M 10 9 ∧ M 10 9 ≤ 3000 := (h 10 9 (by decide) (by decide) (by decide) (by decide +kernel)).get0 g_10_9 rfl rfl rfl rfl
theorem r205_12 : Rw 205 12 13 1 14 0 0 0 := rw_of (by decide +kernel)
theorem r205_13 : Rw 205 13 16 3 80 5 6 25 := rw_of (by decide +kernel)
theorem fd_10_6 : Fdl 10 5 6 6 2 := fd_of (by decide) rfl (by decide +kernel)
theorem bf_10_6 {M : Mm} (h : Pw M) : 14 ≤ M 10 6 ∧ M 10 6 ≤ 14 := (h 10 6 (by decide) (by decide) (by decide) (by decide +kernel)).get0 g_10_6 rfl rfl rfl rfl
theorem br_10_6 {M : Mm} (h : Pw M) : M 10 6 = 14 := by have := bf_10_6 h; omega
theorem r205_16 : Rw 205 16 17 1 14 1 0 0 := rw_of (by decide +kernel)
theorem r205_17 : Rw 205 17 20 3 100 5 2 61 := rw_of (by decide +kernel)
theorem r5_0 : Rw 5 0 1 1 1 (cd 0) 1 0 := rw_of (by decide +kernel)
theorem r5_1 : Rw 5 1 2 1 16 2 0 0 := rw_of (by decide +kernel)
theorem r5_2 : Rw 5 2 3 1 10 2 0 0 := rw_of (by decide +kernel)
theorem r5_3 : Rw 5 3 5 2 2 (cd 7) 135 0 := rw_of (by decide +kernel)
theorem r5_5 : Rw 5 5 8 3 70 38 0 0 := rw_of (by decide +kernel)
theorem r5_8 : Rw 5 8 9 1 14 0 0 0 := rw_of (by decide +kernel)
theorem r5_9 : Rw 5 9 12 3 80 10 0 9 := rw_of (by decide +kernel)
theorem fd_14_0 : Fdl 14 10 0 0 2 := fd_of (by decide) rfl (by decide +kernel)
theorem bf_14_0 {M : Mm} (h : Pw M) : 15 ≤ M 14 0 ∧ M 14 0 ≤ 15 := (h 14 0 (by decide) (by decide) (by decide) (by decide +kernel)).get0 g_14_0 rfl rfl rfl rfl
theorem br_14_0 {M : Mm} (h : Pw M) : M 14 0 = 15 := by have := bf_14_0 h; omega
theorem r5_12 : Rw 5 12 13 1 10 2 0 0 := rw_of (by decide +kernel)
theorem r5_13 : Rw 5 13 14 1 10 2 0 0 := rw_of (by decide +kernel)
theorem r5_14 : Rw 5 14 15 1 14 1 0 0 := rw_of (by decide +kernel)
theorem r5_15 : Rw 5 15 18 3 80 4 1 15 := rw_of (by decide +kernel)
theorem r5_18 : Rw 5 18 21 3 70 30 0 0 := rw_of (by decide +kernel)
theorem r5_30 : Rw 5 30 31 1 1 (cd 0) 1 0 := rw_of (by decide +kernel)
theorem r5_31 : Rw 5 31 32 1 88 0 0 0 := rw_of (by decide +kernel)
theorem ar_15 : Ar 15 100 7 := ar_of (by decide) (by decide) (by decide +kernel)
theorem ba_15 {M : Mm} (h : Pw M) {i : Int} (h0 : 0 ≤ i) (h1 : i < 7) : 0 ≤ M 15 i ∧ M 15 i ≤ 5 := (h 15 i (by decide) (by decide) h0 (by rw [ar_15.2.2.2.1]; exact h1)).get0 (gr_15 (by decide) (by decide) i) rfl rfl rfl rfl
theorem ga_15 (i : Int) : grp 15 i = 70 := gr_15 (by decide) (by decide) i
theorem ua_15 {i z : Int} (hz : 0 ≤ z ∧ z ≤ 5) : Bd 15 i z := Bd.of0 (gr_15 (by decide) (by decide) i) rfl rfl rfl rfl rfl hz
theorem r5_32 : Rw 5 32 35 3 22 2 (cd 1) 32769 := rw_of (by decide +kernel)
theorem r5_35 : Rw 5 35 38 3 60 2 0 0 := rw_of (by decide +kernel)
theorem r5_21 : Rw 5 21 22 1 14 1 0 0 := rw_of (by decide +kernel)
theorem r5_22 : Rw 5 22 23 1 10 2 0 0 := rw_of (by decide +kernel)
theorem r5_23 : Rw 5 23 24 1 1 (cd (-1)) 0 0 := rw_of (by decide +kernel)
theorem r5_24 : Rw 5 24 27 3 100 177 3 21 := rw_of (by decide +kernel)
theorem r177_0 : Rw 177 0 1 1 10 2 0 0 := rw_of (by decide +kernel)
theorem r177_1 : Rw 177 1 2 1 1 (cd 1) 2 0 := rw_of (by decide +kernel)
theorem r177_2 : Rw 177 2 3 1 30 0 0 0 := rw_of (by decide +kernel)
theorem r177_3 : Rw 177 3 4 1 16 3 0 0 := rw_of (by decide +kernel)
theorem r177_4 : Rw 177 4 5 1 10 3 0 0 := rw_of (by decide +kernel)
theorem r177_5 : Rw 177 5 7 2 2 (cd 6) 134 0 := rw_of (by decide +kernel)
theorem r177_7 : Rw 177 7 10 3 70 36 0 0 := rw_of (by decide +kernel)
theorem r177_10 : Rw 177 10 11 1 14 0 0 0 := rw_of (by decide +kernel)
theorem r177_11 : Rw 177 11 14 3 80 4 0 9 := rw_of (by decide +kernel)
theorem r177_14 : Rw 177 14 15 1 10 1 0 0 := rw_of (by decide +kernel)
theorem r177_15 : Rw 177 15 16 1 83 0 0 0 := rw_of (by decide +kernel)
theorem r177_16 : Rw 177 16 19 3 9 0 0 63 := rw_of (by decide +kernel)
theorem r177_19 : Rw 177 19 20 1 10 3 0 0 := rw_of (by decide +kernel)
theorem r177_20 : Rw 177 20 21 1 23 0 0 0 := rw_of (by decide +kernel)
theorem r177_21 : Rw 177 21 22 1 37 0 0 0 := rw_of (by decide +kernel)
theorem pwl_0 : pw 0 = 1 := by decide
theorem r177_22 : Rw 177 22 23 1 1 (cd 1) 2 0 := rw_of (by decide +kernel)
theorem r177_23 : Rw 177 23 24 1 33 0 0 0 := rw_of (by decide +kernel)
theorem r177_24 : Rw 177 24 25 1 1 (cd 1) 2 0 := rw_of (by decide +kernel)
theorem r177_25 : Rw 177 25 28 3 68 30 0 0 := rw_of (by decide +kernel)
theorem r177_30 : Rw 177 30 33 3 22 3 (cd 1) 32769 := rw_of (by decide +kernel)
theorem r177_33 : Rw 177 33 36 3 60 4 0 0 := rw_of (by decide +kernel)
theorem pwl_1 : pw 1 = 2 := by decide
theorem r177_28 : Rw 177 28 29 1 10 3 0 0 := rw_of (by decide +kernel)
theorem r177_29 : Rw 177 29 30 1 74 0 0 0 := rw_of (by decide +kernel)
theorem kc_2_177 : Kc 2 177 := kc_of (by decide) (by decide +kernel)
theorem r5_27 : Rw 5 27 30 3 60 31 0 0 := rw_of (by decide +kernel)
theorem r5_38 : Rw 5 38 39 1 14 0 0 0 := rw_of (by decide +kernel)
theorem r5_39 : Rw 5 39 40 1 1 (cd 0) 1 0 := rw_of (by decide +kernel)
theorem r5_40 : Rw 5 40 43 3 81 10 1 0 := rw_of (by decide +kernel)
theorem fd_14_1 : Fdl 14 10 1 1 0 := fd_of (by decide) rfl (by decide +kernel)
theorem uf_14_1 {z : Int} (hz : 0 ≤ z ∧ z ≤ 3) : Bd 14 1 z := Bd.of0 g_14_1 rfl rfl rfl rfl rfl hz
theorem r5_43 : Rw 5 43 44 1 14 0 0 0 := rw_of (by decide +kernel)
theorem r5_44 : Rw 5 44 45 1 14 1 0 0 := rw_of (by decide +kernel)
theorem r5_45 : Rw 5 45 48 3 100 179 1 28 := rw_of (by decide +kernel)
theorem bf_2_3 {M : Mm} (h : Pw M) : (-1) ≤ M 2 3 ∧ M 2 3 ≤ 6 := (h 2 3 (by decide) (by decide) (by decide) (by decide +kernel)).get0 g_2_3 rfl rfl rfl rfl
theorem kc_2_179 : Kc 2 179 := kc_of (by decide) (by decide +kernel)
theorem r5_48 : Rw 5 48 51 3 81 10 2 0 := rw_of (by decide +kernel)
theorem fd_14_2 : Fdl 14 10 2 2 0 := fd_of (by decide) rfl (by decide +kernel)
theorem uf_14_2 {z : Int} (hz : 0 ≤ z ∧ z ≤ 6) : Bd 14 2 z := Bd.of0 g_14_2 rfl rfl rfl rfl rfl hz
theorem r5_51 : Rw 5 51 52 1 14 0 0 0 := rw_of (by decide +kernel)
theorem r5_52 : Rw 5 52 53 1 1 (cd 0) 1 0 := rw_of (by decide +kernel)
theorem r5_53 : Rw 5 53 56 3 81 10 3 0 := rw_of (by decide +kernel)
theorem fd_14_3 : Fdl 14 10 3 3 0 := fd_of (by decide) rfl (by decide +kernel)
theorem uf_14_3 {z : Int} (hz : 0 ≤ z ∧ z ≤ 1) : Bd 14 3 z := Bd.of0 g_14_3 rfl rfl rfl rfl rfl hz
theorem r5_56 : Rw 5 56 57 1 77 0 0 0 := rw_of (by decide +kernel)
theorem kc_14_5 : Kc 14 5 := kc_of (by decide) (by decide +kernel)
theorem r205_20 : Rw 205 20 21 1 14 1 0 0 := rw_of (by decide +kernel)
theorem r205_21 : Rw 205 21 24 3 100 184 1 65 := rw_of (by decide +kernel)
theorem bf_2_2 {M : Mm} (h : Pw M) : (-1) ≤ M 2 2 ∧ M 2 2 ≤ 4 := (h 2 2 (by decide) (by decide) (by decide) (by decide +kernel)).get0 g_2_2 rfl rfl rfl rfl
theorem bf_2_5 {M : Mm} (h : Pw M) : 0 ≤ M 2 5 ∧ M 2 5 ≤ 1 := (h 2 5 (by decide) (by decide) (by decide) (by decide +kernel)).get0 g_2_5 rfl rfl rfl rfl
theorem kc_2_181 : Kc 2 181 := kc_of (by decide) (by decide +kernel)
theorem bf_2_6 {M : Mm} (h : Pw M) : 0 ≤ M 2 6 ∧ M 2 6 ≤ 1 := (h 2 6 (by decide) (by decide) (by decide) (by decide +kernel)).get0 g_2_6 rfl rfl rfl rfl
theorem kc_2_182 : Kc 2 182 := kc_of (by decide) (by decide +kernel)
theorem kc_2_184 : Kc 2 184 := kc_of (by decide) (by decide +kernel)
theorem r205_24 : Rw 205 24 25 1 14 0 0 0 := rw_of (by decide +kernel)
theorem r205_25 : Rw 205 25 28 3 80 5 1 47 := rw_of (by decide +kernel)
theorem fd_10_1 : Fdl 10 5 1 1 2 := fd_of (by decide) rfl (by decide +kernel)
theorem bf_10_1 {M : Mm} (h : Pw M) : 136 ≤ M 10 1 ∧ M 10 1 ≤ 136 := (h 10 1 (by decide) (by decide) (by decide) (by decide +kernel)).get0 g_10_1 rfl rfl rfl rfl
theorem br_10_1 {M : Mm} (h : Pw M) : M 10 1 = 136 := by have := bf_10_1 h; omega
theorem r205_28 : Rw 205 28 29 1 92 0 0 0 := rw_of (by decide +kernel)
theorem ar_136 : Ar 136 100 3000 := ar_of (by decide) (by decide) (by decide +kernel)
theorem ba_136 {M : Mm} (h : Pw M) {i : Int} (h0 : 0 ≤ i) (h1 : i < 3000) : 0 ≤ M 136 i ∧ M 136 i ≤ 134217727 := (h 136 i (by decide) (by decide) h0 (by rw [ar_136.2.2.2.1]; exact h1)).get0 (gr_136 (by decide) (by decide) i) rfl rfl rfl rfl
theorem ga_136 (i : Int) : grp 136 i = 73 := gr_136 (by decide) (by decide) i
theorem r205_29 : Rw 205 29 32 3 114 0 0 68 := rw_of (by decide +kernel)
theorem r205_32 : Rw 205 32 33 1 16 2 0 0 := rw_of (by decide +kernel)
theorem r205_33 : Rw 205 33 34 1 1 (cd 0) 1 0 := rw_of (by decide +kernel)
theorem r205_34 : Rw 205 34 35 1 16 3 0 0 := rw_of (by decide +kernel)
theorem r205_35 : Rw 205 35 36 1 10 3 0 0 := rw_of (by decide +kernel)
theorem r205_36 : Rw 205 36 37 1 10 2 0 0 := rw_of (by decide +kernel)
theorem r205_37 : Rw 205 37 40 3 70 73 0 0 := rw_of (by decide +kernel)
theorem r205_73 : Rw 205 73 74 1 77 0 0 0 := rw_of (by decide +kernel)
theorem r205_40 : Rw 205 40 41 1 14 0 0 0 := rw_of (by decide +kernel)
theorem r205_41 : Rw 205 41 42 1 14 0 0 0 := rw_of (by decide +kernel)
theorem r205_42 : Rw 205 42 45 3 80 5 6 25 := rw_of (by decide +kernel)
theorem r205_45 : Rw 205 45 48 3 100 7 1 74 := rw_of (by decide +kernel)
theorem r7_0 : Rw 7 0 1 1 14 0 0 0 := rw_of (by decide +kernel)
theorem r7_1 : Rw 7 1 4 3 80 10 3 35 := rw_of (by decide +kernel)
theorem bf_14_3 {M : Mm} (h : Pw M) : 0 ≤ M 14 3 ∧ M 14 3 ≤ 1 := (h 14 3 (by decide) (by decide) (by decide) (by decide +kernel)).get0 g_14_3 rfl rfl rfl rfl
theorem r7_4 : Rw 7 4 6 2 2 (cd 26) 154 0 := rw_of (by decide +kernel)
theorem r7_6 : Rw 7 6 7 1 36 0 0 0 := rw_of (by decide +kernel)
theorem pwl_26 : pw 26 = 67108864 := by decide
theorem r7_7 : Rw 7 7 8 1 14 0 0 0 := rw_of (by decide +kernel)
theorem r7_8 : Rw 7 8 11 3 80 10 2 32 := rw_of (by decide +kernel)
theorem bf_14_2 {M : Mm} (h : Pw M) : 0 ≤ M 14 2 ∧ M 14 2 ≤ 6 := (h 14 2 (by decide) (by decide) (by decide) (by decide +kernel)).get0 g_14_2 rfl rfl rfl rfl
theorem r7_11 : Rw 7 11 13 2 2 (cd 23) 151 0 := rw_of (by decide +kernel)
theorem r7_13 : Rw 7 13 14 1 36 0 0 0 := rw_of (by decide +kernel)
theorem pwl_23 : pw 23 = 8388608 := by decide
theorem r7_14 : Rw 7 14 15 1 34 0 0 0 := rw_of (by decide +kernel)
theorem r7_15 : Rw 7 15 16 1 14 0 0 0 := rw_of (by decide +kernel)
theorem r7_16 : Rw 7 16 19 3 80 10 1 25 := rw_of (by decide +kernel)
theorem bf_14_1 {M : Mm} (h : Pw M) : 0 ≤ M 14 1 ∧ M 14 1 ≤ 3 := (h 14 1 (by decide) (by decide) (by decide) (by decide +kernel)).get0 g_14_1 rfl rfl rfl rfl
theorem r7_19 : Rw 7 19 21 2 2 (cd 21) 149 0 := rw_of (by decide +kernel)
theorem r7_21 : Rw 7 21 22 1 36 0 0 0 := rw_of (by decide +kernel)
theorem pwl_21 : pw 21 = 2097152 := by decide
theorem r7_22 : Rw 7 22 23 1 34 0 0 0 := rw_of (by decide +kernel)
theorem r7_23 : Rw 7 23 24 1 16 1 0 0 := rw_of (by decide +kernel)
theorem r7_24 : Rw 7 24 25 1 1 (cd 0) 1 0 := rw_of (by decide +kernel)
theorem r7_25 : Rw 7 25 26 1 16 2 0 0 := rw_of (by decide +kernel)
theorem r7_26 : Rw 7 26 27 1 10 2 0 0 := rw_of (by decide +kernel)
theorem r7_27 : Rw 7 27 29 2 2 (cd 7) 135 0 := rw_of (by decide +kernel)
theorem r7_29 : Rw 7 29 32 3 70 51 0 0 := rw_of (by decide +kernel)
theorem r7_32 : Rw 7 32 33 1 10 1 0 0 := rw_of (by decide +kernel)
theorem r7_33 : Rw 7 33 34 1 14 0 0 0 := rw_of (by decide +kernel)
theorem r7_34 : Rw 7 34 37 3 80 10 0 9 := rw_of (by decide +kernel)
theorem r7_37 : Rw 7 37 38 1 10 2 0 0 := rw_of (by decide +kernel)
theorem r7_38 : Rw 7 38 39 1 83 0 0 0 := rw_of (by decide +kernel)
theorem r7_39 : Rw 7 39 40 1 1 (cd 3) 4 0 := rw_of (by decide +kernel)
theorem r7_40 : Rw 7 40 41 1 10 2 0 0 := rw_of (by decide +kernel)
theorem r7_41 : Rw 7 41 42 1 32 0 0 0 := rw_of (by decide +kernel)
theorem r7_42 : Rw 7 42 43 1 36 0 0 0 := rw_of (by decide +kernel)
theorem r7_43 : Rw 7 43 44 1 34 0 0 0 := rw_of (by decide +kernel)
theorem r7_44 : Rw 7 44 45 1 16 1 0 0 := rw_of (by decide +kernel)
theorem r7_45 : Rw 7 45 48 3 22 2 (cd 1) 32769 := rw_of (by decide +kernel)
theorem r7_48 : Rw 7 48 51 3 60 26 0 0 := rw_of (by decide +kernel)
theorem r7_51 : Rw 7 51 52 1 10 1 0 0 := rw_of (by decide +kernel)
theorem r7_52 : Rw 7 52 53 1 74 0 0 0 := rw_of (by decide +kernel)
theorem pwl_18 : pw 18 = 262144 := by decide
theorem kc_14_7 : Kc 14 7 := kc_of (by decide) (by decide +kernel)
theorem r205_48 : Rw 205 48 49 1 14 0 0 0 := rw_of (by decide +kernel)
theorem r205_49 : Rw 205 49 52 3 80 5 6 25 := rw_of (by decide +kernel)
theorem r205_52 : Rw 205 52 53 1 14 1 0 0 := rw_of (by decide +kernel)
theorem r205_53 : Rw 205 53 56 3 100 8 2 76 := rw_of (by decide +kernel)
theorem r8_0 : Rw 8 0 1 1 1 (cd 0) 1 0 := rw_of (by decide +kernel)
theorem r8_1 : Rw 8 1 2 1 16 2 0 0 := rw_of (by decide +kernel)
theorem r8_2 : Rw 8 2 3 1 1 (cd 0) 1 0 := rw_of (by decide +kernel)
theorem r8_3 : Rw 8 3 4 1 16 3 0 0 := rw_of (by decide +kernel)
theorem r8_4 : Rw 8 4 5 1 10 3 0 0 := rw_of (by decide +kernel)
theorem r8_5 : Rw 8 5 6 1 14 1 0 0 := rw_of (by decide +kernel)
theorem r8_6 : Rw 8 6 9 3 80 4 1 15 := rw_of (by decide +kernel)
theorem r8_9 : Rw 8 9 12 3 70 59 0 0 := rw_of (by decide +kernel)
theorem r8_59 : Rw 8 59 60 1 10 2 0 0 := rw_of (by decide +kernel)
theorem r8_60 : Rw 8 60 61 1 74 0 0 0 := rw_of (by decide +kernel)
theorem r8_12 : Rw 8 12 13 1 14 1 0 0 := rw_of (by decide +kernel)
theorem r8_13 : Rw 8 13 16 3 80 4 0 51 := rw_of (by decide +kernel)
theorem r8_16 : Rw 8 16 17 1 10 3 0 0 := rw_of (by decide +kernel)
theorem r8_17 : Rw 8 17 18 1 83 0 0 0 := rw_of (by decide +kernel)
theorem r8_18 : Rw 8 18 19 1 1 (cd 1) 2 0 := rw_of (by decide +kernel)
theorem r8_19 : Rw 8 19 22 3 9 0 0 54 := rw_of (by decide +kernel)
theorem r8_22 : Rw 8 22 23 1 14 0 0 0 := rw_of (by decide +kernel)
theorem r8_23 : Rw 8 23 26 3 80 10 0 9 := rw_of (by decide +kernel)
theorem r8_26 : Rw 8 26 27 1 10 3 0 0 := rw_of (by decide +kernel)
theorem r8_27 : Rw 8 27 28 1 83 0 0 0 := rw_of (by decide +kernel)
theorem r8_28 : Rw 8 28 29 1 23 0 0 0 := rw_of (by decide +kernel)
theorem r8_29 : Rw 8 29 30 1 36 0 0 0 := rw_of (by decide +kernel)
theorem r8_30 : Rw 8 30 31 1 1 (cd 1) 2 0 := rw_of (by decide +kernel)
theorem r8_31 : Rw 8 31 32 1 31 0 0 0 := rw_of (by decide +kernel)
theorem r8_32 : Rw 8 32 33 1 33 0 0 0 := rw_of (by decide +kernel)
theorem r8_33 : Rw 8 33 35 2 17 4 0 0 := rw_of (by decide +kernel)
theorem r8_35 : Rw 8 35 36 1 10 2 0 0 := rw_of (by decide +kernel)
theorem r8_36 : Rw 8 36 37 1 14 1 0 0 := rw_of (by decide +kernel)
theorem r8_37 : Rw 8 37 40 3 80 4 0 51 := rw_of (by decide +kernel)
theorem r8_40 : Rw 8 40 41 1 10 3 0 0 := rw_of (by decide +kernel)
theorem r8_41 : Rw 8 41 42 1 83 0 0 0 := rw_of (by decide +kernel)
theorem r8_42 : Rw 8 42 45 3 102 246 1 57 := rw_of (by decide +kernel)
theorem r8_45 : Rw 8 45 46 1 32 0 0 0 := rw_of (by decide +kernel)
theorem r8_46 : Rw 8 46 48 2 11 4 0 0 := rw_of (by decide +kernel)
theorem r8_48 : Rw 8 48 51 3 102 246 1 57 := rw_of (by decide +kernel)
theorem r8_51 : Rw 8 51 52 1 30 0 0 0 := rw_of (by decide +kernel)
theorem r8_52 : Rw 8 52 53 1 16 2 0 0 := rw_of (by decide +kernel)
theorem r8_53 : Rw 8 53 56 3 22 3 (cd 1) 32769 := rw_of (by decide +kernel)
theorem r8_56 : Rw 8 56 59 3 60 4 0 0 := rw_of (by decide +kernel)
theorem kc_14_8 : Kc 14 8 := kc_of (by decide) (by decide +kernel)
theorem r205_56 : Rw 205 56 59 3 100 202 3 79 := rw_of (by decide +kernel)
theorem r202_0 : Rw 202 0 1 1 14 0 0 0 := rw_of (by decide +kernel)
theorem r202_1 : Rw 202 1 4 3 80 5 9 36 := rw_of (by decide +kernel)
theorem r202_4 : Rw 202 4 5 1 16 3 0 0 := rw_of (by decide +kernel)
theorem r202_5 : Rw 202 5 6 1 14 0 0 0 := rw_of (by decide +kernel)
theorem r202_6 : Rw 202 6 9 3 80 5 1 47 := rw_of (by decide +kernel)
theorem r202_9 : Rw 202 9 10 1 10 3 0 0 := rw_of (by decide +kernel)
theorem r202_10 : Rw 202 10 11 1 10 1 0 0 := rw_of (by decide +kernel)
theorem r202_11 : Rw 202 11 12 1 88 0 0 0 := rw_of (by decide +kernel)
theorem ua_136 {i z : Int} (hz : 0 ≤ z ∧ z ≤ 134217727) : Bd 136 i z := Bd.of0 (gr_136 (by decide) (by decide) i) rfl rfl rfl rfl rfl hz
theorem r202_12 : Rw 202 12 13 1 14 0 0 0 := rw_of (by decide +kernel)
theorem r202_13 : Rw 202 13 16 3 80 5 2 50 := rw_of (by decide +kernel)
theorem fd_10_2 : Fdl 10 5 2 2 2 := fd_of (by decide) rfl (by decide +kernel)
theorem bf_10_2 {M : Mm} (h : Pw M) : 137 ≤ M 10 2 ∧ M 10 2 ≤ 137 := (h 10 2 (by decide) (by decide) (by decide) (by decide +kernel)).get0 g_10_2 rfl rfl rfl rfl
theorem br_10_2 {M : Mm} (h : Pw M) : M 10 2 = 137 := by have := bf_10_2 h; omega
theorem r202_16 : Rw 202 16 17 1 10 3 0 0 := rw_of (by decide +kernel)
theorem r202_17 : Rw 202 17 18 1 10 2 0 0 := rw_of (by decide +kernel)
theorem r202_18 : Rw 202 18 19 1 88 0 0 0 := rw_of (by decide +kernel)
theorem ar_137 : Ar 137 100 3000 := ar_of (by decide) (by decide) (by decide +kernel)
theorem ga_137 (i : Int) : grp 137 i = 74 := gr_137 (by decide) (by decide) i
theorem ua_137 {i z : Int} (hz : 0 ≤ z ∧ z ≤ 2999) : Bd 137 i z := Bd.of0 (gr_137 (by decide) (by decide) i) rfl rfl rfl rfl rfl hz
theorem r202_19 : Rw 202 19 20 1 14 0 0 0 := rw_of (by decide +kernel)
theorem r202_20 : Rw 202 20 21 1 52 0 0 0 := rw_of (by decide +kernel)
theorem r202_21 : Rw 202 21 24 3 80 5 9 36 := rw_of (by decide +kernel)
theorem r202_24 : Rw 202 24 25 1 1 (cd 1) 2 0 := rw_of (by decide +kernel)
theorem r202_25 : Rw 202 25 26 1 30 0 0 0 := rw_of (by decide +kernel)
theorem r202_26 : Rw 202 26 29 3 81 5 9 0 := rw_of (by decide +kernel)
theorem r202_29 : Rw 202 29 30 1 14 0 0 0 := rw_of (by decide +kernel)
theorem r202_30 : Rw 202 30 31 1 14 0 0 0 := rw_of (by decide +kernel)
theorem r202_31 : Rw 202 31 34 3 80 5 9 36 := rw_of (by decide +kernel)
theorem r202_34 : Rw 202 34 36 2 2 (cd 63) 191 0 := rw_of (by decide +kernel)
theorem r202_36 : Rw 202 36 37 1 30 0 0 0 := rw_of (by decide +kernel)
theorem r202_37 : Rw 202 37 39 2 2 (cd 6) 134 0 := rw_of (by decide +kernel)
theorem r202_39 : Rw 202 39 40 1 37 0 0 0 := rw_of (by decide +kernel)
theorem r202_40 : Rw 202 40 43 3 81 5 10 0 := rw_of (by decide +kernel)
theorem r202_43 : Rw 202 43 44 1 14 0 0 0 := rw_of (by decide +kernel)
theorem r202_44 : Rw 202 44 47 3 80 5 5 19 := rw_of (by decide +kernel)
theorem fd_10_5 : Fdl 10 5 5 5 2 := fd_of (by decide) rfl (by decide +kernel)
theorem bf_10_5 {M : Mm} (h : Pw M) : 13 ≤ M 10 5 ∧ M 10 5 ≤ 13 := (h 10 5 (by decide) (by decide) (by decide) (by decide +kernel)).get0 g_10_5 rfl rfl rfl rfl
theorem br_10_5 {M : Mm} (h : Pw M) : M 10 5 = 13 := by have := bf_10_5 h; omega
theorem r202_47 : Rw 202 47 48 1 1 (cd 0) 1 0 := rw_of (by decide +kernel)
theorem r202_48 : Rw 202 48 51 3 102 265 2 104 := rw_of (by decide +kernel)
theorem ar_13 : Ar 13 100 5 := ar_of (by decide) (by decide) (by decide +kernel)
theorem ba_13 {M : Mm} (h : Pw M) {i : Int} (h0 : 0 ≤ i) (h1 : i < 5) : 0 ≤ M 13 i ∧ M 13 i ≤ 7 := (h 13 i (by decide) (by decide) h0 (by rw [ar_13.2.2.2.1]; exact h1)).get0 (gr_13 (by decide) (by decide) i) rfl rfl rfl rfl
theorem ga_13 (i : Int) : grp 13 i = 65 := gr_13 (by decide) (by decide) i
theorem ua_13 {i z : Int} (hz : 0 ≤ z ∧ z ≤ 7) : Bd 13 i z := Bd.of0 (gr_13 (by decide) (by decide) i) rfl rfl rfl rfl rfl hz
theorem r202_51 : Rw 202 51 52 1 1 (cd 0) 1 0 := rw_of (by decide +kernel)
theorem r202_52 : Rw 202 52 54 2 17 4 0 0 := rw_of (by decide +kernel)
theorem r202_54 : Rw 202 54 56 2 11 4 0 0 := rw_of (by decide +kernel)
theorem r202_56 : Rw 202 56 57 1 14 0 0 0 := rw_of (by decide +kernel)
theorem r202_57 : Rw 202 57 60 3 80 5 7 29 := rw_of (by decide +kernel)
theorem bf_10_7 {M : Mm} (h : Pw M) : (-1) ≤ M 10 7 ∧ M 10 7 ≤ 7 := (h 10 7 (by decide) (by decide) (by decide) (by decide +kernel)).get0 g_10_7 rfl rfl rfl rfl
theorem r202_60 : Rw 202 60 63 3 70 76 0 0 := rw_of (by decide +kernel)
theorem r202_76 : Rw 202 76 77 1 1 (cd 0) 1 0 := rw_of (by decide +kernel)
theorem r202_77 : Rw 202 77 79 2 17 4 0 0 := rw_of (by decide +kernel)
theorem r202_79 : Rw 202 79 81 2 11 4 0 0 := rw_of (by decide +kernel)
theorem r202_81 : Rw 202 81 82 1 1 (cd 5) 6 0 := rw_of (by decide +kernel)
theorem r202_82 : Rw 202 82 85 3 70 112 0 0 := rw_of (by decide +kernel)
theorem r202_85 : Rw 202 85 86 1 14 0 0 0 := rw_of (by decide +kernel)
theorem r202_86 : Rw 202 86 88 2 2 (cd 48) 176 0 := rw_of (by decide +kernel)
theorem r202_88 : Rw 202 88 90 2 11 4 0 0 := rw_of (by decide +kernel)
theorem r202_90 : Rw 202 90 92 2 2 (cd 8) 136 0 := rw_of (by decide +kernel)
theorem r202_92 : Rw 202 92 93 1 32 0 0 0 := rw_of (by decide +kernel)
theorem r202_93 : Rw 202 93 94 1 30 0 0 0 := rw_of (by decide +kernel)
theorem r202_94 : Rw 202 94 95 1 14 0 0 0 := rw_of (by decide +kernel)
theorem r202_95 : Rw 202 95 98 3 80 5 5 19 := rw_of (by decide +kernel)
theorem r202_98 : Rw 202 98 100 2 11 4 0 0 := rw_of (by decide +kernel)
theorem r202_100 : Rw 202 100 101 1 83 0 0 0 := rw_of (by decide +kernel)
theorem r202_101 : Rw 202 101 102 1 30 0 0 0 := rw_of (by decide +kernel)
theorem r202_102 : Rw 202 102 103 1 10 3 0 0 := rw_of (by decide +kernel)
theorem r202_103 : Rw 202 103 106 3 100 204 3 95 := rw_of (by decide +kernel)
theorem r204_0 : Rw 204 0 1 1 14 0 0 0 := rw_of (by decide +kernel)
theorem r204_1 : Rw 204 1 4 3 80 5 0 44 := rw_of (by decide +kernel)
theorem r204_4 : Rw 204 4 5 1 10 1 0 0 := rw_of (by decide +kernel)
theorem r204_5 : Rw 204 5 6 1 87 0 0 0 := rw_of (by decide +kernel)
theorem r204_6 : Rw 204 6 7 1 10 2 0 0 := rw_of (by decide +kernel)
theorem r204_7 : Rw 204 7 9 2 2 (cd 6) 134 0 := rw_of (by decide +kernel)
theorem r204_9 : Rw 204 9 10 1 37 0 0 0 := rw_of (by decide +kernel)
theorem r204_10 : Rw 204 10 11 1 54 0 0 0 := rw_of (by decide +kernel)
theorem r204_11 : Rw 204 11 12 1 84 0 0 0 := rw_of (by decide +kernel)
theorem r204_12 : Rw 204 12 13 1 6 1 0 0 := rw_of (by decide +kernel)
theorem r204_13 : Rw 204 13 14 1 10 2 0 0 := rw_of (by decide +kernel)
theorem r204_14 : Rw 204 14 16 2 2 (cd 63) 191 0 := rw_of (by decide +kernel)
theorem r204_16 : Rw 204 16 17 1 33 0 0 0 := rw_of (by decide +kernel)
theorem r204_17 : Rw 204 17 18 1 46 0 0 0 := rw_of (by decide +kernel)
theorem r204_18 : Rw 204 18 19 1 44 0 0 0 := rw_of (by decide +kernel)
theorem r204_19 : Rw 204 19 20 1 89 0 0 0 := rw_of (by decide +kernel)
theorem r204_20 : Rw 204 20 21 1 77 0 0 0 := rw_of (by decide +kernel)
theorem kc_10_204 : Kc 10 204 := kc_of (by decide) (by decide +kernel)
theorem r202_106 : Rw 202 106 109 3 22 4 (cd 1) 32769 := rw_of (by decide +kernel)
theorem r202_109 : Rw 202 109 112 3 60 79 0 0 := rw_of (by decide +kernel)
theorem r202_112 : Rw 202 112 113 1 14 0 0 0 := rw_of (by decide +kernel)
theorem r202_113 : Rw 202 113 115 2 2 (cd 35) 163 0 := rw_of (by decide +kernel)
theorem r202_115 : Rw 202 115 116 1 14 0 0 0 := rw_of (by decide +kernel)
theorem r202_116 : Rw 202 116 117 1 10 3 0 0 := rw_of (by decide +kernel)
theorem r202_117 : Rw 202 117 118 1 1 (cd 1) 2 0 := rw_of (by decide +kernel)
theorem r202_118 : Rw 202 118 121 3 100 186 3 110 := rw_of (by decide +kernel)
theorem r186_0 : Rw 186 0 1 1 10 2 0 0 := rw_of (by decide +kernel)
theorem r186_1 : Rw 186 1 4 3 73 8 0 0 := rw_of (by decide +kernel)
theorem r186_28 : Rw 186 28 29 1 14 0 0 0 := rw_of (by decide +kernel)
theorem r186_29 : Rw 186 29 32 3 80 5 1 47 := rw_of (by decide +kernel)
theorem r186_32 : Rw 186 32 33 1 10 1 0 0 := rw_of (by decide +kernel)
theorem r186_33 : Rw 186 33 34 1 83 0 0 0 := rw_of (by decide +kernel)
theorem r186_34 : Rw 186 34 36 2 2 (cd 21) 149 0 := rw_of (by decide +kernel)
theorem r186_36 : Rw 186 36 37 1 37 0 0 0 := rw_of (by decide +kernel)
theorem r186_37 : Rw 186 37 38 1 1 (cd 3) 4 0 := rw_of (by decide +kernel)
theorem r186_38 : Rw 186 38 39 1 33 0 0 0 := rw_of (by decide +kernel)
theorem r186_39 : Rw 186 39 40 1 74 0 0 0 := rw_of (by decide +kernel)
theorem kc_10_186 : Kc 10 186 := kc_of (by decide) (by decide +kernel)
theorem r202_121 : Rw 202 121 122 1 30 0 0 0 := rw_of (by decide +kernel)
theorem r202_122 : Rw 202 122 123 1 10 3 0 0 := rw_of (by decide +kernel)
theorem r202_123 : Rw 202 123 126 3 100 204 3 95 := rw_of (by decide +kernel)
theorem r202_126 : Rw 202 126 127 1 14 0 0 0 := rw_of (by decide +kernel)
theorem r202_127 : Rw 202 127 129 2 2 (cd 39) 167 0 := rw_of (by decide +kernel)
theorem r202_129 : Rw 202 129 130 1 14 0 0 0 := rw_of (by decide +kernel)
theorem r202_130 : Rw 202 130 131 1 10 3 0 0 := rw_of (by decide +kernel)
theorem r202_131 : Rw 202 131 132 1 1 (cd 2) 3 0 := rw_of (by decide +kernel)
theorem r202_132 : Rw 202 132 135 3 100 186 3 110 := rw_of (by decide +kernel)
theorem r186_40 : Rw 186 40 41 1 14 0 0 0 := rw_of (by decide +kernel)
theorem r186_41 : Rw 186 41 44 3 80 5 1 47 := rw_of (by decide +kernel)
theorem r186_44 : Rw 186 44 45 1 10 1 0 0 := rw_of (by decide +kernel)
theorem r186_45 : Rw 186 45 46 1 83 0 0 0 := rw_of (by decide +kernel)
theorem r186_46 : Rw 186 46 48 2 2 (cd 23) 151 0 := rw_of (by decide +kernel)
theorem r186_48 : Rw 186 48 49 1 37 0 0 0 := rw_of (by decide +kernel)
theorem r186_49 : Rw 186 49 51 2 2 (cd 7) 135 0 := rw_of (by decide +kernel)
theorem r186_51 : Rw 186 51 52 1 33 0 0 0 := rw_of (by decide +kernel)
theorem r186_52 : Rw 186 52 53 1 74 0 0 0 := rw_of (by decide +kernel)
theorem r202_135 : Rw 202 135 136 1 30 0 0 0 := rw_of (by decide +kernel)
theorem r202_136 : Rw 202 136 137 1 10 3 0 0 := rw_of (by decide +kernel)
theorem r202_137 : Rw 202 137 140 3 100 204 3 95 := rw_of (by decide +kernel)
theorem r202_140 : Rw 202 140 141 1 14 0 0 0 := rw_of (by decide +kernel)
theorem r202_141 : Rw 202 141 143 2 2 (cd 46) 174 0 := rw_of (by decide +kernel)
theorem r202_143 : Rw 202 143 144 1 14 0 0 0 := rw_of (by decide +kernel)
theorem r202_144 : Rw 202 144 145 1 10 3 0 0 := rw_of (by decide +kernel)
theorem r202_145 : Rw 202 145 146 1 1 (cd 3) 4 0 := rw_of (by decide +kernel)
theorem r202_146 : Rw 202 146 149 3 100 186 3 110 := rw_of (by decide +kernel)
theorem r186_53 : Rw 186 53 54 1 14 0 0 0 := rw_of (by decide +kernel)
theorem r186_54 : Rw 186 54 57 3 80 5 1 47 := rw_of (by decide +kernel)
theorem r186_57 : Rw 186 57 58 1 10 1 0 0 := rw_of (by decide +kernel)
theorem r186_58 : Rw 186 58 59 1 83 0 0 0 := rw_of (by decide +kernel)
theorem r186_59 : Rw 186 59 61 2 2 (cd 26) 154 0 := rw_of (by decide +kernel)
theorem r186_61 : Rw 186 61 62 1 37 0 0 0 := rw_of (by decide +kernel)
theorem r186_62 : Rw 186 62 63 1 1 (cd 1) 2 0 := rw_of (by decide +kernel)
theorem r186_63 : Rw 186 63 64 1 33 0 0 0 := rw_of (by decide +kernel)
theorem r186_64 : Rw 186 64 65 1 74 0 0 0 := rw_of (by decide +kernel)
theorem r202_149 : Rw 202 149 150 1 30 0 0 0 := rw_of (by decide +kernel)
theorem r202_150 : Rw 202 150 151 1 10 3 0 0 := rw_of (by decide +kernel)
theorem r202_151 : Rw 202 151 154 3 100 204 3 95 := rw_of (by decide +kernel)
theorem r202_154 : Rw 202 154 155 1 14 0 0 0 := rw_of (by decide +kernel)
theorem r202_155 : Rw 202 155 157 2 2 (cd 118) 246 0 := rw_of (by decide +kernel)
theorem r202_157 : Rw 202 157 158 1 10 3 0 0 := rw_of (by decide +kernel)
theorem r202_158 : Rw 202 158 161 3 100 204 3 95 := rw_of (by decide +kernel)
theorem r202_161 : Rw 202 161 162 1 77 0 0 0 := rw_of (by decide +kernel)
theorem r202_63 : Rw 202 63 64 1 14 0 0 0 := rw_of (by decide +kernel)
theorem r202_64 : Rw 202 64 65 1 10 3 0 0 := rw_of (by decide +kernel)
theorem r202_65 : Rw 202 65 67 2 11 4 0 0 := rw_of (by decide +kernel)
theorem r202_67 : Rw 202 67 70 3 100 203 3 107 := rw_of (by decide +kernel)
theorem r203_0 : Rw 203 0 1 1 14 0 0 0 := rw_of (by decide +kernel)
theorem r203_1 : Rw 203 1 2 1 10 1 0 0 := rw_of (by decide +kernel)
theorem r203_2 : Rw 203 2 3 1 10 2 0 0 := rw_of (by decide +kernel)
theorem r203_3 : Rw 203 3 6 3 100 197 3 113 := rw_of (by decide +kernel)
theorem r197_0 : Rw 197 0 1 1 14 0 0 0 := rw_of (by decide +kernel)
theorem r197_1 : Rw 197 1 2 1 10 1 0 0 := rw_of (by decide +kernel)
theorem r197_2 : Rw 197 2 3 1 10 2 0 0 := rw_of (by decide +kernel)
theorem r197_3 : Rw 197 3 6 3 100 188 3 120 := rw_of (by decide +kernel)
theorem r188_0 : Rw 188 0 1 1 14 0 0 0 := rw_of (by decide +kernel)
theorem r188_1 : Rw 188 1 4 3 80 5 1 47 := rw_of (by decide +kernel)
theorem r188_4 : Rw 188 4 5 1 10 1 0 0 := rw_of (by decide +kernel)
theorem r188_5 : Rw 188 5 6 1 83 0 0 0 := rw_of (by decide +kernel)
theorem r188_6 : Rw 188 6 7 1 1 (cd 3) 4 0 := rw_of (by decide +kernel)
theorem r188_7 : Rw 188 7 8 1 10 2 0 0 := rw_of (by decide +kernel)
theorem r188_8 : Rw 188 8 9 1 32 0 0 0 := rw_of (by decide +kernel)
theorem r188_9 : Rw 188 9 10 1 37 0 0 0 := rw_of (by decide +kernel)
theorem r188_10 : Rw 188 10 12 2 2 (cd 7) 135 0 := rw_of (by decide +kernel)
theorem r188_12 : Rw 188 12 13 1 33 0 0 0 := rw_of (by decide +kernel)
theorem r188_13 : Rw 188 13 14 1 74 0 0 0 := rw_of (by decide +kernel)
theorem kc_10_188 : Kc 10 188 := kc_of (by decide) (by decide +kernel)
theorem r197_6 : Rw 197 6 7 1 16 3 0 0 := rw_of (by decide +kernel)
theorem r197_7 : Rw 197 7 8 1 10 3 0 0 := rw_of (by decide +kernel)
theorem r197_8 : Rw 197 8 10 2 2 (cd 6) 134 0 := rw_of (by decide +kernel)
theorem r197_10 : Rw 197 10 13 3 70 21 0 0 := rw_of (by decide +kernel)
theorem r197_21 : Rw 197 21 22 1 1 (cd 4) 5 0 := rw_of (by decide +kernel)
theorem r197_22 : Rw 197 22 23 1 74 0 0 0 := rw_of (by decide +kernel)
theorem r197_13 : Rw 197 13 16 3 9 0 0 123 := rw_of (by decide +kernel)
theorem r197_16 : Rw 197 16 17 1 10 3 0 0 := rw_of (by decide +kernel)
theorem r197_17 : Rw 197 17 18 1 23 0 0 0 := rw_of (by decide +kernel)
theorem r197_18 : Rw 197 18 21 3 60 22 0 0 := rw_of (by decide +kernel)
theorem kc_10_197 : Kc 10 197 := kc_of (by decide) (by decide +kernel)
theorem r203_6 : Rw 203 6 7 1 16 3 0 0 := rw_of (by decide +kernel)
theorem r203_7 : Rw 203 7 8 1 14 0 0 0 := rw_of (by decide +kernel)
theorem r203_8 : Rw 203 8 11 3 80 5 5 19 := rw_of (by decide +kernel)
theorem r203_11 : Rw 203 11 12 1 10 3 0 0 := rw_of (by decide +kernel)
theorem r203_12 : Rw 203 12 13 1 54 0 0 0 := rw_of (by decide +kernel)
theorem r203_13 : Rw 203 13 14 1 83 0 0 0 := rw_of (by decide +kernel)
theorem r203_14 : Rw 203 14 15 1 1 (cd 1) 2 0 := rw_of (by decide +kernel)
theorem r203_15 : Rw 203 15 16 1 30 0 0 0 := rw_of (by decide +kernel)
theorem r203_16 : Rw 203 16 17 1 88 0 0 0 := rw_of (by decide +kernel)
theorem r203_17 : Rw 203 17 18 1 14 0 0 0 := rw_of (by decide +kernel)
theorem r203_18 : Rw 203 18 19 1 1 (cd 0) 1 0 := rw_of (by decide +kernel)
theorem r203_19 : Rw 203 19 20 1 10 2 0 0 := rw_of (by decide +kernel)
theorem r203_20 : Rw 203 20 21 1 1 (cd 5) 6 0 := rw_of (by decide +kernel)
theorem r203_21 : Rw 203 21 22 1 32 0 0 0 := rw_of (by decide +kernel)
theorem r203_22 : Rw 203 22 23 1 30 0 0 0 := rw_of (by decide +kernel)
theorem r203_23 : Rw 203 23 24 1 10 3 0 0 := rw_of (by decide +kernel)
theorem r203_24 : Rw 203 24 25 1 30 0 0 0 := rw_of (by decide +kernel)
theorem r203_25 : Rw 203 25 26 1 10 1 0 0 := rw_of (by decide +kernel)
theorem r203_26 : Rw 203 26 29 3 100 204 3 95 := rw_of (by decide +kernel)
theorem r203_29 : Rw 203 29 30 1 1 (cd 0) 1 0 := rw_of (by decide +kernel)
theorem r203_30 : Rw 203 30 32 2 17 4 0 0 := rw_of (by decide +kernel)
theorem r203_32 : Rw 203 32 34 2 11 4 0 0 := rw_of (by decide +kernel)
theorem r203_34 : Rw 203 34 35 1 1 (cd 2) 3 0 := rw_of (by decide +kernel)
theorem r203_35 : Rw 203 35 38 3 70 69 0 0 := rw_of (by decide +kernel)
theorem r203_38 : Rw 203 38 39 1 14 0 0 0 := rw_of (by decide +kernel)
theorem r203_39 : Rw 203 39 40 1 10 1 0 0 := rw_of (by decide +kernel)
theorem r203_40 : Rw 203 40 41 1 10 2 0 0 := rw_of (by decide +kernel)
theorem r203_41 : Rw 203 41 43 2 11 4 0 0 := rw_of (by decide +kernel)
theorem r203_43 : Rw 203 43 46 3 100 192 4 116 := rw_of (by decide +kernel)
theorem r192_0 : Rw 192 0 1 1 14 0 0 0 := rw_of (by decide +kernel)
theorem r192_1 : Rw 192 1 2 1 10 1 0 0 := rw_of (by decide +kernel)
theorem r192_2 : Rw 192 2 3 1 10 2 0 0 := rw_of (by decide +kernel)
theorem r192_3 : Rw 192 3 6 3 100 197 3 113 := rw_of (by decide +kernel)
theorem r192_6 : Rw 192 6 9 3 73 9 0 0 := rw_of (by decide +kernel)
theorem r192_94 : Rw 192 94 95 1 1 (cd 0) 1 0 := rw_of (by decide +kernel)
theorem r192_95 : Rw 192 95 96 1 74 1 0 0 := rw_of (by decide +kernel)
theorem r192_36 : Rw 192 36 37 1 1 (cd 1) 2 0 := rw_of (by decide +kernel)
theorem r192_37 : Rw 192 37 38 1 74 1 0 0 := rw_of (by decide +kernel)
theorem r192_38 : Rw 192 38 39 1 14 0 0 0 := rw_of (by decide +kernel)
theorem r192_39 : Rw 192 39 40 1 10 1 0 0 := rw_of (by decide +kernel)
theorem r192_40 : Rw 192 40 41 1 10 2 0 0 := rw_of (by decide +kernel)
theorem r192_41 : Rw 192 41 44 3 100 188 3 120 := rw_of (by decide +kernel)
theorem r192_44 : Rw 192 44 45 1 1 (cd 3) 4 0 := rw_of (by decide +kernel)
theorem r192_45 : Rw 192 45 48 3 68 52 0 0 := rw_of (by decide +kernel)
theorem r192_52 : Rw 192 52 53 1 1 (cd 0) 1 0 := rw_of (by decide +kernel)
theorem r192_53 : Rw 192 53 54 1 10 3 0 0 := rw_of (by decide +kernel)
theorem r192_54 : Rw 192 54 55 1 1 (cd 1) 2 0 := rw_of (by decide +kernel)
theorem r192_55 : Rw 192 55 58 3 68 62 0 0 := rw_of (by decide +kernel)
theorem r192_62 : Rw 192 62 63 1 1 (cd 0) 1 0 := rw_of (by decide +kernel)
theorem r192_63 : Rw 192 63 66 3 68 70 0 0 := rw_of (by decide +kernel)
theorem r192_66 : Rw 192 66 67 1 1 (cd 1) 2 0 := rw_of (by decide +kernel)
theorem r192_67 : Rw 192 67 70 3 60 71 0 0 := rw_of (by decide +kernel)
theorem r192_71 : Rw 192 71 72 1 74 1 0 0 := rw_of (by decide +kernel)
theorem r192_48 : Rw 192 48 49 1 1 (cd 1) 2 0 := rw_of (by decide +kernel)
theorem r192_49 : Rw 192 49 52 3 60 53 0 0 := rw_of (by decide +kernel)
theorem r192_70 : Rw 192 70 71 1 1 (cd 0) 1 0 := rw_of (by decide +kernel)
theorem r192_72 : Rw 192 72 73 1 14 0 0 0 := rw_of (by decide +kernel)
theorem r192_73 : Rw 192 73 76 3 80 5 8 33 := rw_of (by decide +kernel)
theorem bf_10_8 {M : Mm} (h : Pw M) : 0 ≤ M 10 8 ∧ M 10 8 ≤ 127 := (h 10 8 (by decide) (by decide) (by decide) (by decide +kernel)).get0 g_10_8 rfl rfl rfl rfl
theorem r192_76 : Rw 192 76 77 1 14 0 0 0 := rw_of (by decide +kernel)
theorem r192_77 : Rw 192 77 78 1 10 1 0 0 := rw_of (by decide +kernel)
theorem r192_78 : Rw 192 78 79 1 1 (cd 2) 3 0 := rw_of (by decide +kernel)
theorem r192_79 : Rw 192 79 82 3 100 186 3 110 := rw_of (by decide +kernel)
theorem r192_82 : Rw 192 82 83 1 37 0 0 0 := rw_of (by decide +kernel)
theorem r192_83 : Rw 192 83 84 1 1 (cd 1) 2 0 := rw_of (by decide +kernel)
theorem r192_84 : Rw 192 84 85 1 33 0 0 0 := rw_of (by decide +kernel)
theorem r192_85 : Rw 192 85 88 3 62 92 0 0 := rw_of (by decide +kernel)
theorem r192_92 : Rw 192 92 93 1 1 (cd 0) 1 0 := rw_of (by decide +kernel)
theorem r192_93 : Rw 192 93 94 1 74 1 0 0 := rw_of (by decide +kernel)
theorem r192_88 : Rw 192 88 89 1 1 (cd 1) 2 0 := rw_of (by decide +kernel)
theorem r192_89 : Rw 192 89 92 3 60 93 0 0 := rw_of (by decide +kernel)
theorem kc_10_192 : Kc 10 192 := kc_of (by decide) (by decide +kernel)
theorem r203_46 : Rw 203 46 49 3 61 63 0 0 := rw_of (by decide +kernel)
theorem r203_63 : Rw 203 63 66 3 22 4 (cd 1) 32769 := rw_of (by decide +kernel)
theorem r203_66 : Rw 203 66 69 3 60 32 0 0 := rw_of (by decide +kernel)
theorem r203_49 : Rw 203 49 50 1 14 0 0 0 := rw_of (by decide +kernel)
theorem r203_50 : Rw 203 50 52 2 2 (cd 88) 216 0 := rw_of (by decide +kernel)
theorem r203_52 : Rw 203 52 53 1 1 (cd 2) 3 0 := rw_of (by decide +kernel)
theorem r203_53 : Rw 203 53 54 1 10 2 0 0 := rw_of (by decide +kernel)
theorem r203_54 : Rw 203 54 55 1 32 0 0 0 := rw_of (by decide +kernel)
theorem r203_55 : Rw 203 55 56 1 30 0 0 0 := rw_of (by decide +kernel)
theorem r203_56 : Rw 203 56 58 2 11 4 0 0 := rw_of (by decide +kernel)
theorem r203_58 : Rw 203 58 59 1 30 0 0 0 := rw_of (by decide +kernel)
theorem r203_59 : Rw 203 59 60 1 10 1 0 0 := rw_of (by decide +kernel)
theorem r203_60 : Rw 203 60 63 3 100 204 3 95 := rw_of (by decide +kernel)
theorem r192_58 : Rw 192 58 59 1 1 (cd 1) 2 0 := rw_of (by decide +kernel)
theorem r192_59 : Rw 192 59 62 3 60 63 0 0 := rw_of (by decide +kernel)
theorem r203_69 : Rw 203 69 70 1 77 0 0 0 := rw_of (by decide +kernel)
theorem kc_10_203 : Kc 10 203 := kc_of (by decide) (by decide +kernel)
theorem r202_70 : Rw 202 70 73 3 22 4 (cd 1) 32769 := rw_of (by decide +kernel)
theorem r202_73 : Rw 202 73 76 3 60 54 0 0 := rw_of (by decide +kernel)
theorem kc_10_202 : Kc 10 202 := kc_of (by decide) (by decide +kernel)
theorem r205_59 : Rw 205 59 60 1 14 0 0 0 := rw_of (by decide +kernel)
theorem r205_60 : Rw 205 60 63 3 80 5 6 25 := rw_of (by decide +kernel)
theorem r205_63 : Rw 205 63 64 1 14 1 0 0 := rw_of (by decide +kernel)
theorem r205_64 : Rw 205 64 67 3 100 9 2 82 := rw_of (by decide +kernel)
theorem r9_0 : Rw 9 0 1 1 14 0 0 0 := rw_of (by decide +kernel)
theorem r9_1 : Rw 9 1 4 3 80 10 3 35 := rw_of (by decide +kernel)
theorem r9_4 : Rw 9 4 5 1 14 1 0 0 := rw_of (by decide +kernel)
theorem r9_5 : Rw 9 5 8 3 100 182 1 38 := rw_of (by decide +kernel)
theorem r9_8 : Rw 9 8 11 3 70 22 0 0 := rw_of (by decide +kernel)
theorem r9_22 : Rw 9 22 23 1 14 0 0 0 := rw_of (by decide +kernel)
theorem r9_23 : Rw 9 23 24 1 1 (cd 0) 1 0 := rw_of (by decide +kernel)
theorem r9_24 : Rw 9 24 27 3 81 10 3 0 := rw_of (by decide +kernel)
theorem r9_27 : Rw 9 27 28 1 14 0 0 0 := rw_of (by decide +kernel)
theorem r9_28 : Rw 9 28 31 3 80 10 2 32 := rw_of (by decide +kernel)
theorem r9_31 : Rw 9 31 32 1 14 1 0 0 := rw_of (by decide +kernel)
theorem r9_32 : Rw 9 32 35 3 100 181 1 41 := rw_of (by decide +kernel)
theorem r9_35 : Rw 9 35 38 3 70 49 0 0 := rw_of (by decide +kernel)
theorem r9_49 : Rw 9 49 50 1 14 0 0 0 := rw_of (by decide +kernel)
theorem r9_50 : Rw 9 50 51 1 14 1 0 0 := rw_of (by decide +kernel)
theorem r9_51 : Rw 9 51 54 3 100 179 1 28 := rw_of (by decide +kernel)
theorem r9_54 : Rw 9 54 57 3 81 10 2 0 := rw_of (by decide +kernel)
theorem r9_57 : Rw 9 57 58 1 14 0 0 0 := rw_of (by decide +kernel)
theorem r9_58 : Rw 9 58 61 3 80 10 1 25 := rw_of (by decide +kernel)
theorem r9_61 : Rw 9 61 62 1 1 (cd 1) 2 0 := rw_of (by decide +kernel)
theorem r9_62 : Rw 9 62 63 1 30 0 0 0 := rw_of (by decide +kernel)
theorem r9_63 : Rw 9 63 64 1 14 1 0 0 := rw_of (by decide +kernel)
theorem r9_64 : Rw 9 64 67 3 80 4 2 44 := rw_of (by decide +kernel)
theorem r9_67 : Rw 9 67 70 3 70 81 0 0 := rw_of (by decide +kernel)
theorem r9_81 : Rw 9 81 82 1 14 0 0 0 := rw_of (by decide +kernel)
theorem r9_82 : Rw 9 82 83 1 1 (cd 0) 1 0 := rw_of (by decide +kernel)
theorem r9_83 : Rw 9 83 86 3 81 10 1 0 := rw_of (by decide +kernel)
theorem r9_86 : Rw 9 86 87 1 14 0 0 0 := rw_of (by decide +kernel)
theorem r9_87 : Rw 9 87 88 1 14 1 0 0 := rw_of (by decide +kernel)
theorem r9_88 : Rw 9 88 91 3 100 10 2 47 := rw_of (by decide +kernel)
theorem r10_0 : Rw 10 0 1 1 14 1 0 0 := rw_of (by decide +kernel)
theorem r10_1 : Rw 10 1 4 3 80 4 1 15 := rw_of (by decide +kernel)
theorem r10_4 : Rw 10 4 5 1 1 (cd 1) 2 0 := rw_of (by decide +kernel)
theorem r10_5 : Rw 10 5 6 1 31 0 0 0 := rw_of (by decide +kernel)
theorem r10_6 : Rw 10 6 7 1 16 2 0 0 := rw_of (by decide +kernel)
theorem r10_7 : Rw 10 7 8 1 10 2 0 0 := rw_of (by decide +kernel)
theorem r10_8 : Rw 10 8 11 3 63 54 0 0 := rw_of (by decide +kernel)
theorem r10_54 : Rw 10 54 55 1 77 0 0 0 := rw_of (by decide +kernel)
theorem r10_11 : Rw 10 11 12 1 14 1 0 0 := rw_of (by decide +kernel)
theorem r10_12 : Rw 10 12 13 1 10 2 0 0 := rw_of (by decide +kernel)
theorem r10_13 : Rw 10 13 14 1 14 0 0 0 := rw_of (by decide +kernel)
theorem r10_14 : Rw 10 14 17 3 80 10 0 9 := rw_of (by decide +kernel)
theorem r10_17 : Rw 10 17 18 1 10 2 0 0 := rw_of (by decide +kernel)
theorem r10_18 : Rw 10 18 19 1 83 0 0 0 := rw_of (by decide +kernel)
theorem r10_19 : Rw 10 19 22 3 100 177 3 21 := rw_of (by decide +kernel)
theorem r177_36 : Rw 177 36 37 1 1 (cd (-1)) 0 0 := rw_of (by decide +kernel)
theorem r177_37 : Rw 177 37 38 1 74 0 0 0 := rw_of (by decide +kernel)
theorem r10_22 : Rw 10 22 23 1 16 3 0 0 := rw_of (by decide +kernel)
theorem r10_23 : Rw 10 23 24 1 10 3 0 0 := rw_of (by decide +kernel)
theorem r10_24 : Rw 10 24 25 1 1 (cd (-1)) 0 0 := rw_of (by decide +kernel)
theorem r10_25 : Rw 10 25 28 3 67 36 0 0 := rw_of (by decide +kernel)
theorem r10_36 : Rw 10 36 37 1 14 0 0 0 := rw_of (by decide +kernel)
theorem r10_37 : Rw 10 37 40 3 80 10 0 9 := rw_of (by decide +kernel)
theorem r10_40 : Rw 10 40 41 1 10 2 0 0 := rw_of (by decide +kernel)
theorem r10_41 : Rw 10 41 42 1 14 1 0 0 := rw_of (by decide +kernel)
theorem r10_42 : Rw 10 42 43 1 10 2 0 0 := rw_of (by decide +kernel)
theorem r10_43 : Rw 10 43 44 1 1 (cd (-1)) 0 0 := rw_of (by decide +kernel)
theorem r10_44 : Rw 10 44 47 3 100 177 3 21 := rw_of (by decide +kernel)
theorem r10_47 : Rw 10 47 48 1 88 0 0 0 := rw_of (by decide +kernel)
theorem r10_48 : Rw 10 48 51 3 22 2 (cd (-1)) 32767 := rw_of (by decide +kernel)
theorem r10_51 : Rw 10 51 54 3 60 7 0 0 := rw_of (by decide +kernel)
theorem r10_28 : Rw 10 28 29 1 14 0 0 0 := rw_of (by decide +kernel)
theorem r10_29 : Rw 10 29 32 3 80 10 0 9 := rw_of (by decide +kernel)
theorem r10_32 : Rw 10 32 33 1 10 2 0 0 := rw_of (by decide +kernel)
theorem r10_33 : Rw 10 33 34 1 10 3 0 0 := rw_of (by decide +kernel)
theorem r10_34 : Rw 10 34 35 1 88 0 0 0 := rw_of (by decide +kernel)
theorem r10_35 : Rw 10 35 36 1 77 0 0 0 := rw_of (by decide +kernel)
theorem kc_14_10 : Kc 14 10 := kc_of (by decide) (by decide +kernel)
theorem r9_91 : Rw 9 91 92 1 77 0 0 0 := rw_of (by decide +kernel)
theorem r9_70 : Rw 9 70 71 1 14 0 0 0 := rw_of (by decide +kernel)
theorem r9_71 : Rw 9 71 72 1 52 0 0 0 := rw_of (by decide +kernel)
theorem r9_72 : Rw 9 72 75 3 80 10 1 25 := rw_of (by decide +kernel)
theorem r9_75 : Rw 9 75 76 1 1 (cd 1) 2 0 := rw_of (by decide +kernel)
theorem r9_76 : Rw 9 76 77 1 30 0 0 0 := rw_of (by decide +kernel)
theorem r9_77 : Rw 9 77 80 3 81 10 1 0 := rw_of (by decide +kernel)
theorem r9_80 : Rw 9 80 81 1 77 0 0 0 := rw_of (by decide +kernel)
theorem r9_38 : Rw 9 38 39 1 14 0 0 0 := rw_of (by decide +kernel)
theorem r9_39 : Rw 9 39 40 1 52 0 0 0 := rw_of (by decide +kernel)
theorem r9_40 : Rw 9 40 43 3 80 10 2 32 := rw_of (by decide +kernel)
theorem r9_43 : Rw 9 43 44 1 1 (cd 1) 2 0 := rw_of (by decide +kernel)
theorem r9_44 : Rw 9 44 45 1 30 0 0 0 := rw_of (by decide +kernel)
theorem r9_45 : Rw 9 45 48 3 81 10 2 0 := rw_of (by decide +kernel)
theorem r9_48 : Rw 9 48 49 1 77 0 0 0 := rw_of (by decide +kernel)
theorem r9_11 : Rw 9 11 12 1 14 0 0 0 := rw_of (by decide +kernel)
theorem r9_12 : Rw 9 12 13 1 52 0 0 0 := rw_of (by decide +kernel)
theorem r9_13 : Rw 9 13 16 3 80 10 3 35 := rw_of (by decide +kernel)
theorem r9_16 : Rw 9 16 17 1 1 (cd 1) 2 0 := rw_of (by decide +kernel)
theorem r9_17 : Rw 9 17 18 1 30 0 0 0 := rw_of (by decide +kernel)
theorem r9_18 : Rw 9 18 21 3 81 10 3 0 := rw_of (by decide +kernel)
theorem r9_21 : Rw 9 21 22 1 77 0 0 0 := rw_of (by decide +kernel)
theorem kc_14_9 : Kc 14 9 := kc_of (by decide) (by decide +kernel)
theorem r205_67 : Rw 205 67 70 3 22 3 (cd 1) 32769 := rw_of (by decide +kernel)
theorem r205_70 : Rw 205 70 73 3 60 35 0 0 := rw_of (by decide +kernel)
theorem kc_10_205 : Kc 10 205 := kc_of (by decide) (by decide +kernel)
theorem r24_60 : Rw 24 60 61 1 14 0 0 0 := rw_of (by decide +kernel)
theorem r24_61 : Rw 24 61 64 3 80 11 7 57 := rw_of (by decide +kernel)
theorem fd_0_7 : Fdl 0 11 7 7 2 := fd_of (by decide) rfl (by decide +kernel)
theorem bf_0_7 {M : Mm} (h : Pw M) : 138 ≤ M 0 7 ∧ M 0 7 ≤ 138 := (h 0 7 (by decide) (by decide) (by decide) (by decide +kernel)).get0 g_0_7 rfl rfl rfl rfl
theorem br_0_7 {M : Mm} (h : Pw M) : M 0 7 = 138 := by have := bf_0_7 h; omega
theorem r24_64 : Rw 24 64 65 1 14 0 0 0 := rw_of (by decide +kernel)
theorem r24_65 : Rw 24 65 68 3 80 11 3 27 := rw_of (by decide +kernel)
theorem r24_68 : Rw 24 68 71 3 100 226 2 123 := rw_of (by decide +kernel)
theorem r226_0 : Rw 226 0 1 1 14 0 0 0 := rw_of (by decide +kernel)
theorem r226_1 : Rw 226 1 2 1 1 (cd 0) 1 0 := rw_of (by decide +kernel)
theorem r226_2 : Rw 226 2 5 3 81 8 5 0 := rw_of (by decide +kernel)
theorem fd_138_5 : Fdl 138 8 5 5 0 := fd_of (by decide) rfl (by decide +kernel)
theorem uf_138_5 {z : Int} (hz : 0 ≤ z ∧ z ≤ 12) : Bd 138 5 z := Bd.of0 g_138_5 rfl rfl rfl rfl rfl hz
theorem r226_5 : Rw 226 5 6 1 14 0 0 0 := rw_of (by decide +kernel)
theorem r226_6 : Rw 226 6 9 3 80 8 0 23 := rw_of (by decide +kernel)
theorem fd_138_0 : Fdl 138 8 0 0 2 := fd_of (by decide) rfl (by decide +kernel)
theorem bf_138_0 {M : Mm} (h : Pw M) : 10 ≤ M 138 0 ∧ M 138 0 ≤ 10 := (h 138 0 (by decide) (by decide) (by decide) (by decide +kernel)).get0 g_138_0 rfl rfl rfl rfl
theorem br_138_0 {M : Mm} (h : Pw M) : M 138 0 = 10 := by have := bf_138_0 h; omega
theorem r226_9 : Rw 226 9 10 1 14 1 0 0 := rw_of (by decide +kernel)
theorem r226_10 : Rw 226 10 11 1 14 0 0 0 := rw_of (by decide +kernel)
theorem r226_11 : Rw 226 11 14 3 80 8 3 32 := rw_of (by decide +kernel)
theorem fd_138_3 : Fdl 138 8 3 3 2 := fd_of (by decide) rfl (by decide +kernel)
theorem bf_138_3 {M : Mm} (h : Pw M) : 154 ≤ M 138 3 ∧ M 138 3 ≤ 154 := (h 138 3 (by decide) (by decide) (by decide) (by decide +kernel)).get0 g_138_3 rfl rfl rfl rfl
theorem br_138_3 {M : Mm} (h : Pw M) : M 138 3 = 154 := by have := bf_138_3 h; omega
theorem r226_14 : Rw 226 14 15 1 1 (cd 0) 1 0 := rw_of (by decide +kernel)
theorem r226_15 : Rw 226 15 16 1 87 0 0 0 := rw_of (by decide +kernel)
theorem ar_154 : Ar 154 104 13 := ar_of (by decide) (by decide) (by decide +kernel)
theorem ba_154 {M : Mm} (h : Pw M) {i : Int} (h0 : 0 ≤ i) (h1 : i < 13) : M 154 i = 155 + i := by
  have := (h 154 i (by decide) (by decide) h0 (by rw [ar_154.2.2.2.1]; exact h1)).get (l := 155) (u := 155) (c := 1) (s := 0) (gr_154 (by decide) (by decide) i) rfl rfl rfl rfl
  omega
theorem r226_16 : Rw 226 16 19 3 100 196 3 35 := rw_of (by decide +kernel)
theorem r196_0 : Rw 196 0 1 1 1 (cd 0) 1 0 := rw_of (by decide +kernel)
theorem r196_1 : Rw 196 1 2 1 16 3 0 0 := rw_of (by decide +kernel)
theorem r196_2 : Rw 196 2 3 1 10 3 0 0 := rw_of (by decide +kernel)
theorem r196_3 : Rw 196 3 4 1 14 0 0 0 := rw_of (by decide +kernel)
theorem r196_4 : Rw 196 4 7 3 80 5 10 39 := rw_of (by decide +kernel)
theorem bf_10_10 {M : Mm} (h : Pw M) : 0 ≤ M 10 10 ∧ M 10 10 ≤ 47 := (h 10 10 (by decide) (by decide) (by decide) (by decide +kernel)).get0 g_10_10 rfl rfl rfl rfl
theorem r196_7 : Rw 196 7 10 3 70 25 0 0 := rw_of (by decide +kernel)
theorem r196_25 : Rw 196 25 26 1 77 0 0 0 := rw_of (by decide +kernel)
theorem r196_10 : Rw 196 10 11 1 14 2 0 0 := rw_of (by decide +kernel)
theorem r196_11 : Rw 196 11 12 1 10 3 0 0 := rw_of (by decide +kernel)
theorem r196_12 : Rw 196 12 13 1 14 0 0 0 := rw_of (by decide +kernel)
theorem r196_13 : Rw 196 13 14 1 14 1 0 0 := rw_of (by decide +kernel)
theorem r196_14 : Rw 196 14 15 1 10 3 0 0 := rw_of (by decide +kernel)
theorem r196_15 : Rw 196 15 18 3 100 207 3 147 := rw_of (by decide +kernel)
theorem r207_0 : Rw 207 0 1 1 1 (cd 0) 1 0 := rw_of (by decide +kernel)
theorem r207_1 : Rw 207 1 2 1 16 3 0 0 := rw_of (by decide +kernel)
theorem r207_2 : Rw 207 2 3 1 1 (cd 0) 1 0 := rw_of (by decide +kernel)
theorem r207_3 : Rw 207 3 5 2 17 4 0 0 := rw_of (by decide +kernel)
theorem r207_5 : Rw 207 5 7 2 11 4 0 0 := rw_of (by decide +kernel)
theorem r207_7 : Rw 207 7 8 1 14 1 0 0 := rw_of (by decide +kernel)
theorem r207_8 : Rw 207 8 11 3 80 1 1 126 := rw_of (by decide +kernel)
theorem r207_11 : Rw 207 11 14 3 70 255 0 0 := rw_of (by decide +kernel)
theorem r207_255 : Rw 207 255 256 1 14 0 0 0 := rw_of (by decide +kernel)
theorem r207_256 : Rw 207 256 259 3 80 5 4 15 := rw_of (by decide +kernel)
theorem fd_10_4 : Fdl 10 5 4 4 2 := fd_of (by decide) rfl (by decide +kernel)
theorem bf_10_4 {M : Mm} (h : Pw M) : 12 ≤ M 10 4 ∧ M 10 4 ≤ 12 := (h 10 4 (by decide) (by decide) (by decide) (by decide +kernel)).get0 g_10_4 rfl rfl rfl rfl
theorem br_10_4 {M : Mm} (h : Pw M) : M 10 4 = 12 := by have := bf_10_4 h; omega
theorem r207_259 : Rw 207 259 260 1 1 (cd 0) 1 0 := rw_of (by decide +kernel)
theorem r207_260 : Rw 207 260 261 1 84 0 0 0 := rw_of (by decide +kernel)
theorem ar_12 : Ar 12 102 32 := ar_of (by decide) (by decide) (by decide +kernel)
theorem ba_12 {M : Mm} (h : Pw M) {i : Int} (h0 : 0 ≤ i) (h1 : i < 32) : 0 ≤ M 12 i ∧ M 12 i ≤ 18446744073709551615 := (h 12 i (by decide) (by decide) h0 (by rw [ar_12.2.2.2.1]; exact h1)).get0 (gr_12 (by decide) (by decide) i) rfl rfl rfl rfl
theorem ga_12 (i : Int) : grp 12 i = 64 := gr_12 (by decide) (by decide) i
theorem r207_261 : Rw 207 261 262 1 75 0 0 0 := rw_of (by decide +kernel)
theorem r207_14 : Rw 207 14 15 1 10 3 0 0 := rw_of (by decide +kernel)
theorem r207_15 : Rw 207 15 16 1 1 (cd 1) 2 0 := rw_of (by decide +kernel)
theorem r207_16 : Rw 207 16 17 1 30 0 0 0 := rw_of (by decide +kernel)
theorem r207_17 : Rw 207 17 19 2 2 (cd 32) 160 0 := rw_of (by decide +kernel)
theorem r207_19 : Rw 207 19 22 3 70 255 0 0 := rw_of (by decide +kernel)
theorem r207_22 : Rw 207 22 23 1 14 1 0 0 := rw_of (by decide +kernel)
theorem r207_23 : Rw 207 23 26 3 80 1 0 131 := rw_of (by decide +kernel)
theorem r207_26 : Rw 207 26 28 2 11 4 0 0 := rw_of (by decide +kernel)
theorem r207_28 : Rw 207 28 29 1 83 0 0 0 := rw_of (by decide +kernel)
theorem exC {M : Mm} (h : Pw M) {a i : Int} (ha : isC a) (h0 : 0 ≤ i) (h1 : i < 256) : stepok (M (a + 1) i) := ((h (a + 1) i (by have := isC_rg ha; omega) (by have := isC_rg ha; omega) h0 (by rw [(arC ha).2.2.2.1]; exact h1)).ex (g_cs ha i)).1 rfl
theorem r207_29 : Rw 207 29 30 1 1 (cd 3) 4 0 := rw_of (by decide +kernel)
theorem r207_30 : Rw 207 30 31 1 37 0 0 0 := rw_of (by decide +kernel)
theorem r207_31 : Rw 207 31 33 2 17 5 0 0 := rw_of (by decide +kernel)
theorem r207_33 : Rw 207 33 34 1 14 1 0 0 := rw_of (by decide +kernel)
theorem r207_34 : Rw 207 34 37 3 80 1 0 131 := rw_of (by decide +kernel)
theorem r207_37 : Rw 207 37 39 2 11 4 0 0 := rw_of (by decide +kernel)
theorem r207_39 : Rw 207 39 40 1 83 0 0 0 := rw_of (by decide +kernel)
theorem r207_40 : Rw 207 40 42 2 2 (cd 7) 135 0 := rw_of (by decide +kernel)
theorem r207_42 : Rw 207 42 43 1 33 0 0 0 := rw_of (by decide +kernel)
theorem r207_43 : Rw 207 43 45 2 17 6 0 0 := rw_of (by decide +kernel)
theorem r207_45 : Rw 207 45 47 2 11 6 0 0 := rw_of (by decide +kernel)
theorem r207_47 : Rw 207 47 48 1 1 (cd 2) 3 0 := rw_of (by decide +kernel)
theorem r207_48 : Rw 207 48 51 3 67 57 0 0 := rw_of (by decide +kernel)
theorem r207_57 : Rw 207 57 58 1 1 (cd 1) 2 0 := rw_of (by decide +kernel)
theorem r207_58 : Rw 207 58 61 3 60 62 0 0 := rw_of (by decide +kernel)
theorem r207_62 : Rw 207 62 64 2 17 7 0 0 := rw_of (by decide +kernel)
theorem r207_64 : Rw 207 64 66 2 11 6 0 0 := rw_of (by decide +kernel)
theorem r207_66 : Rw 207 66 69 3 61 82 0 0 := rw_of (by decide +kernel)
theorem r207_69 : Rw 207 69 71 2 11 6 0 0 := rw_of (by decide +kernel)
theorem r207_71 : Rw 207 71 72 1 1 (cd 5) 6 0 := rw_of (by decide +kernel)
theorem r207_72 : Rw 207 72 75 3 67 82 0 0 := rw_of (by decide +kernel)
theorem r207_75 : Rw 207 75 77 2 11 6 0 0 := rw_of (by decide +kernel)
theorem r207_77 : Rw 207 77 79 2 2 (cd 6) 134 0 := rw_of (by decide +kernel)
theorem r207_79 : Rw 207 79 82 3 68 134 0 0 := rw_of (by decide +kernel)
theorem r207_134 : Rw 207 134 136 2 11 7 0 0 := rw_of (by decide +kernel)
theorem r207_136 : Rw 207 136 139 3 61 197 0 0 := rw_of (by decide +kernel)
theorem r207_139 : Rw 207 139 140 1 10 3 0 0 := rw_of (by decide +kernel)
theorem r207_140 : Rw 207 140 141 1 1 (cd 1) 2 0 := rw_of (by decide +kernel)
theorem r207_141 : Rw 207 141 144 3 72 197 0 0 := rw_of (by decide +kernel)
theorem r207_197 : Rw 207 197 199 2 11 7 0 0 := rw_of (by decide +kernel)
theorem r207_199 : Rw 207 199 202 3 62 249 0 0 := rw_of (by decide +kernel)
theorem r207_249 : Rw 207 249 252 3 22 4 (cd 1) 32769 := rw_of (by decide +kernel)
theorem r207_252 : Rw 207 252 255 3 60 5 0 0 := rw_of (by decide +kernel)
theorem r207_51 : Rw 207 51 53 2 11 6 0 0 := rw_of (by decide +kernel)
theorem r207_53 : Rw 207 53 54 1 1 (cd 3) 4 0 := rw_of (by decide +kernel)
theorem r207_54 : Rw 207 54 57 3 68 61 0 0 := rw_of (by decide +kernel)
theorem r207_61 : Rw 207 61 62 1 1 (cd 0) 1 0 := rw_of (by decide +kernel)
theorem r207_82 : Rw 207 82 83 1 14 0 0 0 := rw_of (by decide +kernel)
theorem r207_83 : Rw 207 83 86 3 80 5 4 15 := rw_of (by decide +kernel)
theorem r207_86 : Rw 207 86 87 1 10 3 0 0 := rw_of (by decide +kernel)
theorem r207_87 : Rw 207 87 89 2 11 6 0 0 := rw_of (by decide +kernel)
theorem r207_89 : Rw 207 89 92 3 62 104 0 0 := rw_of (by decide +kernel)
theorem r207_92 : Rw 207 92 93 1 14 0 0 0 := rw_of (by decide +kernel)
theorem r207_93 : Rw 207 93 96 3 80 5 0 44 := rw_of (by decide +kernel)
theorem r207_96 : Rw 207 96 98 2 11 5 0 0 := rw_of (by decide +kernel)
theorem r207_98 : Rw 207 98 99 1 87 0 0 0 := rw_of (by decide +kernel)
theorem r207_99 : Rw 207 99 100 1 10 2 0 0 := rw_of (by decide +kernel)
theorem r207_100 : Rw 207 100 101 1 84 0 0 0 := rw_of (by decide +kernel)
theorem r207_101 : Rw 207 101 104 3 60 127 0 0 := rw_of (by decide +kernel)
theorem r207_127 : Rw 207 127 128 1 89 0 0 0 := rw_of (by decide +kernel)
theorem ua_12 {i z : Int} (hz : 0 ≤ z ∧ z ≤ 18446744073709551615) : Bd 12 i z := Bd.of0 (gr_12 (by decide) (by decide) i) rfl rfl rfl rfl rfl hz
theorem r207_128 : Rw 207 128 131 3 22 3 (cd 1) 32769 := rw_of (by decide +kernel)
theorem r207_131 : Rw 207 131 134 3 60 249 0 0 := rw_of (by decide +kernel)
theorem r207_104 : Rw 207 104 106 2 11 6 0 0 := rw_of (by decide +kernel)
theorem r207_106 : Rw 207 106 107 1 1 (cd 5) 6 0 := rw_of (by decide +kernel)
theorem r207_107 : Rw 207 107 110 3 68 120 0 0 := rw_of (by decide +kernel)
theorem r207_110 : Rw 207 110 111 1 14 0 0 0 := rw_of (by decide +kernel)
theorem r207_111 : Rw 207 111 113 2 11 5 0 0 := rw_of (by decide +kernel)
theorem r207_113 : Rw 207 113 114 1 10 2 0 0 := rw_of (by decide +kernel)
theorem r207_114 : Rw 207 114 117 3 100 185 3 134 := rw_of (by decide +kernel)
theorem r185_0 : Rw 185 0 1 1 1 (cd 0) 1 0 := rw_of (by decide +kernel)
theorem r185_1 : Rw 185 1 2 1 10 1 0 0 := rw_of (by decide +kernel)
theorem r185_2 : Rw 185 2 3 1 1 (cd 3) 4 0 := rw_of (by decide +kernel)
theorem r185_3 : Rw 185 3 4 1 37 0 0 0 := rw_of (by decide +kernel)
theorem r185_4 : Rw 185 4 5 1 1 (cd 5) 6 0 := rw_of (by decide +kernel)
theorem r185_5 : Rw 185 5 6 1 32 0 0 0 := rw_of (by decide +kernel)
theorem r185_6 : Rw 185 6 7 1 30 0 0 0 := rw_of (by decide +kernel)
theorem r185_7 : Rw 185 7 8 1 16 3 0 0 := rw_of (by decide +kernel)
theorem r185_8 : Rw 185 8 9 1 1 (cd 0) 1 0 := rw_of (by decide +kernel)
theorem r185_9 : Rw 185 9 10 1 10 1 0 0 := rw_of (by decide +kernel)
theorem r185_10 : Rw 185 10 12 2 2 (cd 7) 135 0 := rw_of (by decide +kernel)
theorem r185_12 : Rw 185 12 13 1 33 0 0 0 := rw_of (by decide +kernel)
theorem r185_13 : Rw 185 13 14 1 1 (cd 5) 6 0 := rw_of (by decide +kernel)
theorem r185_14 : Rw 185 14 15 1 32 0 0 0 := rw_of (by decide +kernel)
theorem r185_15 : Rw 185 15 16 1 30 0 0 0 := rw_of (by decide +kernel)
theorem r185_16 : Rw 185 16 18 2 17 4 0 0 := rw_of (by decide +kernel)
theorem r185_18 : Rw 185 18 19 1 6 0 0 0 := rw_of (by decide +kernel)
theorem r185_19 : Rw 185 19 21 2 19 5 0 0 := rw_of (by decide +kernel)
theorem r185_21 : Rw 185 21 22 1 1 (cd 0) 1 0 := rw_of (by decide +kernel)
theorem r185_22 : Rw 185 22 24 2 17 7 0 0 := rw_of (by decide +kernel)
theorem r185_24 : Rw 185 24 26 2 11 7 0 0 := rw_of (by decide +kernel)
theorem r185_26 : Rw 185 26 27 1 1 (cd 5) 6 0 := rw_of (by decide +kernel)
theorem r185_27 : Rw 185 27 30 3 70 65 0 0 := rw_of (by decide +kernel)
theorem r185_30 : Rw 185 30 32 2 13 5 0 0 := rw_of (by decide +kernel)
theorem r185_32 : Rw 185 32 33 1 14 0 0 0 := rw_of (by decide +kernel)
theorem r185_33 : Rw 185 33 36 3 80 5 0 44 := rw_of (by decide +kernel)
theorem r185_36 : Rw 185 36 37 1 10 3 0 0 := rw_of (by decide +kernel)
theorem r185_37 : Rw 185 37 39 2 11 7 0 0 := rw_of (by decide +kernel)
theorem r185_39 : Rw 185 39 40 1 30 0 0 0 := rw_of (by decide +kernel)
theorem r185_40 : Rw 185 40 41 1 87 0 0 0 := rw_of (by decide +kernel)
theorem r185_41 : Rw 185 41 42 1 10 2 0 0 := rw_of (by decide +kernel)
theorem r185_42 : Rw 185 42 43 1 84 0 0 0 := rw_of (by decide +kernel)
theorem r185_43 : Rw 185 43 44 1 14 0 0 0 := rw_of (by decide +kernel)
theorem r185_44 : Rw 185 44 47 3 80 5 0 44 := rw_of (by decide +kernel)
theorem r185_47 : Rw 185 47 49 2 11 4 0 0 := rw_of (by decide +kernel)
theorem r185_49 : Rw 185 49 51 2 11 7 0 0 := rw_of (by decide +kernel)
theorem r185_51 : Rw 185 51 52 1 30 0 0 0 := rw_of (by decide +kernel)
theorem r185_52 : Rw 185 52 53 1 87 0 0 0 := rw_of (by decide +kernel)
theorem r185_53 : Rw 185 53 54 1 10 2 0 0 := rw_of (by decide +kernel)
theorem r185_54 : Rw 185 54 55 1 84 0 0 0 := rw_of (by decide +kernel)
theorem r185_55 : Rw 185 55 56 1 43 0 0 0 := rw_of (by decide +kernel)
theorem r185_56 : Rw 185 56 57 1 44 0 0 0 := rw_of (by decide +kernel)
theorem r185_57 : Rw 185 57 59 2 19 5 0 0 := rw_of (by decide +kernel)
theorem r185_59 : Rw 185 59 62 3 22 7 (cd 1) 32769 := rw_of (by decide +kernel)
theorem r185_62 : Rw 185 62 65 3 60 24 0 0 := rw_of (by decide +kernel)
theorem r185_65 : Rw 185 65 67 2 13 5 0 0 := rw_of (by decide +kernel)
theorem r185_67 : Rw 185 67 68 1 75 0 0 0 := rw_of (by decide +kernel)
theorem kc_10_185 : Kc 10 185 := kc_of (by decide) (by decide +kernel)
theorem r207_117 : Rw 207 117 120 3 60 127 0 0 := rw_of (by decide +kernel)
theorem r207_202 : Rw 207 202 203 1 10 3 0 0 := rw_of (by decide +kernel)
theorem r207_203 : Rw 207 203 206 3 66 249 0 0 := rw_of (by decide +kernel)
theorem r207_120 : Rw 207 120 121 1 14 0 0 0 := rw_of (by decide +kernel)
theorem r207_121 : Rw 207 121 123 2 11 5 0 0 := rw_of (by decide +kernel)
theorem r207_123 : Rw 207 123 124 1 10 2 0 0 := rw_of (by decide +kernel)
theorem r207_124 : Rw 207 124 127 3 100 198 3 138 := rw_of (by decide +kernel)
theorem r198_0 : Rw 198 0 2 2 2 (cd 48) 176 0 := rw_of (by decide +kernel)
theorem r198_2 : Rw 198 2 3 1 10 1 0 0 := rw_of (by decide +kernel)
theorem r198_3 : Rw 198 3 5 2 2 (cd 8) 136 0 := rw_of (by decide +kernel)
theorem r198_5 : Rw 198 5 6 1 37 0 0 0 := rw_of (by decide +kernel)
theorem r198_6 : Rw 198 6 8 2 2 (cd 8) 136 0 := rw_of (by decide +kernel)
theorem r198_8 : Rw 198 8 9 1 32 0 0 0 := rw_of (by decide +kernel)
theorem r198_9 : Rw 198 9 10 1 30 0 0 0 := rw_of (by decide +kernel)
theorem r198_10 : Rw 198 10 11 1 16 3 0 0 := rw_of (by decide +kernel)
theorem r198_11 : Rw 198 11 12 1 6 0 0 0 := rw_of (by decide +kernel)
theorem r198_12 : Rw 198 12 14 2 19 4 0 0 := rw_of (by decide +kernel)
theorem r198_14 : Rw 198 14 15 1 1 (cd 0) 1 0 := rw_of (by decide +kernel)
theorem r198_15 : Rw 198 15 17 2 17 6 0 0 := rw_of (by decide +kernel)
theorem r198_17 : Rw 198 17 19 2 11 6 0 0 := rw_of (by decide +kernel)
theorem r198_19 : Rw 198 19 21 2 2 (cd 7) 135 0 := rw_of (by decide +kernel)
theorem r198_21 : Rw 198 21 24 3 71 56 0 0 := rw_of (by decide +kernel)
theorem r198_24 : Rw 198 24 25 1 10 1 0 0 := rw_of (by decide +kernel)
theorem r198_25 : Rw 198 25 27 2 11 6 0 0 := rw_of (by decide +kernel)
theorem r198_27 : Rw 198 27 28 1 37 0 0 0 := rw_of (by decide +kernel)
theorem r198_28 : Rw 198 28 29 1 1 (cd 1) 2 0 := rw_of (by decide +kernel)
theorem r198_29 : Rw 198 29 30 1 33 0 0 0 := rw_of (by decide +kernel)
theorem r198_30 : Rw 198 30 31 1 1 (cd 1) 2 0 := rw_of (by decide +kernel)
theorem r198_31 : Rw 198 31 34 3 68 50 0 0 := rw_of (by decide +kernel)
theorem r198_50 : Rw 198 50 53 3 22 6 (cd 1) 32769 := rw_of (by decide +kernel)
theorem r198_53 : Rw 198 53 56 3 60 17 0 0 := rw_of (by decide +kernel)
theorem r198_34 : Rw 198 34 36 2 13 4 0 0 := rw_of (by decide +kernel)
theorem r198_36 : Rw 198 36 37 1 14 0 0 0 := rw_of (by decide +kernel)
theorem r198_37 : Rw 198 37 40 3 80 5 0 44 := rw_of (by decide +kernel)
theorem r198_40 : Rw 198 40 41 1 10 3 0 0 := rw_of (by decide +kernel)
theorem r198_41 : Rw 198 41 43 2 11 6 0 0 := rw_of (by decide +kernel)
theorem r198_43 : Rw 198 43 44 1 30 0 0 0 := rw_of (by decide +kernel)
theorem r198_44 : Rw 198 44 45 1 87 0 0 0 := rw_of (by decide +kernel)
theorem r198_45 : Rw 198 45 46 1 10 2 0 0 := rw_of (by decide +kernel)
theorem r198_46 : Rw 198 46 47 1 84 0 0 0 := rw_of (by decide +kernel)
theorem r198_47 : Rw 198 47 48 1 44 0 0 0 := rw_of (by decide +kernel)
theorem r198_48 : Rw 198 48 50 2 19 4 0 0 := rw_of (by decide +kernel)
theorem r198_56 : Rw 198 56 58 2 13 4 0 0 := rw_of (by decide +kernel)
theorem r198_58 : Rw 198 58 59 1 75 0 0 0 := rw_of (by decide +kernel)
theorem kc_10_198 : Kc 10 198 := kc_of (by decide) (by decide +kernel)
theorem r207_206 : Rw 207 206 207 1 14 0 0 0 := rw_of (by decide +kernel)
theorem r207_207 : Rw 207 207 210 3 80 5 4 15 := rw_of (by decide +kernel)
theorem r207_210 : Rw 207 210 211 1 10 3 0 0 := rw_of (by decide +kernel)
theorem r207_211 : Rw 207 211 212 1 1 (cd 1) 2 0 := rw_of (by decide +kernel)
theorem r207_212 : Rw 207 212 213 1 31 0 0 0 := rw_of (by decide +kernel)
theorem r207_213 : Rw 207 213 214 1 84 0 0 0 := rw_of (by decide +kernel)
theorem r207_214 : Rw 207 214 216 2 19 8 0 0 := rw_of (by decide +kernel)
theorem r207_216 : Rw 207 216 217 1 14 0 0 0 := rw_of (by decide +kernel)
theorem r207_217 : Rw 207 217 220 3 80 5 4 15 := rw_of (by decide +kernel)
theorem r207_220 : Rw 207 220 221 1 10 3 0 0 := rw_of (by decide +kernel)
theorem r207_221 : Rw 207 221 222 1 1 (cd 1) 2 0 := rw_of (by decide +kernel)
theorem r207_222 : Rw 207 222 223 1 31 0 0 0 := rw_of (by decide +kernel)
theorem r207_223 : Rw 207 223 225 2 11 6 0 0 := rw_of (by decide +kernel)
theorem r207_225 : Rw 207 225 226 1 1 (cd 1) 2 0 := rw_of (by decide +kernel)
theorem r207_226 : Rw 207 226 229 3 68 238 0 0 := rw_of (by decide +kernel)
theorem r207_238 : Rw 207 238 239 1 14 0 0 0 := rw_of (by decide +kernel)
theorem r207_239 : Rw 207 239 241 2 11 5 0 0 := rw_of (by decide +kernel)
theorem r207_241 : Rw 207 241 242 1 1 (cd (-1)) 0 0 := rw_of (by decide +kernel)
theorem r207_242 : Rw 207 242 244 2 13 8 0 0 := rw_of (by decide +kernel)
theorem r207_244 : Rw 207 244 245 1 10 2 0 0 := rw_of (by decide +kernel)
theorem r207_245 : Rw 207 245 248 3 100 189 5 143 := rw_of (by decide +kernel)
theorem r189_0 : Rw 189 0 1 1 14 0 0 0 := rw_of (by decide +kernel)
theorem r189_1 : Rw 189 1 2 1 10 1 0 0 := rw_of (by decide +kernel)
theorem r189_2 : Rw 189 2 5 3 100 190 2 151 := rw_of (by decide +kernel)
theorem r190_0 : Rw 190 0 1 1 14 0 0 0 := rw_of (by decide +kernel)
theorem r190_1 : Rw 190 1 4 3 80 5 0 44 := rw_of (by decide +kernel)
theorem r190_4 : Rw 190 4 5 1 1 (cd 0) 1 0 := rw_of (by decide +kernel)
theorem r190_5 : Rw 190 5 6 1 10 1 0 0 := rw_of (by decide +kernel)
theorem r190_6 : Rw 190 6 7 1 1 (cd 5) 6 0 := rw_of (by decide +kernel)
theorem r190_7 : Rw 190 7 8 1 32 0 0 0 := rw_of (by decide +kernel)
theorem r190_8 : Rw 190 8 9 1 30 0 0 0 := rw_of (by decide +kernel)
theorem r190_9 : Rw 190 9 10 1 1 (cd 4) 5 0 := rw_of (by decide +kernel)
theorem r190_10 : Rw 190 10 11 1 30 0 0 0 := rw_of (by decide +kernel)
theorem r190_11 : Rw 190 11 12 1 87 0 0 0 := rw_of (by decide +kernel)
theorem r190_12 : Rw 190 12 13 1 76 0 0 0 := rw_of (by decide +kernel)
theorem kc_10_190 : Kc 10 190 := kc_of (by decide) (by decide +kernel)
theorem r189_5 : Rw 189 5 7 2 11 5 0 0 := rw_of (by decide +kernel)
theorem r189_7 : Rw 189 7 8 1 84 0 0 0 := rw_of (by decide +kernel)
theorem r189_8 : Rw 189 8 9 1 14 0 0 0 := rw_of (by decide +kernel)
theorem r189_9 : Rw 189 9 10 1 10 2 0 0 := rw_of (by decide +kernel)
theorem r189_10 : Rw 189 10 13 3 100 208 2 155 := rw_of (by decide +kernel)
theorem r208_0 : Rw 208 0 1 1 14 0 0 0 := rw_of (by decide +kernel)
theorem r208_1 : Rw 208 1 4 3 80 5 0 44 := rw_of (by decide +kernel)
theorem r208_4 : Rw 208 4 5 1 10 1 0 0 := rw_of (by decide +kernel)
theorem r208_5 : Rw 208 5 6 1 1 (cd (-1)) 0 0 := rw_of (by decide +kernel)
theorem r208_6 : Rw 208 6 9 3 68 14 0 0 := rw_of (by decide +kernel)
theorem r208_9 : Rw 208 9 11 2 2 (cd 118) 246 0 := rw_of (by decide +kernel)
theorem r208_11 : Rw 208 11 14 3 60 18 0 0 := rw_of (by decide +kernel)
theorem r208_18 : Rw 208 18 19 1 87 0 0 0 := rw_of (by decide +kernel)
theorem r208_19 : Rw 208 19 20 1 76 0 0 0 := rw_of (by decide +kernel)
theorem kc_10_208 : Kc 10 208 := kc_of (by decide) (by decide +kernel)
theorem r189_13 : Rw 189 13 15 2 11 5 0 0 := rw_of (by decide +kernel)
theorem r189_15 : Rw 189 15 16 1 84 0 0 0 := rw_of (by decide +kernel)
theorem ar_135 : Ar 135 102 47 := ar_of (by decide) (by decide) (by decide +kernel)
theorem ba_135 {M : Mm} (h : Pw M) {i : Int} (h0 : 0 ≤ i) (h1 : i < 47) : 0 ≤ M 135 i ∧ M 135 i ≤ 18446744073709551615 := (h 135 i (by decide) (by decide) h0 (by rw [ar_135.2.2.2.1]; exact h1)).get0 (gr_17 (by decide) (by decide) i) rfl rfl rfl rfl
theorem r189_16 : Rw 189 16 17 1 12 3 0 0 := rw_of (by decide +kernel)
theorem r189_17 : Rw 189 17 18 1 45 0 0 0 := rw_of (by decide +kernel)
theorem r189_18 : Rw 189 18 19 1 14 0 0 0 := rw_of (by decide +kernel)
theorem r189_19 : Rw 189 19 20 1 10 1 0 0 := rw_of (by decide +kernel)
theorem r189_20 : Rw 189 20 23 3 100 193 2 158 := rw_of (by decide +kernel)
theorem r193_0 : Rw 193 0 1 1 14 0 0 0 := rw_of (by decide +kernel)
theorem r193_1 : Rw 193 1 4 3 80 5 0 44 := rw_of (by decide +kernel)
theorem r193_4 : Rw 193 4 6 2 2 (cd 88) 216 0 := rw_of (by decide +kernel)
theorem r193_6 : Rw 193 6 7 1 1 (cd 2) 3 0 := rw_of (by decide +kernel)
theorem r193_7 : Rw 193 7 8 1 10 1 0 0 := rw_of (by decide +kernel)
theorem r193_8 : Rw 193 8 9 1 32 0 0 0 := rw_of (by decide +kernel)
theorem r193_9 : Rw 193 9 10 1 30 0 0 0 := rw_of (by decide +kernel)
theorem r193_10 : Rw 193 10 11 1 14 0 0 0 := rw_of (by decide +kernel)
theorem r193_11 : Rw 193 11 14 3 80 5 3 9 := rw_of (by decide +kernel)
theorem r193_14 : Rw 193 14 15 1 10 1 0 0 := rw_of (by decide +kernel)
theorem r193_15 : Rw 193 15 16 1 83 0 0 0 := rw_of (by decide +kernel)
theorem r193_16 : Rw 193 16 17 1 30 0 0 0 := rw_of (by decide +kernel)
theorem r193_17 : Rw 193 17 18 1 87 0 0 0 := rw_of (by decide +kernel)
theorem r193_18 : Rw 193 18 19 1 76 0 0 0 := rw_of (by decide +kernel)
theorem kc_10_193 : Kc 10 193 := kc_of (by decide) (by decide +kernel)
theorem r189_23 : Rw 189 23 25 2 11 5 0 0 := rw_of (by decide +kernel)
theorem r189_25 : Rw 189 25 26 1 84 0 0 0 := rw_of (by decide +kernel)
theorem r189_26 : Rw 189 26 27 1 45 0 0 0 := rw_of (by decide +kernel)
theorem r189_27 : Rw 189 27 28 1 44 0 0 0 := rw_of (by decide +kernel)
theorem r189_28 : Rw 189 28 29 1 75 0 0 0 := rw_of (by decide +kernel)
theorem kc_10_189 : Kc 10 189 := kc_of (by decide) (by decide +kernel)
theorem r207_248 : Rw 207 248 249 1 89 0 0 0 := rw_of (by decide +kernel)
theorem r207_229 : Rw 207 229 231 2 13 8 0 0 := rw_of (by decide +kernel)
theorem r207_231 : Rw 207 231 234 3 7 18446744073709551615 141 0 := rw_of (by decide +kernel)
theorem r207_234 : Rw 207 234 235 1 45 0 0 0 := rw_of (by decide +kernel)
theorem r207_235 : Rw 207 235 238 3 60 248 0 0 := rw_of (by decide +kernel)
theorem r207_144 : Rw 207 144 147 3 22 3 (cd (-1)) 32767 := rw_of (by decide +kernel)
theorem r207_147 : Rw 207 147 148 1 14 0 0 0 := rw_of (by decide +kernel)
theorem r207_148 : Rw 207 148 151 3 80 5 4 15 := rw_of (by decide +kernel)
theorem r207_151 : Rw 207 151 152 1 10 3 0 0 := rw_of (by decide +kernel)
theorem r207_152 : Rw 207 152 153 1 84 0 0 0 := rw_of (by decide +kernel)
theorem r207_153 : Rw 207 153 155 2 19 8 0 0 := rw_of (by decide +kernel)
theorem r207_155 : Rw 207 155 156 1 14 0 0 0 := rw_of (by decide +kernel)
theorem r207_156 : Rw 207 156 159 3 80 5 4 15 := rw_of (by decide +kernel)
theorem r207_159 : Rw 207 159 160 1 10 3 0 0 := rw_of (by decide +kernel)
theorem r207_160 : Rw 207 160 161 1 1 (cd 1) 2 0 := rw_of (by decide +kernel)
theorem r207_161 : Rw 207 161 162 1 31 0 0 0 := rw_of (by decide +kernel)
theorem r207_162 : Rw 207 162 164 2 11 6 0 0 := rw_of (by decide +kernel)
theorem r207_164 : Rw 207 164 165 1 1 (cd 2) 3 0 := rw_of (by decide +kernel)
theorem r207_165 : Rw 207 165 168 3 68 182 0 0 := rw_of (by decide +kernel)
theorem r207_168 : Rw 207 168 169 1 14 0 0 0 := rw_of (by decide +kernel)
theorem r207_169 : Rw 207 169 172 3 80 5 4 15 := rw_of (by decide +kernel)
theorem r207_172 : Rw 207 172 173 1 10 3 0 0 := rw_of (by decide +kernel)
theorem r207_173 : Rw 207 173 174 1 1 (cd 1) 2 0 := rw_of (by decide +kernel)
theorem r207_174 : Rw 207 174 175 1 31 0 0 0 := rw_of (by decide +kernel)
theorem r207_175 : Rw 207 175 176 1 84 0 0 0 := rw_of (by decide +kernel)
theorem r207_176 : Rw 207 176 178 2 13 8 0 0 := rw_of (by decide +kernel)
theorem r207_178 : Rw 207 178 179 1 43 0 0 0 := rw_of (by decide +kernel)
theorem r207_179 : Rw 207 179 182 3 60 193 0 0 := rw_of (by decide +kernel)
theorem r207_193 : Rw 207 193 194 1 89 0 0 0 := rw_of (by decide +kernel)
theorem r207_194 : Rw 207 194 197 3 60 249 0 0 := rw_of (by decide +kernel)
theorem r207_182 : Rw 207 182 183 1 14 0 0 0 := rw_of (by decide +kernel)
theorem r207_183 : Rw 207 183 186 3 80 5 4 15 := rw_of (by decide +kernel)
theorem r207_186 : Rw 207 186 187 1 10 3 0 0 := rw_of (by decide +kernel)
theorem r207_187 : Rw 207 187 188 1 1 (cd 1) 2 0 := rw_of (by decide +kernel)
theorem r207_188 : Rw 207 188 189 1 31 0 0 0 := rw_of (by decide +kernel)
theorem r207_189 : Rw 207 189 190 1 84 0 0 0 := rw_of (by decide +kernel)
theorem r207_190 : Rw 207 190 192 2 13 8 0 0 := rw_of (by decide +kernel)
theorem r207_192 : Rw 207 192 193 1 44 0 0 0 := rw_of (by decide +kernel)
theorem kc_10_207 : Kc 10 207 := kc_of (by decide) (by decide +kernel)
theorem r196_18 : Rw 196 18 19 1 89 0 0 0 := rw_of (by decide +kernel)
theorem arb_155 : (List.range 13).all (fun j => arb (155 + j) 102 47) = true := by decide +kernel
theorem arF_155 {a : Int} (h0 : 155 ≤ a) (h1 : a ≤ 167) : Ar a 102 47 := ar_of (by omega) (by decide) (by
  have h := List.all_eq_true.mp arb_155 (a.toNat - 155) (List.mem_range.mpr (by omega))
  rw [show 155 + (a.toNat - 155) = a.toNat by omega] at h
  exact h)
theorem uaF_155 {a i z : Int} (ha : 155 ≤ a) (hb : a ≤ 167) (hz : 0 ≤ z ∧ z ≤ 18446744073709551615) : Bd a i z := Bd.of0 (gr_155 ha hb i) rfl rfl rfl rfl rfl hz
theorem r196_19 : Rw 196 19 22 3 22 3 (cd 1) 32769 := rw_of (by decide +kernel)
theorem r196_22 : Rw 196 22 25 3 60 2 0 0 := rw_of (by decide +kernel)
theorem kc_10_196 : Kc 10 196 := kc_of (by decide) (by decide +kernel)
theorem r226_19 : Rw 226 19 20 1 77 0 0 0 := rw_of (by decide +kernel)
theorem kc_138_226 : Kc 138 226 := kc_of (by decide) (by decide +kernel)
theorem r24_71 : Rw 24 71 72 1 14 0 0 0 := rw_of (by decide +kernel)
theorem r24_72 : Rw 24 72 75 3 80 11 12 78 := rw_of (by decide +kernel)
theorem fd_0_12 : Fdl 0 11 12 12 2 := fd_of (by decide) rfl (by decide +kernel)
theorem bf_0_12 {M : Mm} (h : Pw M) : 170 ≤ M 0 12 ∧ M 0 12 ≤ 170 := (h 0 12 (by decide) (by decide) (by decide) (by decide +kernel)).get0 g_0_12 rfl rfl rfl rfl
theorem br_0_12 {M : Mm} (h : Pw M) : M 0 12 = 170 := by have := bf_0_12 h; omega
theorem r24_75 : Rw 24 75 78 3 100 217 1 146 := rw_of (by decide +kernel)
theorem r217_0 : Rw 217 0 1 1 14 0 0 0 := rw_of (by decide +kernel)
theorem r217_1 : Rw 217 1 2 1 1 (cd 0) 1 0 := rw_of (by decide +kernel)
theorem r217_2 : Rw 217 2 5 3 81 7 4 1 := rw_of (by decide +kernel)
theorem fd_170_4 : Fdl 170 7 4 4 0 := fd_of (by decide) rfl (by decide +kernel)
theorem uf_170_4 {z : Int} (hz : 0 ≤ z ∧ z ≤ 1) : Bd 170 4 z := Bd.of0 g_170_4 rfl rfl rfl rfl rfl hz
theorem r217_5 : Rw 217 5 6 1 77 0 0 0 := rw_of (by decide +kernel)
theorem kc_170_217 : Kc 170 217 := kc_of (by decide) (by decide +kernel)
theorem r24_78 : Rw 24 78 79 1 14 0 0 0 := rw_of (by decide +kernel)
theorem r24_79 : Rw 24 79 80 1 1 (cd 0) 1 0 := rw_of (by decide +kernel)
theorem r24_80 : Rw 24 80 83 3 81 11 9 0 := rw_of (by decide +kernel)
theorem fd_0_9 : Fdl 0 11 9 9 0 := fd_of (by decide) rfl (by decide +kernel)
theorem uf_0_9 {z : Int} (hz : 0 ≤ z ∧ z ≤ 30) : Bd 0 9 z := Bd.of0 g_0_9 rfl rfl rfl rfl rfl hz
theorem r24_83 : Rw 24 83 84 1 14 0 0 0 := rw_of (by decide +kernel)
theorem r24_84 : Rw 24 84 85 1 1 (cd 0) 1 0 := rw_of (by decide +kernel)
theorem r24_85 : Rw 24 85 88 3 81 11 11 0 := rw_of (by decide +kernel)
theorem fd_0_11 : Fdl 0 11 11 11 0 := fd_of (by decide) rfl (by decide +kernel)
theorem uf_0_11 {z : Int} (hz : 0 ≤ z ∧ z ≤ 10) : Bd 0 11 z := Bd.of0 g_0_11 rfl rfl rfl rfl rfl hz
theorem r24_88 : Rw 24 88 89 1 14 0 0 0 := rw_of (by decide +kernel)
theorem r24_89 : Rw 24 89 90 1 1 (cd (-1)) 0 0 := rw_of (by decide +kernel)
theorem r24_90 : Rw 24 90 93 3 81 11 13 0 := rw_of (by decide +kernel)
theorem fd_0_13 : Fdl 0 11 13 13 0 := fd_of (by decide) rfl (by decide +kernel)
theorem uf_0_13 {z : Int} (hz : (-1) ≤ z ∧ z ≤ 2999) : Bd 0 13 z := Bd.of0 g_0_13 rfl rfl rfl rfl rfl hz
theorem r24_93 : Rw 24 93 94 1 14 0 0 0 := rw_of (by decide +kernel)
theorem r24_94 : Rw 24 94 97 3 80 11 16 100 := rw_of (by decide +kernel)
theorem fd_0_16 : Fdl 0 11 16 16 2 := fd_of (by decide) rfl (by decide +kernel)
theorem bf_0_16 {M : Mm} (h : Pw M) : 607 ≤ M 0 16 ∧ M 0 16 ≤ 607 := (h 0 16 (by decide) (by decide) (by decide) (by decide +kernel)).get0 g_0_16 rfl rfl rfl rfl
theorem br_0_16 {M : Mm} (h : Pw M) : M 0 16 = 607 := by have := bf_0_16 h; omega
theorem r24_97 : Rw 24 97 98 1 1 (cd (-1)) 0 0 := rw_of (by decide +kernel)
theorem r24_98 : Rw 24 98 101 3 81 0 6 0 := rw_of (by decide +kernel)
theorem fd_607_6 : Fdl 607 0 6 6 0 := fd_of (by decide) rfl (by decide +kernel)
theorem uf_607_6 {z : Int} (hz : (-1) ≤ z ∧ z ≤ 9) : Bd 607 6 z := Bd.of0 g_607_6 rfl rfl rfl rfl rfl hz
theorem r24_101 : Rw 24 101 102 1 14 0 0 0 := rw_of (by decide +kernel)
theorem r24_102 : Rw 24 102 105 3 80 11 17 109 := rw_of (by decide +kernel)
theorem fd_0_17 : Fdl 0 11 17 17 2 := fd_of (by decide) rfl (by decide +kernel)
theorem bf_0_17 {M : Mm} (h : Pw M) : 613 ≤ M 0 17 ∧ M 0 17 ≤ 613 := (h 0 17 (by decide) (by decide) (by decide) (by decide +kernel)).get0 g_0_17 rfl rfl rfl rfl
theorem br_0_17 {M : Mm} (h : Pw M) : M 0 17 = 613 := by have := bf_0_17 h; omega
theorem r24_105 : Rw 24 105 106 1 1 (cd 0) 1 0 := rw_of (by decide +kernel)
theorem r24_106 : Rw 24 106 109 3 81 6 9 0 := rw_of (by decide +kernel)
theorem fd_613_9 : Fdl 613 6 9 9 0 := fd_of (by decide) rfl (by decide +kernel)
theorem uf_613_9 {z : Int} (hz : 0 ≤ z ∧ z ≤ 2) : Bd 613 9 z := Bd.of0 g_613_9 rfl rfl rfl rfl rfl hz
theorem r24_109 : Rw 24 109 110 1 1 (cd 0) 1 0 := rw_of (by decide +kernel)
theorem r24_110 : Rw 24 110 111 1 74 0 0 0 := rw_of (by decide +kernel)
theorem r24_33 : Rw 24 33 34 1 10 2 0 0 := rw_of (by decide +kernel)
theorem r24_34 : Rw 24 34 35 1 74 0 0 0 := rw_of (by decide +kernel)
def fm_m40_0 : Nat := 4
/-- IslandHall.takeTape -/
theorem m40_0 {B : eB} (d : Nat) (M0 : Mm) (p1 : Int) (x0_1 : Int) (hP0 : Pw M0) (l1 : (-2147483648) ≤ p1) (u1 : p1 ≤ 2147483647) (ex0_1 : M0 0 1 = x0_1) (lx0_1 : 0 ≤ x0_1) (ux0_1 : x0_1 ≤ 500) : Ct B (d + 1) 40 [R 0, I p1] M0 (qX 1 (fun M => Pw M ∧ Fr (fm_m40_0 ||| 1) M0 M ∧ M (-1) 0 = M0 (-1) 0 + 1) (qV fun M => Pw M ∧ Fr fm_m40_0 M0 M ∧ 0 ≤ p1 ∧ 0 ≤ x0_1 + (-1) * p1)) := by
  refine ct_of (d := d + 0) (k := 0) (L := [some (R 0), some (I p1)]) rfl rfl rfl ?_
  have hF0 := Fr.rf fm_m40_0 M0
  generalize hQ : (qX 1 (fun M => Pw M ∧ Fr (fm_m40_0 ||| 1) M0 M ∧ M (-1) 0 = M0 (-1) 0 + 1) (qV fun M => Pw M ∧ Fr fm_m40_0 M0 M ∧ 0 ≤ p1 ∧ 0 ≤ x0_1 + (-1) * p1)) = Q
  refine wk_il1 r40_0 ?_
  refine wk_iflt r40_1 ⟨by omega, by omega⟩ ?_ ?_
  · intro h1
    subst hQ; exact wk_thr105 r40_12 rfl (Or.inl ⟨rfl, hP0.thr, (Fr.thr hF0), (by rw [mUp_eq, hF0.at g_below rfl])⟩)
  · intro h2
    refine wk_il1 r40_4 (wk_al0 r40_5 (wk_getfi r40_6 fd_0_1 ex0_1 ?_))
    refine wk_icle r40_9 ⟨by omega, by omega⟩ ⟨by omega, by omega⟩ ?_ ?_
    · intro h3
      refine wk_al0 r40_22 (wk_c1 r40_23 (wk_putfi81 r40_24 fd_0_1 (wk_nw g_0_1 rfl hP0 hF0 (uf_0_1 (by decide)) ?_)))
      intro M4 hP5 hF6 e7
      subst hQ; exact wk_ret r40_27 (Or.inr ⟨rfl, hP5, hF6, by omega, by omega⟩)
    · intro h8
      subst hQ; exact wk_thr105 r40_12 rfl (Or.inl ⟨rfl, hP0.thr, (Fr.thr hF0), (by rw [mUp_eq, hF0.at g_below rfl])⟩)
def fm_m243 : Nat := 0
/-- IslandHall$Tokens.typeOf -/
theorem m243 {B : eB} (d : Nat) (M0 : Mm) (p0 : Int) (hP0 : Pw M0) (l0 : (-128) ≤ p0) (u0 : p0 ≤ 127) : Ct B (d + 1) 243 [I p0] M0 (qI fun z M => Pw M ∧ Fr fm_m243 M0 M ∧ 1 ≤ z ∧ z ≤ 4) := by
  refine ct_of (d := d + 0) (k := 1) (L := [some (I p0), none]) rfl rfl rfl ?_
  have hF0 := Fr.rf fm_m243 M0
  generalize hQ : (qI fun z M => Pw M ∧ Fr fm_m243 M0 M ∧ 1 ≤ z ∧ z ≤ 4) = Q
  refine wk_il0 r243_0 (wk_c2 r243_1 ?_)
  have c14_36 : Wp B (d + 0) 243 14 [some (I p0), none] [] M0 Q := by
    refine wk_il0 r243_14 (wk_c2 r243_15 ?_)
    have c28_35 : Wp B (d + 0) 243 28 [some (I p0), none] [] M0 Q := by
      refine wk_il0 r243_28 (wk_c2 r243_29 ?_)
      refine wk_iceq r243_31 ⟨by omega, by omega⟩ (by decide) ?_ ?_
      · intro h9
        refine wk_c1 r243_64 (wk_goto r243_65 (wk_is1 r243_69 rfl (wk_il1 r243_70 ?_)))
        refine wk_ifeq r243_71 (by decide) ?_ ?_
        · intro h10
          exfalso
          omega
        · intro h11
          refine wk_c1 r243_74 (wk_goto r243_75 ?_)
          subst hQ; exact wk_iret r243_79 (⟨rfl, _, rfl, hP0, hF0, by omega, by omega⟩)
      · intro h12
        refine wk_il0 r243_34 (wk_c2 r243_35 ?_)
        refine wk_iceq r243_37 ⟨by omega, by omega⟩ (by decide) ?_ ?_
        · intro h13
          refine wk_c1 r243_64 (wk_goto r243_65 (wk_is1 r243_69 rfl (wk_il1 r243_70 ?_)))
          refine wk_ifeq r243_71 (by decide) ?_ ?_
          · intro h14
            exfalso
            omega
          · intro h15
            refine wk_c1 r243_74 (wk_goto r243_75 ?_)
            subst hQ; exact wk_iret r243_79 (⟨rfl, _, rfl, hP0, hF0, by omega, by omega⟩)
        · intro h16
          refine wk_il0 r243_40 (wk_c2 r243_41 ?_)
          refine wk_iceq r243_43 ⟨by omega, by omega⟩ (by decide) ?_ ?_
          · intro h17
            refine wk_c1 r243_64 (wk_goto r243_65 (wk_is1 r243_69 rfl (wk_il1 r243_70 ?_)))
            refine wk_ifeq r243_71 (by decide) ?_ ?_
            · intro h18
              exfalso
              omega
            · intro h19
              refine wk_c1 r243_74 (wk_goto r243_75 ?_)
              subst hQ; exact wk_iret r243_79 (⟨rfl, _, rfl, hP0, hF0, by omega, by omega⟩)
          · intro h20
            refine wk_il0 r243_46 (wk_c2 r243_47 ?_)
            refine wk_iceq r243_49 ⟨by omega, by omega⟩ (by decide) ?_ ?_
            · intro h21
              refine wk_c1 r243_64 (wk_goto r243_65 (wk_is1 r243_69 rfl (wk_il1 r243_70 ?_)))
              refine wk_ifeq r243_71 (by decide) ?_ ?_
              · intro h22
                exfalso
                omega
              · intro h23
                refine wk_c1 r243_74 (wk_goto r243_75 ?_)
                subst hQ; exact wk_iret r243_79 (⟨rfl, _, rfl, hP0, hF0, by omega, by omega⟩)
            · intro h24
              refine wk_il0 r243_52 (wk_c2 r243_53 ?_)
              refine wk_iceq r243_55 ⟨by omega, by omega⟩ (by decide) ?_ ?_
              · intro h25
                refine wk_c1 r243_64 (wk_goto r243_65 (wk_is1 r243_69 rfl (wk_il1 r243_70 ?_)))
                refine wk_ifeq r243_71 (by decide) ?_ ?_
                · intro h26
                  exfalso
                  omega
                · intro h27
                  refine wk_c1 r243_74 (wk_goto r243_75 ?_)
                  subst hQ; exact wk_iret r243_79 (⟨rfl, _, rfl, hP0, hF0, by omega, by omega⟩)
              · intro h28
                refine wk_il0 r243_58 (wk_c2 r243_59 ?_)
                refine wk_icne r243_61 ⟨by omega, by omega⟩ (by decide) ?_ ?_
                · intro h29
                  refine wk_c1 r243_68 (wk_is1 r243_69 rfl (wk_il1 r243_70 ?_))
                  refine wk_ifeq r243_71 (by decide) ?_ ?_
                  · intro h30
                    refine wk_c1 r243_78 ?_
                    subst hQ; exact wk_iret r243_79 (⟨rfl, _, rfl, hP0, hF0, by omega, by omega⟩)
                  · intro h31
                    exfalso
                    omega
                · intro h32
                  refine wk_c1 r243_64 (wk_goto r243_65 (wk_is1 r243_69 rfl (wk_il1 r243_70 ?_)))
                  refine wk_ifeq r243_71 (by decide) ?_ ?_
                  · intro h33
                    exfalso
                    omega
                  · intro h34
                    refine wk_c1 r243_74 (wk_goto r243_75 ?_)
                    subst hQ; exact wk_iret r243_79 (⟨rfl, _, rfl, hP0, hF0, by omega, by omega⟩)
    refine wk_iclt r243_17 ⟨by omega, by omega⟩ (by decide) ?_ ?_
    · intro h5
      exact wp_fg (le_s (le_s le_0)) c28_35
    · intro h6
      refine wk_il0 r243_20 (wk_c2 r243_21 ?_)
      refine wk_icgt r243_23 ⟨by omega, by omega⟩ (by decide) ?_ ?_
      · intro h7
        exact wp_fg (le_s (le_s le_0)) c28_35
      · intro h8
        refine wk_c1 r243_26 ?_
        subst hQ; exact wk_iret r243_27 (⟨rfl, _, rfl, hP0, hF0, by omega, by omega⟩)
  refine wk_iclt r243_3 ⟨by omega, by omega⟩ (by decide) ?_ ?_
  · intro h1
    exact wp_fg (le_s (le_s le_0)) c14_36
  · intro h2
    refine wk_il0 r243_6 (wk_c2 r243_7 ?_)
    refine wk_icgt r243_9 ⟨by omega, by omega⟩ (by decide) ?_ ?_
    · intro h3
      exact wp_fg (le_s (le_s le_0)) c14_36
    · intro h4
      refine wk_c1 r243_12 ?_
      subst hQ; exact wk_iret r243_13 (⟨rfl, _, rfl, hP0, hF0, by omega, by omega⟩)
def fm_m241_9 : Nat := 3940649673949184
/-- IslandHall$Tokens.next -/
theorem m241_9 {B : eB} (d : Nat) (M0 : Mm) (hP0 : Pw M0)  : Ct B (d + 2) 241 [R 9] M0 (qV fun M => Pw M ∧ Fr fm_m241_9 M0 M) := by
  refine ct_of (d := d + 1) (k := 1) (L := [some (R 9), none]) rfl rfl rfl ?_
  have hF0 := Fr.rf fm_m241_9 M0
  generalize hQ : (qV fun M => Pw M ∧ Fr fm_m241_9 M0 M) = Q
  refine wk_al0 r241_0 (wk_al0 r241_1 (wk_getfb r241_2 fd_9_2 (bf_9_2 hP0) ?_))
  intro v1 h3 h4 e2
  refine wk_putfi81 r241_5 fd_9_3 (wk_nw g_9_3 rfl hP0 hF0 (uf_9_3 ⟨by omega, by omega⟩) ?_)
  intro M5 hP6 hF7 e8
  have c8_236 : ∀ (k236 : Nat) (M135 : Mm) (v138 : Int), (500 - v138).toNat = k236 → Pw M135 → Fr fm_m241_9 M0 M135 → M135 9 3 = v138 → M135 9 2 = v1 → 0 ≤ v138 → v138 ≤ 500 → Wp B (d + 1) 241 8 [some (R 9), none] [] M135 Q := by
    refine lp_ind ?_
    intro k236 ih236 M135 v138 hk236 hP136 hF137 e141 e142 h139 h140
    refine wk_al0 r241_8 (wk_getfi r241_9 fd_9_3 e141 (wk_al0 r241_12 (wk_getfb r241_13 fd_9_1 (bf_9_1 hP136) ?_)))
    intro v143 h145 h146 e144
    have c60_235 : Wp B (d + 1) 241 60 [some (R 9), none] [] M135 Q := by
      refine wk_al0 r241_60 (wk_getfi r241_61 fd_9_3 e141 (wk_al0 r241_64 (wk_getfi r241_65 fd_9_1 e144 ?_)))
      refine wk_iclt r241_68 ⟨by omega, by omega⟩ ⟨by omega, by omega⟩ ?_ ?_
      · intro h165
        refine wk_al0 r241_85 (wk_al0 r241_86 (wk_getfr r241_87 fd_9_0 (br_9_0 hP136) (wk_al0 r241_90 (wk_getfi r241_91 fd_9_3 e141 (wk_baldb r241_94 ar_1 ⟨by omega, by omega⟩ (fun q0 q1 => ba_1 hP136 q0 q1) ?_)))))
        intro v166 h168 h169 e167
        refine wk_cs102_1 r241_95 rfl (m243 _ M135 v166 hP136 (by omega) (by omega)) (cqI ?_)
        rintro v174 M170 ⟨hP171, hQ172, h175, h176⟩
        obtain rfl := Fr.same hQ172
        refine wk_putfi81 r241_98 fd_9_4 (wk_nw g_9_4 rfl hP136 hF137 (uf_9_4 ⟨by omega, by omega⟩) ?_)
        intro M177 hP178 hF179 e180
        refine wk_al0 r241_101 (wk_al0 r241_102 (wk_getfi r241_103 fd_9_3 (mUp_no e180 e141 (Or.inr (by decide))) (wk_c1 r241_106 (wk_iadd r241_107 (wk_putfi81 r241_108 fd_9_2 (wk_nw g_9_2 rfl hP178 hF179 (uf_9_2 ⟨by omega, by omega⟩) ?_))))))
        intro M181 hP182 hF183 e184
        refine wk_al0 r241_111 (wk_getfi r241_112 fd_9_4 (mUp_no e184 (mUp_at e180) (Or.inr (by decide))) (wk_c1 r241_115 ?_))
        have c132_225 : ∀ (v190 : Int), 0 ≤ v190 → v190 ≤ 1 → Wp B (d + 1) 241 132 [some (R 9), none] [I v190] M181 Q := by
          intro v190 h191 h192
          refine wk_is1 r241_132 rfl ?_
          have c133_224 : ∀ (k224 : Nat) (M193 : Mm) (v196 : Int), (500 - v196).toNat = k224 → Pw M193 → Fr fm_m241_9 M0 M193 → M193 9 2 = v196 → M193 9 3 = v138 → M193 9 1 = v143 → M193 9 4 = v174 → 1 ≤ v196 → v196 ≤ 500 → Wp B (d + 1) 241 133 [some (R 9), some (I v190)] [] M193 Q := by
            refine lp_ind ?_
            intro k224 ih224 M193 v196 hk224 hP194 hF195 e199 e200 e201 e202 h197 h198
            refine wk_il1 r241_133 ?_
            refine wk_ifeq r241_134 ⟨by omega, by omega⟩ ?_ ?_
            · intro h203
              subst hQ; exact wk_ret r241_180 (⟨rfl, hP194, hF195⟩)
            · intro h204
              refine wk_al0 r241_137 (wk_getfi r241_138 fd_9_2 e199 (wk_al0 r241_141 (wk_getfi r241_142 fd_9_1 e201 ?_)))
              refine wk_icge r241_145 ⟨by omega, by omega⟩ ⟨by omega, by omega⟩ ?_ ?_
              · intro h205
                subst hQ; exact wk_ret r241_180 (⟨rfl, hP194, hF195⟩)
              · intro h206
                refine wk_al0 r241_148 (wk_getfr r241_149 fd_9_0 (br_9_0 hP194) (wk_al0 r241_152 (wk_getfi r241_153 fd_9_2 e199 (wk_baldb r241_156 ar_1 ⟨by omega, by omega⟩ (fun q0 q1 => ba_1 hP194 q0 q1) ?_))))
                intro v207 h209 h210 e208
                refine wk_cs102_1 r241_157 rfl (m243 _ M193 v207 hP194 (by omega) (by omega)) (cqI ?_)
                rintro v215 M211 ⟨hP212, hQ213, h216, h217⟩
                obtain rfl := Fr.same hQ213
                refine wk_al0 r241_160 (wk_getfi r241_161 fd_9_4 e202 ?_)
                refine wk_icne r241_164 ⟨by omega, by omega⟩ ⟨by omega, by omega⟩ ?_ ?_
                · intro h218
                  subst hQ; exact wk_ret r241_180 (⟨rfl, hP194, hF195⟩)
                · intro h219
                  refine wk_al0 r241_167 (wk_dupr r241_168 (wk_getfi r241_169 fd_9_2 e199 (wk_c1 r241_172 (wk_iadd r241_173 (wk_putfi81 r241_174 fd_9_2 (wk_nw g_9_2 rfl hP194 hF195 (uf_9_2 ⟨by omega, by omega⟩) ?_))))))
                  intro M220 hP221 hF222 e223
                  refine wk_goto r241_177 ?_
                  exact wp_fg (le_s (le_s le_0)) (ih224 (500 - (v196 + 1)).toNat (by omega) M220 (v196 + 1) rfl hP221 hF222 (mUp_at e223) (mUp_no e223 e200 (Or.inr (by decide))) (mUp_no e223 e201 (Or.inr (by decide))) (mUp_no e223 e202 (Or.inr (by decide))) (by omega) (by omega))
          exact wp_fg (le_s (le_s le_0)) (c133_224 _ M181 (v138 + 1) rfl hP182 hF183 (mUp_at e184) (mUp_no e184 (mUp_no e180 e141 (Or.inr (by decide))) (Or.inr (by decide))) (mUp_no e184 (mUp_no e180 e144 (Or.inr (by decide))) (Or.inr (by decide))) (mUp_no e184 (mUp_at e180) (Or.inr (by decide))) (by omega) (by omega))
        have c127_189 : Wp B (d + 1) 241 127 [some (R 9), none] [] M181 Q := by
          refine wk_c1 r241_127 (wk_goto r241_128 ?_)
          exact wp_fg (le_s (le_s le_0)) (c132_225 1 (by omega) (by omega))
        refine wk_iceq r241_116 ⟨by omega, by omega⟩ (by decide) ?_ ?_
        · intro h185
          exact wp_fg (le_s (le_s le_0)) c127_189
        · intro h186
          refine wk_al0 r241_119 (wk_getfi r241_120 fd_9_4 (mUp_no e184 (mUp_at e180) (Or.inr (by decide))) (wk_c1 r241_123 ?_))
          refine wk_icne r241_124 ⟨by omega, by omega⟩ (by decide) ?_ ?_
          · intro h187
            refine wk_c1 r241_131 ?_
            exact wp_fg (le_s (le_s le_0)) (c132_225 0 (by omega) (by omega))
          · intro h188
            exact wp_fg (le_s (le_s le_0)) c127_189
      · intro h226
        refine wk_al0 r241_71 (wk_c1 r241_72 (wk_putfi81 r241_73 fd_9_4 (wk_nw g_9_4 rfl hP136 hF137 (uf_9_4 (by decide)) ?_)))
        intro M227 hP228 hF229 e230
        refine wk_al0 r241_76 (wk_al0 r241_77 (wk_getfi r241_78 fd_9_3 (mUp_no e230 e141 (Or.inr (by decide))) (wk_putfi81 r241_81 fd_9_2 (wk_nw g_9_2 rfl hP228 hF229 (uf_9_2 ⟨by omega, by omega⟩) ?_))))
        intro M231 hP232 hF233 e234
        subst hQ; exact wk_ret r241_84 (⟨rfl, hP232, hF233⟩)
    refine wk_icge r241_16 ⟨by omega, by omega⟩ ⟨by omega, by omega⟩ ?_ ?_
    · intro h147
      exact wp_fg (le_s (le_s le_0)) c60_235
    · intro h148
      refine wk_al0 r241_19 (wk_getfr r241_20 fd_9_0 (br_9_0 hP136) (wk_al0 r241_23 (wk_getfi r241_24 fd_9_3 e141 (wk_baldb r241_27 ar_1 ⟨by omega, by omega⟩ (fun q0 q1 => ba_1 hP136 q0 q1) ?_))))
      intro v149 h151 h152 e150
      refine wk_c2 r241_28 ?_
      refine wk_iceq r241_30 ⟨by omega, by omega⟩ (by decide) ?_ ?_
      · intro h153
        refine wk_al0 r241_47 (wk_dupr r241_48 (wk_getfi r241_49 fd_9_3 e141 (wk_c1 r241_52 (wk_iadd r241_53 (wk_putfi81 r241_54 fd_9_3 (wk_nw g_9_3 rfl hP136 hF137 (uf_9_3 ⟨by omega, by omega⟩) ?_))))))
        intro M154 hP155 hF156 e157
        refine wk_goto r241_57 ?_
        exact wp_fg (le_s (le_s le_0)) (ih236 (500 - (v138 + 1)).toNat (by omega) M154 (v138 + 1) rfl hP155 hF156 (mUp_at e157) (mUp_no e157 e142 (Or.inr (by decide))) (by omega) (by omega))
      · intro h158
        refine wk_al0 r241_33 (wk_getfr r241_34 fd_9_0 (br_9_0 hP136) (wk_al0 r241_37 (wk_getfi r241_38 fd_9_3 e141 (wk_bald r241_41 ar_1 ⟨by omega, by omega⟩ e150 (wk_c2 r241_42 ?_)))))
        refine wk_icne r241_44 ⟨by omega, by omega⟩ (by decide) ?_ ?_
        · intro h159
          exact wp_fg (le_s (le_s le_0)) c60_235
        · intro h160
          refine wk_al0 r241_47 (wk_dupr r241_48 (wk_getfi r241_49 fd_9_3 e141 (wk_c1 r241_52 (wk_iadd r241_53 (wk_putfi81 r241_54 fd_9_3 (wk_nw g_9_3 rfl hP136 hF137 (uf_9_3 ⟨by omega, by omega⟩) ?_))))))
          intro M161 hP162 hF163 e164
          refine wk_goto r241_57 ?_
          exact wp_fg (le_s (le_s le_0)) (ih236 (500 - (v138 + 1)).toNat (by omega) M161 (v138 + 1) rfl hP162 hF163 (mUp_at e164) (mUp_no e164 e142 (Or.inr (by decide))) (by omega) (by omega))
  exact wp_fg (le_s (le_s le_0)) (c8_236 _ M5 v1 rfl hP6 hF7 (mUp_at e8) (mUp_no e8 e2 (Or.inr (by decide))) (by omega) (by omega))
def fm_m235_9 : Nat := 4222124650659840
/-- IslandHall$Tokens.begin -/
theorem m235_9 {B : eB} (d : Nat) (M0 : Mm) (p1 : Int) (hP0 : Pw M0) (l1 : 0 ≤ p1) (u1 : p1 ≤ 500) : Ct B (d + 3) 235 [R 9, I p1] M0 (qV fun M => Pw M ∧ Fr fm_m235_9 M0 M) := by
  refine ct_of (d := d + 2) (k := 0) (L := [some (R 9), some (I p1)]) rfl rfl rfl ?_
  have hF0 := Fr.rf fm_m235_9 M0
  generalize hQ : (qV fun M => Pw M ∧ Fr fm_m235_9 M0 M) = Q
  refine wk_al0 r235_0 (wk_il1 r235_1 (wk_al0 r235_2 (wk_getfr r235_3 fd_9_0 (br_9_0 hP0) (wk_alen r235_6 ar_1 (by decide) (wk_min r235_7 ⟨by omega, by omega⟩ (by decide) rfl ?_)))))
  intro v1 h2 h3 h4
  refine wk_putfi81 r235_10 fd_9_1 (wk_nw g_9_1 rfl hP0 hF0 (uf_9_1 ⟨by omega, by omega⟩) ?_)
  intro M5 hP6 hF7 e8
  refine wk_al0 r235_13 (wk_c1 r235_14 (wk_putfi81 r235_15 fd_9_2 (wk_nw g_9_2 rfl hP6 hF7 (uf_9_2 (by decide)) ?_)))
  intro M9 hP10 hF11 e12
  refine wk_al0 r235_18 (wk_cv1 r235_19 kc_9_241 rfl (m241_9 _ M9 hP10) (cqV ?_))
  rintro M13 ⟨hP14, hQ15⟩
  have hF16 : Fr fm_m235_9 M0 M13 := hF11.tr hQ15 rfl
  subst hQ; exact wk_ret r235_22 (⟨rfl, hP14, hF16⟩)
def fm_m154_6 : Nat := 4222571327258624
/-- IslandHall$Parser.begin -/
theorem m154_6 {B : eB} (d : Nat) (M0 : Mm) (p1 : Int) (c2 : Int) (hP0 : Pw M0) (l1 : 0 ≤ p1) (u1 : p1 ≤ 500) (hC2 : isC c2) : Ct B (d + 4) 154 [R 6, I p1, R c2] M0 (qV fun M => Pw M ∧ Fr fm_m154_6 M0 M) := by
  refine ct_of (d := d + 3) (k := 0) (L := [some (R 6), some (I p1), some (R c2)]) rfl rfl rfl ?_
  have hF0 := Fr.rf fm_m154_6 M0
  generalize hQ : (qV fun M => Pw M ∧ Fr fm_m154_6 M0 M) = Q
  refine wk_al0 r154_0 (wk_al2 r154_1 (wk_putfr81 r154_2 fd_6_2 (wk_nw g_6_2 rfl hP0 hF0 (pcU hC2) ?_)))
  intro M1 hP2 hF3 e4
  refine wk_al0 r154_5 (wk_c1 r154_6 (wk_putfi81 r154_7 fd_6_4 (wk_nw g_6_4 rfl hP2 hF3 (uf_6_4 (by decide)) ?_)))
  intro M5 hP6 hF7 e8
  refine wk_al0 r154_10 (wk_c1 r154_11 (wk_putfi81 r154_12 fd_6_5 (wk_nw g_6_5 rfl hP6 hF7 (uf_6_5 (by decide)) ?_)))
  intro M9 hP10 hF11 e12
  refine wk_al0 r154_15 (wk_getfr r154_16 fd_6_0 (br_6_0 hP10) (wk_il1 r154_19 (wk_cv2 r154_20 kc_9_235 rfl (m235_9 _ M9 p1 hP10 (by omega) (by omega)) (cqV ?_))))
  rintro M13 ⟨hP14, hQ15⟩
  have hF16 : Fr fm_m154_6 M0 M13 := hF11.tr hQ15 rfl
  subst hQ; exact wk_ret r154_23 (⟨rfl, hP14, hF16⟩)
def fm_m183_7 : Nat := 139637976727552
/-- IslandHall$Plan.reset -/
theorem m183_7 {B : eB} (d : Nat) (M0 : Mm) (hP0 : Pw M0)  : Ct B (d + 2) 183 [R 7] M0 (qV fun M => Pw M ∧ Fr fm_m183_7 M0 M) := by
  refine ct_of (d := d + 1) (k := 0) (L := [some (R 7)]) rfl rfl rfl ?_
  have hF0 := Fr.rf fm_m183_7 M0
  generalize hQ : (qV fun M => Pw M ∧ Fr fm_m183_7 M0 M) = Q
  refine wk_al0 r183_0 (wk_getfr r183_1 fd_7_0 (br_7_0 hP0) (wk_c1 r183_4 (wk_cs102_2 r183_5 rfl (ct_fi ar_8) (cqV ?_))))
  intro M1 e2
  have hP3 : Pw M1 := by rw [e2]; exact hP0.fil (fun i => (ua_8 (by decide)))
  have hF4 : Fr fm_m183_7 M0 M1 := by rw [e2]; exact hF0.fil (fun i => by rw [(ga_8 i)]; rfl)
  refine wk_al0 r183_8 (wk_c1 r183_9 (wk_putfi81 r183_10 fd_7_1 (wk_nw g_7_1 rfl hP3 hF4 (uf_7_1 (by decide)) ?_)))
  intro M5 hP6 hF7 e8
  refine wk_al0 r183_13 (wk_c1 r183_14 (wk_putfi81 r183_15 fd_7_2 (wk_nw g_7_2 rfl hP6 hF7 (uf_7_2 (by decide)) ?_)))
  intro M9 hP10 hF11 e12
  refine wk_al0 r183_18 (wk_c1 r183_19 (wk_putfi81 r183_20 fd_7_3 (wk_nw g_7_3 rfl hP10 hF11 (uf_7_3 (by decide)) ?_)))
  intro M13 hP14 hF15 e16
  refine wk_al0 r183_23 (wk_c1 r183_24 (wk_putfi81 r183_25 fd_7_4 (wk_nw g_7_4 rfl hP14 hF15 (uf_7_4 (by decide)) ?_)))
  intro M17 hP18 hF19 e20
  refine wk_al0 r183_28 (wk_c1 r183_29 (wk_putfz81 r183_30 fd_7_5 (by decide) (wk_nw g_7_5 rfl hP18 hF19 (uf_7_5 (by decide)) ?_)))
  intro M21 hP22 hF23 e24
  refine wk_al0 r183_33 (wk_c1 r183_34 (wk_putfz81 r183_35 fd_7_6 (by decide) (wk_nw g_7_6 rfl hP22 hF23 (uf_7_6 (by decide)) ?_)))
  intro M25 hP26 hF27 e28
  subst hQ; exact wk_ret r183_38 (⟨rfl, hP26, hF27⟩)
def fm_m141 : Nat := 3758096384
/-- IslandHall$Code.clear -/
theorem m141 {B : eB} (d : Nat) (M0 : Mm) (c0 : Int) (hP0 : Pw M0) (hC0 : isC c0) : Ct B (d + 1) 141 [R c0] M0 (qV fun M => Pw M ∧ Fr fm_m141 M0 M) := by
  refine ct_of (d := d + 0) (k := 0) (L := [some (R c0)]) rfl rfl rfl ?_
  have hF0 := Fr.rf fm_m141 M0
  generalize hQ : (qV fun M => Pw M ∧ Fr fm_m141 M0 M) = Q
  refine wk_al0 r141_0 (wk_c1 r141_1 (wk_putfi81 r141_2 (fdC_1 hC0) (wk_nw (g_c1 hC0) rfl hP0 hF0 (uC_1 hC0 (by decide)) ?_)))
  intro M1 hP2 hF3 e4
  refine wk_al0 r141_5 (wk_c1 r141_6 (wk_putfi81 r141_7 (fdC_2 hC0) (wk_nw (g_c2 hC0) rfl hP2 hF3 (uC_2 hC0 (by decide)) ?_)))
  intro M5 hP6 hF7 e8
  refine wk_al0 r141_10 (wk_c1 r141_11 (wk_putfi81 r141_12 (fdC_3 hC0) (wk_nw (g_c3 hC0) rfl hP6 hF7 (uC_3 hC0 (by decide)) ?_)))
  intro M9 hP10 hF11 e12
  subst hQ; exact wk_ret r141_15 (⟨rfl, hP10, hF11⟩)
def fm_m138 : Nat := 4831838208
/-- IslandHall$Code.add -/
theorem m138 {B : eB} (d : Nat) (M0 : Mm) (c0 : Int) (p1 : Int) (p2 : Int) (hP0 : Pw M0) (hC0 : isC c0) (l1 : 0 ≤ p1) (u1 : p1 ≤ 6) (l2 : 0 ≤ p2) (u2 : p2 ≤ 1279) (xp0 : stepok (p1 + 8 * p2)) : Ct B (d + 1) 138 [R c0, I p1, I p2] M0 (qV fun M => Pw M ∧ Fr fm_m138 M0 M) := by
  refine ct_of (d := d + 0) (k := 0) (L := [some (R c0), some (I p1), some (I p2)]) rfl rfl rfl ?_
  have hF0 := Fr.rf fm_m138 M0
  generalize hQ : (qV fun M => Pw M ∧ Fr fm_m138 M0 M) = Q
  refine wk_al0 r138_0 (wk_getfb r138_1 (fdC_1 hC0) (bC_1 hP0 hC0) ?_)
  intro v1 h3 h4 e2
  refine wk_al0 r138_4 (wk_getfr r138_5 (fdC_0 hC0) (bC_0 hP0 hC0) (wk_alen r138_8 (arC hC0) (by decide) ?_))
  refine wk_icge r138_9 ⟨by omega, by omega⟩ (by decide) ?_ ?_
  · intro h5
    subst hQ; exact wk_ret r138_36 (⟨rfl, hP0, hF0⟩)
  · intro h6
    refine wk_al0 r138_12 (wk_getfr r138_13 (fdC_0 hC0) (bC_0 hP0 hC0) (wk_al0 r138_16 (wk_getfi r138_17 (fdC_1 hC0) e2 (wk_il1 r138_20 (wk_il2 r138_21 (wk_c1 r138_22 (wk_ishlc r138_23 (by decide) pwl_3 (wk_iord 3 8 r138_24 (by decide) ⟨by omega, by omega⟩ ⟨by omega, by omega, by omega⟩ (wk_iast r138_25 (arC hC0) ⟨by omega, by omega⟩ (wk_nw (g_cs hC0 _) rfl hP0 hF0 (uaC hC0 (by unfold stepok at *; omega)) ?_))))))))))
    intro M7 hP8 hF9 e10
    refine wk_al0 r138_26 (wk_dupr r138_27 (wk_getfi r138_28 (fdC_1 hC0) (mUp_no e10 e2 (Or.inl (by omega))) (wk_c1 r138_31 (wk_iadd r138_32 (wk_putfi81 r138_33 (fdC_1 hC0) (wk_nw (g_c1 hC0) rfl hP8 hF9 (uC_1 hC0 ⟨by omega, by omega⟩) ?_))))))
    intro M11 hP12 hF13 e14
    subst hQ; exact wk_ret r138_36 (⟨rfl, hP12, hF13⟩)
def fm_m144 : Nat := 8053063680
/-- IslandHall$Code.startFacts -/
theorem m144 {B : eB} (d : Nat) (M0 : Mm) (c0 : Int) (hP0 : Pw M0) (hC0 : isC c0) : Ct B (d + 2) 144 [R c0] M0 (qV fun M => Pw M ∧ Fr fm_m144 M0 M) := by
  refine ct_of (d := d + 1) (k := 0) (L := [some (R c0)]) rfl rfl rfl ?_
  have hF0 := Fr.rf fm_m144 M0
  generalize hQ : (qV fun M => Pw M ∧ Fr fm_m144 M0 M) = Q
  refine wk_al0 r144_0 (wk_cv1 r144_1 (kcC_141 hC0) rfl (m141 _ M0 c0 hP0 hC0) (cqV ?_))
  rintro M1 ⟨hP2, hQ3⟩
  have hF4 : Fr fm_m144 M0 M1 := hF0.tr hQ3 rfl
  refine wk_al0 r144_4 (wk_c1 r144_5 (wk_c2 r144_6 (wk_cv3 r144_8 (kcC_138 hC0) rfl (m138 _ M1 c0 0 118 hP2 hC0 (by decide) (by decide) (by decide) (by decide) (by first | assumption | omega | (unfold stepok; omega))) (cqV ?_))))
  rintro M5 ⟨hP6, hQ7⟩
  have hF8 : Fr fm_m144 M0 M5 := hF4.tr hQ7 rfl
  subst hQ; exact wk_ret r144_11 (⟨rfl, hP6, hF8⟩)
def fm_m239_9 : Nat := 0
/-- IslandHall$Tokens.isWord -/
theorem m239_9 {B : eB} (d : Nat) (M0 : Mm) (t1 : Int) (hP0 : Pw M0) (ht_t1 : 4097 ≤ t1 ∧ t1 ≤ 4132) : Ct B (d + 2) 239 [R 9, R t1] M0 (qI fun z M => Pw M ∧ Fr fm_m239_9 M0 M ∧ 0 ≤ z ∧ z ≤ 1 ∧ (z = 1 ↔ WI M0 t1)) := by
  refine ct_of (d := d + 1) (k := 1) (L := [some (R 9), some (R t1), none]) rfl rfl rfl ?_
  have hF0 := Fr.rf fm_m239_9 M0
  generalize hQ : (qI fun z M => Pw M ∧ Fr fm_m239_9 M0 M ∧ 0 ≤ z ∧ z ≤ 1 ∧ (z = 1 ↔ WI M0 t1)) = Q
  refine wk_al0 r239_0 (wk_getfb r239_1 fd_9_4 (bf_9_4 hP0) ?_)
  intro v1 h3 h4 e2
  refine wk_c1 r239_4 ?_
  refine wk_icne r239_5 ⟨by omega, by omega⟩ (by decide) ?_ ?_
  · intro h5
    refine wk_c1 r239_24 ?_
    subst hQ; exact wk_zret r239_25 (by decide) (⟨rfl, _, rfl, hP0, hF0, by omega, by omega, by first | exact ⟨fun h => by omega, fun h => by have h1 := h.1; have h2 := h.2.1; omega⟩ | exact ⟨fun h => by omega, fun h => by have h1 := h.2.2 _ (by omega) (by omega); rw [rfl] at h1; omega⟩ | exact ⟨fun _ => ⟨by omega, by omega, fun i h0 h1 => by rw [rfl]; exact _ i h0 (by omega)⟩, fun _ => rfl⟩⟩)
  · intro h6
    refine wk_al0 r239_8 (wk_getfb r239_9 fd_9_2 (bf_9_2 hP0) ?_)
    intro v7 h9 h10 e8
    refine wk_al0 r239_12 (wk_getfb r239_13 fd_9_3 (bf_9_3 hP0) ?_)
    intro v11 h13 h14 e12
    refine wk_isub r239_16 (wk_al1 r239_17 (wk_ct1 r239_18 ht_t1 rfl (ct_len _ _ ht_t1) (cqI ?_)))
    rintro v15 _ ⟨rfl, h16, h17, h18⟩
    refine wk_iceq r239_21 ⟨by omega, by omega⟩ ⟨by omega, by omega⟩ ?_ ?_
    · intro h19
      refine wk_c1 r239_26 (wk_is2 r239_27 rfl ?_)
      have c28_220 : ∀ (k220 : Nat) (v200 : Int), (40 - v200).toNat = k220 → 0 ≤ v200 → v200 ≤ 40 → (∀ k : Int, 0 ≤ k → k < v200 → M0 1 (v11 + k) = chf t1 k) → Wp B (d + 1) 239 28 [some (R 9), some (R t1), some (I v200)] [] M0 Q := by
        refine lp_ind ?_
        intro k220 ih220 v200 hk220 h201 h202 ti203
        refine wk_il2 r239_28 (wk_al1 r239_29 (wk_ct1 r239_30 ht_t1 rfl (ct_len _ _ ht_t1) (cqI ?_)))
        rintro v204 _ ⟨rfl, h205, h206, h207⟩
        refine wk_icge r239_33 ⟨by omega, by omega⟩ ⟨by omega, by omega⟩ ?_ ?_
        · intro h208
          refine wk_c1 r239_63 ?_
          subst hQ; exact wk_zret r239_64 (by decide) (⟨rfl, _, rfl, hP0, hF0, by omega, by omega, by first | exact ⟨fun h => by omega, fun h => by have h1 := h.1; have h2 := h.2.1; omega⟩ | exact ⟨fun h => by omega, fun h => by have h1 := h.2.2 v200 (by omega) (by omega); rw [e12] at h1; omega⟩ | exact ⟨fun _ => ⟨by omega, by omega, fun i h0 h1 => by rw [e12]; exact ti203 i h0 (by omega)⟩, fun _ => rfl⟩⟩)
        · intro h209
          refine wk_al0 r239_36 (wk_getfr r239_37 fd_9_0 (br_9_0 hP0) (wk_al0 r239_40 (wk_getfi r239_41 fd_9_3 e12 (wk_il2 r239_44 (wk_iadd r239_45 (wk_baldb r239_46 ar_1 ⟨by omega, by omega⟩ (fun q0 q1 => ba_1 hP0 q0 q1) ?_))))))
          intro v210 h212 h213 e211
          refine wk_al1 r239_47 (wk_il2 r239_48 (wk_ct2 r239_49 ht_t1 rfl (ct_cha _ _ ht_t1 ⟨by omega, by omega⟩) (cqI ?_)))
          rintro v214 _ ⟨rfl, h215, h216, h217⟩
          refine wk_iceq r239_52 ⟨by omega, by omega⟩ ⟨by omega, by omega⟩ ?_ ?_
          · intro h218
            refine wk_inc2 r239_57 rfl (wk_goto r239_60 ?_)
            exact wp_fg (le_s (le_s (le_s le_0))) (ih220 (40 - (v200 + 1)).toNat (by omega) (v200 + 1) rfl (by omega) (by omega) (fun k q0 q1 => (Int.lt_or_le k v200).elim (fun q => ti203 k q0 q) (fun q => by rw [show k = v200 by omega]; omega)))
          · intro h219
            refine wk_c1 r239_55 ?_
            subst hQ; exact wk_zret r239_56 (by decide) (⟨rfl, _, rfl, hP0, hF0, by omega, by omega, by first | exact ⟨fun h => by omega, fun h => by have h1 := h.1; have h2 := h.2.1; omega⟩ | exact ⟨fun h => by omega, fun h => by have h1 := h.2.2 v200 (by omega) (by omega); rw [e12] at h1; omega⟩ | exact ⟨fun _ => ⟨by omega, by omega, fun i h0 h1 => by rw [e12]; exact ti203 i h0 (by omega)⟩, fun _ => rfl⟩⟩)
      exact wp_fg (le_s (le_s (le_s le_0))) (c28_220 _ 0 rfl (by omega) (by omega) (fun k a b => by omega))
    · intro h221
      refine wk_c1 r239_24 ?_
      subst hQ; exact wk_zret r239_25 (by decide) (⟨rfl, _, rfl, hP0, hF0, by omega, by omega, by first | exact ⟨fun h => by omega, fun h => by have h1 := h.1; have h2 := h.2.1; omega⟩ | exact ⟨fun h => by omega, fun h => by have h1 := h.2.2 _ (by omega) (by omega); rw [e12] at h1; omega⟩ | exact ⟨fun _ => ⟨by omega, by omega, fun i h0 h1 => by rw [e12]; exact _ i h0 (by omega)⟩, fun _ => rfl⟩⟩)
def fm_m175_6 : Nat := 3940649673949184
/-- IslandHall$Parser.takeWord -/
theorem m175_6 {B : eB} (d : Nat) (M0 : Mm) (t1 : Int) (hP0 : Pw M0) (ht_t1 : 4097 ≤ t1 ∧ t1 ≤ 4132) : Ct B (d + 3) 175 [R 6, R t1] M0 (qI fun z M => Pw M ∧ Fr fm_m175_6 M0 M ∧ 0 ≤ z ∧ z ≤ 1) := by
  refine ct_of (d := d + 2) (k := 0) (L := [some (R 6), some (R t1)]) rfl rfl rfl ?_
  have hF0 := Fr.rf fm_m175_6 M0
  generalize hQ : (qI fun z M => Pw M ∧ Fr fm_m175_6 M0 M ∧ 0 ≤ z ∧ z ≤ 1) = Q
  refine wk_al0 r175_0 (wk_getfr r175_1 fd_6_0 (br_6_0 hP0) (wk_al1 r175_4 (wk_cv2 r175_5 kc_9_239 rfl (m239_9 _ M0 t1 hP0 ht_t1) (cqI ?_))))
  rintro v6 M1 ⟨hP2, hQ3, h7, h8, xh5⟩
  obtain rfl := Fr.same hQ3
  refine wk_ifne r175_8 ⟨by omega, by omega⟩ ?_ ?_
  · intro h9
    refine wk_al0 r175_13 (wk_getfr r175_14 fd_6_0 (br_6_0 hP0) (wk_cv1 r175_17 kc_9_241 rfl (m241_9 _ M0 hP0) (cqV ?_)))
    rintro M10 ⟨hP11, hQ12⟩
    have hF13 : Fr fm_m175_6 M0 M10 := hF0.tr hQ12 rfl
    refine wk_c1 r175_20 ?_
    subst hQ; exact wk_zret r175_21 (by decide) (⟨rfl, _, rfl, hP11, hF13, by omega, by omega⟩)
  · intro h14
    refine wk_c1 r175_11 ?_
    subst hQ; exact wk_zret r175_12 (by decide) (⟨rfl, _, rfl, hP0, hF0, by omega, by omega⟩)
def fm_m244_9 : Nat := 0
/-- IslandHall$Tokens.value -/
theorem m244_9 {B : eB} (d : Nat) (M0 : Mm) (hP0 : Pw M0)  : Ct B (d + 1) 244 [R 9] M0 (qI fun z M => Pw M ∧ Fr fm_m244_9 M0 M ∧ (-2147483648) ≤ z ∧ z ≤ 2147483647) := by
  refine ct_of (d := d + 0) (k := 2) (L := [some (R 9), none, none]) rfl rfl rfl ?_
  have hF0 := Fr.rf fm_m244_9 M0
  generalize hQ : (qI fun z M => Pw M ∧ Fr fm_m244_9 M0 M ∧ (-2147483648) ≤ z ∧ z ≤ 2147483647) = Q
  refine wk_al0 r244_0 (wk_getfb r244_1 fd_9_2 (bf_9_2 hP0) ?_)
  intro v1 h3 h4 e2
  refine wk_al0 r244_4 (wk_getfb r244_5 fd_9_3 (bf_9_3 hP0) ?_)
  intro v5 h7 h8 e6
  refine wk_isub r244_8 (wk_c1 r244_9 ?_)
  refine wk_icle r244_10 ⟨by omega, by omega⟩ (by decide) ?_ ?_
  · intro h9
    refine wk_c1 r244_15 (wk_is1 r244_16 rfl (wk_al0 r244_17 (wk_getfi r244_18 fd_9_3 e6 (wk_is2 r244_21 rfl ?_))))
    have c22_76 : ∀ (k76 : Nat) (v56 : Int) (v59 : Int), (500 - v59).toNat = k76 → (-2147483648) ≤ v56 → v56 ≤ 2147483647 → 0 ≤ v59 → v59 ≤ 500 → Wp B (d + 0) 244 22 [some (R 9), some (I v56), some (I v59)] [] M0 Q := by
      refine lp_ind ?_
      intro k76 ih76 v56 v59 hk76 h57 h58 h60 h61
      refine wk_il2 r244_22 (wk_al0 r244_23 (wk_getfi r244_24 fd_9_2 e2 ?_))
      refine wk_icge r244_27 ⟨by omega, by omega⟩ ⟨by omega, by omega⟩ ?_ ?_
      · intro h62
        refine wk_il1 r244_51 ?_
        subst hQ; exact wk_iret r244_52 (⟨rfl, _, rfl, hP0, hF0, by omega, by omega⟩)
      · intro h63
        refine wk_c2 r244_30 (wk_il1 r244_32 (wk_imul r244_33 (wk_wrap ?_)))
        intro v64 h65 h66 h67
        refine wk_al0 r244_34 (wk_getfr r244_35 fd_9_0 (br_9_0 hP0) (wk_il2 r244_38 (wk_baldb r244_39 ar_1 ⟨by omega, by omega⟩ (fun q0 q1 => ba_1 hP0 q0 q1) ?_)))
        intro v68 h70 h71 e69
        refine wk_c2 r244_40 (wk_isub r244_42 (wk_iadd r244_43 (wk_wrap ?_)))
        intro v72 h73 h74 h75
        refine wk_is1 r244_44 rfl (wk_inc2 r244_45 rfl (wk_goto r244_48 ?_))
        exact wp_fg (le_s (le_s (le_s le_0))) (ih76 (500 - (v59 + 1)).toNat (by omega) v72 (v59 + 1) rfl (by omega) (by omega) (by omega) (by omega))
    exact wp_fg (le_s (le_s (le_s le_0))) (c22_76 _ 0 v5 rfl (by omega) (by omega) (by omega) (by omega))
  · intro h77
    refine wk_c1 r244_13 ?_
    subst hQ; exact wk_iret r244_14 (⟨rfl, _, rfl, hP0, hF0, by omega, by omega⟩)
def fm_m159_6 : Nat := 412316860416
/-- IslandHall$Parser.fail -/
theorem m159_6 {B : eB} (d : Nat) (M0 : Mm) (p1 : Int) (hP0 : Pw M0) (l1 : 2 ≤ p1) (u1 : p1 ≤ 2) : Ct B (d + 1) 159 [R 6, I p1] M0 (qI fun z M => Pw M ∧ Fr fm_m159_6 M0 M ∧ 0 ≤ z ∧ z ≤ 0 ∧ 0 ≤ M 6 4 + (-1)) := by
  refine ct_of (d := d + 0) (k := 0) (L := [some (R 6), some (I p1)]) rfl rfl rfl ?_
  have hF0 := Fr.rf fm_m159_6 M0
  generalize hQ : (qI fun z M => Pw M ∧ Fr fm_m159_6 M0 M ∧ 0 ≤ z ∧ z ≤ 0 ∧ 0 ≤ M 6 4 + (-1)) = Q
  refine wk_al0 r159_0 (wk_il1 r159_1 (wk_putfi81 r159_2 fd_6_4 (wk_nw g_6_4 rfl hP0 hF0 (uf_6_4 ⟨by omega, by omega⟩) ?_)))
  intro M1 hP2 hF3 e4
  refine wk_al0 r159_5 (wk_al0 r159_6 (wk_getfr r159_7 fd_6_0 (br_6_0 hP2) (wk_getfb r159_10 fd_9_3 (bf_9_3 hP2) ?_)))
  intro v5 h7 h8 e6
  refine wk_putfi81 r159_13 fd_6_5 (wk_nw g_6_5 rfl hP2 hF3 (uf_6_5 ⟨by omega, by omega⟩) ?_)
  intro M9 hP10 hF11 e12
  refine wk_c1 r159_16 ?_
  subst hQ; exact wk_zret r159_17 (by decide) (⟨rfl, _, rfl, hP10, hF11, by omega, by omega, by have := (mUp_no e12 (mUp_at e4) (Or.inr (by decide))); omega⟩)
def fm_m159_6v1 : Nat := 412316860416
/-- IslandHall$Parser.fail -/
theorem m159_6v1 {B : eB} (d : Nat) (M0 : Mm) (p1 : Int) (hP0 : Pw M0) (l1 : 1 ≤ p1) (u1 : p1 ≤ 2) : Ct B (d + 1) 159 [R 6, I p1] M0 (qI fun z M => Pw M ∧ Fr fm_m159_6v1 M0 M ∧ 0 ≤ z ∧ z ≤ 0 ∧ 0 ≤ M 6 4 + (-1)) := by
  refine ct_of (d := d + 0) (k := 0) (L := [some (R 6), some (I p1)]) rfl rfl rfl ?_
  have hF0 := Fr.rf fm_m159_6v1 M0
  generalize hQ : (qI fun z M => Pw M ∧ Fr fm_m159_6v1 M0 M ∧ 0 ≤ z ∧ z ≤ 0 ∧ 0 ≤ M 6 4 + (-1)) = Q
  refine wk_al0 r159_0 (wk_il1 r159_1 (wk_putfi81 r159_2 fd_6_4 (wk_nw g_6_4 rfl hP0 hF0 (uf_6_4 ⟨by omega, by omega⟩) ?_)))
  intro M1 hP2 hF3 e4
  refine wk_al0 r159_5 (wk_al0 r159_6 (wk_getfr r159_7 fd_6_0 (br_6_0 hP2) (wk_getfb r159_10 fd_9_3 (bf_9_3 hP2) ?_)))
  intro v5 h7 h8 e6
  refine wk_putfi81 r159_13 fd_6_5 (wk_nw g_6_5 rfl hP2 hF3 (uf_6_5 ⟨by omega, by omega⟩) ?_)
  intro M9 hP10 hF11 e12
  refine wk_c1 r159_16 ?_
  subst hQ; exact wk_zret r159_17 (by decide) (⟨rfl, _, rfl, hP10, hF11, by omega, by omega, by have := (mUp_no e12 (mUp_at e4) (Or.inr (by decide))); omega⟩)
def fm_m167_6 : Nat := 3941061990809600
/-- IslandHall$Parser.number -/
theorem m167_6 {B : eB} (d : Nat) (M0 : Mm) (p1 : Int) (p2 : Int) (hP0 : Pw M0) (l1 : 0 ≤ p1) (u1 : p1 ≤ 0) (l2 : 7 ≤ p2) (u2 : p2 ≤ 7) : Ct B (d + 3) 167 [R 6, I p1, I p2] M0 (qI fun z M => Pw M ∧ Fr fm_m167_6 M0 M ∧ (-1) ≤ z ∧ z ≤ 7 ∧ 0 ≤ z + M 6 4) := by
  refine ct_of (d := d + 2) (k := 1) (L := [some (R 6), some (I p1), some (I p2), none]) rfl rfl rfl ?_
  have hF0 := Fr.rf fm_m167_6 M0
  generalize hQ : (qI fun z M => Pw M ∧ Fr fm_m167_6 M0 M ∧ (-1) ≤ z ∧ z ≤ 7 ∧ 0 ≤ z + M 6 4) = Q
  refine wk_al0 r167_0 (wk_getfr r167_1 fd_6_0 (br_6_0 hP0) (wk_getfb r167_4 fd_9_4 (bf_9_4 hP0) ?_))
  intro v1 h3 h4 e2
  refine wk_c1 r167_7 ?_
  refine wk_iceq r167_8 ⟨by omega, by omega⟩ (by decide) ?_ ?_
  · intro h5
    refine wk_al0 r167_19 (wk_getfr r167_20 fd_6_0 (br_6_0 hP0) (wk_cv1 r167_23 kc_9_244 rfl (m244_9 _ M0 hP0) (cqI ?_)))
    rintro v10 M6 ⟨hP7, hQ8, h11, h12⟩
    obtain rfl := Fr.same hQ8
    refine wk_is3 r167_26 rfl (wk_il3 r167_27 (wk_il1 r167_28 ?_))
    refine wk_iclt r167_29 ⟨by omega, by omega⟩ ⟨by omega, by omega⟩ ?_ ?_
    · intro h13
      refine wk_al0 r167_37 (wk_c1 r167_38 (wk_cv2 r167_39 kc_6_159 rfl (m159_6 _ M0 2 hP0 (by decide) (by decide)) (cqI ?_)))
      rintro v19 M14 ⟨hP15, hQ16, h20, h21, h18⟩
      have hF17 : Fr fm_m167_6 M0 M14 := hF0.tr hQ16 rfl
      obtain ⟨v22, e23⟩ : ∃ v, M14 6 4 = v := ⟨_, rfl⟩
      have h24 := bf_6_4 hP15; rw [e23] at h24
      refine wk_popi r167_42 (wk_c1 r167_43 ?_)
      subst hQ; exact wk_iret r167_44 (⟨rfl, _, rfl, hP15, hF17, by omega, by omega, by have := e23; omega⟩)
    · intro h25
      refine wk_il3 r167_32 (wk_il2 r167_33 ?_)
      refine wk_icle r167_34 ⟨by omega, by omega⟩ ⟨by omega, by omega⟩ ?_ ?_
      · intro h26
        refine wk_al0 r167_45 (wk_getfr r167_46 fd_6_0 (br_6_0 hP0) (wk_cv1 r167_49 kc_9_241 rfl (m241_9 _ M0 hP0) (cqV ?_)))
        rintro M27 ⟨hP28, hQ29⟩
        have hF30 : Fr fm_m167_6 M0 M27 := hF0.tr hQ29 rfl
        refine wk_il3 r167_52 ?_
        subst hQ; exact wk_iret r167_53 (⟨rfl, _, rfl, hP28, hF30, by omega, by omega, by have := (bf_6_4 hP28); omega⟩)
      · intro h31
        refine wk_al0 r167_37 (wk_c1 r167_38 (wk_cv2 r167_39 kc_6_159 rfl (m159_6 _ M0 2 hP0 (by decide) (by decide)) (cqI ?_)))
        rintro v37 M32 ⟨hP33, hQ34, h38, h39, h36⟩
        have hF35 : Fr fm_m167_6 M0 M32 := hF0.tr hQ34 rfl
        obtain ⟨v40, e41⟩ : ∃ v, M32 6 4 = v := ⟨_, rfl⟩
        have h42 := bf_6_4 hP33; rw [e41] at h42
        refine wk_popi r167_42 (wk_c1 r167_43 ?_)
        subst hQ; exact wk_iret r167_44 (⟨rfl, _, rfl, hP33, hF35, by omega, by omega, by have := e41; omega⟩)
  · intro h43
    refine wk_al0 r167_11 (wk_c1 r167_12 (wk_cv2 r167_13 kc_6_159 rfl (m159_6v1 _ M0 1 hP0 (by decide) (by decide)) (cqI ?_)))
    rintro v49 M44 ⟨hP45, hQ46, h50, h51, h48⟩
    have hF47 : Fr fm_m167_6 M0 M44 := hF0.tr hQ46 rfl
    obtain ⟨v52, e53⟩ : ∃ v, M44 6 4 = v := ⟨_, rfl⟩
    have h54 := bf_6_4 hP45; rw [e53] at h54
    refine wk_popi r167_16 (wk_c1 r167_17 ?_)
    subst hQ; exact wk_iret r167_18 (⟨rfl, _, rfl, hP45, hF47, by omega, by omega, by have := e53; omega⟩)
def fm_m238_9 : Nat := 0
/-- IslandHall$Tokens.isSign -/
theorem m238_9 {B : eB} (d : Nat) (M0 : Mm) (p1 : Int) (hP0 : Pw M0) (l1 : 59 ≤ p1) (u1 : p1 ≤ 59) : Ct B (d + 1) 238 [R 9, I p1] M0 (qI fun z M => Pw M ∧ Fr fm_m238_9 M0 M ∧ 0 ≤ z ∧ z ≤ 1) := by
  refine ct_of (d := d + 0) (k := 0) (L := [some (R 9), some (I p1)]) rfl rfl rfl ?_
  have hF0 := Fr.rf fm_m238_9 M0
  generalize hQ : (qI fun z M => Pw M ∧ Fr fm_m238_9 M0 M ∧ 0 ≤ z ∧ z ≤ 1) = Q
  refine wk_al0 r238_0 (wk_getfb r238_1 fd_9_4 (bf_9_4 hP0) ?_)
  intro v1 h3 h4 e2
  refine wk_c1 r238_4 ?_
  refine wk_icne r238_5 ⟨by omega, by omega⟩ (by decide) ?_ ?_
  · intro h5
    refine wk_c1 r238_36 ?_
    subst hQ; exact wk_zret r238_37 (by decide) (⟨rfl, _, rfl, hP0, hF0, by omega, by omega⟩)
  · intro h6
    refine wk_al0 r238_8 (wk_getfb r238_9 fd_9_3 (bf_9_3 hP0) ?_)
    intro v7 h9 h10 e8
    refine wk_al0 r238_12 (wk_getfb r238_13 fd_9_1 (bf_9_1 hP0) ?_)
    intro v11 h13 h14 e12
    refine wk_icge r238_16 ⟨by omega, by omega⟩ ⟨by omega, by omega⟩ ?_ ?_
    · intro h15
      refine wk_c1 r238_36 ?_
      subst hQ; exact wk_zret r238_37 (by decide) (⟨rfl, _, rfl, hP0, hF0, by omega, by omega⟩)
    · intro h16
      refine wk_al0 r238_19 (wk_getfr r238_20 fd_9_0 (br_9_0 hP0) (wk_al0 r238_23 (wk_getfi r238_24 fd_9_3 e8 (wk_baldb r238_27 ar_1 ⟨by omega, by omega⟩ (fun q0 q1 => ba_1 hP0 q0 q1) ?_))))
      intro v17 h19 h20 e18
      refine wk_il1 r238_28 ?_
      refine wk_icne r238_29 ⟨by omega, by omega⟩ ⟨by omega, by omega⟩ ?_ ?_
      · intro h21
        refine wk_c1 r238_36 ?_
        subst hQ; exact wk_zret r238_37 (by decide) (⟨rfl, _, rfl, hP0, hF0, by omega, by omega⟩)
      · intro h22
        refine wk_c1 r238_32 (wk_goto r238_33 ?_)
        subst hQ; exact wk_zret r238_37 (by decide) (⟨rfl, _, rfl, hP0, hF0, by omega, by omega⟩)
def fm_m174_6 : Nat := 3941061990809600
/-- IslandHall$Parser.takeSign -/
theorem m174_6 {B : eB} (d : Nat) (M0 : Mm) (p1 : Int) (hP0 : Pw M0) (l1 : 59 ≤ p1) (u1 : p1 ≤ 59) : Ct B (d + 3) 174 [R 6, I p1] M0 (qI fun z M => Pw M ∧ Fr fm_m174_6 M0 M ∧ 0 ≤ z ∧ z ≤ 1 ∧ 0 ≤ z + M 6 4 + (-1)) := by
  refine ct_of (d := d + 2) (k := 0) (L := [some (R 6), some (I p1)]) rfl rfl rfl ?_
  have hF0 := Fr.rf fm_m174_6 M0
  generalize hQ : (qI fun z M => Pw M ∧ Fr fm_m174_6 M0 M ∧ 0 ≤ z ∧ z ≤ 1 ∧ 0 ≤ z + M 6 4 + (-1)) = Q
  refine wk_al0 r174_0 (wk_getfr r174_1 fd_6_0 (br_6_0 hP0) (wk_il1 r174_4 (wk_cv2 r174_5 kc_9_238 rfl (m238_9 _ M0 p1 hP0 (by omega) (by omega)) (cqI ?_))))
  rintro v5 M1 ⟨hP2, hQ3, h6, h7⟩
  obtain rfl := Fr.same hQ3
  refine wk_ifne r174_8 ⟨by omega, by omega⟩ ?_ ?_
  · intro h8
    refine wk_al0 r174_17 (wk_getfr r174_18 fd_6_0 (br_6_0 hP0) (wk_cv1 r174_21 kc_9_241 rfl (m241_9 _ M0 hP0) (cqV ?_)))
    rintro M9 ⟨hP10, hQ11⟩
    have hF12 : Fr fm_m174_6 M0 M9 := hF0.tr hQ11 rfl
    refine wk_c1 r174_24 ?_
    subst hQ; exact wk_zret r174_25 (by decide) (⟨rfl, _, rfl, hP10, hF12, by omega, by omega, by have := (bf_6_4 hP10); omega⟩)
  · intro h13
    refine wk_al0 r174_11 (wk_c1 r174_12 (wk_cv2 r174_13 kc_6_159 rfl (m159_6v1 _ M0 1 hP0 (by decide) (by decide)) (cqI ?_)))
    rintro v19 M14 ⟨hP15, hQ16, h20, h21, h18⟩
    have hF17 : Fr fm_m174_6 M0 M14 := hF0.tr hQ16 rfl
    obtain ⟨v22, e23⟩ : ∃ v, M14 6 4 = v := ⟨_, rfl⟩
    have h24 := bf_6_4 hP15; rw [e23] at h24
    subst hQ; exact wk_zret r174_16 ⟨by omega, by omega⟩ (⟨rfl, _, rfl, hP15, hF17, by omega, by omega, by have := e23; omega⟩)
def fm_m160_6 : Nat := 3942230221914112
/-- IslandHall$Parser.head -/
theorem m160_6 {B : eB} (d : Nat) (M0 : Mm) (hP0 : Pw M0)  : Ct B (d + 4) 160 [R 6] M0 (qI fun z M => Pw M ∧ Fr fm_m160_6 M0 M ∧ 0 ≤ z ∧ z ≤ 1 ∧ 0 ≤ z + M 6 4 + (-1)) := by
  refine ct_of (d := d + 3) (k := 0) (L := [some (R 6)]) rfl rfl rfl ?_
  have hF0 := Fr.rf fm_m160_6 M0
  generalize hQ : (qI fun z M => Pw M ∧ Fr fm_m160_6 M0 M ∧ 0 ≤ z ∧ z ≤ 1 ∧ 0 ≤ z + M 6 4 + (-1)) = Q
  refine wk_al0 r160_0 (wk_c8 r160_1 (wk_cv2 r160_3 kc_6_175 rfl (m175_6 _ M0 4127 hP0 (by decide)) (cqI ?_)))
  rintro v5 M1 ⟨hP2, hQ3, h6, h7⟩
  have hF4 : Fr fm_m160_6 M0 M1 := hF0.tr hQ3 rfl
  refine wk_ifne r160_6 ⟨by omega, by omega⟩ ?_ ?_
  · intro h8
    refine wk_al0 r160_15 (wk_al0 r160_16 (wk_c1 r160_17 (wk_c2 r160_18 (wk_cv3 r160_20 kc_6_167 rfl (m167_6 _ M1 0 7 hP2 (by decide) (by decide) (by decide) (by decide)) (cqI ?_)))))
    rintro v14 M9 ⟨hP10, hQ11, h15, h16, h13⟩
    have hF12 : Fr fm_m160_6 M0 M9 := hF4.tr hQ11 rfl
    obtain ⟨v17, e18⟩ : ∃ v, M9 6 4 = v := ⟨_, rfl⟩
    have h19 := bf_6_4 hP10; rw [e18] at h19
    refine wk_putfi81 r160_23 fd_6_3 (wk_nw g_6_3 rfl hP10 hF12 (uf_6_3 ⟨by omega, by omega⟩) ?_)
    intro M20 hP21 hF22 e23
    refine wk_al0 r160_26 (wk_getfr r160_27 fd_6_1 (br_6_1 hP21) (wk_al0 r160_30 (wk_getfi r160_31 fd_6_3 (mUp_at e23) (wk_putfi81 r160_34 fd_7_1 (wk_nw g_7_1 rfl hP21 hF22 (uf_7_1 ⟨by omega, by omega⟩) ?_)))))
    intro M24 hP25 hF26 e27
    refine wk_al0 r160_37 (wk_getfi r160_38 fd_6_3 (mUp_no e27 (mUp_at e23) (Or.inl (by decide))) (wk_c1 r160_41 ?_))
    refine wk_iceq r160_42 ⟨by omega, by omega⟩ (by decide) ?_ ?_
    · intro h28
      refine wk_c1 r160_58 ?_
      subst hQ; exact wk_zret r160_59 (by decide) (⟨rfl, _, rfl, hP25, hF26, by omega, by omega, by have := (mUp_no e27 (mUp_no e23 e18 (Or.inr (by decide))) (Or.inl (by decide))); omega⟩)
    · intro h29
      refine wk_al0 r160_45 (wk_c2 r160_46 (wk_cv2 r160_48 kc_6_174 rfl (m174_6 _ M24 59 hP25 (by decide) (by decide)) (cqI ?_)))
      rintro v35 M30 ⟨hP31, hQ32, h36, h37, h34⟩
      have hF33 : Fr fm_m160_6 M0 M30 := hF26.tr hQ32 rfl
      obtain ⟨v38, e39⟩ : ∃ v, M30 6 4 = v := ⟨_, rfl⟩
      have h40 := bf_6_4 hP31; rw [e39] at h40
      refine wk_ifeq r160_51 ⟨by omega, by omega⟩ ?_ ?_
      · intro h41
        refine wk_c1 r160_58 ?_
        subst hQ; exact wk_zret r160_59 (by decide) (⟨rfl, _, rfl, hP31, hF33, by omega, by omega, by have := e39; omega⟩)
      · intro h42
        refine wk_c1 r160_54 (wk_goto r160_55 ?_)
        subst hQ; exact wk_zret r160_59 (by decide) (⟨rfl, _, rfl, hP31, hF33, by omega, by omega, by have := e39; omega⟩)
  · intro h43
    refine wk_al0 r160_9 (wk_c1 r160_10 (wk_cv2 r160_11 kc_6_159 rfl (m159_6v1 _ M1 1 hP2 (by decide) (by decide)) (cqI ?_)))
    rintro v49 M44 ⟨hP45, hQ46, h50, h51, h48⟩
    have hF47 : Fr fm_m160_6 M0 M44 := hF4.tr hQ46 rfl
    obtain ⟨v52, e53⟩ : ∃ v, M44 6 4 = v := ⟨_, rfl⟩
    have h54 := bf_6_4 hP45; rw [e53] at h54
    subst hQ; exact wk_zret r160_14 ⟨by omega, by omega⟩ (⟨rfl, _, rfl, hP45, hF47, by omega, by omega, by have := e53; omega⟩)
def fm_m179_7 : Nat := 0
/-- IslandHall$Plan.earliestDay -/
theorem m179_7 {B : eB} (d : Nat) (M0 : Mm) (hP0 : Pw M0)  : Ct B (d + 1) 179 [R 7] M0 (qI fun z M => Pw M ∧ Fr fm_m179_7 M0 M ∧ 0 ≤ z ∧ z ≤ 6 ∧ (z = eD M0 7)) := by
  refine ct_of (d := d + 0) (k := 0) (L := [some (R 7)]) rfl rfl rfl ?_
  have hF0 := Fr.rf fm_m179_7 M0
  generalize hQ : (qI fun z M => Pw M ∧ Fr fm_m179_7 M0 M ∧ 0 ≤ z ∧ z ≤ 6 ∧ (z = eD M0 7)) = Q
  refine wk_al0 r179_0 (wk_getfb r179_1 fd_7_3 (bf_7_3 hP0) ?_)
  intro v1 h3 h4 e2
  refine wk_c1 r179_4 ?_
  refine wk_icne r179_5 ⟨by omega, by omega⟩ (by decide) ?_ ?_
  · intro h5
    refine wk_al0 r179_12 (wk_getfi r179_13 fd_7_3 e2 ?_)
    subst hQ; exact wk_iret r179_16 (⟨rfl, _, rfl, hP0, hF0, by omega, by omega, by unfold eD; split <;> omega⟩)
  · intro h6
    refine wk_c1 r179_8 (wk_goto r179_9 ?_)
    subst hQ; exact wk_iret r179_16 (⟨rfl, _, rfl, hP0, hF0, by omega, by omega, by unfold eD; split <;> omega⟩)
def fm_m181_7 : Nat := 0
/-- IslandHall$Plan.latestDay -/
theorem m181_7 {B : eB} (d : Nat) (M0 : Mm) (hP0 : Pw M0)  : Ct B (d + 2) 181 [R 7] M0 (qI fun z M => Pw M ∧ Fr fm_m181_7 M0 M ∧ 0 ≤ z ∧ z ≤ 6 ∧ (z = lD M0 7)) := by
  refine ct_of (d := d + 1) (k := 0) (L := [some (R 7)]) rfl rfl rfl ?_
  have hF0 := Fr.rf fm_m181_7 M0
  generalize hQ : (qI fun z M => Pw M ∧ Fr fm_m181_7 M0 M ∧ 0 ≤ z ∧ z ≤ 6 ∧ (z = lD M0 7)) = Q
  refine wk_al0 r181_0 (wk_getfb r181_1 fd_7_3 (bf_7_3 hP0) ?_)
  intro v1 h3 h4 e2
  refine wk_c1 r181_4 ?_
  refine wk_icne r181_5 ⟨by omega, by omega⟩ (by decide) ?_ ?_
  · intro h5
    refine wk_al0 r181_20 (wk_cv1 r181_21 kc_7_179 rfl (m179_7 _ M0 hP0) (cqI ?_))
    rintro v11 M6 ⟨hP7, hQ8, h12, h13, xh10⟩
    obtain rfl := Fr.same hQ8
    subst hQ; exact wk_iret r181_24 (⟨rfl, _, rfl, hP0, hF0, by omega, by omega, by unfold lD; split <;> omega⟩)
  · intro h14
    refine wk_al0 r181_8 (wk_getfb r181_9 fd_7_5 (bf_7_5 hP0) ?_)
    intro v15 h17 h18 e16
    refine wk_ifeq r181_12 ⟨by omega, by omega⟩ ?_ ?_
    · intro h19
      refine wk_al0 r181_20 (wk_cv1 r181_21 kc_7_179 rfl (m179_7 _ M0 hP0) (cqI ?_))
      rintro v25 M20 ⟨hP21, hQ22, h26, h27, xh24⟩
      obtain rfl := Fr.same hQ22
      subst hQ; exact wk_iret r181_24 (⟨rfl, _, rfl, hP0, hF0, by omega, by omega, by unfold lD; split <;> omega⟩)
    · intro h28
      refine wk_c2 r181_15 (wk_goto r181_17 ?_)
      subst hQ; exact wk_iret r181_24 (⟨rfl, _, rfl, hP0, hF0, by omega, by omega, by unfold lD; split <;> omega⟩)
def fm_m182_7 : Nat := 0
/-- IslandHall$Plan.latestWord -/
theorem m182_7 {B : eB} (d : Nat) (M0 : Mm) (hP0 : Pw M0)  : Ct B (d + 1) 182 [R 7] M0 (qI fun z M => Pw M ∧ Fr fm_m182_7 M0 M ∧ 0 ≤ z ∧ z ≤ 1 ∧ (z = lW M0 7)) := by
  refine ct_of (d := d + 0) (k := 0) (L := [some (R 7)]) rfl rfl rfl ?_
  have hF0 := Fr.rf fm_m182_7 M0
  generalize hQ : (qI fun z M => Pw M ∧ Fr fm_m182_7 M0 M ∧ 0 ≤ z ∧ z ≤ 1 ∧ (z = lW M0 7)) = Q
  refine wk_al0 r182_0 (wk_getfb r182_1 fd_7_6 (bf_7_6 hP0) ?_)
  intro v1 h3 h4 e2
  refine wk_ifeq r182_4 ⟨by omega, by omega⟩ ?_ ?_
  · intro h5
    refine wk_c1 r182_11 ?_
    subst hQ; exact wk_iret r182_12 (⟨rfl, _, rfl, hP0, hF0, by omega, by omega, by unfold lW; split <;> omega⟩)
  · intro h6
    refine wk_c1 r182_7 (wk_goto r182_8 ?_)
    subst hQ; exact wk_iret r182_12 (⟨rfl, _, rfl, hP0, hF0, by omega, by omega, by unfold lW; split <;> omega⟩)
def bcF_g (p0 : Int) : Int :=
  let v1 : Int := p0 % 4294967296 / pw 1
  let v5 : Int := ((Int.toNat (v1) &&& Int.toNat (1431655765) : Nat) : Int)
  let v10 : Int := ((cd ((p0 - v5)) &&& Int.toNat (858993459) : Nat) : Int)
  let v14 : Int := (p0 - v5) % 4294967296 / pw 2
  let v18 : Int := ((Int.toNat (v14) &&& Int.toNat (858993459) : Nat) : Int)
  let v23 : Int := (v10 + v18) % 4294967296 / pw 4
  let v27 : Int := (((v10 + v18) + v23) + 2147483648) % 4294967296 - 2147483648
  let v31 : Int := ((cd (v27) &&& Int.toNat (252645135) : Nat) : Int)
  let v35 : Int := v31 % 4294967296 / pw 8
  let v39 : Int := ((v31 + v35) + 2147483648) % 4294967296 - 2147483648
  let v43 : Int := v39 % 4294967296 / pw 16
  let v47 : Int := ((v39 + v43) + 2147483648) % 4294967296 - 2147483648
  (v47 % 64)
theorem bcF_ex : ∃ f : Int → Int, ∀ p0, f p0 = bcF_g p0 := ⟨bcF_g, fun _ => rfl⟩
noncomputable def bcF : Int → Int := Classical.choose bcF_ex
theorem bcF_eq (p0 : Int) : bcF p0 = bcF_g p0 := Classical.choose_spec bcF_ex p0
theorem bcF_nn (p0 : Int) : 0 ≤ bcF p0 := by
  rw [bcF_eq]
  unfold bcF_g
  exact Int.emod_nonneg _ (by decide)
theorem bcF_31 : (List.range 32).all (fun x => decide (x = 0 ∨ 1 ≤ bcF_g (x : Int)) && decide (bcF_g (x : Int) ≤ 5)) = true := by decide +kernel
theorem bcF_a : (List.range 32).all (fun x => (List.range 5).all fun k => decide (x / 2 ^ k % 2 = 0 ∨ bcF_g ((x &&& (2 ^ k - 1) : Nat) : Int) + 1 ≤ bcF_g (x : Int))) = true := by decide +kernel
theorem bc_rg {x : Int} (h : 1 ≤ x ∧ x ≤ 31) : 1 ≤ bcF x ∧ bcF x ≤ 5 := by
  obtain ⟨n, rfl⟩ := Int.eq_ofNat_of_zero_le (show 0 ≤ x by omega)
  have h1 := List.all_eq_true.mp bcF_31 n (List.mem_range.mpr (by omega))
  simp only [Bool.and_eq_true, decide_eq_true_eq] at h1
  rw [bcF_eq]
  refine ⟨?_, h1.2⟩
  rcases h1.1 with q | q
  · omega
  · exact q
theorem bc_hd {x k r : Int} (h : 1 ≤ x ∧ x ≤ 31) (hk : 0 ≤ k ∧ k ≤ 4) (hb : x / pw k % 2 = 1) (hr : r = ((x.toNat &&& (pw k - 1).toNat : Nat) : Int)) : bcF r + 1 ≤ bcF x := by
  obtain ⟨n, rfl⟩ := Int.eq_ofNat_of_zero_le (show 0 ≤ x by omega)
  obtain ⟨j, rfl⟩ := Int.eq_ofNat_of_zero_le hk.1
  have h1 := of_decide_eq_true (List.all_eq_true.mp (List.all_eq_true.mp bcF_a n (List.mem_range.mpr (by omega))) j (List.mem_range.mpr (by omega)))
  have e1 : (pw (j : Int) - 1).toNat = 2 ^ j - 1 := by
    rw [pw_nat]
    have := Nat.two_pow_pos j
    omega
  rw [hr, e1, Int.toNat_natCast, bcF_eq, bcF_eq]
  rcases h1 with q | q
  · rw [pw_nat] at hb
    have h3 : (((n / 2 ^ j % 2 : Nat)) : Int) = 1 := by
      rw [Int.natCast_emod, Int.natCast_ediv]
      exact hb
    rw [q] at h3
    cases h3
  · exact q
noncomputable def PB (u : Int → Int) : Nat → Int
  | 0 => 1
  | n + 1 => PB u n * bcF (u n)
noncomputable def PS (u : Int → Int) : Nat → Int
  | 0 => 1
  | n + 1 => PS u n * (bcF (u n) + u n / 4 % 2)
theorem pb_succ {u : Int → Int} {p : Int} (h : 0 ≤ p) : PB u (p + 1).toNat = PB u p.toNat * bcF (u p) := by
  rw [toNat_succ h]
  show PB u p.toNat * bcF (u (p.toNat : Int)) = _
  rw [Int.toNat_of_nonneg h]
theorem ps_succ {u : Int → Int} {p : Int} (h : 0 ≤ p) : PS u (p + 1).toNat = PS u p.toNat * (bcF (u p) + u p / 4 % 2) := by
  rw [toNat_succ h]
  show PS u p.toNat * (bcF (u (p.toNat : Int)) + u (p.toNat : Int) / 4 % 2) = _
  rw [Int.toNat_of_nonneg h]
theorem pb_rg {u : Int → Int} (hu : ∀ k : Int, 0 ≤ k → k < 7 → 1 ≤ u k ∧ u k ≤ 31) : ∀ n : Nat, n ≤ 7 → 1 ≤ PB u n ∧ PB u n ≤ PS u n ∧ PS u n ≤ 6 ^ n := by
  intro n
  induction n with
  | zero => intro _; exact ⟨Int.le_refl _, Int.le_refl _, Int.le_refl _⟩
  | succ n ih =>
    intro hn
    obtain ⟨h1, h2, h3⟩ := ih (by omega)
    have h4 := hu n (by omega) (by omega)
    have h5 := bc_rg h4
    show 1 ≤ PB u n * bcF (u n) ∧ PB u n * bcF (u n) ≤ PS u n * (bcF (u n) + u n / 4 % 2) ∧ PS u n * (bcF (u n) + u n / 4 % 2) ≤ 6 ^ (n + 1)
    have h6 : 0 ≤ u (n : Int) / 4 % 2 ∧ u (n : Int) / 4 % 2 ≤ 1 := by omega
    generalize u (n : Int) / 4 % 2 = t at h6
    generalize bcF (u (n : Int)) = b at h5
    refine ⟨?_, ?_, ?_⟩
    · have := Int.mul_le_mul h1 h5.1 (by decide) (by omega)
      omega
    · exact Int.mul_le_mul h2 (by omega) (by omega) (by omega)
    · rw [Int.pow_succ]
      exact Int.mul_le_mul h3 (by omega) (by omega) (by omega)
theorem pb_mono {u : Int → Int} (hu : ∀ k : Int, 0 ≤ k → k < 7 → 1 ≤ u k ∧ u k ≤ 31) {p n : Int} (hpn : p.toNat ≤ n.toNat) (hn : n ≤ 7) : PB u p.toNat ≤ PB u n.toNat := by
  have key : ∀ k m : Nat, k + m ≤ 7 → PB u k ≤ PB u (k + m) := by
    intro k m
    induction m with
    | zero => intro _; exact Int.le_refl _
    | succ m ih =>
      intro h
      have h1 := ih (by omega)
      have h2 := (pb_rg hu (k + m) (by omega)).1
      have h5 := (bc_rg (hu ((k + m : Nat) : Int) (by omega) (by omega))).1
      show PB u k ≤ PB u (k + m) * bcF (u ((k + m : Nat) : Int))
      have h6 := Int.mul_le_mul (Int.le_refl (PB u (k + m))) h5 (by decide) (by omega)
      omega
  have := key p.toNat (n.toNat - p.toNat) (by omega)
  rw [show p.toNat + (n.toNat - p.toNat) = n.toNat by omega] at this
  exact this
noncomputable def SZk (M : Mm) (P A : Int) : Int := Rf M P * PS (fun k => M A k) (M P 1).toNat
def PBok (M : Mm) : Prop := PB (fun k => M 3 k) (M 2 1).toNat ≤ 3000
theorem PBok_eq {M M2 : Mm} (h2 : M2 2 1 = M 2 1) (h3 : ∀ k, M2 3 k = M 3 k) (h : PBok M) : PBok M2 := by
  unfold PBok
  rw [h2, show (fun k => M2 3 k) = fun k => M 3 k from funext h3]
  exact h
theorem SZk_eq {M M2 : Mm} {P A P2 A2 : Int} (hf : ∀ i, 1 ≤ i → i ≤ 6 → M2 P2 i = M P i) (h3 : ∀ k, 0 ≤ k → k < 7 → M2 A2 k = M A k) (hn : M P 1 ≤ 7) : SZk M2 P2 A2 = SZk M P A := by
  have hps : ∀ n : Nat, n ≤ 7 → PS (fun k => M2 A2 k) n = PS (fun k => M A k) n := by
    intro n
    induction n with
    | zero => intro _; rfl
    | succ n ih =>
      intro h
      show PS (fun k => M2 A2 k) n * (bcF (M2 A2 n) + M2 A2 n / 4 % 2) = PS (fun k => M A k) n * (bcF (M A n) + M A n / 4 % 2)
      rw [ih (by omega), h3 n (by omega) (by omega)]
  unfold SZk Rf lD lW eD
  rw [hf 1 (by decide) (by decide), hf 2 (by decide) (by decide), hf 3 (by decide) (by decide), hf 5 (by decide) (by decide), hf 6 (by decide) (by decide), hps _ (by omega)]
theorem PBok_of {M : Mm} {z : Int} (hu : ∀ k : Int, 0 ≤ k → k < 7 → 1 ≤ M 3 k ∧ M 3 k ≤ 31) (hn : M 2 1 ≤ 7) (hz : z = SZk M 2 3) (h1 : 1 ≤ z) (h2 : z ≤ 3000) : PBok M := by
  have h3 := pb_rg (u := fun k => M 3 k) hu (M 2 1).toNat (by omega)
  unfold SZk at hz
  unfold PBok
  generalize PB (fun k => M 3 k) (M 2 1).toNat = pb at h3
  generalize PS (fun k => M 3 k) (M 2 1).toNat = ps at h3 hz
  have h4 : 1 ≤ Rf M 2 := by
    refine Int.not_lt.mp (fun q => ?_)
    have : Rf M 2 * ps ≤ 0 * ps := Int.mul_le_mul_of_nonneg_right (by omega) (by omega)
    omega
  have h5 : 1 * ps ≤ Rf M 2 * ps := Int.mul_le_mul_of_nonneg_right h4 (by omega)
  omega
theorem rk_back {M : Mm} {n p b a mv cv kv sv av r : Int} (hWC : WC M) (hp : 0 ≤ p) (hpp : p < M 2 1) (hmv : M 3 p = mv) (hcv : M 15 p = cv) (hk : kv = if cv ≤ 2 then cv else cv - 1) (hs : sv = pw kv) (hav : av = ((mv.toNat &&& (sv - 1).toNat : Nat) : Int)) (hb : b = bcF mv) (ha : a = bcF av) (hr : r = n * b) (hm : 1 ≤ mv ∧ mv ≤ 31) (hk2 : 0 ≤ kv ∧ kv ≤ 4) (h : 0 ≤ n ∧ n + 1 ≤ PB (fun k => M 3 k) p.toNat) : 0 ≤ r + a ∧ r + a + 1 ≤ PB (fun k => M 3 k) (p + 1).toNat := by
  have h1 := hWC p hp hpp
  rw [hmv, hcv] at h1
  have h2 : kf cv = kv := hk.symm
  rw [h2] at h1
  have h3 : bcF av + 1 ≤ bcF mv := bc_hd hm hk2 h1 (by rw [hav, hs])
  have h4 := bcF_nn av
  rw [pb_succ hp, hr]
  show 0 ≤ n * b + a ∧ n * b + a + 1 ≤ PB (fun k => M 3 k) p.toNat * bcF (M 3 p)
  rw [hmv, ← hb]
  rw [← ha] at h3 h4
  rw [← hb] at h3
  have h5 : 0 ≤ n * b := Int.mul_nonneg h.1 (by omega)
  have h6 := Int.mul_le_mul_of_nonneg_right h.2 (show 0 ≤ b by omega)
  rw [Int.add_mul, Int.one_mul] at h6
  omega
theorem sz_back {u : Int → Int} {R v w p r : Int} (hp : 0 ≤ p) (hv : v = R * PS u p.toNat) (hw : w = bcF (u p) + u p / 4 % 2) (hr : r = v * w) : r = R * PS u (p + 1).toNat := by
  rw [ps_succ hp, hr, hv, hw, Int.mul_assoc]
theorem sz_rg {u : Int → Int} (hu : ∀ k : Int, 0 ≤ k → k < 7 → 1 ≤ u k ∧ u k ≤ 31) {R v p : Int} (hp : 0 ≤ p) (hp7 : p ≤ 7) (hR : -100 ≤ R ∧ R ≤ 100) (hv : v = R * PS u p.toNat) : -27993600 ≤ v ∧ v ≤ 27993600 := by
  have h1 := pb_rg hu p.toNat (by omega)
  have h2 : (6 : Int) ^ p.toNat ≤ 6 ^ 7 := by
    have : (6 : Nat) ^ p.toNat ≤ 6 ^ 7 := Nat.pow_le_pow_right (by decide) (by omega)
    exact_mod_cast this
  have h3 : (6 : Int) ^ 7 = 279936 := by decide
  generalize PS u p.toNat = ps at h1 hv
  have h4 : 0 ≤ ps ∧ ps ≤ 279936 := by omega
  have h5 : R * ps ≤ 100 * ps := Int.mul_le_mul_of_nonneg_right hR.2 h4.1
  have h6 : -100 * ps ≤ R * ps := Int.mul_le_mul_of_nonneg_right hR.1 h4.1
  omega
def fm_m246 : Nat := 0
/-- java/lang/Integer.bitCount -/
theorem m246 {B : eB} (d : Nat) (M0 : Mm) (p0 : Int) (hP0 : Pw M0) (l0 : 0 ≤ p0) (u0 : p0 ≤ 4095) : Ct B (d + 1) 246 [I p0] M0 (qI fun z M => Pw M ∧ Fr fm_m246 M0 M ∧ 0 ≤ z ∧ z ≤ 63 ∧ (z = bcF p0)) := by
  refine ct_of (d := d + 0) (k := 0) (L := [some (I p0)]) rfl rfl rfl ?_
  have hF0 := Fr.rf fm_m246 M0
  generalize hQ : (qI fun z M => Pw M ∧ Fr fm_m246 M0 M ∧ 0 ≤ z ∧ z ≤ 63 ∧ (z = bcF p0)) = Q
  refine wk_il0 r246_0 (wk_il0 r246_1 (wk_c1 r246_2 (wk_iushrb r246_3 (by decide) ?_)))
  intro v1 h2 h3 h4
  refine wk_c5 r246_4 (wk_iand r246_7 ⟨by omega, by omega⟩ ⟨by omega, by omega⟩ ?_)
  intro v5 h6 h7 h8 h9
  refine wk_isub r246_8 (wk_is0 r246_9 (wk_il0 r246_10 (wk_c5 r246_11 (wk_iandr r246_14 ⟨by omega, by omega⟩ ?_))))
  intro v10 h11 h12 h13
  refine wk_il0 r246_15 (wk_c1 r246_16 (wk_iushrb r246_17 (by decide) ?_))
  intro v14 h15 h16 h17
  refine wk_c5 r246_18 (wk_iand r246_21 ⟨by omega, by omega⟩ ⟨by omega, by omega⟩ ?_)
  intro v18 h19 h20 h21 h22
  refine wk_iadd r246_22 (wk_is0 r246_23 (wk_il0 r246_24 (wk_il0 r246_25 (wk_c1 r246_26 (wk_iushrb r246_27 (by decide) ?_)))))
  intro v23 h24 h25 h26
  refine wk_iadd r246_28 (wk_wrap ?_)
  intro v27 h28 h29 h30
  refine wk_c5 r246_29 (wk_iandr r246_32 ⟨by omega, by omega⟩ ?_)
  intro v31 h32 h33 h34
  refine wk_is0 r246_33 (wk_il0 r246_34 (wk_il0 r246_35 (wk_c2 r246_36 (wk_iushrb r246_38 (by decide) ?_))))
  intro v35 h36 h37 h38
  refine wk_iadd r246_39 (wk_wrap ?_)
  intro v39 h40 h41 h42
  refine wk_is0 r246_40 (wk_il0 r246_41 (wk_il0 r246_42 (wk_c2 r246_43 (wk_iushrb r246_45 (by decide) ?_))))
  intro v43 h44 h45 h46
  refine wk_iadd r246_46 (wk_wrap ?_)
  intro v47 h48 h49 h50
  refine wk_is0 r246_47 (wk_il0 r246_48 (wk_c2 r246_49 (wk_iandc 6 64 r246_51 ⟨rfl, by decide⟩ rfl ?_)))
  subst hQ; exact wk_iret r246_52 (⟨rfl, _, rfl, hP0, hF0, by omega, by omega, by rw [bcF_eq]; subst_vars; rfl⟩)
def fm_m184_7 : Nat := 0
/-- IslandHall$Plan.size -/
theorem m184_7 {B : eB} (d : Nat) (M0 : Mm) (hP0 : Pw M0)  : Ct B (d + 3) 184 [R 7] M0 (qI fun z M => Pw M ∧ Fr fm_m184_7 M0 M ∧ (-1791590400) ≤ z ∧ z ≤ 1791590400 ∧ (z = SZk M0 7 8)) := by
  refine ct_of (d := d + 2) (k := 2) (L := [some (R 7), none, none]) rfl rfl rfl ?_
  have hF0 := Fr.rf fm_m184_7 M0
  generalize hQ : (qI fun z M => Pw M ∧ Fr fm_m184_7 M0 M ∧ (-1791590400) ≤ z ∧ z ≤ 1791590400 ∧ (z = SZk M0 7 8)) = Q
  refine wk_al0 r184_0 (wk_getfb r184_1 fd_7_2 (bf_7_2 hP0) ?_)
  intro v1 h3 h4 e2
  refine wk_al0 r184_4 (wk_cv1 r184_5 kc_7_181 rfl (m181_7 _ M0 hP0) (cqI ?_))
  rintro v10 M5 ⟨hP6, hQ7, h11, h12, xh9⟩
  obtain rfl := Fr.same hQ7
  refine wk_al0 r184_8 (wk_cv1 r184_9 kc_7_179 rfl (m179_7 _ M0 hP0) (cqI ?_))
  rintro v18 M13 ⟨hP14, hQ15, h19, h20, xh17⟩
  obtain rfl := Fr.same hQ15
  refine wk_isub r184_12 (wk_c1 r184_13 (wk_iadd r184_14 (wk_mula 4 7 r184_15 ⟨by omega, by omega⟩ ⟨by omega, by omega⟩ ?_)))
  intro v21 h22 h23 h24
  refine wk_al0 r184_16 (wk_cv1 r184_17 kc_7_182 rfl (m182_7 _ M0 hP0) (cqI ?_))
  rintro v30 M25 ⟨hP26, hQ27, h31, h32, xh29⟩
  obtain rfl := Fr.same hQ27
  refine wk_c1 r184_20 (wk_iadd r184_21 (wk_mula 28 2 r184_22 ⟨by omega, by omega⟩ ⟨by omega, by omega⟩ ?_))
  intro v33 h34 h35 h36
  refine wk_is1 r184_23 rfl ?_
  have hRf : v33 = Rf M0 7 := by unfold Rf; rw [← xh9, ← xh17, ← xh29, e2, h36, h24]
  have hRb : -100 ≤ Rf M0 7 ∧ Rf M0 7 ≤ 100 := by rw [← hRf]; omega
  refine wk_c1 r184_24 (wk_is2 r184_25 rfl ?_)
  have c26_268 : ∀ (k268 : Nat) (v235 : Int) (v238 : Int), (7 - v238).toNat = k268 → (-1791590400) ≤ v235 → v235 ≤ 1791590400 → 0 ≤ v238 → v238 ≤ 7 → (v235 = Rf M0 7 * PS (fun k => M0 8 k) (v238).toNat) → (v238 ≤ M0 7 1 ∨ v238 = 0) → Wp B (d + 2) 184 26 [some (R 7), some (I v235), some (I v238)] [] M0 Q := by
    refine lp_ind ?_
    intro k268 ih268 v235 v238 hk268 h236 h237 h239 h240 ti241 ti242
    refine wk_il2 r184_26 (wk_al0 r184_27 (wk_getfb r184_28 fd_7_1 (bf_7_1 hP0) ?_))
    intro v243 h245 h246 e244
    refine wk_icge r184_31 ⟨by omega, by omega⟩ ⟨by omega, by omega⟩ ?_ ?_
    · intro h247
      refine wk_il1 r184_63 ?_
      subst hQ; exact wk_iret r184_64 (⟨rfl, _, rfl, hP0, hF0, by omega, by omega, by unfold SZk; rw [show (M0 7 1).toNat = (v238).toNat by have := ti242; omega]; exact ti241⟩)
    · intro h248
      refine wk_il1 r184_34 (wk_al0 r184_35 (wk_getfr r184_36 fd_7_0 (br_7_0 hP0) (wk_il2 r184_39 (wk_ialdb r184_40 ar_8 ⟨by omega, by omega⟩ (fun q0 q1 => ba_8 hP0 q0 q1) ?_))))
      intro v249 h251 h252 e250
      refine wk_cs102_1 r184_41 rfl (m246 _ M0 v249 hP0 (by omega) (by omega)) (cqI ?_)
      rintro v258 M253 ⟨hP254, hQ255, h259, h260, xh257⟩
      obtain rfl := Fr.same hQ255
      refine wk_al0 r184_44 (wk_getfr r184_45 fd_7_0 (br_7_0 hP0) (wk_il2 r184_48 (wk_iald r184_49 ar_8 ⟨by omega, by omega⟩ e250 (wk_c1 r184_50 (wk_ishrc r184_51 ⟨by omega, by omega⟩ (by decide) pwl_2 (wk_c1 r184_52 (wk_iandc 1 2 r184_53 ⟨rfl, by decide⟩ rfl (wk_iadd r184_54 ?_))))))))
      have h263 := sz_rg (u := fun k => M0 8 k) (fun k a b => ba_8 hP0 a b) (R := Rf M0 7) (v := v235) (p := v238) (by omega) (by omega) hRb ti241
      refine wk_mula 27993600 64 r184_55 ⟨by omega, by omega⟩ ⟨by omega, by omega⟩ ?_
      intro v264 h265 h266 h267
      refine wk_is1 r184_56 rfl (wk_inc2 r184_57 rfl (wk_goto r184_60 ?_))
      exact wp_fg (le_s (le_s (le_s le_0))) (ih268 (7 - (v238 + 1)).toNat (by omega) v264 (v238 + 1) rfl (by omega) (by omega) (by omega) (by omega) (sz_back (by omega) ti241 (by show _ = bcF (M0 8 v238) + M0 8 v238 / 4 % 2; rw [e250]; omega) h267) (Or.inl (by omega)))
  exact wp_fg (le_s (le_s (le_s le_0))) (c26_268 _ v33 0 rfl (by omega) (by omega) (by omega) (by omega) (by rw [hRf]; exact (Int.mul_one _).symm) (Or.inr rfl))
def fm_m159_6v2 : Nat := 412316860416
/-- IslandHall$Parser.fail -/
theorem m159_6v2 {B : eB} (d : Nat) (M0 : Mm) (p1 : Int) (hP0 : Pw M0) (l1 : 1 ≤ p1) (u1 : p1 ≤ 6) : Ct B (d + 1) 159 [R 6, I p1] M0 (qI fun z M => Pw M ∧ Fr fm_m159_6v2 M0 M ∧ 0 ≤ z ∧ z ≤ 0 ∧ 0 ≤ M 6 4 + (-1)) := by
  refine ct_of (d := d + 0) (k := 0) (L := [some (R 6), some (I p1)]) rfl rfl rfl ?_
  have hF0 := Fr.rf fm_m159_6v2 M0
  generalize hQ : (qI fun z M => Pw M ∧ Fr fm_m159_6v2 M0 M ∧ 0 ≤ z ∧ z ≤ 0 ∧ 0 ≤ M 6 4 + (-1)) = Q
  refine wk_al0 r159_0 (wk_il1 r159_1 (wk_putfi81 r159_2 fd_6_4 (wk_nw g_6_4 rfl hP0 hF0 (uf_6_4 ⟨by omega, by omega⟩) ?_)))
  intro M1 hP2 hF3 e4
  refine wk_al0 r159_5 (wk_al0 r159_6 (wk_getfr r159_7 fd_6_0 (br_6_0 hP2) (wk_getfb r159_10 fd_9_3 (bf_9_3 hP2) ?_)))
  intro v5 h7 h8 e6
  refine wk_putfi81 r159_13 fd_6_5 (wk_nw g_6_5 rfl hP2 hF3 (uf_6_5 ⟨by omega, by omega⟩) ?_)
  intro M9 hP10 hF11 e12
  refine wk_c1 r159_16 ?_
  subst hQ; exact wk_zret r159_17 (by decide) (⟨rfl, _, rfl, hP10, hF11, by omega, by omega, by have := (mUp_no e12 (mUp_at e4) (Or.inr (by decide))); omega⟩)
def fm_m167_6v1 : Nat := 3941061990809600
/-- IslandHall$Parser.number -/
theorem m167_6v1 {B : eB} (d : Nat) (M0 : Mm) (p1 : Int) (p2 : Int) (hP0 : Pw M0) (l1 : 0 ≤ p1) (u1 : p1 ≤ 0) (l2 : 6 ≤ p2) (u2 : p2 ≤ 6) : Ct B (d + 3) 167 [R 6, I p1, I p2] M0 (qI fun z M => Pw M ∧ Fr fm_m167_6v1 M0 M ∧ (-1) ≤ z ∧ z ≤ 6 ∧ 0 ≤ z + M 6 4) := by
  refine ct_of (d := d + 2) (k := 1) (L := [some (R 6), some (I p1), some (I p2), none]) rfl rfl rfl ?_
  have hF0 := Fr.rf fm_m167_6v1 M0
  generalize hQ : (qI fun z M => Pw M ∧ Fr fm_m167_6v1 M0 M ∧ (-1) ≤ z ∧ z ≤ 6 ∧ 0 ≤ z + M 6 4) = Q
  refine wk_al0 r167_0 (wk_getfr r167_1 fd_6_0 (br_6_0 hP0) (wk_getfb r167_4 fd_9_4 (bf_9_4 hP0) ?_))
  intro v1 h3 h4 e2
  refine wk_c1 r167_7 ?_
  refine wk_iceq r167_8 ⟨by omega, by omega⟩ (by decide) ?_ ?_
  · intro h5
    refine wk_al0 r167_19 (wk_getfr r167_20 fd_6_0 (br_6_0 hP0) (wk_cv1 r167_23 kc_9_244 rfl (m244_9 _ M0 hP0) (cqI ?_)))
    rintro v10 M6 ⟨hP7, hQ8, h11, h12⟩
    obtain rfl := Fr.same hQ8
    refine wk_is3 r167_26 rfl (wk_il3 r167_27 (wk_il1 r167_28 ?_))
    refine wk_iclt r167_29 ⟨by omega, by omega⟩ ⟨by omega, by omega⟩ ?_ ?_
    · intro h13
      refine wk_al0 r167_37 (wk_c1 r167_38 (wk_cv2 r167_39 kc_6_159 rfl (m159_6 _ M0 2 hP0 (by decide) (by decide)) (cqI ?_)))
      rintro v19 M14 ⟨hP15, hQ16, h20, h21, h18⟩
      have hF17 : Fr fm_m167_6v1 M0 M14 := hF0.tr hQ16 rfl
      obtain ⟨v22, e23⟩ : ∃ v, M14 6 4 = v := ⟨_, rfl⟩
      have h24 := bf_6_4 hP15; rw [e23] at h24
      refine wk_popi r167_42 (wk_c1 r167_43 ?_)
      subst hQ; exact wk_iret r167_44 (⟨rfl, _, rfl, hP15, hF17, by omega, by omega, by have := e23; omega⟩)
    · intro h25
      refine wk_il3 r167_32 (wk_il2 r167_33 ?_)
      refine wk_icle r167_34 ⟨by omega, by omega⟩ ⟨by omega, by omega⟩ ?_ ?_
      · intro h26
        refine wk_al0 r167_45 (wk_getfr r167_46 fd_6_0 (br_6_0 hP0) (wk_cv1 r167_49 kc_9_241 rfl (m241_9 _ M0 hP0) (cqV ?_)))
        rintro M27 ⟨hP28, hQ29⟩
        have hF30 : Fr fm_m167_6v1 M0 M27 := hF0.tr hQ29 rfl
        refine wk_il3 r167_52 ?_
        subst hQ; exact wk_iret r167_53 (⟨rfl, _, rfl, hP28, hF30, by omega, by omega, by have := (bf_6_4 hP28); omega⟩)
      · intro h31
        refine wk_al0 r167_37 (wk_c1 r167_38 (wk_cv2 r167_39 kc_6_159 rfl (m159_6 _ M0 2 hP0 (by decide) (by decide)) (cqI ?_)))
        rintro v37 M32 ⟨hP33, hQ34, h38, h39, h36⟩
        have hF35 : Fr fm_m167_6v1 M0 M32 := hF0.tr hQ34 rfl
        obtain ⟨v40, e41⟩ : ∃ v, M32 6 4 = v := ⟨_, rfl⟩
        have h42 := bf_6_4 hP33; rw [e41] at h42
        refine wk_popi r167_42 (wk_c1 r167_43 ?_)
        subst hQ; exact wk_iret r167_44 (⟨rfl, _, rfl, hP33, hF35, by omega, by omega, by have := e41; omega⟩)
  · intro h43
    refine wk_al0 r167_11 (wk_c1 r167_12 (wk_cv2 r167_13 kc_6_159 rfl (m159_6v1 _ M0 1 hP0 (by decide) (by decide)) (cqI ?_)))
    rintro v49 M44 ⟨hP45, hQ46, h50, h51, h48⟩
    have hF47 : Fr fm_m167_6v1 M0 M44 := hF0.tr hQ46 rfl
    obtain ⟨v52, e53⟩ : ∃ v, M44 6 4 = v := ⟨_, rfl⟩
    have h54 := bf_6_4 hP45; rw [e53] at h54
    refine wk_popi r167_16 (wk_c1 r167_17 ?_)
    subst hQ; exact wk_iret r167_18 (⟨rfl, _, rfl, hP45, hF47, by omega, by omega, by have := e53; omega⟩)
def fm_m167_6v2 : Nat := 3941061990809600
/-- IslandHall$Parser.number -/
theorem m167_6v2 {B : eB} (d : Nat) (M0 : Mm) (p1 : Int) (p2 : Int) (hP0 : Pw M0) (l1 : 1 ≤ p1) (u1 : p1 ≤ 1) (l2 : 4 ≤ p2) (u2 : p2 ≤ 4) : Ct B (d + 3) 167 [R 6, I p1, I p2] M0 (qI fun z M => Pw M ∧ Fr fm_m167_6v2 M0 M ∧ (-1) ≤ z ∧ z ≤ 4 ∧ 0 ≤ z + M 6 4) := by
  refine ct_of (d := d + 2) (k := 1) (L := [some (R 6), some (I p1), some (I p2), none]) rfl rfl rfl ?_
  have hF0 := Fr.rf fm_m167_6v2 M0
  generalize hQ : (qI fun z M => Pw M ∧ Fr fm_m167_6v2 M0 M ∧ (-1) ≤ z ∧ z ≤ 4 ∧ 0 ≤ z + M 6 4) = Q
  refine wk_al0 r167_0 (wk_getfr r167_1 fd_6_0 (br_6_0 hP0) (wk_getfb r167_4 fd_9_4 (bf_9_4 hP0) ?_))
  intro v1 h3 h4 e2
  refine wk_c1 r167_7 ?_
  refine wk_iceq r167_8 ⟨by omega, by omega⟩ (by decide) ?_ ?_
  · intro h5
    refine wk_al0 r167_19 (wk_getfr r167_20 fd_6_0 (br_6_0 hP0) (wk_cv1 r167_23 kc_9_244 rfl (m244_9 _ M0 hP0) (cqI ?_)))
    rintro v10 M6 ⟨hP7, hQ8, h11, h12⟩
    obtain rfl := Fr.same hQ8
    refine wk_is3 r167_26 rfl (wk_il3 r167_27 (wk_il1 r167_28 ?_))
    refine wk_iclt r167_29 ⟨by omega, by omega⟩ ⟨by omega, by omega⟩ ?_ ?_
    · intro h13
      refine wk_al0 r167_37 (wk_c1 r167_38 (wk_cv2 r167_39 kc_6_159 rfl (m159_6 _ M0 2 hP0 (by decide) (by decide)) (cqI ?_)))
      rintro v19 M14 ⟨hP15, hQ16, h20, h21, h18⟩
      have hF17 : Fr fm_m167_6v2 M0 M14 := hF0.tr hQ16 rfl
      obtain ⟨v22, e23⟩ : ∃ v, M14 6 4 = v := ⟨_, rfl⟩
      have h24 := bf_6_4 hP15; rw [e23] at h24
      refine wk_popi r167_42 (wk_c1 r167_43 ?_)
      subst hQ; exact wk_iret r167_44 (⟨rfl, _, rfl, hP15, hF17, by omega, by omega, by have := e23; omega⟩)
    · intro h25
      refine wk_il3 r167_32 (wk_il2 r167_33 ?_)
      refine wk_icle r167_34 ⟨by omega, by omega⟩ ⟨by omega, by omega⟩ ?_ ?_
      · intro h26
        refine wk_al0 r167_45 (wk_getfr r167_46 fd_6_0 (br_6_0 hP0) (wk_cv1 r167_49 kc_9_241 rfl (m241_9 _ M0 hP0) (cqV ?_)))
        rintro M27 ⟨hP28, hQ29⟩
        have hF30 : Fr fm_m167_6v2 M0 M27 := hF0.tr hQ29 rfl
        refine wk_il3 r167_52 ?_
        subst hQ; exact wk_iret r167_53 (⟨rfl, _, rfl, hP28, hF30, by omega, by omega, by have := (bf_6_4 hP28); omega⟩)
      · intro h31
        refine wk_al0 r167_37 (wk_c1 r167_38 (wk_cv2 r167_39 kc_6_159 rfl (m159_6 _ M0 2 hP0 (by decide) (by decide)) (cqI ?_)))
        rintro v37 M32 ⟨hP33, hQ34, h38, h39, h36⟩
        have hF35 : Fr fm_m167_6v2 M0 M32 := hF0.tr hQ34 rfl
        obtain ⟨v40, e41⟩ : ∃ v, M32 6 4 = v := ⟨_, rfl⟩
        have h42 := bf_6_4 hP33; rw [e41] at h42
        refine wk_popi r167_42 (wk_c1 r167_43 ?_)
        subst hQ; exact wk_iret r167_44 (⟨rfl, _, rfl, hP33, hF35, by omega, by omega, by have := e41; omega⟩)
  · intro h43
    refine wk_al0 r167_11 (wk_c1 r167_12 (wk_cv2 r167_13 kc_6_159 rfl (m159_6v1 _ M0 1 hP0 (by decide) (by decide)) (cqI ?_)))
    rintro v49 M44 ⟨hP45, hQ46, h50, h51, h48⟩
    have hF47 : Fr fm_m167_6v2 M0 M44 := hF0.tr hQ46 rfl
    obtain ⟨v52, e53⟩ : ∃ v, M44 6 4 = v := ⟨_, rfl⟩
    have h54 := bf_6_4 hP45; rw [e53] at h54
    refine wk_popi r167_16 (wk_c1 r167_17 ?_)
    subst hQ; exact wk_iret r167_18 (⟨rfl, _, rfl, hP45, hF47, by omega, by omega, by have := e53; omega⟩)
def fm_m238_9v1 : Nat := 0
/-- IslandHall$Tokens.isSign -/
theorem m238_9v1 {B : eB} (d : Nat) (M0 : Mm) (p1 : Int) (hP0 : Pw M0) (l1 : 40 ≤ p1) (u1 : p1 ≤ 59) : Ct B (d + 1) 238 [R 9, I p1] M0 (qI fun z M => Pw M ∧ Fr fm_m238_9v1 M0 M ∧ 0 ≤ z ∧ z ≤ 1) := by
  refine ct_of (d := d + 0) (k := 0) (L := [some (R 9), some (I p1)]) rfl rfl rfl ?_
  have hF0 := Fr.rf fm_m238_9v1 M0
  generalize hQ : (qI fun z M => Pw M ∧ Fr fm_m238_9v1 M0 M ∧ 0 ≤ z ∧ z ≤ 1) = Q
  refine wk_al0 r238_0 (wk_getfb r238_1 fd_9_4 (bf_9_4 hP0) ?_)
  intro v1 h3 h4 e2
  refine wk_c1 r238_4 ?_
  refine wk_icne r238_5 ⟨by omega, by omega⟩ (by decide) ?_ ?_
  · intro h5
    refine wk_c1 r238_36 ?_
    subst hQ; exact wk_zret r238_37 (by decide) (⟨rfl, _, rfl, hP0, hF0, by omega, by omega⟩)
  · intro h6
    refine wk_al0 r238_8 (wk_getfb r238_9 fd_9_3 (bf_9_3 hP0) ?_)
    intro v7 h9 h10 e8
    refine wk_al0 r238_12 (wk_getfb r238_13 fd_9_1 (bf_9_1 hP0) ?_)
    intro v11 h13 h14 e12
    refine wk_icge r238_16 ⟨by omega, by omega⟩ ⟨by omega, by omega⟩ ?_ ?_
    · intro h15
      refine wk_c1 r238_36 ?_
      subst hQ; exact wk_zret r238_37 (by decide) (⟨rfl, _, rfl, hP0, hF0, by omega, by omega⟩)
    · intro h16
      refine wk_al0 r238_19 (wk_getfr r238_20 fd_9_0 (br_9_0 hP0) (wk_al0 r238_23 (wk_getfi r238_24 fd_9_3 e8 (wk_baldb r238_27 ar_1 ⟨by omega, by omega⟩ (fun q0 q1 => ba_1 hP0 q0 q1) ?_))))
      intro v17 h19 h20 e18
      refine wk_il1 r238_28 ?_
      refine wk_icne r238_29 ⟨by omega, by omega⟩ ⟨by omega, by omega⟩ ?_ ?_
      · intro h21
        refine wk_c1 r238_36 ?_
        subst hQ; exact wk_zret r238_37 (by decide) (⟨rfl, _, rfl, hP0, hF0, by omega, by omega⟩)
      · intro h22
        refine wk_c1 r238_32 (wk_goto r238_33 ?_)
        subst hQ; exact wk_zret r238_37 (by decide) (⟨rfl, _, rfl, hP0, hF0, by omega, by omega⟩)
def fm_m237_9 : Nat := 0
/-- IslandHall$Tokens.isName -/
theorem m237_9 {B : eB} (d : Nat) (M0 : Mm) (hP0 : Pw M0)  : Ct B (d + 1) 237 [R 9] M0 (qI fun z M => Pw M ∧ Fr fm_m237_9 M0 M ∧ 0 ≤ z ∧ z ≤ 1 ∧ (z = 1 → 0 ≤ M 9 2 + (-1) * (M 9 3) + (-1)) ∧ (z = 1 → 0 ≤ (-1) * (M 9 2) + M 9 3 + 1)) := by
  refine ct_of (d := d + 0) (k := 0) (L := [some (R 9)]) rfl rfl rfl ?_
  have hF0 := Fr.rf fm_m237_9 M0
  generalize hQ : (qI fun z M => Pw M ∧ Fr fm_m237_9 M0 M ∧ 0 ≤ z ∧ z ≤ 1 ∧ (z = 1 → 0 ≤ M 9 2 + (-1) * (M 9 3) + (-1)) ∧ (z = 1 → 0 ≤ (-1) * (M 9 2) + M 9 3 + 1)) = Q
  refine wk_al0 r237_0 (wk_getfb r237_1 fd_9_4 (bf_9_4 hP0) ?_)
  intro v1 h3 h4 e2
  refine wk_c1 r237_4 ?_
  refine wk_icne r237_5 ⟨by omega, by omega⟩ (by decide) ?_ ?_
  · intro h5
    refine wk_c1 r237_25 ?_
    subst hQ; exact wk_zret r237_26 (by decide) (⟨rfl, _, rfl, hP0, hF0, by omega, by omega, by omega, by omega⟩)
  · intro h6
    refine wk_al0 r237_8 (wk_getfb r237_9 fd_9_2 (bf_9_2 hP0) ?_)
    intro v7 h9 h10 e8
    refine wk_al0 r237_12 (wk_getfb r237_13 fd_9_3 (bf_9_3 hP0) ?_)
    intro v11 h13 h14 e12
    refine wk_isub r237_16 (wk_c1 r237_17 ?_)
    refine wk_icne r237_18 ⟨by omega, by omega⟩ (by decide) ?_ ?_
    · intro h15
      refine wk_c1 r237_25 ?_
      subst hQ; exact wk_zret r237_26 (by decide) (⟨rfl, _, rfl, hP0, hF0, by omega, by omega, by omega, by omega⟩)
    · intro h16
      refine wk_c1 r237_21 (wk_goto r237_22 ?_)
      subst hQ; exact wk_zret r237_26 (by decide) (⟨rfl, _, rfl, hP0, hF0, by omega, by omega, by have := e8; have := e12; omega, by have := e8; have := e12; omega⟩)
def fm_m155_6 : Nat := 0
/-- IslandHall$Parser.canBegin -/
theorem m155_6 {B : eB} (d : Nat) (M0 : Mm) (hP0 : Pw M0)  : Ct B (d + 3) 155 [R 6] M0 (qI fun z M => Pw M ∧ Fr fm_m155_6 M0 M ∧ 0 ≤ z ∧ z ≤ 1) := by
  refine ct_of (d := d + 2) (k := 0) (L := [some (R 6)]) rfl rfl rfl ?_
  have hF0 := Fr.rf fm_m155_6 M0
  generalize hQ : (qI fun z M => Pw M ∧ Fr fm_m155_6 M0 M ∧ 0 ≤ z ∧ z ≤ 1) = Q
  refine wk_al0 r155_0 (wk_getfr r155_1 fd_6_0 (br_6_0 hP0) (wk_c2 r155_4 (wk_cv2 r155_6 kc_9_238 rfl (m238_9v1 _ M0 40 hP0 (by decide) (by decide)) (cqI ?_))))
  rintro v5 M1 ⟨hP2, hQ3, h6, h7⟩
  obtain rfl := Fr.same hQ3
  refine wk_ifne r155_9 ⟨by omega, by omega⟩ ?_ ?_
  · intro h8
    refine wk_c1 r155_94 (wk_goto r155_95 ?_)
    subst hQ; exact wk_zret r155_99 (by decide) (⟨rfl, _, rfl, hP0, hF0, by omega, by omega⟩)
  · intro h9
    refine wk_al0 r155_12 (wk_getfr r155_13 fd_6_0 (br_6_0 hP0) (wk_cv1 r155_16 kc_9_237 rfl (m237_9 _ M0 hP0) (cqI ?_)))
    rintro v16 M10 ⟨hP11, hQ12, h17, h18, h14, h15⟩
    obtain rfl := Fr.same hQ12
    obtain ⟨v19, e20⟩ : ∃ v, M0 9 2 = v := ⟨_, rfl⟩
    have h21 := bf_9_2 hP0; rw [e20] at h21
    obtain ⟨v22, e23⟩ : ∃ v, M0 9 3 = v := ⟨_, rfl⟩
    have h24 := bf_9_3 hP0; rw [e23] at h24
    refine wk_ifne r155_19 ⟨by omega, by omega⟩ ?_ ?_
    · intro h25
      refine wk_c1 r155_94 (wk_goto r155_95 ?_)
      subst hQ; exact wk_zret r155_99 (by decide) (⟨rfl, _, rfl, hP0, hF0, by omega, by omega⟩)
    · intro h26
      refine wk_al0 r155_22 (wk_getfr r155_23 fd_6_0 (br_6_0 hP0) (wk_c8 r155_26 (wk_cv2 r155_28 kc_9_239 rfl (m239_9 _ M0 4119 hP0 (by decide)) (cqI ?_))))
      rintro v32 M27 ⟨hP28, hQ29, h33, h34, xh31⟩
      obtain rfl := Fr.same hQ29
      refine wk_ifne r155_31 ⟨by omega, by omega⟩ ?_ ?_
      · intro h35
        refine wk_c1 r155_94 (wk_goto r155_95 ?_)
        subst hQ; exact wk_zret r155_99 (by decide) (⟨rfl, _, rfl, hP0, hF0, by omega, by omega⟩)
      · intro h36
        refine wk_al0 r155_34 (wk_getfr r155_35 fd_6_0 (br_6_0 hP0) (wk_c8 r155_38 (wk_cv2 r155_40 kc_9_239 rfl (m239_9 _ M0 4114 hP0 (by decide)) (cqI ?_))))
        rintro v42 M37 ⟨hP38, hQ39, h43, h44, xh41⟩
        obtain rfl := Fr.same hQ39
        refine wk_ifne r155_43 ⟨by omega, by omega⟩ ?_ ?_
        · intro h45
          refine wk_c1 r155_94 (wk_goto r155_95 ?_)
          subst hQ; exact wk_zret r155_99 (by decide) (⟨rfl, _, rfl, hP0, hF0, by omega, by omega⟩)
        · intro h46
          refine wk_al0 r155_46 (wk_getfr r155_47 fd_6_0 (br_6_0 hP0) (wk_c8 r155_50 (wk_cv2 r155_52 kc_9_239 rfl (m239_9 _ M0 4115 hP0 (by decide)) (cqI ?_))))
          rintro v52 M47 ⟨hP48, hQ49, h53, h54, xh51⟩
          obtain rfl := Fr.same hQ49
          refine wk_ifne r155_55 ⟨by omega, by omega⟩ ?_ ?_
          · intro h55
            refine wk_c1 r155_94 (wk_goto r155_95 ?_)
            subst hQ; exact wk_zret r155_99 (by decide) (⟨rfl, _, rfl, hP0, hF0, by omega, by omega⟩)
          · intro h56
            refine wk_al0 r155_58 (wk_getfr r155_59 fd_6_0 (br_6_0 hP0) (wk_c8 r155_62 (wk_cv2 r155_64 kc_9_239 rfl (m239_9 _ M0 4118 hP0 (by decide)) (cqI ?_))))
            rintro v62 M57 ⟨hP58, hQ59, h63, h64, xh61⟩
            obtain rfl := Fr.same hQ59
            refine wk_ifne r155_67 ⟨by omega, by omega⟩ ?_ ?_
            · intro h65
              refine wk_c1 r155_94 (wk_goto r155_95 ?_)
              subst hQ; exact wk_zret r155_99 (by decide) (⟨rfl, _, rfl, hP0, hF0, by omega, by omega⟩)
            · intro h66
              refine wk_al0 r155_70 (wk_getfr r155_71 fd_6_0 (br_6_0 hP0) (wk_c8 r155_74 (wk_cv2 r155_76 kc_9_239 rfl (m239_9 _ M0 4116 hP0 (by decide)) (cqI ?_))))
              rintro v72 M67 ⟨hP68, hQ69, h73, h74, xh71⟩
              obtain rfl := Fr.same hQ69
              refine wk_ifne r155_79 ⟨by omega, by omega⟩ ?_ ?_
              · intro h75
                refine wk_c1 r155_94 (wk_goto r155_95 ?_)
                subst hQ; exact wk_zret r155_99 (by decide) (⟨rfl, _, rfl, hP0, hF0, by omega, by omega⟩)
              · intro h76
                refine wk_al0 r155_82 (wk_getfr r155_83 fd_6_0 (br_6_0 hP0) (wk_c8 r155_86 (wk_cv2 r155_88 kc_9_239 rfl (m239_9 _ M0 4117 hP0 (by decide)) (cqI ?_))))
                rintro v82 M77 ⟨hP78, hQ79, h83, h84, xh81⟩
                obtain rfl := Fr.same hQ79
                refine wk_ifeq r155_91 ⟨by omega, by omega⟩ ?_ ?_
                · intro h85
                  refine wk_c1 r155_98 ?_
                  subst hQ; exact wk_zret r155_99 (by decide) (⟨rfl, _, rfl, hP0, hF0, by omega, by omega⟩)
                · intro h86
                  refine wk_c1 r155_94 (wk_goto r155_95 ?_)
                  subst hQ; exact wk_zret r155_99 (by decide) (⟨rfl, _, rfl, hP0, hF0, by omega, by omega⟩)
def fm_m240_9 : Nat := 0
/-- IslandHall$Tokens.kind -/
theorem m240_9 {B : eB} (d : Nat) (M0 : Mm) (hP0 : Pw M0)  : Ct B (d + 3) 240 [R 9] M0 (qI fun z M => Pw M ∧ Fr fm_m240_9 M0 M ∧ (-1) ≤ z ∧ z ≤ 4 ∧ (z = kdF M0)) := by
  refine ct_of (d := d + 2) (k := 0) (L := [some (R 9)]) rfl rfl rfl ?_
  have hF0 := Fr.rf fm_m240_9 M0
  generalize hQ : (qI fun z M => Pw M ∧ Fr fm_m240_9 M0 M ∧ (-1) ≤ z ∧ z ≤ 4 ∧ (z = kdF M0)) = Q
  refine wk_al0 r240_0 (wk_c8 r240_1 (wk_cv2 r240_3 kc_9_239 rfl (m239_9 _ M0 4128 hP0 (by decide)) (cqI ?_)))
  rintro v6 M1 ⟨hP2, hQ3, h7, h8, xh5⟩
  obtain rfl := Fr.same hQ3
  refine wk_ifeq r240_6 ⟨by omega, by omega⟩ ?_ ?_
  · intro h9
    refine wk_al0 r240_11 (wk_c8 r240_12 (wk_cv2 r240_14 kc_9_239 rfl (m239_9 _ M0 4129 hP0 (by decide)) (cqI ?_)))
    rintro v15 M10 ⟨hP11, hQ12, h16, h17, xh14⟩
    obtain rfl := Fr.same hQ12
    refine wk_ifeq r240_17 ⟨by omega, by omega⟩ ?_ ?_
    · intro h18
      refine wk_al0 r240_22 (wk_c8 r240_23 (wk_cv2 r240_25 kc_9_239 rfl (m239_9 _ M0 4130 hP0 (by decide)) (cqI ?_)))
      rintro v24 M19 ⟨hP20, hQ21, h25, h26, xh23⟩
      obtain rfl := Fr.same hQ21
      refine wk_ifeq r240_28 ⟨by omega, by omega⟩ ?_ ?_
      · intro h27
        refine wk_al0 r240_33 (wk_c8 r240_34 (wk_cv2 r240_36 kc_9_239 rfl (m239_9 _ M0 4131 hP0 (by decide)) (cqI ?_)))
        rintro v33 M28 ⟨hP29, hQ30, h34, h35, xh32⟩
        obtain rfl := Fr.same hQ30
        refine wk_ifeq r240_39 ⟨by omega, by omega⟩ ?_ ?_
        · intro h36
          refine wk_al0 r240_44 (wk_c8 r240_45 (wk_cv2 r240_47 kc_9_239 rfl (m239_9 _ M0 4132 hP0 (by decide)) (cqI ?_)))
          rintro v42 M37 ⟨hP38, hQ39, h43, h44, xh41⟩
          obtain rfl := Fr.same hQ39
          refine wk_ifeq r240_50 ⟨by omega, by omega⟩ ?_ ?_
          · intro h45
            refine wk_c1 r240_57 ?_
            subst hQ; exact wk_iret r240_58 (⟨rfl, _, rfl, hP0, hF0, by omega, by omega, by unfold kdF; rw [if_neg (fun q => by have := xh5.mpr q; omega), if_neg (fun q => by have := xh14.mpr q; omega), if_neg (fun q => by have := xh23.mpr q; omega), if_neg (fun q => by have := xh32.mpr q; omega), if_neg (fun q => by have := xh41.mpr q; omega)]⟩)
          · intro h46
            refine wk_c1 r240_53 (wk_goto r240_54 ?_)
            subst hQ; exact wk_iret r240_58 (⟨rfl, _, rfl, hP0, hF0, by omega, by omega, by unfold kdF; rw [if_neg (fun q => by have := xh5.mpr q; omega), if_neg (fun q => by have := xh14.mpr q; omega), if_neg (fun q => by have := xh23.mpr q; omega), if_neg (fun q => by have := xh32.mpr q; omega), if_pos (xh41.mp (by omega))]⟩)
        · intro h47
          refine wk_c1 r240_42 ?_
          subst hQ; exact wk_iret r240_43 (⟨rfl, _, rfl, hP0, hF0, by omega, by omega, by unfold kdF; rw [if_neg (fun q => by have := xh5.mpr q; omega), if_neg (fun q => by have := xh14.mpr q; omega), if_neg (fun q => by have := xh23.mpr q; omega), if_pos (xh32.mp (by omega))]⟩)
      · intro h48
        refine wk_c1 r240_31 ?_
        subst hQ; exact wk_iret r240_32 (⟨rfl, _, rfl, hP0, hF0, by omega, by omega, by unfold kdF; rw [if_neg (fun q => by have := xh5.mpr q; omega), if_neg (fun q => by have := xh14.mpr q; omega), if_pos (xh23.mp (by omega))]⟩)
    · intro h49
      refine wk_c1 r240_20 ?_
      subst hQ; exact wk_iret r240_21 (⟨rfl, _, rfl, hP0, hF0, by omega, by omega, by unfold kdF; rw [if_neg (fun q => by have := xh5.mpr q; omega), if_pos (xh14.mp (by omega))]⟩)
  · intro h50
    refine wk_c1 r240_9 ?_
    subst hQ; exact wk_iret r240_10 (⟨rfl, _, rfl, hP0, hF0, by omega, by omega, by unfold kdF; rw [if_pos (xh5.mp (by omega))]⟩)
def fm_m173_6 : Nat := 3941061990809600
/-- IslandHall$Parser.takeKind -/
theorem m173_6 {B : eB} (d : Nat) (M0 : Mm) (hP0 : Pw M0)  : Ct B (d + 4) 173 [R 6] M0 (qI fun z M => Pw M ∧ Fr fm_m173_6 M0 M ∧ (-1) ≤ z ∧ z ≤ 4 ∧ 0 ≤ z + M 6 4) := by
  refine ct_of (d := d + 3) (k := 1) (L := [some (R 6), none]) rfl rfl rfl ?_
  have hF0 := Fr.rf fm_m173_6 M0
  generalize hQ : (qI fun z M => Pw M ∧ Fr fm_m173_6 M0 M ∧ (-1) ≤ z ∧ z ≤ 4 ∧ 0 ≤ z + M 6 4) = Q
  refine wk_al0 r173_0 (wk_getfr r173_1 fd_6_0 (br_6_0 hP0) (wk_cv1 r173_4 kc_9_240 rfl (m240_9 _ M0 hP0) (cqI ?_)))
  rintro v6 M1 ⟨hP2, hQ3, h7, h8, xh5⟩
  obtain rfl := Fr.same hQ3
  refine wk_is1 r173_7 rfl (wk_il1 r173_8 (wk_c1 r173_9 ?_))
  refine wk_icne r173_10 ⟨by omega, by omega⟩ (by decide) ?_ ?_
  · intro h9
    refine wk_al0 r173_36 (wk_getfr r173_37 fd_6_0 (br_6_0 hP0) (wk_cv1 r173_40 kc_9_241 rfl (m241_9 _ M0 hP0) (cqV ?_)))
    rintro M10 ⟨hP11, hQ12⟩
    have hF13 : Fr fm_m173_6 M0 M10 := hF0.tr hQ12 rfl
    refine wk_il1 r173_43 ?_
    subst hQ; exact wk_iret r173_44 (⟨rfl, _, rfl, hP11, hF13, by omega, by omega, by have := (bf_6_4 hP11); omega⟩)
  · intro h14
    refine wk_al0 r173_13 (wk_al0 r173_14 (wk_getfr r173_15 fd_6_0 (br_6_0 hP0) (wk_getfb r173_18 fd_9_4 (bf_9_4 hP0) ?_)))
    intro v15 h17 h18 e16
    refine wk_c1 r173_21 ?_
    refine wk_icne r173_22 ⟨by omega, by omega⟩ (by decide) ?_ ?_
    · intro h19
      refine wk_c1 r173_29 (wk_cv2 r173_30 kc_6_159 rfl (m159_6v1 _ M0 1 hP0 (by decide) (by decide)) (cqI ?_))
      rintro v25 M20 ⟨hP21, hQ22, h26, h27, h24⟩
      have hF23 : Fr fm_m173_6 M0 M20 := hF0.tr hQ22 rfl
      obtain ⟨v28, e29⟩ : ∃ v, M20 6 4 = v := ⟨_, rfl⟩
      have h30 := bf_6_4 hP21; rw [e29] at h30
      refine wk_popi r173_33 (wk_c1 r173_34 ?_)
      subst hQ; exact wk_iret r173_35 (⟨rfl, _, rfl, hP21, hF23, by omega, by omega, by have := e29; omega⟩)
    · intro h31
      refine wk_c1 r173_25 (wk_goto r173_26 (wk_cv2 r173_30 kc_6_159 rfl (m159_6v2 _ M0 3 hP0 (by decide) (by decide)) (cqI ?_)))
      rintro v37 M32 ⟨hP33, hQ34, h38, h39, h36⟩
      have hF35 : Fr fm_m173_6 M0 M32 := hF0.tr hQ34 rfl
      obtain ⟨v40, e41⟩ : ∃ v, M32 6 4 = v := ⟨_, rfl⟩
      have h42 := bf_6_4 hP33; rw [e41] at h42
      refine wk_popi r173_33 (wk_c1 r173_34 ?_)
      subst hQ; exact wk_iret r173_35 (⟨rfl, _, rfl, hP33, hF35, by omega, by omega, by have := e41; omega⟩)
def fm_m238_9v2 : Nat := 0
/-- IslandHall$Tokens.isSign -/
theorem m238_9v2 {B : eB} (d : Nat) (M0 : Mm) (p1 : Int) (hP0 : Pw M0) (l1 : 40 ≤ p1) (u1 : p1 ≤ 60) : Ct B (d + 1) 238 [R 9, I p1] M0 (qI fun z M => Pw M ∧ Fr fm_m238_9v2 M0 M ∧ 0 ≤ z ∧ z ≤ 1) := by
  refine ct_of (d := d + 0) (k := 0) (L := [some (R 9), some (I p1)]) rfl rfl rfl ?_
  have hF0 := Fr.rf fm_m238_9v2 M0
  generalize hQ : (qI fun z M => Pw M ∧ Fr fm_m238_9v2 M0 M ∧ 0 ≤ z ∧ z ≤ 1) = Q
  refine wk_al0 r238_0 (wk_getfb r238_1 fd_9_4 (bf_9_4 hP0) ?_)
  intro v1 h3 h4 e2
  refine wk_c1 r238_4 ?_
  refine wk_icne r238_5 ⟨by omega, by omega⟩ (by decide) ?_ ?_
  · intro h5
    refine wk_c1 r238_36 ?_
    subst hQ; exact wk_zret r238_37 (by decide) (⟨rfl, _, rfl, hP0, hF0, by omega, by omega⟩)
  · intro h6
    refine wk_al0 r238_8 (wk_getfb r238_9 fd_9_3 (bf_9_3 hP0) ?_)
    intro v7 h9 h10 e8
    refine wk_al0 r238_12 (wk_getfb r238_13 fd_9_1 (bf_9_1 hP0) ?_)
    intro v11 h13 h14 e12
    refine wk_icge r238_16 ⟨by omega, by omega⟩ ⟨by omega, by omega⟩ ?_ ?_
    · intro h15
      refine wk_c1 r238_36 ?_
      subst hQ; exact wk_zret r238_37 (by decide) (⟨rfl, _, rfl, hP0, hF0, by omega, by omega⟩)
    · intro h16
      refine wk_al0 r238_19 (wk_getfr r238_20 fd_9_0 (br_9_0 hP0) (wk_al0 r238_23 (wk_getfi r238_24 fd_9_3 e8 (wk_baldb r238_27 ar_1 ⟨by omega, by omega⟩ (fun q0 q1 => ba_1 hP0 q0 q1) ?_))))
      intro v17 h19 h20 e18
      refine wk_il1 r238_28 ?_
      refine wk_icne r238_29 ⟨by omega, by omega⟩ ⟨by omega, by omega⟩ ?_ ?_
      · intro h21
        refine wk_c1 r238_36 ?_
        subst hQ; exact wk_zret r238_37 (by decide) (⟨rfl, _, rfl, hP0, hF0, by omega, by omega⟩)
      · intro h22
        refine wk_c1 r238_32 (wk_goto r238_33 ?_)
        subst hQ; exact wk_zret r238_37 (by decide) (⟨rfl, _, rfl, hP0, hF0, by omega, by omega⟩)
def fm_m238_9v3 : Nat := 0
/-- IslandHall$Tokens.isSign -/
theorem m238_9v3 {B : eB} (d : Nat) (M0 : Mm) (p1 : Int) (hP0 : Pw M0) (l1 : 40 ≤ p1) (u1 : p1 ≤ 62) : Ct B (d + 1) 238 [R 9, I p1] M0 (qI fun z M => Pw M ∧ Fr fm_m238_9v3 M0 M ∧ 0 ≤ z ∧ z ≤ 1) := by
  refine ct_of (d := d + 0) (k := 0) (L := [some (R 9), some (I p1)]) rfl rfl rfl ?_
  have hF0 := Fr.rf fm_m238_9v3 M0
  generalize hQ : (qI fun z M => Pw M ∧ Fr fm_m238_9v3 M0 M ∧ 0 ≤ z ∧ z ≤ 1) = Q
  refine wk_al0 r238_0 (wk_getfb r238_1 fd_9_4 (bf_9_4 hP0) ?_)
  intro v1 h3 h4 e2
  refine wk_c1 r238_4 ?_
  refine wk_icne r238_5 ⟨by omega, by omega⟩ (by decide) ?_ ?_
  · intro h5
    refine wk_c1 r238_36 ?_
    subst hQ; exact wk_zret r238_37 (by decide) (⟨rfl, _, rfl, hP0, hF0, by omega, by omega⟩)
  · intro h6
    refine wk_al0 r238_8 (wk_getfb r238_9 fd_9_3 (bf_9_3 hP0) ?_)
    intro v7 h9 h10 e8
    refine wk_al0 r238_12 (wk_getfb r238_13 fd_9_1 (bf_9_1 hP0) ?_)
    intro v11 h13 h14 e12
    refine wk_icge r238_16 ⟨by omega, by omega⟩ ⟨by omega, by omega⟩ ?_ ?_
    · intro h15
      refine wk_c1 r238_36 ?_
      subst hQ; exact wk_zret r238_37 (by decide) (⟨rfl, _, rfl, hP0, hF0, by omega, by omega⟩)
    · intro h16
      refine wk_al0 r238_19 (wk_getfr r238_20 fd_9_0 (br_9_0 hP0) (wk_al0 r238_23 (wk_getfi r238_24 fd_9_3 e8 (wk_baldb r238_27 ar_1 ⟨by omega, by omega⟩ (fun q0 q1 => ba_1 hP0 q0 q1) ?_))))
      intro v17 h19 h20 e18
      refine wk_il1 r238_28 ?_
      refine wk_icne r238_29 ⟨by omega, by omega⟩ ⟨by omega, by omega⟩ ?_ ?_
      · intro h21
        refine wk_c1 r238_36 ?_
        subst hQ; exact wk_zret r238_37 (by decide) (⟨rfl, _, rfl, hP0, hF0, by omega, by omega⟩)
      · intro h22
        refine wk_c1 r238_32 (wk_goto r238_33 ?_)
        subst hQ; exact wk_zret r238_37 (by decide) (⟨rfl, _, rfl, hP0, hF0, by omega, by omega⟩)
def fm_m167_6v3 : Nat := 3941061990809600
/-- IslandHall$Parser.number -/
theorem m167_6v3 {B : eB} (d : Nat) (M0 : Mm) (p1 : Int) (p2 : Int) (hP0 : Pw M0) (l1 : 0 ≤ p1) (u1 : p1 ≤ 0) (l2 : 99 ≤ p2) (u2 : p2 ≤ 99) : Ct B (d + 3) 167 [R 6, I p1, I p2] M0 (qI fun z M => Pw M ∧ Fr fm_m167_6v3 M0 M ∧ (-1) ≤ z ∧ z ≤ 99 ∧ 0 ≤ z + M 6 4) := by
  refine ct_of (d := d + 2) (k := 1) (L := [some (R 6), some (I p1), some (I p2), none]) rfl rfl rfl ?_
  have hF0 := Fr.rf fm_m167_6v3 M0
  generalize hQ : (qI fun z M => Pw M ∧ Fr fm_m167_6v3 M0 M ∧ (-1) ≤ z ∧ z ≤ 99 ∧ 0 ≤ z + M 6 4) = Q
  refine wk_al0 r167_0 (wk_getfr r167_1 fd_6_0 (br_6_0 hP0) (wk_getfb r167_4 fd_9_4 (bf_9_4 hP0) ?_))
  intro v1 h3 h4 e2
  refine wk_c1 r167_7 ?_
  refine wk_iceq r167_8 ⟨by omega, by omega⟩ (by decide) ?_ ?_
  · intro h5
    refine wk_al0 r167_19 (wk_getfr r167_20 fd_6_0 (br_6_0 hP0) (wk_cv1 r167_23 kc_9_244 rfl (m244_9 _ M0 hP0) (cqI ?_)))
    rintro v10 M6 ⟨hP7, hQ8, h11, h12⟩
    obtain rfl := Fr.same hQ8
    refine wk_is3 r167_26 rfl (wk_il3 r167_27 (wk_il1 r167_28 ?_))
    refine wk_iclt r167_29 ⟨by omega, by omega⟩ ⟨by omega, by omega⟩ ?_ ?_
    · intro h13
      refine wk_al0 r167_37 (wk_c1 r167_38 (wk_cv2 r167_39 kc_6_159 rfl (m159_6 _ M0 2 hP0 (by decide) (by decide)) (cqI ?_)))
      rintro v19 M14 ⟨hP15, hQ16, h20, h21, h18⟩
      have hF17 : Fr fm_m167_6v3 M0 M14 := hF0.tr hQ16 rfl
      obtain ⟨v22, e23⟩ : ∃ v, M14 6 4 = v := ⟨_, rfl⟩
      have h24 := bf_6_4 hP15; rw [e23] at h24
      refine wk_popi r167_42 (wk_c1 r167_43 ?_)
      subst hQ; exact wk_iret r167_44 (⟨rfl, _, rfl, hP15, hF17, by omega, by omega, by have := e23; omega⟩)
    · intro h25
      refine wk_il3 r167_32 (wk_il2 r167_33 ?_)
      refine wk_icle r167_34 ⟨by omega, by omega⟩ ⟨by omega, by omega⟩ ?_ ?_
      · intro h26
        refine wk_al0 r167_45 (wk_getfr r167_46 fd_6_0 (br_6_0 hP0) (wk_cv1 r167_49 kc_9_241 rfl (m241_9 _ M0 hP0) (cqV ?_)))
        rintro M27 ⟨hP28, hQ29⟩
        have hF30 : Fr fm_m167_6v3 M0 M27 := hF0.tr hQ29 rfl
        refine wk_il3 r167_52 ?_
        subst hQ; exact wk_iret r167_53 (⟨rfl, _, rfl, hP28, hF30, by omega, by omega, by have := (bf_6_4 hP28); omega⟩)
      · intro h31
        refine wk_al0 r167_37 (wk_c1 r167_38 (wk_cv2 r167_39 kc_6_159 rfl (m159_6 _ M0 2 hP0 (by decide) (by decide)) (cqI ?_)))
        rintro v37 M32 ⟨hP33, hQ34, h38, h39, h36⟩
        have hF35 : Fr fm_m167_6v3 M0 M32 := hF0.tr hQ34 rfl
        obtain ⟨v40, e41⟩ : ∃ v, M32 6 4 = v := ⟨_, rfl⟩
        have h42 := bf_6_4 hP33; rw [e41] at h42
        refine wk_popi r167_42 (wk_c1 r167_43 ?_)
        subst hQ; exact wk_iret r167_44 (⟨rfl, _, rfl, hP33, hF35, by omega, by omega, by have := e41; omega⟩)
  · intro h43
    refine wk_al0 r167_11 (wk_c1 r167_12 (wk_cv2 r167_13 kc_6_159 rfl (m159_6v1 _ M0 1 hP0 (by decide) (by decide)) (cqI ?_)))
    rintro v49 M44 ⟨hP45, hQ46, h50, h51, h48⟩
    have hF47 : Fr fm_m167_6v3 M0 M44 := hF0.tr hQ46 rfl
    obtain ⟨v52, e53⟩ : ∃ v, M44 6 4 = v := ⟨_, rfl⟩
    have h54 := bf_6_4 hP45; rw [e53] at h54
    refine wk_popi r167_16 (wk_c1 r167_17 ?_)
    subst hQ; exact wk_iret r167_18 (⟨rfl, _, rfl, hP45, hF47, by omega, by omega, by have := e53; omega⟩)
def fm_m172_6 : Nat := 4831838208
/-- IslandHall$Parser.step -/
theorem m172_6 {B : eB} (d : Nat) (M0 : Mm) (p1 : Int) (p2 : Int) (hP0 : Pw M0) (l1 : 0 ≤ p1) (u1 : p1 ≤ 6) (l2 : 0 ≤ p2) (u2 : p2 ≤ 1279) (xp0 : stepok (p1 + 8 * p2)) : Ct B (d + 2) 172 [R 6, I p1, I p2] M0 (qI fun z M => Pw M ∧ Fr fm_m172_6 M0 M ∧ 1 ≤ z ∧ z ≤ 1) := by
  refine ct_of (d := d + 1) (k := 0) (L := [some (R 6), some (I p1), some (I p2)]) rfl rfl rfl ?_
  have hF0 := Fr.rf fm_m172_6 M0
  generalize hQ : (qI fun z M => Pw M ∧ Fr fm_m172_6 M0 M ∧ 1 ≤ z ∧ z ≤ 1) = Q
  refine wk_al0 r172_0 ?_
  obtain ⟨v1, e2⟩ : ∃ v, M0 6 2 = v := ⟨_, rfl⟩
  have hC3 : isC v1 := by have := pcE hP0; rw [e2] at this; exact this
  refine wk_getfr r172_1 fd_6_2 e2 (wk_il1 r172_4 (wk_il2 r172_5 (wk_cv3 r172_6 (kcC_138 hC3) rfl (m138 _ M0 v1 p1 p2 hP0 hC3 (by omega) (by omega) (by omega) (by omega) (by first | assumption | omega | (unfold stepok; omega))) (cqV ?_))))
  rintro M4 ⟨hP5, hQ6⟩
  have hF7 : Fr fm_m172_6 M0 M4 := hF0.tr hQ6 rfl
  refine wk_c1 r172_9 ?_
  subst hQ; exact wk_zret r172_10 (by decide) (⟨rfl, _, rfl, hP5, hF7, by omega, by omega⟩)
def fm_m163_6 : Nat := 3941066822647808
/-- IslandHall$Parser.manyAtom -/
theorem m163_6 {B : eB} (d : Nat) (M0 : Mm) (p1 : Int) (x6_4 : Int) (hP0 : Pw M0) (l1 : (-1) ≤ p1) (u1 : p1 ≤ 4) (ex6_4 : M0 6 4 = x6_4) (lx6_4 : 0 ≤ x6_4) (ux6_4 : x6_4 ≤ 6) (rp0 : 0 ≤ p1 + x6_4) : Ct B (d + 4) 163 [R 6, I p1] M0 (qI fun z M => Pw M ∧ Fr fm_m163_6 M0 M ∧ 0 ≤ z ∧ z ≤ 1 ∧ 0 ≤ z + M 6 4 + (-1)) := by
  refine ct_of (d := d + 3) (k := 4) (L := [some (R 6), some (I p1), none, none, none, none]) rfl rfl rfl ?_
  have hF0 := Fr.rf fm_m163_6 M0
  generalize hQ : (qI fun z M => Pw M ∧ Fr fm_m163_6 M0 M ∧ 0 ≤ z ∧ z ≤ 1 ∧ 0 ≤ z + M 6 4 + (-1)) = Q
  refine wk_il1 r163_0 (wk_c1 r163_1 ?_)
  refine wk_icne r163_2 ⟨by omega, by omega⟩ (by decide) ?_ ?_
  · intro h1
    refine wk_al0 r163_7 (wk_getfr r163_8 fd_6_0 (br_6_0 hP0) (wk_c2 r163_11 (wk_cv2 r163_13 kc_9_238 rfl (m238_9v2 _ M0 60 hP0 (by decide) (by decide)) (cqI ?_))))
    rintro v6 M2 ⟨hP3, hQ4, h7, h8⟩
    obtain rfl := Fr.same hQ4
    have c40_107 : ∀ (v20 : Int), (-1) ≤ v20 → v20 ≤ 1 → Wp B (d + 3) 163 40 [some (R 6), some (I p1), none, none, none, none] [I v20] M0 Q := by
      intro v20 h21 h22
      refine wk_is2 r163_40 rfl (wk_il2 r163_41 ?_)
      have c63_106 : Wp B (d + 3) 163 63 [some (R 6), some (I p1), some (I v20), none, none, none] [] M0 Q := by
        refine wk_al0 r163_63 (wk_getfr r163_64 fd_6_0 (br_6_0 hP0) (wk_cv1 r163_67 kc_9_241 rfl (m241_9 _ M0 hP0) (cqV ?_)))
        rintro M45 ⟨hP46, hQ47⟩
        have hF48 : Fr fm_m163_6 M0 M45 := hF0.tr hQ47 rfl
        refine wk_al0 r163_70 (wk_c1 r163_71 (wk_c2 r163_72 (wk_cv3 r163_74 kc_6_167 rfl (m167_6v3 _ M45 0 99 hP46 (by decide) (by decide) (by decide) (by decide)) (cqI ?_))))
        rintro v54 M49 ⟨hP50, hQ51, h55, h56, h53⟩
        have hF52 : Fr fm_m163_6 M0 M49 := hF48.tr hQ51 rfl
        obtain ⟨v57, e58⟩ : ∃ v, M49 6 4 = v := ⟨_, rfl⟩
        have h59 := bf_6_4 hP50; rw [e58] at h59
        refine wk_is3 r163_77 rfl (wk_il3 r163_78 (wk_c1 r163_79 ?_))
        refine wk_icne r163_80 ⟨by omega, by omega⟩ (by decide) ?_ ?_
        · intro h60
          refine wk_il3 r163_85 (wk_c2 r163_86 (wk_min r163_88 ⟨by omega, by omega⟩ (by decide) rfl ?_))
          intro v61 h62 h63 h64
          refine wk_is4 r163_91 rfl (wk_il2 r163_93 ?_)
          refine wk_ifge r163_94 ⟨by omega, by omega⟩ ?_ ?_
          · intro h65
            refine wk_il2 r163_106 ?_
            refine wk_ifle r163_107 ⟨by omega, by omega⟩ ?_ ?_
            · intro h66
              refine wk_c1 r163_119 (wk_il4 r163_120 (wk_shl1 8 256 r163_122 ⟨by omega, by omega⟩ ⟨pwl_8, by decide⟩ ?_))
              intro v67 h68 h69 h70
              refine wk_is5 r163_123 rfl (wk_al0 r163_125 (wk_c2 r163_126 (wk_il1 r163_128 (wk_c2 r163_129 (wk_ishlc r163_131 (by decide) pwl_8 (wk_il5 r163_132 (wk_c3 r163_134 (wk_iandc 8 256 r163_137 ⟨rfl, by decide⟩ rfl (wk_iord2 8 256 r163_138 (by decide) ⟨by omega, by omega⟩ ⟨by omega, by omega, by omega⟩ (wk_cv3 r163_139 kc_6_172 rfl (m172_6 _ M49 6 ((p1 * 256) + (v67 % 256)) hP50 (by decide) (by decide) (by omega) (by omega) (by first | assumption | omega | (unfold stepok; omega))) (cqI ?_)))))))))))
              rintro v76 M72 ⟨hP73, hQ74, h77, h78⟩
              have hF75 : Fr fm_m163_6 M0 M72 := hF52.tr hQ74 rfl
              subst hQ; exact wk_zret r163_142 ⟨by omega, by omega⟩ (⟨rfl, _, rfl, hP73, hF75, by omega, by omega, by have := ((hQ74.at g_6_4 rfl).trans e58); omega⟩)
            · intro h79
              refine wk_c1 r163_110 (wk_il4 r163_111 (wk_c1 r163_113 (wk_iadd r163_114 (wk_ishl r163_115 ⟨by omega, by omega⟩ (wk_wrap ?_)))))
              intro v80 h81 h82 h83
              refine wk_goto r163_116 (wk_is5 r163_123 rfl (wk_al0 r163_125 (wk_c2 r163_126 (wk_il1 r163_128 (wk_c2 r163_129 (wk_ishlc r163_131 (by decide) pwl_8 (wk_il5 r163_132 (wk_c3 r163_134 (wk_iandc 8 256 r163_137 ⟨rfl, by decide⟩ rfl (wk_iord2 8 256 r163_138 (by decide) ⟨by omega, by omega⟩ ⟨by omega, by omega, by omega⟩ (wk_cv3 r163_139 kc_6_172 rfl (m172_6 _ M49 6 ((p1 * 256) + (v80 % 256)) hP50 (by decide) (by decide) (by omega) (by omega) (by first | assumption | omega | (unfold stepok; omega))) (cqI ?_))))))))))))
              rintro v89 M85 ⟨hP86, hQ87, h90, h91⟩
              have hF88 : Fr fm_m163_6 M0 M85 := hF52.tr hQ87 rfl
              subst hQ; exact wk_zret r163_142 ⟨by omega, by omega⟩ (⟨rfl, _, rfl, hP86, hF88, by omega, by omega, by have := ((hQ87.at g_6_4 rfl).trans e58); omega⟩)
          · intro h92
            refine wk_c1 r163_97 (wk_il4 r163_98 (wk_shl1 8 256 r163_100 ⟨by omega, by omega⟩ ⟨pwl_8, by decide⟩ ?_))
            intro v93 h94 h95 h96
            refine wk_c1 r163_101 (wk_isub r163_102 (wk_goto r163_103 (wk_is5 r163_123 rfl (wk_al0 r163_125 (wk_c2 r163_126 (wk_il1 r163_128 (wk_c2 r163_129 (wk_ishlc r163_131 (by decide) pwl_8 (wk_il5 r163_132 (wk_c3 r163_134 (wk_iandc 8 256 r163_137 ⟨rfl, by decide⟩ rfl (wk_iord2 8 256 r163_138 (by decide) ⟨by omega, by omega⟩ ⟨by omega, by omega, by omega⟩ (wk_cv3 r163_139 kc_6_172 rfl (m172_6 _ M49 6 ((p1 * 256) + ((v93 - 1) % 256)) hP50 (by decide) (by decide) (by omega) (by omega) (by first | assumption | omega | (unfold stepok; omega))) (cqI ?_))))))))))))))
            rintro v102 M98 ⟨hP99, hQ100, h103, h104⟩
            have hF101 : Fr fm_m163_6 M0 M98 := hF52.tr hQ100 rfl
            subst hQ; exact wk_zret r163_142 ⟨by omega, by omega⟩ (⟨rfl, _, rfl, hP99, hF101, by omega, by omega, by have := ((hQ100.at g_6_4 rfl).trans e58); omega⟩)
        · intro h105
          refine wk_c1 r163_83 ?_
          subst hQ; exact wk_zret r163_84 (by decide) (⟨rfl, _, rfl, hP50, hF52, by omega, by omega, by have := e58; omega⟩)
      refine wk_ifne r163_42 ⟨by omega, by omega⟩ ?_ ?_
      · intro h23
        exact wp_fg (le_s (le_s (le_s (le_s (le_s (le_s le_0)))))) c63_106
      · intro h24
        refine wk_al0 r163_45 (wk_getfr r163_46 fd_6_0 (br_6_0 hP0) (wk_c2 r163_49 (wk_cv2 r163_51 kc_9_238 rfl (m238_9v3 _ M0 61 hP0 (by decide) (by decide)) (cqI ?_))))
        rintro v29 M25 ⟨hP26, hQ27, h30, h31⟩
        obtain rfl := Fr.same hQ27
        refine wk_ifne r163_54 ⟨by omega, by omega⟩ ?_ ?_
        · intro h32
          exact wp_fg (le_s (le_s (le_s (le_s (le_s (le_s le_0)))))) c63_106
        · intro h33
          refine wk_al0 r163_57 (wk_c1 r163_58 (wk_cv2 r163_59 kc_6_159 rfl (m159_6v1 _ M0 1 hP0 (by decide) (by decide)) (cqI ?_)))
          rintro v39 M34 ⟨hP35, hQ36, h40, h41, h38⟩
          have hF37 : Fr fm_m163_6 M0 M34 := hF0.tr hQ36 rfl
          obtain ⟨v42, e43⟩ : ∃ v, M34 6 4 = v := ⟨_, rfl⟩
          have h44 := bf_6_4 hP35; rw [e43] at h44
          subst hQ; exact wk_zret r163_62 ⟨by omega, by omega⟩ (⟨rfl, _, rfl, hP35, hF37, by omega, by omega, by have := e43; omega⟩)
    refine wk_ifeq r163_16 ⟨by omega, by omega⟩ ?_ ?_
    · intro h9
      refine wk_al0 r163_23 (wk_getfr r163_24 fd_6_0 (br_6_0 hP0) (wk_c2 r163_27 (wk_cv2 r163_29 kc_9_238 rfl (m238_9v3 _ M0 62 hP0 (by decide) (by decide)) (cqI ?_))))
      rintro v14 M10 ⟨hP11, hQ12, h15, h16⟩
      obtain rfl := Fr.same hQ12
      refine wk_ifeq r163_32 ⟨by omega, by omega⟩ ?_ ?_
      · intro h17
        refine wk_c1 r163_39 ?_
        exact wp_fg (le_s (le_s (le_s (le_s (le_s (le_s le_0)))))) (c40_107 0 (by omega) (by omega))
      · intro h18
        refine wk_c1 r163_35 (wk_goto r163_36 ?_)
        exact wp_fg (le_s (le_s (le_s (le_s (le_s (le_s le_0)))))) (c40_107 1 (by omega) (by omega))
    · intro h19
      refine wk_c1 r163_19 (wk_goto r163_20 ?_)
      exact wp_fg (le_s (le_s (le_s (le_s (le_s (le_s le_0)))))) (c40_107 (-1) (by omega) (by omega))
  · intro h108
    refine wk_c1 r163_5 ?_
    subst hQ; exact wk_zret r163_6 (by decide) (⟨rfl, _, rfl, hP0, hF0, by omega, by omega, by have := ex6_4; omega⟩)
def fm_m140 : Nat := 6979321856
/-- IslandHall$Code.addTold -/
theorem m140 {B : eB} (d : Nat) (M0 : Mm) (c0 : Int) (p1 : Int) (hP0 : Pw M0) (hC0 : isC c0) (l1 : 0 ≤ p1) (u1 : p1 ≤ 99) : Ct B (d + 2) 140 [R c0, I p1] M0 (qV fun M => Pw M ∧ Fr fm_m140 M0 M) := by
  refine ct_of (d := d + 1) (k := 1) (L := [some (R c0), some (I p1), none]) rfl rfl rfl ?_
  have hF0 := Fr.rf fm_m140 M0
  generalize hQ : (qV fun M => Pw M ∧ Fr fm_m140 M0 M) = Q
  refine wk_il1 r140_0 (wk_c2 r140_1 ?_)
  refine wk_icge r140_3 ⟨by omega, by omega⟩ (by decide) ?_ ?_
  · intro h1
    refine wk_c1 r140_10 (wk_is2 r140_11 rfl (wk_al0 r140_12 (wk_c1 r140_13 (wk_il2 r140_14 ?_))))
    refine wk_ifeq r140_15 (by decide) ?_ ?_
    · intro h2
      refine wk_c2 r140_25 (wk_cv3 r140_27 (kcC_138 hC0) rfl (m138 _ M0 c0 0 117 hP0 hC0 (by decide) (by decide) (by decide) (by decide) (by first | assumption | omega | (unfold stepok; omega))) (cqV ?_))
      rintro M3 ⟨hP4, hQ5⟩
      have hF6 : Fr fm_m140 M0 M3 := hF0.tr hQ5 rfl
      refine wk_il2 r140_30 ?_
      refine wk_ifeq r140_31 (by decide) ?_ ?_
      · intro h7
        subst hQ; exact wk_ret r140_46 (⟨rfl, hP4, hF6⟩)
      · intro h8
        exfalso
        omega
    · intro h9
      exfalso
      omega
  · intro h10
    refine wk_c1 r140_6 (wk_goto r140_7 (wk_is2 r140_11 rfl (wk_al0 r140_12 (wk_c1 r140_13 (wk_il2 r140_14 ?_)))))
    refine wk_ifeq r140_15 (by decide) ?_ ?_
    · intro h11
      exfalso
      omega
    · intro h12
      refine wk_c2 r140_18 (wk_il1 r140_20 (wk_iadd r140_21 (wk_goto r140_22 (wk_cv3 r140_27 (kcC_138 hC0) rfl (m138 _ M0 c0 0 (102 + p1) hP0 hC0 (by decide) (by decide) (by omega) (by omega) (by first | assumption | omega | (unfold stepok; omega))) (cqV ?_)))))
      rintro M13 ⟨hP14, hQ15⟩
      have hF16 : Fr fm_m140 M0 M13 := hF0.tr hQ15 rfl
      refine wk_il2 r140_30 ?_
      refine wk_ifeq r140_31 (by decide) ?_ ?_
      · intro h17
        exfalso
        omega
      · intro h18
        refine wk_al0 r140_34 (wk_dupr r140_35 (wk_getfb r140_36 (fdC_3 hC0) (bC_3 hP14 hC0) ?_))
        intro v19 h21 h22 e20
        refine wk_c1 r140_39 (wk_il1 r140_40 (wk_shl1 14 16384 r140_41 ⟨by omega, by omega⟩ ⟨pwl_14, by decide⟩ ?_))
        intro v23 h24 h25 h26
        refine wk_ior 15 32768 r140_42 (by decide) ⟨by omega, by omega⟩ ⟨by omega, by omega⟩ ?_
        intro v27 h28 h29 h30 h31 h32
        refine wk_putfi81 r140_43 (fdC_3 hC0) (wk_nw (g_c3 hC0) rfl hP14 hF16 (uC_3 hC0 ⟨by omega, by omega⟩) ?_)
        intro M33 hP34 hF35 e36
        subst hQ; exact wk_ret r140_46 (⟨rfl, hP34, hF35⟩)
def fm_m176_6 : Nat := 3941068970131456
/-- IslandHall$Parser.toldAtom -/
theorem m176_6 {B : eB} (d : Nat) (M0 : Mm) (hP0 : Pw M0)  : Ct B (d + 4) 176 [R 6] M0 (qI fun z M => Pw M ∧ Fr fm_m176_6 M0 M ∧ 0 ≤ z ∧ z ≤ 1 ∧ 0 ≤ z + M 6 4 + (-1)) := by
  refine ct_of (d := d + 3) (k := 1) (L := [some (R 6), none]) rfl rfl rfl ?_
  have hF0 := Fr.rf fm_m176_6 M0
  generalize hQ : (qI fun z M => Pw M ∧ Fr fm_m176_6 M0 M ∧ 0 ≤ z ∧ z ≤ 1 ∧ 0 ≤ z + M 6 4 + (-1)) = Q
  refine wk_al0 r176_0 (wk_c1 r176_1 (wk_c2 r176_2 (wk_cv3 r176_4 kc_6_167 rfl (m167_6v3 _ M0 0 99 hP0 (by decide) (by decide) (by decide) (by decide)) (cqI ?_))))
  rintro v6 M1 ⟨hP2, hQ3, h7, h8, h5⟩
  have hF4 : Fr fm_m176_6 M0 M1 := hF0.tr hQ3 rfl
  obtain ⟨v9, e10⟩ : ∃ v, M1 6 4 = v := ⟨_, rfl⟩
  have h11 := bf_6_4 hP2; rw [e10] at h11
  refine wk_is1 r176_7 rfl (wk_il1 r176_8 (wk_c1 r176_9 ?_))
  refine wk_icne r176_10 ⟨by omega, by omega⟩ (by decide) ?_ ?_
  · intro h12
    refine wk_al0 r176_15 ?_
    obtain ⟨v13, e14⟩ : ∃ v, M1 6 2 = v := ⟨_, rfl⟩
    have hC15 : isC v13 := by have := pcE hP2; rw [e14] at this; exact this
    refine wk_getfr r176_16 fd_6_2 e14 (wk_il1 r176_19 (wk_cv2 r176_20 (kcC_140 hC15) rfl (m140 _ M1 v13 v6 hP2 hC15 (by omega) (by omega)) (cqV ?_)))
    rintro M16 ⟨hP17, hQ18⟩
    have hF19 : Fr fm_m176_6 M0 M16 := hF4.tr hQ18 rfl
    refine wk_c1 r176_23 ?_
    subst hQ; exact wk_zret r176_24 (by decide) (⟨rfl, _, rfl, hP17, hF19, by omega, by omega, by have := ((hQ18.at g_6_4 rfl).trans e10); omega⟩)
  · intro h20
    refine wk_c1 r176_13 ?_
    subst hQ; exact wk_zret r176_14 (by decide) (⟨rfl, _, rfl, hP2, hF4, by omega, by omega, by have := e10; omega⟩)
def fm_m167_6v4 : Nat := 3941061990809600
/-- IslandHall$Parser.number -/
theorem m167_6v4 {B : eB} (d : Nat) (M0 : Mm) (p1 : Int) (p2 : Int) (hP0 : Pw M0) (l1 : 0 ≤ p1) (u1 : p1 ≤ 0) (l2 : 1 ≤ p2) (u2 : p2 ≤ 1) : Ct B (d + 3) 167 [R 6, I p1, I p2] M0 (qI fun z M => Pw M ∧ Fr fm_m167_6v4 M0 M ∧ (-1) ≤ z ∧ z ≤ 1 ∧ 0 ≤ z + M 6 4) := by
  refine ct_of (d := d + 2) (k := 1) (L := [some (R 6), some (I p1), some (I p2), none]) rfl rfl rfl ?_
  have hF0 := Fr.rf fm_m167_6v4 M0
  generalize hQ : (qI fun z M => Pw M ∧ Fr fm_m167_6v4 M0 M ∧ (-1) ≤ z ∧ z ≤ 1 ∧ 0 ≤ z + M 6 4) = Q
  refine wk_al0 r167_0 (wk_getfr r167_1 fd_6_0 (br_6_0 hP0) (wk_getfb r167_4 fd_9_4 (bf_9_4 hP0) ?_))
  intro v1 h3 h4 e2
  refine wk_c1 r167_7 ?_
  refine wk_iceq r167_8 ⟨by omega, by omega⟩ (by decide) ?_ ?_
  · intro h5
    refine wk_al0 r167_19 (wk_getfr r167_20 fd_6_0 (br_6_0 hP0) (wk_cv1 r167_23 kc_9_244 rfl (m244_9 _ M0 hP0) (cqI ?_)))
    rintro v10 M6 ⟨hP7, hQ8, h11, h12⟩
    obtain rfl := Fr.same hQ8
    refine wk_is3 r167_26 rfl (wk_il3 r167_27 (wk_il1 r167_28 ?_))
    refine wk_iclt r167_29 ⟨by omega, by omega⟩ ⟨by omega, by omega⟩ ?_ ?_
    · intro h13
      refine wk_al0 r167_37 (wk_c1 r167_38 (wk_cv2 r167_39 kc_6_159 rfl (m159_6 _ M0 2 hP0 (by decide) (by decide)) (cqI ?_)))
      rintro v19 M14 ⟨hP15, hQ16, h20, h21, h18⟩
      have hF17 : Fr fm_m167_6v4 M0 M14 := hF0.tr hQ16 rfl
      obtain ⟨v22, e23⟩ : ∃ v, M14 6 4 = v := ⟨_, rfl⟩
      have h24 := bf_6_4 hP15; rw [e23] at h24
      refine wk_popi r167_42 (wk_c1 r167_43 ?_)
      subst hQ; exact wk_iret r167_44 (⟨rfl, _, rfl, hP15, hF17, by omega, by omega, by have := e23; omega⟩)
    · intro h25
      refine wk_il3 r167_32 (wk_il2 r167_33 ?_)
      refine wk_icle r167_34 ⟨by omega, by omega⟩ ⟨by omega, by omega⟩ ?_ ?_
      · intro h26
        refine wk_al0 r167_45 (wk_getfr r167_46 fd_6_0 (br_6_0 hP0) (wk_cv1 r167_49 kc_9_241 rfl (m241_9 _ M0 hP0) (cqV ?_)))
        rintro M27 ⟨hP28, hQ29⟩
        have hF30 : Fr fm_m167_6v4 M0 M27 := hF0.tr hQ29 rfl
        refine wk_il3 r167_52 ?_
        subst hQ; exact wk_iret r167_53 (⟨rfl, _, rfl, hP28, hF30, by omega, by omega, by have := (bf_6_4 hP28); omega⟩)
      · intro h31
        refine wk_al0 r167_37 (wk_c1 r167_38 (wk_cv2 r167_39 kc_6_159 rfl (m159_6 _ M0 2 hP0 (by decide) (by decide)) (cqI ?_)))
        rintro v37 M32 ⟨hP33, hQ34, h38, h39, h36⟩
        have hF35 : Fr fm_m167_6v4 M0 M32 := hF0.tr hQ34 rfl
        obtain ⟨v40, e41⟩ : ∃ v, M32 6 4 = v := ⟨_, rfl⟩
        have h42 := bf_6_4 hP33; rw [e41] at h42
        refine wk_popi r167_42 (wk_c1 r167_43 ?_)
        subst hQ; exact wk_iret r167_44 (⟨rfl, _, rfl, hP33, hF35, by omega, by omega, by have := e41; omega⟩)
  · intro h43
    refine wk_al0 r167_11 (wk_c1 r167_12 (wk_cv2 r167_13 kc_6_159 rfl (m159_6v1 _ M0 1 hP0 (by decide) (by decide)) (cqI ?_)))
    rintro v49 M44 ⟨hP45, hQ46, h50, h51, h48⟩
    have hF47 : Fr fm_m167_6v4 M0 M44 := hF0.tr hQ46 rfl
    obtain ⟨v52, e53⟩ : ∃ v, M44 6 4 = v := ⟨_, rfl⟩
    have h54 := bf_6_4 hP45; rw [e53] at h54
    refine wk_popi r167_16 (wk_c1 r167_17 ?_)
    subst hQ; exact wk_iret r167_18 (⟨rfl, _, rfl, hP45, hF47, by omega, by omega, by have := e53; omega⟩)
def fm_m171_6 : Nat := 4831838208
/-- IslandHall$Parser.row -/
theorem m171_6 {B : eB} (d : Nat) (M0 : Mm) (p1 : Int) (p2 : Int) (x6_4 : Int) (hP0 : Pw M0) (l1 : 46 ≤ p1) (u1 : p1 ≤ 46) (l2 : (-1) ≤ p2) (u2 : p2 ≤ 1) (ex6_4 : M0 6 4 = x6_4) (lx6_4 : 0 ≤ x6_4) (ux6_4 : x6_4 ≤ 6) (rp0 : 0 ≤ p2 + x6_4) : Ct B (d + 3) 171 [R 6, I p1, I p2] M0 (qI fun z M => Pw M ∧ Fr fm_m171_6 M0 M ∧ 0 ≤ z ∧ z ≤ 1 ∧ 0 ≤ z + M 6 4 + (-1)) := by
  refine ct_of (d := d + 2) (k := 0) (L := [some (R 6), some (I p1), some (I p2)]) rfl rfl rfl ?_
  have hF0 := Fr.rf fm_m171_6 M0
  generalize hQ : (qI fun z M => Pw M ∧ Fr fm_m171_6 M0 M ∧ 0 ≤ z ∧ z ≤ 1 ∧ 0 ≤ z + M 6 4 + (-1)) = Q
  refine wk_il2 r171_0 (wk_c1 r171_1 ?_)
  refine wk_iceq r171_2 ⟨by omega, by omega⟩ (by decide) ?_ ?_
  · intro h1
    refine wk_c1 r171_20 ?_
    subst hQ; exact wk_zret r171_21 (by decide) (⟨rfl, _, rfl, hP0, hF0, by omega, by omega, by have := ex6_4; omega⟩)
  · intro h2
    refine wk_al0 r171_5 (wk_c1 r171_6 (wk_il1 r171_7 (wk_il2 r171_8 (wk_iadd r171_9 (wk_cv3 r171_10 kc_6_172 rfl (m172_6 _ M0 0 (p1 + p2) hP0 (by decide) (by decide) (by omega) (by omega) (by first | assumption | omega | (unfold stepok; omega))) (cqI ?_))))))
    rintro v7 M3 ⟨hP4, hQ5, h8, h9⟩
    have hF6 : Fr fm_m171_6 M0 M3 := hF0.tr hQ5 rfl
    refine wk_ifeq r171_13 ⟨by omega, by omega⟩ ?_ ?_
    · intro h10
      exfalso
      omega
    · intro h11
      refine wk_c1 r171_16 (wk_goto r171_17 ?_)
      subst hQ; exact wk_zret r171_21 (by decide) (⟨rfl, _, rfl, hP4, hF6, by omega, by omega, by have := ((hQ5.at g_6_4 rfl).trans ex6_4); omega⟩)
def fm_m171_6v1 : Nat := 4831838208
/-- IslandHall$Parser.row -/
theorem m171_6v1 {B : eB} (d : Nat) (M0 : Mm) (p1 : Int) (p2 : Int) (x6_4 : Int) (hP0 : Pw M0) (l1 : 39 ≤ p1) (u1 : p1 ≤ 39) (l2 : (-1) ≤ p2) (u2 : p2 ≤ 6) (ex6_4 : M0 6 4 = x6_4) (lx6_4 : 0 ≤ x6_4) (ux6_4 : x6_4 ≤ 6) (rp0 : 0 ≤ p2 + x6_4) : Ct B (d + 3) 171 [R 6, I p1, I p2] M0 (qI fun z M => Pw M ∧ Fr fm_m171_6v1 M0 M ∧ 0 ≤ z ∧ z ≤ 1 ∧ 0 ≤ z + M 6 4 + (-1)) := by
  refine ct_of (d := d + 2) (k := 0) (L := [some (R 6), some (I p1), some (I p2)]) rfl rfl rfl ?_
  have hF0 := Fr.rf fm_m171_6v1 M0
  generalize hQ : (qI fun z M => Pw M ∧ Fr fm_m171_6v1 M0 M ∧ 0 ≤ z ∧ z ≤ 1 ∧ 0 ≤ z + M 6 4 + (-1)) = Q
  refine wk_il2 r171_0 (wk_c1 r171_1 ?_)
  refine wk_iceq r171_2 ⟨by omega, by omega⟩ (by decide) ?_ ?_
  · intro h1
    refine wk_c1 r171_20 ?_
    subst hQ; exact wk_zret r171_21 (by decide) (⟨rfl, _, rfl, hP0, hF0, by omega, by omega, by have := ex6_4; omega⟩)
  · intro h2
    refine wk_al0 r171_5 (wk_c1 r171_6 (wk_il1 r171_7 (wk_il2 r171_8 (wk_iadd r171_9 (wk_cv3 r171_10 kc_6_172 rfl (m172_6 _ M0 0 (p1 + p2) hP0 (by decide) (by decide) (by omega) (by omega) (by first | assumption | omega | (unfold stepok; omega))) (cqI ?_))))))
    rintro v7 M3 ⟨hP4, hQ5, h8, h9⟩
    have hF6 : Fr fm_m171_6v1 M0 M3 := hF0.tr hQ5 rfl
    refine wk_ifeq r171_13 ⟨by omega, by omega⟩ ?_ ?_
    · intro h10
      exfalso
      omega
    · intro h11
      refine wk_c1 r171_16 (wk_goto r171_17 ?_)
      subst hQ; exact wk_zret r171_21 (by decide) (⟨rfl, _, rfl, hP4, hF6, by omega, by omega, by have := ((hQ5.at g_6_4 rfl).trans ex6_4); omega⟩)
def fm_m167_6v5 : Nat := 3941061990809600
/-- IslandHall$Parser.number -/
theorem m167_6v5 {B : eB} (d : Nat) (M0 : Mm) (p1 : Int) (p2 : Int) (hP0 : Pw M0) (l1 : 0 ≤ p1) (u1 : p1 ≤ 0) (l2 : 3 ≤ p2) (u2 : p2 ≤ 3) : Ct B (d + 3) 167 [R 6, I p1, I p2] M0 (qI fun z M => Pw M ∧ Fr fm_m167_6v5 M0 M ∧ (-1) ≤ z ∧ z ≤ 3 ∧ 0 ≤ z + M 6 4) := by
  refine ct_of (d := d + 2) (k := 1) (L := [some (R 6), some (I p1), some (I p2), none]) rfl rfl rfl ?_
  have hF0 := Fr.rf fm_m167_6v5 M0
  generalize hQ : (qI fun z M => Pw M ∧ Fr fm_m167_6v5 M0 M ∧ (-1) ≤ z ∧ z ≤ 3 ∧ 0 ≤ z + M 6 4) = Q
  refine wk_al0 r167_0 (wk_getfr r167_1 fd_6_0 (br_6_0 hP0) (wk_getfb r167_4 fd_9_4 (bf_9_4 hP0) ?_))
  intro v1 h3 h4 e2
  refine wk_c1 r167_7 ?_
  refine wk_iceq r167_8 ⟨by omega, by omega⟩ (by decide) ?_ ?_
  · intro h5
    refine wk_al0 r167_19 (wk_getfr r167_20 fd_6_0 (br_6_0 hP0) (wk_cv1 r167_23 kc_9_244 rfl (m244_9 _ M0 hP0) (cqI ?_)))
    rintro v10 M6 ⟨hP7, hQ8, h11, h12⟩
    obtain rfl := Fr.same hQ8
    refine wk_is3 r167_26 rfl (wk_il3 r167_27 (wk_il1 r167_28 ?_))
    refine wk_iclt r167_29 ⟨by omega, by omega⟩ ⟨by omega, by omega⟩ ?_ ?_
    · intro h13
      refine wk_al0 r167_37 (wk_c1 r167_38 (wk_cv2 r167_39 kc_6_159 rfl (m159_6 _ M0 2 hP0 (by decide) (by decide)) (cqI ?_)))
      rintro v19 M14 ⟨hP15, hQ16, h20, h21, h18⟩
      have hF17 : Fr fm_m167_6v5 M0 M14 := hF0.tr hQ16 rfl
      obtain ⟨v22, e23⟩ : ∃ v, M14 6 4 = v := ⟨_, rfl⟩
      have h24 := bf_6_4 hP15; rw [e23] at h24
      refine wk_popi r167_42 (wk_c1 r167_43 ?_)
      subst hQ; exact wk_iret r167_44 (⟨rfl, _, rfl, hP15, hF17, by omega, by omega, by have := e23; omega⟩)
    · intro h25
      refine wk_il3 r167_32 (wk_il2 r167_33 ?_)
      refine wk_icle r167_34 ⟨by omega, by omega⟩ ⟨by omega, by omega⟩ ?_ ?_
      · intro h26
        refine wk_al0 r167_45 (wk_getfr r167_46 fd_6_0 (br_6_0 hP0) (wk_cv1 r167_49 kc_9_241 rfl (m241_9 _ M0 hP0) (cqV ?_)))
        rintro M27 ⟨hP28, hQ29⟩
        have hF30 : Fr fm_m167_6v5 M0 M27 := hF0.tr hQ29 rfl
        refine wk_il3 r167_52 ?_
        subst hQ; exact wk_iret r167_53 (⟨rfl, _, rfl, hP28, hF30, by omega, by omega, by have := (bf_6_4 hP28); omega⟩)
      · intro h31
        refine wk_al0 r167_37 (wk_c1 r167_38 (wk_cv2 r167_39 kc_6_159 rfl (m159_6 _ M0 2 hP0 (by decide) (by decide)) (cqI ?_)))
        rintro v37 M32 ⟨hP33, hQ34, h38, h39, h36⟩
        have hF35 : Fr fm_m167_6v5 M0 M32 := hF0.tr hQ34 rfl
        obtain ⟨v40, e41⟩ : ∃ v, M32 6 4 = v := ⟨_, rfl⟩
        have h42 := bf_6_4 hP33; rw [e41] at h42
        refine wk_popi r167_42 (wk_c1 r167_43 ?_)
        subst hQ; exact wk_iret r167_44 (⟨rfl, _, rfl, hP33, hF35, by omega, by omega, by have := e41; omega⟩)
  · intro h43
    refine wk_al0 r167_11 (wk_c1 r167_12 (wk_cv2 r167_13 kc_6_159 rfl (m159_6v1 _ M0 1 hP0 (by decide) (by decide)) (cqI ?_)))
    rintro v49 M44 ⟨hP45, hQ46, h50, h51, h48⟩
    have hF47 : Fr fm_m167_6v5 M0 M44 := hF0.tr hQ46 rfl
    obtain ⟨v52, e53⟩ : ∃ v, M44 6 4 = v := ⟨_, rfl⟩
    have h54 := bf_6_4 hP45; rw [e53] at h54
    refine wk_popi r167_16 (wk_c1 r167_17 ?_)
    subst hQ; exact wk_iret r167_18 (⟨rfl, _, rfl, hP45, hF47, by omega, by omega, by have := e53; omega⟩)
def fm_m171_6v2 : Nat := 4831838208
/-- IslandHall$Parser.row -/
theorem m171_6v2 {B : eB} (d : Nat) (M0 : Mm) (p1 : Int) (p2 : Int) (x6_4 : Int) (hP0 : Pw M0) (l1 : 35 ≤ p1) (u1 : p1 ≤ 35) (l2 : (-1) ≤ p2) (u2 : p2 ≤ 3) (ex6_4 : M0 6 4 = x6_4) (lx6_4 : 0 ≤ x6_4) (ux6_4 : x6_4 ≤ 6) (rp0 : 0 ≤ p2 + x6_4) : Ct B (d + 3) 171 [R 6, I p1, I p2] M0 (qI fun z M => Pw M ∧ Fr fm_m171_6v2 M0 M ∧ 0 ≤ z ∧ z ≤ 1 ∧ 0 ≤ z + M 6 4 + (-1)) := by
  refine ct_of (d := d + 2) (k := 0) (L := [some (R 6), some (I p1), some (I p2)]) rfl rfl rfl ?_
  have hF0 := Fr.rf fm_m171_6v2 M0
  generalize hQ : (qI fun z M => Pw M ∧ Fr fm_m171_6v2 M0 M ∧ 0 ≤ z ∧ z ≤ 1 ∧ 0 ≤ z + M 6 4 + (-1)) = Q
  refine wk_il2 r171_0 (wk_c1 r171_1 ?_)
  refine wk_iceq r171_2 ⟨by omega, by omega⟩ (by decide) ?_ ?_
  · intro h1
    refine wk_c1 r171_20 ?_
    subst hQ; exact wk_zret r171_21 (by decide) (⟨rfl, _, rfl, hP0, hF0, by omega, by omega, by have := ex6_4; omega⟩)
  · intro h2
    refine wk_al0 r171_5 (wk_c1 r171_6 (wk_il1 r171_7 (wk_il2 r171_8 (wk_iadd r171_9 (wk_cv3 r171_10 kc_6_172 rfl (m172_6 _ M0 0 (p1 + p2) hP0 (by decide) (by decide) (by omega) (by omega) (by first | assumption | omega | (unfold stepok; omega))) (cqI ?_))))))
    rintro v7 M3 ⟨hP4, hQ5, h8, h9⟩
    have hF6 : Fr fm_m171_6v2 M0 M3 := hF0.tr hQ5 rfl
    refine wk_ifeq r171_13 ⟨by omega, by omega⟩ ?_ ?_
    · intro h10
      exfalso
      omega
    · intro h11
      refine wk_c1 r171_16 (wk_goto r171_17 ?_)
      subst hQ; exact wk_zret r171_21 (by decide) (⟨rfl, _, rfl, hP4, hF6, by omega, by omega, by have := ((hQ5.at g_6_4 rfl).trans ex6_4); omega⟩)
def fm_m242_9 : Nat := 0
/-- IslandHall$Tokens.person -/
theorem m242_9 {B : eB} (d : Nat) (M0 : Mm) (x9_3 : Int) (hP0 : Pw M0) (ex9_3 : M0 9 3 = x9_3) (lx9_3 : 0 ≤ x9_3) (ux9_3 : x9_3 ≤ 499) : Ct B (d + 1) 242 [R 9] M0 (qI fun z M => Pw M ∧ Fr fm_m242_9 M0 M ∧ (-225) ≤ z ∧ z ≤ 30) := by
  refine ct_of (d := d + 0) (k := 0) (L := [some (R 9)]) rfl rfl rfl ?_
  have hF0 := Fr.rf fm_m242_9 M0
  generalize hQ : (qI fun z M => Pw M ∧ Fr fm_m242_9 M0 M ∧ (-225) ≤ z ∧ z ≤ 30) = Q
  refine wk_al0 r242_0 (wk_getfr r242_1 fd_9_0 (br_9_0 hP0) (wk_al0 r242_4 (wk_getfi r242_5 fd_9_3 ex9_3 (wk_baldb r242_8 ar_1 ⟨by omega, by omega⟩ (fun q0 q1 => ba_1 hP0 q0 q1) ?_))))
  intro v1 h3 h4 e2
  refine wk_c2 r242_9 (wk_isub r242_11 ?_)
  subst hQ; exact wk_iret r242_12 (⟨rfl, _, rfl, hP0, hF0, by omega, by omega⟩)
def fm_m165_6 : Nat := 3941061990809600
/-- IslandHall$Parser.name -/
theorem m165_6 {B : eB} (d : Nat) (M0 : Mm) (hP0 : Pw M0)  : Ct B (d + 3) 165 [R 6] M0 (qI fun z M => Pw M ∧ Fr fm_m165_6 M0 M ∧ (-1) ≤ z ∧ z ≤ 6 ∧ 0 ≤ z + M 6 4) := by
  refine ct_of (d := d + 2) (k := 1) (L := [some (R 6), none]) rfl rfl rfl ?_
  have hF0 := Fr.rf fm_m165_6 M0
  generalize hQ : (qI fun z M => Pw M ∧ Fr fm_m165_6 M0 M ∧ (-1) ≤ z ∧ z ≤ 6 ∧ 0 ≤ z + M 6 4) = Q
  refine wk_al0 r165_0 (wk_getfr r165_1 fd_6_0 (br_6_0 hP0) (wk_cv1 r165_4 kc_9_237 rfl (m237_9 _ M0 hP0) (cqI ?_)))
  rintro v7 M1 ⟨hP2, hQ3, h8, h9, h5, h6⟩
  obtain rfl := Fr.same hQ3
  obtain ⟨v10, e11⟩ : ∃ v, M0 9 2 = v := ⟨_, rfl⟩
  have h12 := bf_9_2 hP0; rw [e11] at h12
  obtain ⟨v13, e14⟩ : ∃ v, M0 9 3 = v := ⟨_, rfl⟩
  have h15 := bf_9_3 hP0; rw [e14] at h15
  refine wk_ifne r165_7 ⟨by omega, by omega⟩ ?_ ?_
  · intro h16
    refine wk_al0 r165_18 (wk_getfr r165_19 fd_6_0 (br_6_0 hP0) (wk_cv1 r165_22 kc_9_242 rfl (m242_9 _ M0 v13 hP0 e14 (by omega) (by omega)) (cqI ?_)))
    rintro v21 M17 ⟨hP18, hQ19, h22, h23⟩
    obtain rfl := Fr.same hQ19
    refine wk_is1 r165_25 rfl (wk_il1 r165_26 ?_)
    refine wk_iflt r165_27 ⟨by omega, by omega⟩ ?_ ?_
    · intro h24
      refine wk_al0 r165_38 (wk_c1 r165_39 (wk_cv2 r165_40 kc_6_159 rfl (m159_6v2 _ M0 4 hP0 (by decide) (by decide)) (cqI ?_)))
      rintro v30 M25 ⟨hP26, hQ27, h31, h32, h29⟩
      have hF28 : Fr fm_m165_6 M0 M25 := hF0.tr hQ27 rfl
      obtain ⟨v33, e34⟩ : ∃ v, M25 6 4 = v := ⟨_, rfl⟩
      have h35 := bf_6_4 hP26; rw [e34] at h35
      refine wk_popi r165_43 (wk_c1 r165_44 ?_)
      subst hQ; exact wk_iret r165_45 (⟨rfl, _, rfl, hP26, hF28, by omega, by omega, by have := e34; omega⟩)
    · intro h36
      refine wk_il1 r165_30 (wk_al0 r165_31 (wk_getfb r165_32 fd_6_3 (bf_6_3 hP0) ?_))
      intro v37 h39 h40 e38
      refine wk_iclt r165_35 ⟨by omega, by omega⟩ ⟨by omega, by omega⟩ ?_ ?_
      · intro h41
        refine wk_al0 r165_46 (wk_getfr r165_47 fd_6_0 (br_6_0 hP0) (wk_cv1 r165_50 kc_9_241 rfl (m241_9 _ M0 hP0) (cqV ?_)))
        rintro M42 ⟨hP43, hQ44⟩
        have hF45 : Fr fm_m165_6 M0 M42 := hF0.tr hQ44 rfl
        refine wk_il1 r165_53 ?_
        subst hQ; exact wk_iret r165_54 (⟨rfl, _, rfl, hP43, hF45, by omega, by omega, by have := (bf_6_4 hP43); omega⟩)
      · intro h46
        refine wk_al0 r165_38 (wk_c1 r165_39 (wk_cv2 r165_40 kc_6_159 rfl (m159_6v2 _ M0 4 hP0 (by decide) (by decide)) (cqI ?_)))
        rintro v52 M47 ⟨hP48, hQ49, h53, h54, h51⟩
        have hF50 : Fr fm_m165_6 M0 M47 := hF0.tr hQ49 rfl
        obtain ⟨v55, e56⟩ : ∃ v, M47 6 4 = v := ⟨_, rfl⟩
        have h57 := bf_6_4 hP48; rw [e56] at h57
        refine wk_popi r165_43 (wk_c1 r165_44 ?_)
        subst hQ; exact wk_iret r165_45 (⟨rfl, _, rfl, hP48, hF50, by omega, by omega, by have := e56; omega⟩)
  · intro h58
    refine wk_al0 r165_10 (wk_c1 r165_11 (wk_cv2 r165_12 kc_6_159 rfl (m159_6v1 _ M0 1 hP0 (by decide) (by decide)) (cqI ?_)))
    rintro v64 M59 ⟨hP60, hQ61, h65, h66, h63⟩
    have hF62 : Fr fm_m165_6 M0 M59 := hF0.tr hQ61 rfl
    obtain ⟨v67, e68⟩ : ∃ v, M59 6 4 = v := ⟨_, rfl⟩
    have h69 := bf_6_4 hP60; rw [e68] at h69
    refine wk_popi r165_15 (wk_c1 r165_16 ?_)
    subst hQ; exact wk_iret r165_17 (⟨rfl, _, rfl, hP60, hF62, by omega, by omega, by have := e68; omega⟩)
def fm_m174_6v1 : Nat := 3941061990809600
/-- IslandHall$Parser.takeSign -/
theorem m174_6v1 {B : eB} (d : Nat) (M0 : Mm) (p1 : Int) (hP0 : Pw M0) (l1 : 40 ≤ p1) (u1 : p1 ≤ 59) : Ct B (d + 3) 174 [R 6, I p1] M0 (qI fun z M => Pw M ∧ Fr fm_m174_6v1 M0 M ∧ 0 ≤ z ∧ z ≤ 1 ∧ 0 ≤ z + M 6 4 + (-1)) := by
  refine ct_of (d := d + 2) (k := 0) (L := [some (R 6), some (I p1)]) rfl rfl rfl ?_
  have hF0 := Fr.rf fm_m174_6v1 M0
  generalize hQ : (qI fun z M => Pw M ∧ Fr fm_m174_6v1 M0 M ∧ 0 ≤ z ∧ z ≤ 1 ∧ 0 ≤ z + M 6 4 + (-1)) = Q
  refine wk_al0 r174_0 (wk_getfr r174_1 fd_6_0 (br_6_0 hP0) (wk_il1 r174_4 (wk_cv2 r174_5 kc_9_238 rfl (m238_9v1 _ M0 p1 hP0 (by omega) (by omega)) (cqI ?_))))
  rintro v5 M1 ⟨hP2, hQ3, h6, h7⟩
  obtain rfl := Fr.same hQ3
  refine wk_ifne r174_8 ⟨by omega, by omega⟩ ?_ ?_
  · intro h8
    refine wk_al0 r174_17 (wk_getfr r174_18 fd_6_0 (br_6_0 hP0) (wk_cv1 r174_21 kc_9_241 rfl (m241_9 _ M0 hP0) (cqV ?_)))
    rintro M9 ⟨hP10, hQ11⟩
    have hF12 : Fr fm_m174_6v1 M0 M9 := hF0.tr hQ11 rfl
    refine wk_c1 r174_24 ?_
    subst hQ; exact wk_zret r174_25 (by decide) (⟨rfl, _, rfl, hP10, hF12, by omega, by omega, by have := (bf_6_4 hP10); omega⟩)
  · intro h13
    refine wk_al0 r174_11 (wk_c1 r174_12 (wk_cv2 r174_13 kc_6_159 rfl (m159_6v1 _ M0 1 hP0 (by decide) (by decide)) (cqI ?_)))
    rintro v19 M14 ⟨hP15, hQ16, h20, h21, h18⟩
    have hF17 : Fr fm_m174_6v1 M0 M14 := hF0.tr hQ16 rfl
    obtain ⟨v22, e23⟩ : ∃ v, M14 6 4 = v := ⟨_, rfl⟩
    have h24 := bf_6_4 hP15; rw [e23] at h24
    subst hQ; exact wk_zret r174_16 ⟨by omega, by omega⟩ (⟨rfl, _, rfl, hP15, hF17, by omega, by omega, by have := e23; omega⟩)
def fm_m158_6v6 : Nat := 412316860416
/-- IslandHall$Parser.expr -/
theorem m158_6v6 {B : eB} (d : Nat) (M0 : Mm) (p1 : Int) (hP0 : Pw M0) (l1 : 6 ≤ p1) (u1 : p1 ≤ 6) : Ct B (d + 4) 158 [R 6, I p1] M0 (qI fun z M => Pw M ∧ Fr fm_m158_6v6 M0 M ∧ 0 ≤ z ∧ z ≤ 0 ∧ 0 ≤ z + M 6 4 + (-1)) := by
  refine ct_of (d := d + 3) (k := 1) (L := [some (R 6), some (I p1), none]) rfl rfl rfl ?_
  have hF0 := Fr.rf fm_m158_6v6 M0
  generalize hQ : (qI fun z M => Pw M ∧ Fr fm_m158_6v6 M0 M ∧ 0 ≤ z ∧ z ≤ 0 ∧ 0 ≤ z + M 6 4 + (-1)) = Q
  refine wk_al0 r158_0 (wk_cv1 r158_1 kc_6_155 rfl (m155_6 _ M0 hP0) (cqI ?_))
  rintro v5 M1 ⟨hP2, hQ3, h6, h7⟩
  obtain rfl := Fr.same hQ3
  refine wk_ifne r158_4 ⟨by omega, by omega⟩ ?_ ?_
  · intro h8
    refine wk_il1 r158_13 (wk_c2 r158_14 ?_)
    refine wk_iclt r158_16 ⟨by omega, by omega⟩ (by decide) ?_ ?_
    · intro h9
      exfalso
      omega
    · intro h10
      refine wk_al0 r158_19 (wk_c1 r158_20 (wk_cv2 r158_21 kc_6_159 rfl (m159_6 _ M0 2 hP0 (by decide) (by decide)) (cqI ?_)))
      rintro v16 M11 ⟨hP12, hQ13, h17, h18, h15⟩
      have hF14 : Fr fm_m158_6v6 M0 M11 := hF0.tr hQ13 rfl
      obtain ⟨v19, e20⟩ : ∃ v, M11 6 4 = v := ⟨_, rfl⟩
      have h21 := bf_6_4 hP12; rw [e20] at h21
      subst hQ; exact wk_zret r158_24 ⟨by omega, by omega⟩ (⟨rfl, _, rfl, hP12, hF14, by omega, by omega, by have := e20; omega⟩)
  · intro h22
    refine wk_al0 r158_7 (wk_c1 r158_8 (wk_cv2 r158_9 kc_6_159 rfl (m159_6v1 _ M0 1 hP0 (by decide) (by decide)) (cqI ?_)))
    rintro v28 M23 ⟨hP24, hQ25, h29, h30, h27⟩
    have hF26 : Fr fm_m158_6v6 M0 M23 := hF0.tr hQ25 rfl
    obtain ⟨v31, e32⟩ : ∃ v, M23 6 4 = v := ⟨_, rfl⟩
    have h33 := bf_6_4 hP24; rw [e32] at h33
    subst hQ; exact wk_zret r158_12 ⟨by omega, by omega⟩ (⟨rfl, _, rfl, hP24, hF26, by omega, by omega, by have := e32; omega⟩)
def fm_m168_6v5 : Nat := 3941061990809600
/-- IslandHall$Parser.parenthesis -/
theorem m168_6v5 {B : eB} (d : Nat) (M0 : Mm) (p1 : Int) (hP0 : Pw M0) (l1 : 5 ≤ p1) (u1 : p1 ≤ 5) : Ct B (d + 5) 168 [R 6, I p1] M0 (qI fun z M => Pw M ∧ Fr fm_m168_6v5 M0 M ∧ 0 ≤ z ∧ z ≤ 0 ∧ 0 ≤ z + M 6 4 + (-1)) := by
  refine ct_of (d := d + 4) (k := 0) (L := [some (R 6), some (I p1)]) rfl rfl rfl ?_
  have hF0 := Fr.rf fm_m168_6v5 M0
  generalize hQ : (qI fun z M => Pw M ∧ Fr fm_m168_6v5 M0 M ∧ 0 ≤ z ∧ z ≤ 0 ∧ 0 ≤ z + M 6 4 + (-1)) = Q
  refine wk_al0 r168_0 (wk_c2 r168_1 (wk_cv2 r168_3 kc_6_174 rfl (m174_6v1 _ M0 40 hP0 (by decide) (by decide)) (cqI ?_)))
  rintro v6 M1 ⟨hP2, hQ3, h7, h8, h5⟩
  have hF4 : Fr fm_m168_6v5 M0 M1 := hF0.tr hQ3 rfl
  obtain ⟨v9, e10⟩ : ∃ v, M1 6 4 = v := ⟨_, rfl⟩
  have h11 := bf_6_4 hP2; rw [e10] at h11
  refine wk_ifeq r168_6 ⟨by omega, by omega⟩ ?_ ?_
  · intro h12
    refine wk_c1 r168_32 ?_
    subst hQ; exact wk_zret r168_33 (by decide) (⟨rfl, _, rfl, hP2, hF4, by omega, by omega, by have := e10; omega⟩)
  · intro h13
    refine wk_al0 r168_9 (wk_il1 r168_10 (wk_c1 r168_11 (wk_iadd r168_12 (wk_cv2 r168_13 kc_6_158 rfl (m158_6v6 _ M1 (p1 + 1) hP2 (by omega) (by omega)) (cqI ?_)))))
    rintro v19 M14 ⟨hP15, hQ16, h20, h21, h18⟩
    have hF17 : Fr fm_m168_6v5 M0 M14 := hF4.tr hQ16 rfl
    obtain ⟨v22, e23⟩ : ∃ v, M14 6 4 = v := ⟨_, rfl⟩
    have h24 := bf_6_4 hP15; rw [e23] at h24
    refine wk_ifeq r168_16 ⟨by omega, by omega⟩ ?_ ?_
    · intro h25
      refine wk_c1 r168_32 ?_
      subst hQ; exact wk_zret r168_33 (by decide) (⟨rfl, _, rfl, hP15, hF17, by omega, by omega, by have := e23; omega⟩)
    · intro h26
      exfalso
      omega
def fm_m171_6v3 : Nat := 4831838208
/-- IslandHall$Parser.row -/
theorem m171_6v3 {B : eB} (d : Nat) (M0 : Mm) (p1 : Int) (p2 : Int) (x6_4 : Int) (hP0 : Pw M0) (l1 : 0 ≤ p1) (u1 : p1 ≤ 30) (l2 : (-1) ≤ p2) (u2 : p2 ≤ 4) (ex6_4 : M0 6 4 = x6_4) (lx6_4 : 0 ≤ x6_4) (ux6_4 : x6_4 ≤ 6) (rp0 : 0 ≤ p2 + x6_4) : Ct B (d + 3) 171 [R 6, I p1, I p2] M0 (qI fun z M => Pw M ∧ Fr fm_m171_6v3 M0 M ∧ 0 ≤ z ∧ z ≤ 1 ∧ 0 ≤ z + M 6 4 + (-1)) := by
  refine ct_of (d := d + 2) (k := 0) (L := [some (R 6), some (I p1), some (I p2)]) rfl rfl rfl ?_
  have hF0 := Fr.rf fm_m171_6v3 M0
  generalize hQ : (qI fun z M => Pw M ∧ Fr fm_m171_6v3 M0 M ∧ 0 ≤ z ∧ z ≤ 1 ∧ 0 ≤ z + M 6 4 + (-1)) = Q
  refine wk_il2 r171_0 (wk_c1 r171_1 ?_)
  refine wk_iceq r171_2 ⟨by omega, by omega⟩ (by decide) ?_ ?_
  · intro h1
    refine wk_c1 r171_20 ?_
    subst hQ; exact wk_zret r171_21 (by decide) (⟨rfl, _, rfl, hP0, hF0, by omega, by omega, by have := ex6_4; omega⟩)
  · intro h2
    refine wk_al0 r171_5 (wk_c1 r171_6 (wk_il1 r171_7 (wk_il2 r171_8 (wk_iadd r171_9 (wk_cv3 r171_10 kc_6_172 rfl (m172_6 _ M0 0 (p1 + p2) hP0 (by decide) (by decide) (by omega) (by omega) (by first | assumption | omega | (unfold stepok; omega))) (cqI ?_))))))
    rintro v7 M3 ⟨hP4, hQ5, h8, h9⟩
    have hF6 : Fr fm_m171_6v3 M0 M3 := hF0.tr hQ5 rfl
    refine wk_ifeq r171_13 ⟨by omega, by omega⟩ ?_ ?_
    · intro h10
      exfalso
      omega
    · intro h11
      refine wk_c1 r171_16 (wk_goto r171_17 ?_)
      subst hQ; exact wk_zret r171_21 (by decide) (⟨rfl, _, rfl, hP4, hF6, by omega, by omega, by have := ((hQ5.at g_6_4 rfl).trans ex6_4); omega⟩)
def fm_m152_6v5 : Nat := 3941066822647808
/-- IslandHall$Parser.aboutSomeone -/
theorem m152_6v5 {B : eB} (d : Nat) (M0 : Mm) (p1 : Int) (hP0 : Pw M0) (l1 : 5 ≤ p1) (u1 : p1 ≤ 5) : Ct B (d + 6) 152 [R 6, I p1] M0 (qI fun z M => Pw M ∧ Fr fm_m152_6v5 M0 M ∧ 0 ≤ z ∧ z ≤ 1 ∧ 0 ≤ z + M 6 4 + (-1)) := by
  refine ct_of (d := d + 5) (k := 2) (L := [some (R 6), some (I p1), none, none]) rfl rfl rfl ?_
  have hF0 := Fr.rf fm_m152_6v5 M0
  generalize hQ : (qI fun z M => Pw M ∧ Fr fm_m152_6v5 M0 M ∧ 0 ≤ z ∧ z ≤ 1 ∧ 0 ≤ z + M 6 4 + (-1)) = Q
  refine wk_al0 r152_0 (wk_cv1 r152_1 kc_6_165 rfl (m165_6 _ M0 hP0) (cqI ?_))
  rintro v6 M1 ⟨hP2, hQ3, h7, h8, h5⟩
  have hF4 : Fr fm_m152_6v5 M0 M1 := hF0.tr hQ3 rfl
  obtain ⟨v9, e10⟩ : ∃ v, M1 6 4 = v := ⟨_, rfl⟩
  have h11 := bf_6_4 hP2; rw [e10] at h11
  refine wk_is2 r152_4 rfl (wk_il2 r152_5 (wk_c1 r152_6 ?_))
  refine wk_icne r152_7 ⟨by omega, by omega⟩ (by decide) ?_ ?_
  · intro h12
    refine wk_al0 r152_12 (wk_c8 r152_13 (wk_cv2 r152_15 kc_6_175 rfl (m175_6 _ M1 4111 hP2 (by decide)) (cqI ?_)))
    rintro v17 M13 ⟨hP14, hQ15, h18, h19⟩
    have hF16 : Fr fm_m152_6v5 M0 M13 := hF4.tr hQ15 rfl
    refine wk_ifeq r152_18 ⟨by omega, by omega⟩ ?_ ?_
    · intro h20
      refine wk_al0 r152_35 (wk_c8 r152_36 (wk_cv2 r152_38 kc_6_175 rfl (m175_6 _ M13 4112 hP14 (by decide)) (cqI ?_)))
      rintro v25 M21 ⟨hP22, hQ23, h26, h27⟩
      have hF24 : Fr fm_m152_6v5 M0 M21 := hF16.tr hQ23 rfl
      refine wk_ifeq r152_41 ⟨by omega, by omega⟩ ?_ ?_
      · intro h28
        refine wk_al0 r152_73 (wk_c8 r152_74 (wk_cv2 r152_76 kc_6_175 rfl (m175_6 _ M21 4113 hP22 (by decide)) (cqI ?_)))
        rintro v33 M29 ⟨hP30, hQ31, h34, h35⟩
        have hF32 : Fr fm_m152_6v5 M0 M29 := hF24.tr hQ31 rfl
        refine wk_ifne r152_79 ⟨by omega, by omega⟩ ?_ ?_
        · intro h36
          refine wk_al0 r152_88 (wk_il1 r152_89 (wk_cv2 r152_90 kc_6_168 rfl (m168_6v5 _ M29 p1 hP30 (by omega) (by omega)) (cqI ?_)))
          rintro v42 M37 ⟨hP38, hQ39, h43, h44, h41⟩
          have hF40 : Fr fm_m152_6v5 M0 M37 := hF32.tr hQ39 rfl
          obtain ⟨v45, e46⟩ : ∃ v, M37 6 4 = v := ⟨_, rfl⟩
          have h47 := bf_6_4 hP38; rw [e46] at h47
          refine wk_ifne r152_93 ⟨by omega, by omega⟩ ?_ ?_
          · intro h48
            exfalso
            omega
          · intro h49
            refine wk_c1 r152_96 ?_
            subst hQ; exact wk_zret r152_97 (by decide) (⟨rfl, _, rfl, hP38, hF40, by omega, by omega, by have := e46; omega⟩)
        · intro h50
          refine wk_al0 r152_82 (wk_c1 r152_83 (wk_cv2 r152_84 kc_6_159 rfl (m159_6v1 _ M29 1 hP30 (by decide) (by decide)) (cqI ?_)))
          rintro v56 M51 ⟨hP52, hQ53, h57, h58, h55⟩
          have hF54 : Fr fm_m152_6v5 M0 M51 := hF32.tr hQ53 rfl
          obtain ⟨v59, e60⟩ : ∃ v, M51 6 4 = v := ⟨_, rfl⟩
          have h61 := bf_6_4 hP52; rw [e60] at h61
          subst hQ; exact wk_zret r152_87 ⟨by omega, by omega⟩ (⟨rfl, _, rfl, hP52, hF54, by omega, by omega, by have := e60; omega⟩)
      · intro h62
        refine wk_al0 r152_44 (wk_cv1 r152_45 kc_6_165 rfl (m165_6 _ M21 hP22) (cqI ?_))
        rintro v68 M63 ⟨hP64, hQ65, h69, h70, h67⟩
        have hF66 : Fr fm_m152_6v5 M0 M63 := hF24.tr hQ65 rfl
        obtain ⟨v71, e72⟩ : ∃ v, M63 6 4 = v := ⟨_, rfl⟩
        have h73 := bf_6_4 hP64; rw [e72] at h73
        refine wk_is3 r152_48 rfl (wk_il3 r152_49 (wk_c1 r152_50 ?_))
        refine wk_iceq r152_51 ⟨by omega, by omega⟩ (by decide) ?_ ?_
        · intro h74
          refine wk_c1 r152_71 ?_
          subst hQ; exact wk_zret r152_72 (by decide) (⟨rfl, _, rfl, hP64, hF66, by omega, by omega, by have := e72; omega⟩)
        · intro h75
          refine wk_al0 r152_54 (wk_c1 r152_55 (wk_il2 r152_56 (wk_c1 r152_57 (wk_ishlc r152_58 (by decide) pwl_3 (wk_il3 r152_59 (wk_iord2 3 8 r152_60 (by decide) ⟨by omega, by omega⟩ ⟨by omega, by omega, by omega⟩ (wk_cv3 r152_61 kc_6_172 rfl (m172_6 _ M63 5 ((v6 * 8) + v68) hP64 (by decide) (by decide) (by omega) (by omega) (by first | assumption | omega | (unfold stepok; omega))) (cqI ?_))))))))
          rintro v80 M76 ⟨hP77, hQ78, h81, h82⟩
          have hF79 : Fr fm_m152_6v5 M0 M76 := hF66.tr hQ78 rfl
          refine wk_ifeq r152_64 ⟨by omega, by omega⟩ ?_ ?_
          · intro h83
            exfalso
            omega
          · intro h84
            refine wk_c1 r152_67 (wk_goto r152_68 ?_)
            subst hQ; exact wk_zret r152_72 (by decide) (⟨rfl, _, rfl, hP77, hF79, by omega, by omega, by have := ((hQ78.at g_6_4 rfl).trans e72); omega⟩)
    · intro h85
      refine wk_al0 r152_21 (wk_c1 r152_22 (wk_il2 r152_23 (wk_c1 r152_24 (wk_imul r152_25 (wk_iadd r152_26 (wk_al0 r152_27 (wk_cv1 r152_28 kc_6_173 rfl (m173_6 _ M13 hP14) (cqI ?_))))))))
      rintro v91 M86 ⟨hP87, hQ88, h92, h93, h90⟩
      have hF89 : Fr fm_m152_6v5 M0 M86 := hF16.tr hQ88 rfl
      obtain ⟨v94, e95⟩ : ∃ v, M86 6 4 = v := ⟨_, rfl⟩
      have h96 := bf_6_4 hP87; rw [e95] at h96
      refine wk_cv3 r152_31 kc_6_171 rfl (m171_6v3 _ M86 (0 + (v6 * 5)) v91 v94 hP87 (by omega) (by omega) (by omega) (by omega) e95 (by omega) (by omega) (by omega)) (cqI ?_)
      rintro v102 M97 ⟨hP98, hQ99, h103, h104, h101⟩
      have hF100 : Fr fm_m152_6v5 M0 M97 := hF89.tr hQ99 rfl
      have e105 := ((hQ99.at g_6_4 rfl).trans e95)
      subst hQ; exact wk_zret r152_34 ⟨by omega, by omega⟩ (⟨rfl, _, rfl, hP98, hF100, by omega, by omega, by have := ((hQ99.at g_6_4 rfl).trans e95); omega⟩)
  · intro h106
    refine wk_c1 r152_10 ?_
    subst hQ; exact wk_zret r152_11 (by decide) (⟨rfl, _, rfl, hP2, hF4, by omega, by omega, by have := e10; omega⟩)
def fm_m153_6v5 : Nat := 3941068970131456
/-- IslandHall$Parser.atom -/
theorem m153_6v5 {B : eB} (d : Nat) (M0 : Mm) (p1 : Int) (hP0 : Pw M0) (l1 : 5 ≤ p1) (u1 : p1 ≤ 5) : Ct B (d + 7) 153 [R 6, I p1] M0 (qI fun z M => Pw M ∧ Fr fm_m153_6v5 M0 M ∧ 0 ≤ z ∧ z ≤ 1 ∧ 0 ≤ z + M 6 4 + (-1)) := by
  refine ct_of (d := d + 6) (k := 0) (L := [some (R 6), some (I p1)]) rfl rfl rfl ?_
  have hF0 := Fr.rf fm_m153_6v5 M0
  generalize hQ : (qI fun z M => Pw M ∧ Fr fm_m153_6v5 M0 M ∧ 0 ≤ z ∧ z ≤ 1 ∧ 0 ≤ z + M 6 4 + (-1)) = Q
  refine wk_al0 r153_0 (wk_getfr r153_1 fd_6_0 (br_6_0 hP0) (wk_cv1 r153_4 kc_9_237 rfl (m237_9 _ M0 hP0) (cqI ?_)))
  rintro v7 M1 ⟨hP2, hQ3, h8, h9, h5, h6⟩
  obtain rfl := Fr.same hQ3
  obtain ⟨v10, e11⟩ : ∃ v, M0 9 2 = v := ⟨_, rfl⟩
  have h12 := bf_9_2 hP0; rw [e11] at h12
  obtain ⟨v13, e14⟩ : ∃ v, M0 9 3 = v := ⟨_, rfl⟩
  have h15 := bf_9_3 hP0; rw [e14] at h15
  refine wk_ifeq r153_7 ⟨by omega, by omega⟩ ?_ ?_
  · intro h16
    refine wk_al0 r153_16 (wk_c8 r153_17 (wk_cv2 r153_19 kc_6_175 rfl (m175_6 _ M0 4114 hP0 (by decide)) (cqI ?_)))
    rintro v21 M17 ⟨hP18, hQ19, h22, h23⟩
    have hF20 : Fr fm_m153_6v5 M0 M17 := hF0.tr hQ19 rfl
    refine wk_ifeq r153_22 ⟨by omega, by omega⟩ ?_ ?_
    · intro h24
      refine wk_al0 r153_38 (wk_c8 r153_39 (wk_cv2 r153_41 kc_6_175 rfl (m175_6 _ M17 4115 hP18 (by decide)) (cqI ?_)))
      rintro v29 M25 ⟨hP26, hQ27, h30, h31⟩
      have hF28 : Fr fm_m153_6v5 M0 M25 := hF20.tr hQ27 rfl
      refine wk_ifeq r153_44 ⟨by omega, by omega⟩ ?_ ?_
      · intro h32
        refine wk_al0 r153_61 (wk_c8 r153_62 (wk_cv2 r153_64 kc_6_175 rfl (m175_6 _ M25 4116 hP26 (by decide)) (cqI ?_)))
        rintro v37 M33 ⟨hP34, hQ35, h38, h39⟩
        have hF36 : Fr fm_m153_6v5 M0 M33 := hF28.tr hQ35 rfl
        refine wk_ifeq r153_67 ⟨by omega, by omega⟩ ?_ ?_
        · intro h40
          refine wk_al0 r153_83 (wk_c8 r153_84 (wk_cv2 r153_86 kc_6_175 rfl (m175_6 _ M33 4117 hP34 (by decide)) (cqI ?_)))
          rintro v45 M41 ⟨hP42, hQ43, h46, h47⟩
          have hF44 : Fr fm_m153_6v5 M0 M41 := hF36.tr hQ43 rfl
          refine wk_ifeq r153_89 ⟨by omega, by omega⟩ ?_ ?_
          · intro h48
            refine wk_al0 r153_97 (wk_c8 r153_98 (wk_cv2 r153_100 kc_6_175 rfl (m175_6 _ M41 4118 hP42 (by decide)) (cqI ?_)))
            rintro v53 M49 ⟨hP50, hQ51, h54, h55⟩
            have hF52 : Fr fm_m153_6v5 M0 M49 := hF44.tr hQ51 rfl
            refine wk_ifeq r153_103 ⟨by omega, by omega⟩ ?_ ?_
            · intro h56
              refine wk_al0 r153_117 (wk_c1 r153_118 (wk_cv2 r153_119 kc_6_159 rfl (m159_6v1 _ M49 1 hP50 (by decide) (by decide)) (cqI ?_)))
              rintro v62 M57 ⟨hP58, hQ59, h63, h64, h61⟩
              have hF60 : Fr fm_m153_6v5 M0 M57 := hF52.tr hQ59 rfl
              obtain ⟨v65, e66⟩ : ∃ v, M57 6 4 = v := ⟨_, rfl⟩
              have h67 := bf_6_4 hP58; rw [e66] at h67
              subst hQ; exact wk_zret r153_122 ⟨by omega, by omega⟩ (⟨rfl, _, rfl, hP58, hF60, by omega, by omega, by have := e66; omega⟩)
            · intro h68
              refine wk_al0 r153_106 (wk_al0 r153_107 (wk_cv1 r153_108 kc_6_173 rfl (m173_6 _ M49 hP50) (cqI ?_)))
              rintro v74 M69 ⟨hP70, hQ71, h75, h76, h73⟩
              have hF72 : Fr fm_m153_6v5 M0 M69 := hF52.tr hQ71 rfl
              obtain ⟨v77, e78⟩ : ∃ v, M69 6 4 = v := ⟨_, rfl⟩
              have h79 := bf_6_4 hP70; rw [e78] at h79
              refine wk_cv2 r153_111 kc_6_163 rfl (m163_6 _ M69 v74 v77 hP70 (by omega) (by omega) e78 (by omega) (by omega) (by omega)) (cqI ?_)
              rintro v85 M80 ⟨hP81, hQ82, h86, h87, h84⟩
              have hF83 : Fr fm_m153_6v5 M0 M80 := hF72.tr hQ82 rfl
              obtain ⟨v88, e89⟩ : ∃ v, M80 6 4 = v := ⟨_, rfl⟩
              have h90 := bf_6_4 hP81; rw [e89] at h90
              refine wk_goto r153_114 ?_
              subst hQ; exact wk_zret r153_122 ⟨by omega, by omega⟩ (⟨rfl, _, rfl, hP81, hF83, by omega, by omega, by have := e89; omega⟩)
          · intro h91
            refine wk_al0 r153_92 (wk_cv1 r153_93 kc_6_176 rfl (m176_6 _ M41 hP42) (cqI ?_))
            rintro v97 M92 ⟨hP93, hQ94, h98, h99, h96⟩
            have hF95 : Fr fm_m153_6v5 M0 M92 := hF44.tr hQ94 rfl
            obtain ⟨v100, e101⟩ : ∃ v, M92 6 4 = v := ⟨_, rfl⟩
            have h102 := bf_6_4 hP93; rw [e101] at h102
            subst hQ; exact wk_zret r153_96 ⟨by omega, by omega⟩ (⟨rfl, _, rfl, hP93, hF95, by omega, by omega, by have := e101; omega⟩)
        · intro h103
          refine wk_al0 r153_70 (wk_c2 r153_71 (wk_al0 r153_73 (wk_c1 r153_74 (wk_c1 r153_75 (wk_cv3 r153_76 kc_6_167 rfl (m167_6v4 _ M33 0 1 hP34 (by decide) (by decide) (by decide) (by decide)) (cqI ?_))))))
          rintro v109 M104 ⟨hP105, hQ106, h110, h111, h108⟩
          have hF107 : Fr fm_m153_6v5 M0 M104 := hF36.tr hQ106 rfl
          obtain ⟨v112, e113⟩ : ∃ v, M104 6 4 = v := ⟨_, rfl⟩
          have h114 := bf_6_4 hP105; rw [e113] at h114
          refine wk_cv3 r153_79 kc_6_171 rfl (m171_6 _ M104 46 v109 v112 hP105 (by decide) (by decide) (by omega) (by omega) e113 (by omega) (by omega) (by omega)) (cqI ?_)
          rintro v120 M115 ⟨hP116, hQ117, h121, h122, h119⟩
          have hF118 : Fr fm_m153_6v5 M0 M115 := hF107.tr hQ117 rfl
          have e123 := ((hQ117.at g_6_4 rfl).trans e113)
          subst hQ; exact wk_zret r153_82 ⟨by omega, by omega⟩ (⟨rfl, _, rfl, hP116, hF118, by omega, by omega, by have := ((hQ117.at g_6_4 rfl).trans e113); omega⟩)
      · intro h124
        refine wk_al0 r153_47 (wk_c2 r153_48 (wk_al0 r153_50 (wk_c1 r153_51 (wk_c2 r153_52 (wk_cv3 r153_54 kc_6_167 rfl (m167_6v1 _ M25 0 6 hP26 (by decide) (by decide) (by decide) (by decide)) (cqI ?_))))))
        rintro v130 M125 ⟨hP126, hQ127, h131, h132, h129⟩
        have hF128 : Fr fm_m153_6v5 M0 M125 := hF28.tr hQ127 rfl
        obtain ⟨v133, e134⟩ : ∃ v, M125 6 4 = v := ⟨_, rfl⟩
        have h135 := bf_6_4 hP126; rw [e134] at h135
        refine wk_cv3 r153_57 kc_6_171 rfl (m171_6v1 _ M125 39 v130 v133 hP126 (by decide) (by decide) (by omega) (by omega) e134 (by omega) (by omega) (by omega)) (cqI ?_)
        rintro v141 M136 ⟨hP137, hQ138, h142, h143, h140⟩
        have hF139 : Fr fm_m153_6v5 M0 M136 := hF128.tr hQ138 rfl
        have e144 := ((hQ138.at g_6_4 rfl).trans e134)
        subst hQ; exact wk_zret r153_60 ⟨by omega, by omega⟩ (⟨rfl, _, rfl, hP137, hF139, by omega, by omega, by have := ((hQ138.at g_6_4 rfl).trans e134); omega⟩)
    · intro h145
      refine wk_al0 r153_25 (wk_c2 r153_26 (wk_al0 r153_28 (wk_c1 r153_29 (wk_c1 r153_30 (wk_cv3 r153_31 kc_6_167 rfl (m167_6v5 _ M17 0 3 hP18 (by decide) (by decide) (by decide) (by decide)) (cqI ?_))))))
      rintro v151 M146 ⟨hP147, hQ148, h152, h153, h150⟩
      have hF149 : Fr fm_m153_6v5 M0 M146 := hF20.tr hQ148 rfl
      obtain ⟨v154, e155⟩ : ∃ v, M146 6 4 = v := ⟨_, rfl⟩
      have h156 := bf_6_4 hP147; rw [e155] at h156
      refine wk_cv3 r153_34 kc_6_171 rfl (m171_6v2 _ M146 35 v151 v154 hP147 (by decide) (by decide) (by omega) (by omega) e155 (by omega) (by omega) (by omega)) (cqI ?_)
      rintro v162 M157 ⟨hP158, hQ159, h163, h164, h161⟩
      have hF160 : Fr fm_m153_6v5 M0 M157 := hF149.tr hQ159 rfl
      have e165 := ((hQ159.at g_6_4 rfl).trans e155)
      subst hQ; exact wk_zret r153_37 ⟨by omega, by omega⟩ (⟨rfl, _, rfl, hP158, hF160, by omega, by omega, by have := ((hQ159.at g_6_4 rfl).trans e155); omega⟩)
  · intro h166
    refine wk_al0 r153_10 (wk_il1 r153_11 (wk_cv2 r153_12 kc_6_152 rfl (m152_6v5 _ M0 p1 hP0 (by omega) (by omega)) (cqI ?_)))
    rintro v172 M167 ⟨hP168, hQ169, h173, h174, h171⟩
    have hF170 : Fr fm_m153_6v5 M0 M167 := hF0.tr hQ169 rfl
    obtain ⟨v175, e176⟩ : ∃ v, M167 6 4 = v := ⟨_, rfl⟩
    have h177 := bf_6_4 hP168; rw [e176] at h177
    subst hQ; exact wk_zret r153_15 ⟨by omega, by omega⟩ (⟨rfl, _, rfl, hP168, hF170, by omega, by omega, by have := e176; omega⟩)
def fm_m166_6v5 : Nat := 3941068970131456
/-- IslandHall$Parser.negation -/
theorem m166_6v5 {B : eB} (d : Nat) (M0 : Mm) (p1 : Int) (hP0 : Pw M0) (l1 : 5 ≤ p1) (u1 : p1 ≤ 5) : Ct B (d + 8) 166 [R 6, I p1] M0 (qI fun z M => Pw M ∧ Fr fm_m166_6v5 M0 M ∧ 0 ≤ z ∧ z ≤ 1 ∧ 0 ≤ z + M 6 4 + (-1)) := by
  refine ct_of (d := d + 7) (k := 2) (L := [some (R 6), some (I p1), none, none]) rfl rfl rfl ?_
  have hF0 := Fr.rf fm_m166_6v5 M0
  generalize hQ : (qI fun z M => Pw M ∧ Fr fm_m166_6v5 M0 M ∧ 0 ≤ z ∧ z ≤ 1 ∧ 0 ≤ z + M 6 4 + (-1)) = Q
  refine wk_c1 r166_0 (wk_is2 r166_1 rfl ?_)
  have c2_658 : ∀ (k658 : Nat) (M562 : Mm) (v559 : Int), (6 - v559).toNat = k658 → Pw M562 → Fr fm_m166_6v5 M0 M562 → 0 ≤ v559 → v559 ≤ 6 → Wp B (d + 7) 166 2 [some (R 6), some (I p1), some (I v559), none] [] M562 Q := by
    refine lp_ind ?_
    intro k658 ih658 M562 v559 hk658 hP563 hF564 h560 h561
    refine wk_il2 r166_2 (wk_c2 r166_3 ?_)
    have c23_657 : ∀ (M576 : Mm), Pw M576 → Fr fm_m166_6v5 M0 M576 → Wp B (d + 7) 166 23 [some (R 6), some (I p1), some (I v559), none] [] M576 Q := by
      intro M576 hP577 hF578
      refine wk_al0 r166_23 (wk_getfr r166_24 fd_6_0 (br_6_0 hP577) (wk_c8 r166_27 (wk_cv2 r166_29 kc_9_239 rfl (m239_9 _ M576 4119 hP577 (by decide)) (cqI ?_))))
      rintro v584 M579 ⟨hP580, hQ581, h585, h586, xh583⟩
      obtain rfl := Fr.same hQ581
      refine wk_ifeq r166_32 ⟨by omega, by omega⟩ ?_ ?_
      · intro h587
        refine wk_al0 r166_41 (wk_getfr r166_42 fd_6_0 (br_6_0 hP577) (wk_c2 r166_45 (wk_cv2 r166_47 kc_9_238 rfl (m238_9v1 _ M576 40 hP577 (by decide) (by decide)) (cqI ?_))))
        rintro v592 M588 ⟨hP589, hQ590, h593, h594⟩
        obtain rfl := Fr.same hQ590
        have c66_644 : ∀ (M622 : Mm) (v619 : Int) (v625 : Int), Pw M622 → Fr fm_m166_6v5 M0 M622 → M622 6 4 = v625 → 0 ≤ v619 → v619 ≤ 1 → 0 ≤ v625 → v625 ≤ 6 → 1 ≤ v619 + v625 → Wp B (d + 7) 166 66 [some (R 6), none, some (I v559), none] [I v619] M622 Q := by
          intro M622 v619 v625 hP623 hF624 e628 h620 h621 h626 h627 h629
          refine wk_is3 r166_66 rfl (wk_il3 r166_67 ?_)
          refine wk_ifeq r166_68 ⟨by omega, by omega⟩ ?_ ?_
          · intro h630
            refine wk_c1 r166_90 ?_
            subst hQ; exact wk_zret r166_91 (by decide) (⟨rfl, _, rfl, hP623, hF624, by omega, by omega, by have := e628; omega⟩)
          · intro h631
            refine wk_il2 r166_71 (wk_c1 r166_72 (wk_iandc 1 2 r166_73 ⟨rfl, by decide⟩ rfl ?_))
            refine wk_ifeq r166_74 ⟨by omega, by omega⟩ ?_ ?_
            · intro h633
              refine wk_c1 r166_86 (wk_goto r166_87 ?_)
              subst hQ; exact wk_zret r166_91 (by decide) (⟨rfl, _, rfl, hP623, hF624, by omega, by omega, by have := e628; omega⟩)
            · intro h634
              refine wk_al0 r166_77 (wk_c1 r166_78 (wk_c1 r166_79 (wk_cv3 r166_80 kc_6_172 rfl (m172_6 _ M622 1 0 hP623 (by decide) (by decide) (by decide) (by decide) (by first | assumption | omega | (unfold stepok; omega))) (cqI ?_))))
              rintro v639 M635 ⟨hP636, hQ637, h640, h641⟩
              have hF638 : Fr fm_m166_6v5 M0 M635 := hF624.tr hQ637 rfl
              refine wk_ifeq r166_83 ⟨by omega, by omega⟩ ?_ ?_
              · intro h642
                exfalso
                omega
              · intro h643
                refine wk_c1 r166_86 (wk_goto r166_87 ?_)
                subst hQ; exact wk_zret r166_91 (by decide) (⟨rfl, _, rfl, hP636, hF638, by omega, by omega, by have := ((hQ637.at g_6_4 rfl).trans e628); omega⟩)
        refine wk_ifeq r166_50 ⟨by omega, by omega⟩ ?_ ?_
        · intro h595
          refine wk_al0 r166_61 (wk_il1 r166_62 (wk_cv2 r166_63 kc_6_153 rfl (m153_6v5 _ M576 p1 hP577 (by omega) (by omega)) (cqI ?_)))
          rintro v601 M596 ⟨hP597, hQ598, h602, h603, h600⟩
          have hF599 : Fr fm_m166_6v5 M0 M596 := hF578.tr hQ598 rfl
          obtain ⟨v604, e605⟩ : ∃ v, M596 6 4 = v := ⟨_, rfl⟩
          have h606 := bf_6_4 hP597; rw [e605] at h606
          exact wp_fg (le_s (le_n (le_s (le_s le_0)))) (c66_644 M596 v601 v604 hP597 hF599 e605 (by omega) (by omega) (by omega) (by omega) (by omega))
        · intro h607
          refine wk_al0 r166_53 (wk_il1 r166_54 (wk_cv2 r166_55 kc_6_168 rfl (m168_6v5 _ M576 p1 hP577 (by omega) (by omega)) (cqI ?_)))
          rintro v613 M608 ⟨hP609, hQ610, h614, h615, h612⟩
          have hF611 : Fr fm_m166_6v5 M0 M608 := hF578.tr hQ610 rfl
          obtain ⟨v616, e617⟩ : ∃ v, M608 6 4 = v := ⟨_, rfl⟩
          have h618 := bf_6_4 hP609; rw [e617] at h618
          refine wk_goto r166_58 ?_
          exact wp_fg (le_s (le_n (le_s (le_s le_0)))) (c66_644 M608 v613 v616 hP609 hF611 e617 (by omega) (by omega) (by omega) (by omega) (by omega))
      · intro h645
        refine wk_al0 r166_35 (wk_c1 r166_36 (wk_cv2 r166_37 kc_6_159 rfl (m159_6 _ M576 2 hP577 (by decide) (by decide)) (cqI ?_)))
        rintro v651 M646 ⟨hP647, hQ648, h652, h653, h650⟩
        have hF649 : Fr fm_m166_6v5 M0 M646 := hF578.tr hQ648 rfl
        obtain ⟨v654, e655⟩ : ∃ v, M646 6 4 = v := ⟨_, rfl⟩
        have h656 := bf_6_4 hP647; rw [e655] at h656
        subst hQ; exact wk_zret r166_40 ⟨by omega, by omega⟩ (⟨rfl, _, rfl, hP647, hF649, by omega, by omega, by have := e655; omega⟩)
    refine wk_icge r166_5 ⟨by omega, by omega⟩ (by decide) ?_ ?_
    · intro h565
      exact wp_fg (le_s (le_s (le_s (le_s le_0)))) (c23_657 M562 hP563 hF564)
    · intro h566
      refine wk_al0 r166_8 (wk_c8 r166_9 (wk_cv2 r166_11 kc_6_175 rfl (m175_6 _ M562 4119 hP563 (by decide)) (cqI ?_)))
      rintro v571 M567 ⟨hP568, hQ569, h572, h573⟩
      have hF570 : Fr fm_m166_6v5 M0 M567 := hF564.tr hQ569 rfl
      refine wk_ifeq r166_14 ⟨by omega, by omega⟩ ?_ ?_
      · intro h574
        exact wp_fg (le_s (le_s (le_s (le_s le_0)))) (c23_657 M567 hP568 hF570)
      · intro h575
        refine wk_inc2 r166_17 rfl (wk_goto r166_20 ?_)
        exact wp_fg (le_s (le_s (le_s (le_s le_0)))) (ih658 (6 - (v559 + 1)).toNat (by omega) M567 (v559 + 1) rfl hP568 hF570 (by omega) (by omega))
  exact wp_fg (le_s (le_s (le_s (le_s le_0)))) (c2_658 _ M0 0 rfl hP0 hF0 (by omega) (by omega))
def fm_m157_6v5 : Nat := 3941068970131456
/-- IslandHall$Parser.conjunction -/
theorem m157_6v5 {B : eB} (d : Nat) (M0 : Mm) (p1 : Int) (hP0 : Pw M0) (l1 : 5 ≤ p1) (u1 : p1 ≤ 5) : Ct B (d + 9) 157 [R 6, I p1] M0 (qI fun z M => Pw M ∧ Fr fm_m157_6v5 M0 M ∧ 0 ≤ z ∧ z ≤ 1 ∧ 0 ≤ z + M 6 4 + (-1)) := by
  refine ct_of (d := d + 8) (k := 1) (L := [some (R 6), some (I p1), none]) rfl rfl rfl ?_
  have hF0 := Fr.rf fm_m157_6v5 M0
  generalize hQ : (qI fun z M => Pw M ∧ Fr fm_m157_6v5 M0 M ∧ 0 ≤ z ∧ z ≤ 1 ∧ 0 ≤ z + M 6 4 + (-1)) = Q
  refine wk_al0 r157_0 (wk_il1 r157_1 (wk_cv2 r157_2 kc_6_166 rfl (m166_6v5 _ M0 p1 hP0 (by omega) (by omega)) (cqI ?_)))
  rintro v6 M1 ⟨hP2, hQ3, h7, h8, h5⟩
  have hF4 : Fr fm_m157_6v5 M0 M1 := hF0.tr hQ3 rfl
  obtain ⟨v9, e10⟩ : ∃ v, M1 6 4 = v := ⟨_, rfl⟩
  have h11 := bf_6_4 hP2; rw [e10] at h11
  refine wk_ifne r157_5 ⟨by omega, by omega⟩ ?_ ?_
  · intro h12
    refine wk_c1 r157_10 (wk_is2 r157_11 rfl ?_)
    have c12_442 : ∀ (k442 : Nat) (M401 : Mm) (v398 : Int) (v404 : Int), (500 - v398).toNat = k442 → Pw M401 → Fr fm_m157_6v5 M0 M401 → M401 6 4 = v404 → 0 ≤ v398 → v398 ≤ 500 → 0 ≤ v404 → v404 ≤ 6 → 0 ≤ (-1) * v404 + v398 + 6 → Wp B (d + 8) 157 12 [some (R 6), some (I p1), some (I v398)] [] M401 Q := by
      refine lp_ind ?_
      intro k442 ih442 M401 v398 v404 hk442 hP402 hF403 e407 h399 h400 h405 h406 h408
      refine wk_il2 r157_12 (wk_c3 r157_13 ?_)
      refine wk_icge r157_16 ⟨by omega, by omega⟩ (by decide) ?_ ?_
      · intro h409
        refine wk_c1 r157_53 ?_
        subst hQ; exact wk_zret r157_54 (by decide) (⟨rfl, _, rfl, hP402, hF403, by omega, by omega, by have := e407; omega⟩)
      · intro h410
        refine wk_al0 r157_19 (wk_c8 r157_20 (wk_cv2 r157_22 kc_6_175 rfl (m175_6 _ M401 4125 hP402 (by decide)) (cqI ?_)))
        rintro v415 M411 ⟨hP412, hQ413, h416, h417⟩
        have hF414 : Fr fm_m157_6v5 M0 M411 := hF403.tr hQ413 rfl
        refine wk_ifeq r157_25 ⟨by omega, by omega⟩ ?_ ?_
        · intro h418
          refine wk_c1 r157_53 ?_
          subst hQ; exact wk_zret r157_54 (by decide) (⟨rfl, _, rfl, hP412, hF414, by omega, by omega, by have := ((hQ413.at g_6_4 rfl).trans e407); omega⟩)
        · intro h419
          refine wk_al0 r157_28 (wk_il1 r157_29 (wk_cv2 r157_30 kc_6_166 rfl (m166_6v5 _ M411 p1 hP412 (by omega) (by omega)) (cqI ?_)))
          rintro v425 M420 ⟨hP421, hQ422, h426, h427, h424⟩
          have hF423 : Fr fm_m157_6v5 M0 M420 := hF414.tr hQ422 rfl
          obtain ⟨v428, e429⟩ : ∃ v, M420 6 4 = v := ⟨_, rfl⟩
          have h430 := bf_6_4 hP421; rw [e429] at h430
          refine wk_ifeq r157_33 ⟨by omega, by omega⟩ ?_ ?_
          · intro h431
            refine wk_c1 r157_45 ?_
            subst hQ; exact wk_zret r157_46 (by decide) (⟨rfl, _, rfl, hP421, hF423, by omega, by omega, by have := e429; omega⟩)
          · intro h432
            refine wk_al0 r157_36 (wk_c1 r157_37 (wk_c1 r157_38 (wk_cv3 r157_39 kc_6_172 rfl (m172_6 _ M420 2 0 hP421 (by decide) (by decide) (by decide) (by decide) (by first | assumption | omega | (unfold stepok; omega))) (cqI ?_))))
            rintro v437 M433 ⟨hP434, hQ435, h438, h439⟩
            have hF436 : Fr fm_m157_6v5 M0 M433 := hF423.tr hQ435 rfl
            refine wk_ifne r157_42 ⟨by omega, by omega⟩ ?_ ?_
            · intro h440
              refine wk_inc2 r157_47 rfl (wk_goto r157_50 ?_)
              exact wp_fg (le_s (le_s (le_s le_0))) (ih442 (500 - (v398 + 1)).toNat (by omega) M433 (v398 + 1) v428 rfl hP434 hF436 ((hQ435.at g_6_4 rfl).trans e429) (by omega) (by omega) (by omega) (by omega) (by omega))
            · intro h441
              exfalso
              omega
    exact wp_fg (le_s (le_s (le_s le_0))) (c12_442 _ M1 0 v9 rfl hP2 hF4 e10 (by omega) (by omega) (by omega) (by omega) (by omega))
  · intro h443
    refine wk_c1 r157_8 ?_
    subst hQ; exact wk_zret r157_9 (by decide) (⟨rfl, _, rfl, hP2, hF4, by omega, by omega, by have := e10; omega⟩)
def fm_m158_6v5 : Nat := 3941068970131456
/-- IslandHall$Parser.expr -/
theorem m158_6v5 {B : eB} (d : Nat) (M0 : Mm) (p1 : Int) (hP0 : Pw M0) (l1 : 5 ≤ p1) (u1 : p1 ≤ 5) : Ct B (d + 10) 158 [R 6, I p1] M0 (qI fun z M => Pw M ∧ Fr fm_m158_6v5 M0 M ∧ 0 ≤ z ∧ z ≤ 1 ∧ 0 ≤ z + M 6 4 + (-1)) := by
  refine ct_of (d := d + 9) (k := 1) (L := [some (R 6), some (I p1), none]) rfl rfl rfl ?_
  have hF0 := Fr.rf fm_m158_6v5 M0
  generalize hQ : (qI fun z M => Pw M ∧ Fr fm_m158_6v5 M0 M ∧ 0 ≤ z ∧ z ≤ 1 ∧ 0 ≤ z + M 6 4 + (-1)) = Q
  refine wk_al0 r158_0 (wk_cv1 r158_1 kc_6_155 rfl (m155_6 _ M0 hP0) (cqI ?_))
  rintro v5 M1 ⟨hP2, hQ3, h6, h7⟩
  obtain rfl := Fr.same hQ3
  refine wk_ifne r158_4 ⟨by omega, by omega⟩ ?_ ?_
  · intro h8
    refine wk_il1 r158_13 (wk_c2 r158_14 ?_)
    refine wk_iclt r158_16 ⟨by omega, by omega⟩ (by decide) ?_ ?_
    · intro h9
      refine wk_al0 r158_25 (wk_il1 r158_26 (wk_cv2 r158_27 kc_6_157 rfl (m157_6v5 _ M0 p1 hP0 (by omega) (by omega)) (cqI ?_)))
      rintro v15 M10 ⟨hP11, hQ12, h16, h17, h14⟩
      have hF13 : Fr fm_m158_6v5 M0 M10 := hF0.tr hQ12 rfl
      obtain ⟨v18, e19⟩ : ∃ v, M10 6 4 = v := ⟨_, rfl⟩
      have h20 := bf_6_4 hP11; rw [e19] at h20
      refine wk_ifne r158_30 ⟨by omega, by omega⟩ ?_ ?_
      · intro h21
        refine wk_c1 r158_35 (wk_is2 r158_36 rfl ?_)
        have c37_451 : ∀ (k451 : Nat) (M410 : Mm) (v407 : Int) (v413 : Int), (500 - v407).toNat = k451 → Pw M410 → Fr fm_m158_6v5 M0 M410 → M410 6 4 = v413 → 0 ≤ v407 → v407 ≤ 500 → 0 ≤ v413 → v413 ≤ 6 → 0 ≤ (-1) * v413 + v407 + 6 → Wp B (d + 9) 158 37 [some (R 6), some (I p1), some (I v407)] [] M410 Q := by
          refine lp_ind ?_
          intro k451 ih451 M410 v407 v413 hk451 hP411 hF412 e416 h408 h409 h414 h415 h417
          refine wk_il2 r158_37 (wk_c3 r158_38 ?_)
          refine wk_icge r158_41 ⟨by omega, by omega⟩ (by decide) ?_ ?_
          · intro h418
            refine wk_c1 r158_78 ?_
            subst hQ; exact wk_zret r158_79 (by decide) (⟨rfl, _, rfl, hP411, hF412, by omega, by omega, by have := e416; omega⟩)
          · intro h419
            refine wk_al0 r158_44 (wk_c8 r158_45 (wk_cv2 r158_47 kc_6_175 rfl (m175_6 _ M410 4126 hP411 (by decide)) (cqI ?_)))
            rintro v424 M420 ⟨hP421, hQ422, h425, h426⟩
            have hF423 : Fr fm_m158_6v5 M0 M420 := hF412.tr hQ422 rfl
            refine wk_ifeq r158_50 ⟨by omega, by omega⟩ ?_ ?_
            · intro h427
              refine wk_c1 r158_78 ?_
              subst hQ; exact wk_zret r158_79 (by decide) (⟨rfl, _, rfl, hP421, hF423, by omega, by omega, by have := ((hQ422.at g_6_4 rfl).trans e416); omega⟩)
            · intro h428
              refine wk_al0 r158_53 (wk_il1 r158_54 (wk_cv2 r158_55 kc_6_157 rfl (m157_6v5 _ M420 p1 hP421 (by omega) (by omega)) (cqI ?_)))
              rintro v434 M429 ⟨hP430, hQ431, h435, h436, h433⟩
              have hF432 : Fr fm_m158_6v5 M0 M429 := hF423.tr hQ431 rfl
              obtain ⟨v437, e438⟩ : ∃ v, M429 6 4 = v := ⟨_, rfl⟩
              have h439 := bf_6_4 hP430; rw [e438] at h439
              refine wk_ifeq r158_58 ⟨by omega, by omega⟩ ?_ ?_
              · intro h440
                refine wk_c1 r158_70 ?_
                subst hQ; exact wk_zret r158_71 (by decide) (⟨rfl, _, rfl, hP430, hF432, by omega, by omega, by have := e438; omega⟩)
              · intro h441
                refine wk_al0 r158_61 (wk_c1 r158_62 (wk_c1 r158_63 (wk_cv3 r158_64 kc_6_172 rfl (m172_6 _ M429 3 0 hP430 (by decide) (by decide) (by decide) (by decide) (by first | assumption | omega | (unfold stepok; omega))) (cqI ?_))))
                rintro v446 M442 ⟨hP443, hQ444, h447, h448⟩
                have hF445 : Fr fm_m158_6v5 M0 M442 := hF432.tr hQ444 rfl
                refine wk_ifne r158_67 ⟨by omega, by omega⟩ ?_ ?_
                · intro h449
                  refine wk_inc2 r158_72 rfl (wk_goto r158_75 ?_)
                  exact wp_fg (le_s (le_s (le_s le_0))) (ih451 (500 - (v407 + 1)).toNat (by omega) M442 (v407 + 1) v437 rfl hP443 hF445 ((hQ444.at g_6_4 rfl).trans e438) (by omega) (by omega) (by omega) (by omega) (by omega))
                · intro h450
                  exfalso
                  omega
        exact wp_fg (le_s (le_s (le_s le_0))) (c37_451 _ M10 0 v18 rfl hP11 hF13 e19 (by omega) (by omega) (by omega) (by omega) (by omega))
      · intro h452
        refine wk_c1 r158_33 ?_
        subst hQ; exact wk_zret r158_34 (by decide) (⟨rfl, _, rfl, hP11, hF13, by omega, by omega, by have := e19; omega⟩)
    · intro h453
      exfalso
      omega
  · intro h454
    refine wk_al0 r158_7 (wk_c1 r158_8 (wk_cv2 r158_9 kc_6_159 rfl (m159_6v1 _ M0 1 hP0 (by decide) (by decide)) (cqI ?_)))
    rintro v460 M455 ⟨hP456, hQ457, h461, h462, h459⟩
    have hF458 : Fr fm_m158_6v5 M0 M455 := hF0.tr hQ457 rfl
    obtain ⟨v463, e464⟩ : ∃ v, M455 6 4 = v := ⟨_, rfl⟩
    have h465 := bf_6_4 hP456; rw [e464] at h465
    subst hQ; exact wk_zret r158_12 ⟨by omega, by omega⟩ (⟨rfl, _, rfl, hP456, hF458, by omega, by omega, by have := e464; omega⟩)
def fm_m168_6v4 : Nat := 3941068970131456
/-- IslandHall$Parser.parenthesis -/
theorem m168_6v4 {B : eB} (d : Nat) (M0 : Mm) (p1 : Int) (hP0 : Pw M0) (l1 : 4 ≤ p1) (u1 : p1 ≤ 4) : Ct B (d + 11) 168 [R 6, I p1] M0 (qI fun z M => Pw M ∧ Fr fm_m168_6v4 M0 M ∧ 0 ≤ z ∧ z ≤ 1 ∧ 0 ≤ z + M 6 4 + (-1)) := by
  refine ct_of (d := d + 10) (k := 0) (L := [some (R 6), some (I p1)]) rfl rfl rfl ?_
  have hF0 := Fr.rf fm_m168_6v4 M0
  generalize hQ : (qI fun z M => Pw M ∧ Fr fm_m168_6v4 M0 M ∧ 0 ≤ z ∧ z ≤ 1 ∧ 0 ≤ z + M 6 4 + (-1)) = Q
  refine wk_al0 r168_0 (wk_c2 r168_1 (wk_cv2 r168_3 kc_6_174 rfl (m174_6v1 _ M0 40 hP0 (by decide) (by decide)) (cqI ?_)))
  rintro v6 M1 ⟨hP2, hQ3, h7, h8, h5⟩
  have hF4 : Fr fm_m168_6v4 M0 M1 := hF0.tr hQ3 rfl
  obtain ⟨v9, e10⟩ : ∃ v, M1 6 4 = v := ⟨_, rfl⟩
  have h11 := bf_6_4 hP2; rw [e10] at h11
  refine wk_ifeq r168_6 ⟨by omega, by omega⟩ ?_ ?_
  · intro h12
    refine wk_c1 r168_32 ?_
    subst hQ; exact wk_zret r168_33 (by decide) (⟨rfl, _, rfl, hP2, hF4, by omega, by omega, by have := e10; omega⟩)
  · intro h13
    refine wk_al0 r168_9 (wk_il1 r168_10 (wk_c1 r168_11 (wk_iadd r168_12 (wk_cv2 r168_13 kc_6_158 rfl (m158_6v5 _ M1 (p1 + 1) hP2 (by omega) (by omega)) (cqI ?_)))))
    rintro v19 M14 ⟨hP15, hQ16, h20, h21, h18⟩
    have hF17 : Fr fm_m168_6v4 M0 M14 := hF4.tr hQ16 rfl
    obtain ⟨v22, e23⟩ : ∃ v, M14 6 4 = v := ⟨_, rfl⟩
    have h24 := bf_6_4 hP15; rw [e23] at h24
    refine wk_ifeq r168_16 ⟨by omega, by omega⟩ ?_ ?_
    · intro h25
      refine wk_c1 r168_32 ?_
      subst hQ; exact wk_zret r168_33 (by decide) (⟨rfl, _, rfl, hP15, hF17, by omega, by omega, by have := e23; omega⟩)
    · intro h26
      refine wk_al0 r168_19 (wk_c2 r168_20 (wk_cv2 r168_22 kc_6_174 rfl (m174_6v1 _ M14 41 hP15 (by decide) (by decide)) (cqI ?_)))
      rintro v32 M27 ⟨hP28, hQ29, h33, h34, h31⟩
      have hF30 : Fr fm_m168_6v4 M0 M27 := hF17.tr hQ29 rfl
      obtain ⟨v35, e36⟩ : ∃ v, M27 6 4 = v := ⟨_, rfl⟩
      have h37 := bf_6_4 hP28; rw [e36] at h37
      refine wk_ifeq r168_25 ⟨by omega, by omega⟩ ?_ ?_
      · intro h38
        refine wk_c1 r168_32 ?_
        subst hQ; exact wk_zret r168_33 (by decide) (⟨rfl, _, rfl, hP28, hF30, by omega, by omega, by have := e36; omega⟩)
      · intro h39
        refine wk_c1 r168_28 (wk_goto r168_29 ?_)
        subst hQ; exact wk_zret r168_33 (by decide) (⟨rfl, _, rfl, hP28, hF30, by omega, by omega, by have := e36; omega⟩)
def fm_m139 : Nat := 5905580032
/-- IslandHall$Code.addSays -/
theorem m139 {B : eB} (d : Nat) (M0 : Mm) (c0 : Int) (p1 : Int) (hP0 : Pw M0) (hC0 : isC c0) (l1 : 0 ≤ p1) (u1 : p1 ≤ 6) : Ct B (d + 2) 139 [R c0, I p1] M0 (qV fun M => Pw M ∧ Fr fm_m139 M0 M) := by
  refine ct_of (d := d + 1) (k := 0) (L := [some (R c0), some (I p1)]) rfl rfl rfl ?_
  have hF0 := Fr.rf fm_m139 M0
  generalize hQ : (qV fun M => Pw M ∧ Fr fm_m139 M0 M) = Q
  refine wk_al0 r139_0 (wk_c1 r139_1 (wk_il1 r139_2 (wk_cv3 r139_3 (kcC_138 hC0) rfl (m138 _ M0 c0 4 p1 hP0 hC0 (by decide) (by decide) (by omega) (by omega) (by first | assumption | omega | (unfold stepok; omega))) (cqV ?_))))
  rintro M1 ⟨hP2, hQ3⟩
  have hF4 : Fr fm_m139 M0 M1 := hF0.tr hQ3 rfl
  refine wk_al0 r139_6 (wk_dupr r139_7 (wk_getfb r139_8 (fdC_2 hC0) (bC_2 hP2 hC0) ?_))
  intro v5 h7 h8 e6
  refine wk_c1 r139_11 (wk_il1 r139_12 (wk_shl1 6 64 r139_13 ⟨by omega, by omega⟩ ⟨pwl_6, by decide⟩ ?_))
  intro v9 h10 h11 h12
  refine wk_ior 7 128 r139_14 (by decide) ⟨by omega, by omega⟩ ⟨by omega, by omega⟩ ?_
  intro v13 h14 h15 h16 h17 h18
  refine wk_putfi81 r139_15 (fdC_2 hC0) (wk_nw (g_c2 hC0) rfl hP2 hF4 (uC_2 hC0 ⟨by omega, by omega⟩) ?_)
  intro M19 hP20 hF21 e22
  subst hQ; exact wk_ret r139_18 (⟨rfl, hP20, hF21⟩)
def fm_m152_6v4 : Nat := 3941070043873280
/-- IslandHall$Parser.aboutSomeone -/
theorem m152_6v4 {B : eB} (d : Nat) (M0 : Mm) (p1 : Int) (hP0 : Pw M0) (l1 : 4 ≤ p1) (u1 : p1 ≤ 4) : Ct B (d + 12) 152 [R 6, I p1] M0 (qI fun z M => Pw M ∧ Fr fm_m152_6v4 M0 M ∧ 0 ≤ z ∧ z ≤ 1 ∧ 0 ≤ z + M 6 4 + (-1)) := by
  refine ct_of (d := d + 11) (k := 2) (L := [some (R 6), some (I p1), none, none]) rfl rfl rfl ?_
  have hF0 := Fr.rf fm_m152_6v4 M0
  generalize hQ : (qI fun z M => Pw M ∧ Fr fm_m152_6v4 M0 M ∧ 0 ≤ z ∧ z ≤ 1 ∧ 0 ≤ z + M 6 4 + (-1)) = Q
  refine wk_al0 r152_0 (wk_cv1 r152_1 kc_6_165 rfl (m165_6 _ M0 hP0) (cqI ?_))
  rintro v6 M1 ⟨hP2, hQ3, h7, h8, h5⟩
  have hF4 : Fr fm_m152_6v4 M0 M1 := hF0.tr hQ3 rfl
  obtain ⟨v9, e10⟩ : ∃ v, M1 6 4 = v := ⟨_, rfl⟩
  have h11 := bf_6_4 hP2; rw [e10] at h11
  refine wk_is2 r152_4 rfl (wk_il2 r152_5 (wk_c1 r152_6 ?_))
  refine wk_icne r152_7 ⟨by omega, by omega⟩ (by decide) ?_ ?_
  · intro h12
    refine wk_al0 r152_12 (wk_c8 r152_13 (wk_cv2 r152_15 kc_6_175 rfl (m175_6 _ M1 4111 hP2 (by decide)) (cqI ?_)))
    rintro v17 M13 ⟨hP14, hQ15, h18, h19⟩
    have hF16 : Fr fm_m152_6v4 M0 M13 := hF4.tr hQ15 rfl
    refine wk_ifeq r152_18 ⟨by omega, by omega⟩ ?_ ?_
    · intro h20
      refine wk_al0 r152_35 (wk_c8 r152_36 (wk_cv2 r152_38 kc_6_175 rfl (m175_6 _ M13 4112 hP14 (by decide)) (cqI ?_)))
      rintro v25 M21 ⟨hP22, hQ23, h26, h27⟩
      have hF24 : Fr fm_m152_6v4 M0 M21 := hF16.tr hQ23 rfl
      refine wk_ifeq r152_41 ⟨by omega, by omega⟩ ?_ ?_
      · intro h28
        refine wk_al0 r152_73 (wk_c8 r152_74 (wk_cv2 r152_76 kc_6_175 rfl (m175_6 _ M21 4113 hP22 (by decide)) (cqI ?_)))
        rintro v33 M29 ⟨hP30, hQ31, h34, h35⟩
        have hF32 : Fr fm_m152_6v4 M0 M29 := hF24.tr hQ31 rfl
        refine wk_ifne r152_79 ⟨by omega, by omega⟩ ?_ ?_
        · intro h36
          refine wk_al0 r152_88 (wk_il1 r152_89 (wk_cv2 r152_90 kc_6_168 rfl (m168_6v4 _ M29 p1 hP30 (by omega) (by omega)) (cqI ?_)))
          rintro v42 M37 ⟨hP38, hQ39, h43, h44, h41⟩
          have hF40 : Fr fm_m152_6v4 M0 M37 := hF32.tr hQ39 rfl
          obtain ⟨v45, e46⟩ : ∃ v, M37 6 4 = v := ⟨_, rfl⟩
          have h47 := bf_6_4 hP38; rw [e46] at h47
          refine wk_ifne r152_93 ⟨by omega, by omega⟩ ?_ ?_
          · intro h48
            refine wk_al0 r152_98 ?_
            obtain ⟨v49, e50⟩ : ∃ v, M37 6 2 = v := ⟨_, rfl⟩
            have hC51 : isC v49 := by have := pcE hP38; rw [e50] at this; exact this
            refine wk_getfr r152_99 fd_6_2 e50 (wk_il2 r152_102 (wk_cv2 r152_103 (kcC_139 hC51) rfl (m139 _ M37 v49 v6 hP38 hC51 (by omega) (by omega)) (cqV ?_)))
            rintro M52 ⟨hP53, hQ54⟩
            have hF55 : Fr fm_m152_6v4 M0 M52 := hF40.tr hQ54 rfl
            refine wk_c1 r152_106 ?_
            subst hQ; exact wk_zret r152_107 (by decide) (⟨rfl, _, rfl, hP53, hF55, by omega, by omega, by have := ((hQ54.at g_6_4 rfl).trans e46); omega⟩)
          · intro h56
            refine wk_c1 r152_96 ?_
            subst hQ; exact wk_zret r152_97 (by decide) (⟨rfl, _, rfl, hP38, hF40, by omega, by omega, by have := e46; omega⟩)
        · intro h57
          refine wk_al0 r152_82 (wk_c1 r152_83 (wk_cv2 r152_84 kc_6_159 rfl (m159_6v1 _ M29 1 hP30 (by decide) (by decide)) (cqI ?_)))
          rintro v63 M58 ⟨hP59, hQ60, h64, h65, h62⟩
          have hF61 : Fr fm_m152_6v4 M0 M58 := hF32.tr hQ60 rfl
          obtain ⟨v66, e67⟩ : ∃ v, M58 6 4 = v := ⟨_, rfl⟩
          have h68 := bf_6_4 hP59; rw [e67] at h68
          subst hQ; exact wk_zret r152_87 ⟨by omega, by omega⟩ (⟨rfl, _, rfl, hP59, hF61, by omega, by omega, by have := e67; omega⟩)
      · intro h69
        refine wk_al0 r152_44 (wk_cv1 r152_45 kc_6_165 rfl (m165_6 _ M21 hP22) (cqI ?_))
        rintro v75 M70 ⟨hP71, hQ72, h76, h77, h74⟩
        have hF73 : Fr fm_m152_6v4 M0 M70 := hF24.tr hQ72 rfl
        obtain ⟨v78, e79⟩ : ∃ v, M70 6 4 = v := ⟨_, rfl⟩
        have h80 := bf_6_4 hP71; rw [e79] at h80
        refine wk_is3 r152_48 rfl (wk_il3 r152_49 (wk_c1 r152_50 ?_))
        refine wk_iceq r152_51 ⟨by omega, by omega⟩ (by decide) ?_ ?_
        · intro h81
          refine wk_c1 r152_71 ?_
          subst hQ; exact wk_zret r152_72 (by decide) (⟨rfl, _, rfl, hP71, hF73, by omega, by omega, by have := e79; omega⟩)
        · intro h82
          refine wk_al0 r152_54 (wk_c1 r152_55 (wk_il2 r152_56 (wk_c1 r152_57 (wk_ishlc r152_58 (by decide) pwl_3 (wk_il3 r152_59 (wk_iord2 3 8 r152_60 (by decide) ⟨by omega, by omega⟩ ⟨by omega, by omega, by omega⟩ (wk_cv3 r152_61 kc_6_172 rfl (m172_6 _ M70 5 ((v6 * 8) + v75) hP71 (by decide) (by decide) (by omega) (by omega) (by first | assumption | omega | (unfold stepok; omega))) (cqI ?_))))))))
          rintro v87 M83 ⟨hP84, hQ85, h88, h89⟩
          have hF86 : Fr fm_m152_6v4 M0 M83 := hF73.tr hQ85 rfl
          refine wk_ifeq r152_64 ⟨by omega, by omega⟩ ?_ ?_
          · intro h90
            exfalso
            omega
          · intro h91
            refine wk_c1 r152_67 (wk_goto r152_68 ?_)
            subst hQ; exact wk_zret r152_72 (by decide) (⟨rfl, _, rfl, hP84, hF86, by omega, by omega, by have := ((hQ85.at g_6_4 rfl).trans e79); omega⟩)
    · intro h92
      refine wk_al0 r152_21 (wk_c1 r152_22 (wk_il2 r152_23 (wk_c1 r152_24 (wk_imul r152_25 (wk_iadd r152_26 (wk_al0 r152_27 (wk_cv1 r152_28 kc_6_173 rfl (m173_6 _ M13 hP14) (cqI ?_))))))))
      rintro v98 M93 ⟨hP94, hQ95, h99, h100, h97⟩
      have hF96 : Fr fm_m152_6v4 M0 M93 := hF16.tr hQ95 rfl
      obtain ⟨v101, e102⟩ : ∃ v, M93 6 4 = v := ⟨_, rfl⟩
      have h103 := bf_6_4 hP94; rw [e102] at h103
      refine wk_cv3 r152_31 kc_6_171 rfl (m171_6v3 _ M93 (0 + (v6 * 5)) v98 v101 hP94 (by omega) (by omega) (by omega) (by omega) e102 (by omega) (by omega) (by omega)) (cqI ?_)
      rintro v109 M104 ⟨hP105, hQ106, h110, h111, h108⟩
      have hF107 : Fr fm_m152_6v4 M0 M104 := hF96.tr hQ106 rfl
      have e112 := ((hQ106.at g_6_4 rfl).trans e102)
      subst hQ; exact wk_zret r152_34 ⟨by omega, by omega⟩ (⟨rfl, _, rfl, hP105, hF107, by omega, by omega, by have := ((hQ106.at g_6_4 rfl).trans e102); omega⟩)
  · intro h113
    refine wk_c1 r152_10 ?_
    subst hQ; exact wk_zret r152_11 (by decide) (⟨rfl, _, rfl, hP2, hF4, by omega, by omega, by have := e10; omega⟩)
def fm_m153_6v4 : Nat := 3941070043873280
/-- IslandHall$Parser.atom -/
theorem m153_6v4 {B : eB} (d : Nat) (M0 : Mm) (p1 : Int) (hP0 : Pw M0) (l1 : 4 ≤ p1) (u1 : p1 ≤ 4) : Ct B (d + 13) 153 [R 6, I p1] M0 (qI fun z M => Pw M ∧ Fr fm_m153_6v4 M0 M ∧ 0 ≤ z ∧ z ≤ 1 ∧ 0 ≤ z + M 6 4 + (-1)) := by
  refine ct_of (d := d + 12) (k := 0) (L := [some (R 6), some (I p1)]) rfl rfl rfl ?_
  have hF0 := Fr.rf fm_m153_6v4 M0
  generalize hQ : (qI fun z M => Pw M ∧ Fr fm_m153_6v4 M0 M ∧ 0 ≤ z ∧ z ≤ 1 ∧ 0 ≤ z + M 6 4 + (-1)) = Q
  refine wk_al0 r153_0 (wk_getfr r153_1 fd_6_0 (br_6_0 hP0) (wk_cv1 r153_4 kc_9_237 rfl (m237_9 _ M0 hP0) (cqI ?_)))
  rintro v7 M1 ⟨hP2, hQ3, h8, h9, h5, h6⟩
  obtain rfl := Fr.same hQ3
  obtain ⟨v10, e11⟩ : ∃ v, M0 9 2 = v := ⟨_, rfl⟩
  have h12 := bf_9_2 hP0; rw [e11] at h12
  obtain ⟨v13, e14⟩ : ∃ v, M0 9 3 = v := ⟨_, rfl⟩
  have h15 := bf_9_3 hP0; rw [e14] at h15
  refine wk_ifeq r153_7 ⟨by omega, by omega⟩ ?_ ?_
  · intro h16
    refine wk_al0 r153_16 (wk_c8 r153_17 (wk_cv2 r153_19 kc_6_175 rfl (m175_6 _ M0 4114 hP0 (by decide)) (cqI ?_)))
    rintro v21 M17 ⟨hP18, hQ19, h22, h23⟩
    have hF20 : Fr fm_m153_6v4 M0 M17 := hF0.tr hQ19 rfl
    refine wk_ifeq r153_22 ⟨by omega, by omega⟩ ?_ ?_
    · intro h24
      refine wk_al0 r153_38 (wk_c8 r153_39 (wk_cv2 r153_41 kc_6_175 rfl (m175_6 _ M17 4115 hP18 (by decide)) (cqI ?_)))
      rintro v29 M25 ⟨hP26, hQ27, h30, h31⟩
      have hF28 : Fr fm_m153_6v4 M0 M25 := hF20.tr hQ27 rfl
      refine wk_ifeq r153_44 ⟨by omega, by omega⟩ ?_ ?_
      · intro h32
        refine wk_al0 r153_61 (wk_c8 r153_62 (wk_cv2 r153_64 kc_6_175 rfl (m175_6 _ M25 4116 hP26 (by decide)) (cqI ?_)))
        rintro v37 M33 ⟨hP34, hQ35, h38, h39⟩
        have hF36 : Fr fm_m153_6v4 M0 M33 := hF28.tr hQ35 rfl
        refine wk_ifeq r153_67 ⟨by omega, by omega⟩ ?_ ?_
        · intro h40
          refine wk_al0 r153_83 (wk_c8 r153_84 (wk_cv2 r153_86 kc_6_175 rfl (m175_6 _ M33 4117 hP34 (by decide)) (cqI ?_)))
          rintro v45 M41 ⟨hP42, hQ43, h46, h47⟩
          have hF44 : Fr fm_m153_6v4 M0 M41 := hF36.tr hQ43 rfl
          refine wk_ifeq r153_89 ⟨by omega, by omega⟩ ?_ ?_
          · intro h48
            refine wk_al0 r153_97 (wk_c8 r153_98 (wk_cv2 r153_100 kc_6_175 rfl (m175_6 _ M41 4118 hP42 (by decide)) (cqI ?_)))
            rintro v53 M49 ⟨hP50, hQ51, h54, h55⟩
            have hF52 : Fr fm_m153_6v4 M0 M49 := hF44.tr hQ51 rfl
            refine wk_ifeq r153_103 ⟨by omega, by omega⟩ ?_ ?_
            · intro h56
              refine wk_al0 r153_117 (wk_c1 r153_118 (wk_cv2 r153_119 kc_6_159 rfl (m159_6v1 _ M49 1 hP50 (by decide) (by decide)) (cqI ?_)))
              rintro v62 M57 ⟨hP58, hQ59, h63, h64, h61⟩
              have hF60 : Fr fm_m153_6v4 M0 M57 := hF52.tr hQ59 rfl
              obtain ⟨v65, e66⟩ : ∃ v, M57 6 4 = v := ⟨_, rfl⟩
              have h67 := bf_6_4 hP58; rw [e66] at h67
              subst hQ; exact wk_zret r153_122 ⟨by omega, by omega⟩ (⟨rfl, _, rfl, hP58, hF60, by omega, by omega, by have := e66; omega⟩)
            · intro h68
              refine wk_al0 r153_106 (wk_al0 r153_107 (wk_cv1 r153_108 kc_6_173 rfl (m173_6 _ M49 hP50) (cqI ?_)))
              rintro v74 M69 ⟨hP70, hQ71, h75, h76, h73⟩
              have hF72 : Fr fm_m153_6v4 M0 M69 := hF52.tr hQ71 rfl
              obtain ⟨v77, e78⟩ : ∃ v, M69 6 4 = v := ⟨_, rfl⟩
              have h79 := bf_6_4 hP70; rw [e78] at h79
              refine wk_cv2 r153_111 kc_6_163 rfl (m163_6 _ M69 v74 v77 hP70 (by omega) (by omega) e78 (by omega) (by omega) (by omega)) (cqI ?_)
              rintro v85 M80 ⟨hP81, hQ82, h86, h87, h84⟩
              have hF83 : Fr fm_m153_6v4 M0 M80 := hF72.tr hQ82 rfl
              obtain ⟨v88, e89⟩ : ∃ v, M80 6 4 = v := ⟨_, rfl⟩
              have h90 := bf_6_4 hP81; rw [e89] at h90
              refine wk_goto r153_114 ?_
              subst hQ; exact wk_zret r153_122 ⟨by omega, by omega⟩ (⟨rfl, _, rfl, hP81, hF83, by omega, by omega, by have := e89; omega⟩)
          · intro h91
            refine wk_al0 r153_92 (wk_cv1 r153_93 kc_6_176 rfl (m176_6 _ M41 hP42) (cqI ?_))
            rintro v97 M92 ⟨hP93, hQ94, h98, h99, h96⟩
            have hF95 : Fr fm_m153_6v4 M0 M92 := hF44.tr hQ94 rfl
            obtain ⟨v100, e101⟩ : ∃ v, M92 6 4 = v := ⟨_, rfl⟩
            have h102 := bf_6_4 hP93; rw [e101] at h102
            subst hQ; exact wk_zret r153_96 ⟨by omega, by omega⟩ (⟨rfl, _, rfl, hP93, hF95, by omega, by omega, by have := e101; omega⟩)
        · intro h103
          refine wk_al0 r153_70 (wk_c2 r153_71 (wk_al0 r153_73 (wk_c1 r153_74 (wk_c1 r153_75 (wk_cv3 r153_76 kc_6_167 rfl (m167_6v4 _ M33 0 1 hP34 (by decide) (by decide) (by decide) (by decide)) (cqI ?_))))))
          rintro v109 M104 ⟨hP105, hQ106, h110, h111, h108⟩
          have hF107 : Fr fm_m153_6v4 M0 M104 := hF36.tr hQ106 rfl
          obtain ⟨v112, e113⟩ : ∃ v, M104 6 4 = v := ⟨_, rfl⟩
          have h114 := bf_6_4 hP105; rw [e113] at h114
          refine wk_cv3 r153_79 kc_6_171 rfl (m171_6 _ M104 46 v109 v112 hP105 (by decide) (by decide) (by omega) (by omega) e113 (by omega) (by omega) (by omega)) (cqI ?_)
          rintro v120 M115 ⟨hP116, hQ117, h121, h122, h119⟩
          have hF118 : Fr fm_m153_6v4 M0 M115 := hF107.tr hQ117 rfl
          have e123 := ((hQ117.at g_6_4 rfl).trans e113)
          subst hQ; exact wk_zret r153_82 ⟨by omega, by omega⟩ (⟨rfl, _, rfl, hP116, hF118, by omega, by omega, by have := ((hQ117.at g_6_4 rfl).trans e113); omega⟩)
      · intro h124
        refine wk_al0 r153_47 (wk_c2 r153_48 (wk_al0 r153_50 (wk_c1 r153_51 (wk_c2 r153_52 (wk_cv3 r153_54 kc_6_167 rfl (m167_6v1 _ M25 0 6 hP26 (by decide) (by decide) (by decide) (by decide)) (cqI ?_))))))
        rintro v130 M125 ⟨hP126, hQ127, h131, h132, h129⟩
        have hF128 : Fr fm_m153_6v4 M0 M125 := hF28.tr hQ127 rfl
        obtain ⟨v133, e134⟩ : ∃ v, M125 6 4 = v := ⟨_, rfl⟩
        have h135 := bf_6_4 hP126; rw [e134] at h135
        refine wk_cv3 r153_57 kc_6_171 rfl (m171_6v1 _ M125 39 v130 v133 hP126 (by decide) (by decide) (by omega) (by omega) e134 (by omega) (by omega) (by omega)) (cqI ?_)
        rintro v141 M136 ⟨hP137, hQ138, h142, h143, h140⟩
        have hF139 : Fr fm_m153_6v4 M0 M136 := hF128.tr hQ138 rfl
        have e144 := ((hQ138.at g_6_4 rfl).trans e134)
        subst hQ; exact wk_zret r153_60 ⟨by omega, by omega⟩ (⟨rfl, _, rfl, hP137, hF139, by omega, by omega, by have := ((hQ138.at g_6_4 rfl).trans e134); omega⟩)
    · intro h145
      refine wk_al0 r153_25 (wk_c2 r153_26 (wk_al0 r153_28 (wk_c1 r153_29 (wk_c1 r153_30 (wk_cv3 r153_31 kc_6_167 rfl (m167_6v5 _ M17 0 3 hP18 (by decide) (by decide) (by decide) (by decide)) (cqI ?_))))))
      rintro v151 M146 ⟨hP147, hQ148, h152, h153, h150⟩
      have hF149 : Fr fm_m153_6v4 M0 M146 := hF20.tr hQ148 rfl
      obtain ⟨v154, e155⟩ : ∃ v, M146 6 4 = v := ⟨_, rfl⟩
      have h156 := bf_6_4 hP147; rw [e155] at h156
      refine wk_cv3 r153_34 kc_6_171 rfl (m171_6v2 _ M146 35 v151 v154 hP147 (by decide) (by decide) (by omega) (by omega) e155 (by omega) (by omega) (by omega)) (cqI ?_)
      rintro v162 M157 ⟨hP158, hQ159, h163, h164, h161⟩
      have hF160 : Fr fm_m153_6v4 M0 M157 := hF149.tr hQ159 rfl
      have e165 := ((hQ159.at g_6_4 rfl).trans e155)
      subst hQ; exact wk_zret r153_37 ⟨by omega, by omega⟩ (⟨rfl, _, rfl, hP158, hF160, by omega, by omega, by have := ((hQ159.at g_6_4 rfl).trans e155); omega⟩)
  · intro h166
    refine wk_al0 r153_10 (wk_il1 r153_11 (wk_cv2 r153_12 kc_6_152 rfl (m152_6v4 _ M0 p1 hP0 (by omega) (by omega)) (cqI ?_)))
    rintro v172 M167 ⟨hP168, hQ169, h173, h174, h171⟩
    have hF170 : Fr fm_m153_6v4 M0 M167 := hF0.tr hQ169 rfl
    obtain ⟨v175, e176⟩ : ∃ v, M167 6 4 = v := ⟨_, rfl⟩
    have h177 := bf_6_4 hP168; rw [e176] at h177
    subst hQ; exact wk_zret r153_15 ⟨by omega, by omega⟩ (⟨rfl, _, rfl, hP168, hF170, by omega, by omega, by have := e176; omega⟩)
def fm_m166_6v4 : Nat := 3941070043873280
/-- IslandHall$Parser.negation -/
theorem m166_6v4 {B : eB} (d : Nat) (M0 : Mm) (p1 : Int) (hP0 : Pw M0) (l1 : 4 ≤ p1) (u1 : p1 ≤ 4) : Ct B (d + 14) 166 [R 6, I p1] M0 (qI fun z M => Pw M ∧ Fr fm_m166_6v4 M0 M ∧ 0 ≤ z ∧ z ≤ 1 ∧ 0 ≤ z + M 6 4 + (-1)) := by
  refine ct_of (d := d + 13) (k := 2) (L := [some (R 6), some (I p1), none, none]) rfl rfl rfl ?_
  have hF0 := Fr.rf fm_m166_6v4 M0
  generalize hQ : (qI fun z M => Pw M ∧ Fr fm_m166_6v4 M0 M ∧ 0 ≤ z ∧ z ≤ 1 ∧ 0 ≤ z + M 6 4 + (-1)) = Q
  refine wk_c1 r166_0 (wk_is2 r166_1 rfl ?_)
  have c2_658 : ∀ (k658 : Nat) (M562 : Mm) (v559 : Int), (6 - v559).toNat = k658 → Pw M562 → Fr fm_m166_6v4 M0 M562 → 0 ≤ v559 → v559 ≤ 6 → Wp B (d + 13) 166 2 [some (R 6), some (I p1), some (I v559), none] [] M562 Q := by
    refine lp_ind ?_
    intro k658 ih658 M562 v559 hk658 hP563 hF564 h560 h561
    refine wk_il2 r166_2 (wk_c2 r166_3 ?_)
    have c23_657 : ∀ (M576 : Mm), Pw M576 → Fr fm_m166_6v4 M0 M576 → Wp B (d + 13) 166 23 [some (R 6), some (I p1), some (I v559), none] [] M576 Q := by
      intro M576 hP577 hF578
      refine wk_al0 r166_23 (wk_getfr r166_24 fd_6_0 (br_6_0 hP577) (wk_c8 r166_27 (wk_cv2 r166_29 kc_9_239 rfl (m239_9 _ M576 4119 hP577 (by decide)) (cqI ?_))))
      rintro v584 M579 ⟨hP580, hQ581, h585, h586, xh583⟩
      obtain rfl := Fr.same hQ581
      refine wk_ifeq r166_32 ⟨by omega, by omega⟩ ?_ ?_
      · intro h587
        refine wk_al0 r166_41 (wk_getfr r166_42 fd_6_0 (br_6_0 hP577) (wk_c2 r166_45 (wk_cv2 r166_47 kc_9_238 rfl (m238_9v1 _ M576 40 hP577 (by decide) (by decide)) (cqI ?_))))
        rintro v592 M588 ⟨hP589, hQ590, h593, h594⟩
        obtain rfl := Fr.same hQ590
        have c66_644 : ∀ (M622 : Mm) (v619 : Int) (v625 : Int), Pw M622 → Fr fm_m166_6v4 M0 M622 → M622 6 4 = v625 → 0 ≤ v619 → v619 ≤ 1 → 0 ≤ v625 → v625 ≤ 6 → 1 ≤ v619 + v625 → Wp B (d + 13) 166 66 [some (R 6), none, some (I v559), none] [I v619] M622 Q := by
          intro M622 v619 v625 hP623 hF624 e628 h620 h621 h626 h627 h629
          refine wk_is3 r166_66 rfl (wk_il3 r166_67 ?_)
          refine wk_ifeq r166_68 ⟨by omega, by omega⟩ ?_ ?_
          · intro h630
            refine wk_c1 r166_90 ?_
            subst hQ; exact wk_zret r166_91 (by decide) (⟨rfl, _, rfl, hP623, hF624, by omega, by omega, by have := e628; omega⟩)
          · intro h631
            refine wk_il2 r166_71 (wk_c1 r166_72 (wk_iandc 1 2 r166_73 ⟨rfl, by decide⟩ rfl ?_))
            refine wk_ifeq r166_74 ⟨by omega, by omega⟩ ?_ ?_
            · intro h633
              refine wk_c1 r166_86 (wk_goto r166_87 ?_)
              subst hQ; exact wk_zret r166_91 (by decide) (⟨rfl, _, rfl, hP623, hF624, by omega, by omega, by have := e628; omega⟩)
            · intro h634
              refine wk_al0 r166_77 (wk_c1 r166_78 (wk_c1 r166_79 (wk_cv3 r166_80 kc_6_172 rfl (m172_6 _ M622 1 0 hP623 (by decide) (by decide) (by decide) (by decide) (by first | assumption | omega | (unfold stepok; omega))) (cqI ?_))))
              rintro v639 M635 ⟨hP636, hQ637, h640, h641⟩
              have hF638 : Fr fm_m166_6v4 M0 M635 := hF624.tr hQ637 rfl
              refine wk_ifeq r166_83 ⟨by omega, by omega⟩ ?_ ?_
              · intro h642
                exfalso
                omega
              · intro h643
                refine wk_c1 r166_86 (wk_goto r166_87 ?_)
                subst hQ; exact wk_zret r166_91 (by decide) (⟨rfl, _, rfl, hP636, hF638, by omega, by omega, by have := ((hQ637.at g_6_4 rfl).trans e628); omega⟩)
        refine wk_ifeq r166_50 ⟨by omega, by omega⟩ ?_ ?_
        · intro h595
          refine wk_al0 r166_61 (wk_il1 r166_62 (wk_cv2 r166_63 kc_6_153 rfl (m153_6v4 _ M576 p1 hP577 (by omega) (by omega)) (cqI ?_)))
          rintro v601 M596 ⟨hP597, hQ598, h602, h603, h600⟩
          have hF599 : Fr fm_m166_6v4 M0 M596 := hF578.tr hQ598 rfl
          obtain ⟨v604, e605⟩ : ∃ v, M596 6 4 = v := ⟨_, rfl⟩
          have h606 := bf_6_4 hP597; rw [e605] at h606
          exact wp_fg (le_s (le_n (le_s (le_s le_0)))) (c66_644 M596 v601 v604 hP597 hF599 e605 (by omega) (by omega) (by omega) (by omega) (by omega))
        · intro h607
          refine wk_al0 r166_53 (wk_il1 r166_54 (wk_cv2 r166_55 kc_6_168 rfl (m168_6v4 _ M576 p1 hP577 (by omega) (by omega)) (cqI ?_)))
          rintro v613 M608 ⟨hP609, hQ610, h614, h615, h612⟩
          have hF611 : Fr fm_m166_6v4 M0 M608 := hF578.tr hQ610 rfl
          obtain ⟨v616, e617⟩ : ∃ v, M608 6 4 = v := ⟨_, rfl⟩
          have h618 := bf_6_4 hP609; rw [e617] at h618
          refine wk_goto r166_58 ?_
          exact wp_fg (le_s (le_n (le_s (le_s le_0)))) (c66_644 M608 v613 v616 hP609 hF611 e617 (by omega) (by omega) (by omega) (by omega) (by omega))
      · intro h645
        refine wk_al0 r166_35 (wk_c1 r166_36 (wk_cv2 r166_37 kc_6_159 rfl (m159_6 _ M576 2 hP577 (by decide) (by decide)) (cqI ?_)))
        rintro v651 M646 ⟨hP647, hQ648, h652, h653, h650⟩
        have hF649 : Fr fm_m166_6v4 M0 M646 := hF578.tr hQ648 rfl
        obtain ⟨v654, e655⟩ : ∃ v, M646 6 4 = v := ⟨_, rfl⟩
        have h656 := bf_6_4 hP647; rw [e655] at h656
        subst hQ; exact wk_zret r166_40 ⟨by omega, by omega⟩ (⟨rfl, _, rfl, hP647, hF649, by omega, by omega, by have := e655; omega⟩)
    refine wk_icge r166_5 ⟨by omega, by omega⟩ (by decide) ?_ ?_
    · intro h565
      exact wp_fg (le_s (le_s (le_s (le_s le_0)))) (c23_657 M562 hP563 hF564)
    · intro h566
      refine wk_al0 r166_8 (wk_c8 r166_9 (wk_cv2 r166_11 kc_6_175 rfl (m175_6 _ M562 4119 hP563 (by decide)) (cqI ?_)))
      rintro v571 M567 ⟨hP568, hQ569, h572, h573⟩
      have hF570 : Fr fm_m166_6v4 M0 M567 := hF564.tr hQ569 rfl
      refine wk_ifeq r166_14 ⟨by omega, by omega⟩ ?_ ?_
      · intro h574
        exact wp_fg (le_s (le_s (le_s (le_s le_0)))) (c23_657 M567 hP568 hF570)
      · intro h575
        refine wk_inc2 r166_17 rfl (wk_goto r166_20 ?_)
        exact wp_fg (le_s (le_s (le_s (le_s le_0)))) (ih658 (6 - (v559 + 1)).toNat (by omega) M567 (v559 + 1) rfl hP568 hF570 (by omega) (by omega))
  exact wp_fg (le_s (le_s (le_s (le_s le_0)))) (c2_658 _ M0 0 rfl hP0 hF0 (by omega) (by omega))
def fm_m157_6v4 : Nat := 3941070043873280
/-- IslandHall$Parser.conjunction -/
theorem m157_6v4 {B : eB} (d : Nat) (M0 : Mm) (p1 : Int) (hP0 : Pw M0) (l1 : 4 ≤ p1) (u1 : p1 ≤ 4) : Ct B (d + 15) 157 [R 6, I p1] M0 (qI fun z M => Pw M ∧ Fr fm_m157_6v4 M0 M ∧ 0 ≤ z ∧ z ≤ 1 ∧ 0 ≤ z + M 6 4 + (-1)) := by
  refine ct_of (d := d + 14) (k := 1) (L := [some (R 6), some (I p1), none]) rfl rfl rfl ?_
  have hF0 := Fr.rf fm_m157_6v4 M0
  generalize hQ : (qI fun z M => Pw M ∧ Fr fm_m157_6v4 M0 M ∧ 0 ≤ z ∧ z ≤ 1 ∧ 0 ≤ z + M 6 4 + (-1)) = Q
  refine wk_al0 r157_0 (wk_il1 r157_1 (wk_cv2 r157_2 kc_6_166 rfl (m166_6v4 _ M0 p1 hP0 (by omega) (by omega)) (cqI ?_)))
  rintro v6 M1 ⟨hP2, hQ3, h7, h8, h5⟩
  have hF4 : Fr fm_m157_6v4 M0 M1 := hF0.tr hQ3 rfl
  obtain ⟨v9, e10⟩ : ∃ v, M1 6 4 = v := ⟨_, rfl⟩
  have h11 := bf_6_4 hP2; rw [e10] at h11
  refine wk_ifne r157_5 ⟨by omega, by omega⟩ ?_ ?_
  · intro h12
    refine wk_c1 r157_10 (wk_is2 r157_11 rfl ?_)
    have c12_442 : ∀ (k442 : Nat) (M401 : Mm) (v398 : Int) (v404 : Int), (500 - v398).toNat = k442 → Pw M401 → Fr fm_m157_6v4 M0 M401 → M401 6 4 = v404 → 0 ≤ v398 → v398 ≤ 500 → 0 ≤ v404 → v404 ≤ 6 → 0 ≤ (-1) * v404 + v398 + 6 → Wp B (d + 14) 157 12 [some (R 6), some (I p1), some (I v398)] [] M401 Q := by
      refine lp_ind ?_
      intro k442 ih442 M401 v398 v404 hk442 hP402 hF403 e407 h399 h400 h405 h406 h408
      refine wk_il2 r157_12 (wk_c3 r157_13 ?_)
      refine wk_icge r157_16 ⟨by omega, by omega⟩ (by decide) ?_ ?_
      · intro h409
        refine wk_c1 r157_53 ?_
        subst hQ; exact wk_zret r157_54 (by decide) (⟨rfl, _, rfl, hP402, hF403, by omega, by omega, by have := e407; omega⟩)
      · intro h410
        refine wk_al0 r157_19 (wk_c8 r157_20 (wk_cv2 r157_22 kc_6_175 rfl (m175_6 _ M401 4125 hP402 (by decide)) (cqI ?_)))
        rintro v415 M411 ⟨hP412, hQ413, h416, h417⟩
        have hF414 : Fr fm_m157_6v4 M0 M411 := hF403.tr hQ413 rfl
        refine wk_ifeq r157_25 ⟨by omega, by omega⟩ ?_ ?_
        · intro h418
          refine wk_c1 r157_53 ?_
          subst hQ; exact wk_zret r157_54 (by decide) (⟨rfl, _, rfl, hP412, hF414, by omega, by omega, by have := ((hQ413.at g_6_4 rfl).trans e407); omega⟩)
        · intro h419
          refine wk_al0 r157_28 (wk_il1 r157_29 (wk_cv2 r157_30 kc_6_166 rfl (m166_6v4 _ M411 p1 hP412 (by omega) (by omega)) (cqI ?_)))
          rintro v425 M420 ⟨hP421, hQ422, h426, h427, h424⟩
          have hF423 : Fr fm_m157_6v4 M0 M420 := hF414.tr hQ422 rfl
          obtain ⟨v428, e429⟩ : ∃ v, M420 6 4 = v := ⟨_, rfl⟩
          have h430 := bf_6_4 hP421; rw [e429] at h430
          refine wk_ifeq r157_33 ⟨by omega, by omega⟩ ?_ ?_
          · intro h431
            refine wk_c1 r157_45 ?_
            subst hQ; exact wk_zret r157_46 (by decide) (⟨rfl, _, rfl, hP421, hF423, by omega, by omega, by have := e429; omega⟩)
          · intro h432
            refine wk_al0 r157_36 (wk_c1 r157_37 (wk_c1 r157_38 (wk_cv3 r157_39 kc_6_172 rfl (m172_6 _ M420 2 0 hP421 (by decide) (by decide) (by decide) (by decide) (by first | assumption | omega | (unfold stepok; omega))) (cqI ?_))))
            rintro v437 M433 ⟨hP434, hQ435, h438, h439⟩
            have hF436 : Fr fm_m157_6v4 M0 M433 := hF423.tr hQ435 rfl
            refine wk_ifne r157_42 ⟨by omega, by omega⟩ ?_ ?_
            · intro h440
              refine wk_inc2 r157_47 rfl (wk_goto r157_50 ?_)
              exact wp_fg (le_s (le_s (le_s le_0))) (ih442 (500 - (v398 + 1)).toNat (by omega) M433 (v398 + 1) v428 rfl hP434 hF436 ((hQ435.at g_6_4 rfl).trans e429) (by omega) (by omega) (by omega) (by omega) (by omega))
            · intro h441
              exfalso
              omega
    exact wp_fg (le_s (le_s (le_s le_0))) (c12_442 _ M1 0 v9 rfl hP2 hF4 e10 (by omega) (by omega) (by omega) (by omega) (by omega))
  · intro h443
    refine wk_c1 r157_8 ?_
    subst hQ; exact wk_zret r157_9 (by decide) (⟨rfl, _, rfl, hP2, hF4, by omega, by omega, by have := e10; omega⟩)
def fm_m158_6v4 : Nat := 3941070043873280
/-- IslandHall$Parser.expr -/
theorem m158_6v4 {B : eB} (d : Nat) (M0 : Mm) (p1 : Int) (hP0 : Pw M0) (l1 : 4 ≤ p1) (u1 : p1 ≤ 4) : Ct B (d + 16) 158 [R 6, I p1] M0 (qI fun z M => Pw M ∧ Fr fm_m158_6v4 M0 M ∧ 0 ≤ z ∧ z ≤ 1 ∧ 0 ≤ z + M 6 4 + (-1)) := by
  refine ct_of (d := d + 15) (k := 1) (L := [some (R 6), some (I p1), none]) rfl rfl rfl ?_
  have hF0 := Fr.rf fm_m158_6v4 M0
  generalize hQ : (qI fun z M => Pw M ∧ Fr fm_m158_6v4 M0 M ∧ 0 ≤ z ∧ z ≤ 1 ∧ 0 ≤ z + M 6 4 + (-1)) = Q
  refine wk_al0 r158_0 (wk_cv1 r158_1 kc_6_155 rfl (m155_6 _ M0 hP0) (cqI ?_))
  rintro v5 M1 ⟨hP2, hQ3, h6, h7⟩
  obtain rfl := Fr.same hQ3
  refine wk_ifne r158_4 ⟨by omega, by omega⟩ ?_ ?_
  · intro h8
    refine wk_il1 r158_13 (wk_c2 r158_14 ?_)
    refine wk_iclt r158_16 ⟨by omega, by omega⟩ (by decide) ?_ ?_
    · intro h9
      refine wk_al0 r158_25 (wk_il1 r158_26 (wk_cv2 r158_27 kc_6_157 rfl (m157_6v4 _ M0 p1 hP0 (by omega) (by omega)) (cqI ?_)))
      rintro v15 M10 ⟨hP11, hQ12, h16, h17, h14⟩
      have hF13 : Fr fm_m158_6v4 M0 M10 := hF0.tr hQ12 rfl
      obtain ⟨v18, e19⟩ : ∃ v, M10 6 4 = v := ⟨_, rfl⟩
      have h20 := bf_6_4 hP11; rw [e19] at h20
      refine wk_ifne r158_30 ⟨by omega, by omega⟩ ?_ ?_
      · intro h21
        refine wk_c1 r158_35 (wk_is2 r158_36 rfl ?_)
        have c37_451 : ∀ (k451 : Nat) (M410 : Mm) (v407 : Int) (v413 : Int), (500 - v407).toNat = k451 → Pw M410 → Fr fm_m158_6v4 M0 M410 → M410 6 4 = v413 → 0 ≤ v407 → v407 ≤ 500 → 0 ≤ v413 → v413 ≤ 6 → 0 ≤ (-1) * v413 + v407 + 6 → Wp B (d + 15) 158 37 [some (R 6), some (I p1), some (I v407)] [] M410 Q := by
          refine lp_ind ?_
          intro k451 ih451 M410 v407 v413 hk451 hP411 hF412 e416 h408 h409 h414 h415 h417
          refine wk_il2 r158_37 (wk_c3 r158_38 ?_)
          refine wk_icge r158_41 ⟨by omega, by omega⟩ (by decide) ?_ ?_
          · intro h418
            refine wk_c1 r158_78 ?_
            subst hQ; exact wk_zret r158_79 (by decide) (⟨rfl, _, rfl, hP411, hF412, by omega, by omega, by have := e416; omega⟩)
          · intro h419
            refine wk_al0 r158_44 (wk_c8 r158_45 (wk_cv2 r158_47 kc_6_175 rfl (m175_6 _ M410 4126 hP411 (by decide)) (cqI ?_)))
            rintro v424 M420 ⟨hP421, hQ422, h425, h426⟩
            have hF423 : Fr fm_m158_6v4 M0 M420 := hF412.tr hQ422 rfl
            refine wk_ifeq r158_50 ⟨by omega, by omega⟩ ?_ ?_
            · intro h427
              refine wk_c1 r158_78 ?_
              subst hQ; exact wk_zret r158_79 (by decide) (⟨rfl, _, rfl, hP421, hF423, by omega, by omega, by have := ((hQ422.at g_6_4 rfl).trans e416); omega⟩)
            · intro h428
              refine wk_al0 r158_53 (wk_il1 r158_54 (wk_cv2 r158_55 kc_6_157 rfl (m157_6v4 _ M420 p1 hP421 (by omega) (by omega)) (cqI ?_)))
              rintro v434 M429 ⟨hP430, hQ431, h435, h436, h433⟩
              have hF432 : Fr fm_m158_6v4 M0 M429 := hF423.tr hQ431 rfl
              obtain ⟨v437, e438⟩ : ∃ v, M429 6 4 = v := ⟨_, rfl⟩
              have h439 := bf_6_4 hP430; rw [e438] at h439
              refine wk_ifeq r158_58 ⟨by omega, by omega⟩ ?_ ?_
              · intro h440
                refine wk_c1 r158_70 ?_
                subst hQ; exact wk_zret r158_71 (by decide) (⟨rfl, _, rfl, hP430, hF432, by omega, by omega, by have := e438; omega⟩)
              · intro h441
                refine wk_al0 r158_61 (wk_c1 r158_62 (wk_c1 r158_63 (wk_cv3 r158_64 kc_6_172 rfl (m172_6 _ M429 3 0 hP430 (by decide) (by decide) (by decide) (by decide) (by first | assumption | omega | (unfold stepok; omega))) (cqI ?_))))
                rintro v446 M442 ⟨hP443, hQ444, h447, h448⟩
                have hF445 : Fr fm_m158_6v4 M0 M442 := hF432.tr hQ444 rfl
                refine wk_ifne r158_67 ⟨by omega, by omega⟩ ?_ ?_
                · intro h449
                  refine wk_inc2 r158_72 rfl (wk_goto r158_75 ?_)
                  exact wp_fg (le_s (le_s (le_s le_0))) (ih451 (500 - (v407 + 1)).toNat (by omega) M442 (v407 + 1) v437 rfl hP443 hF445 ((hQ444.at g_6_4 rfl).trans e438) (by omega) (by omega) (by omega) (by omega) (by omega))
                · intro h450
                  exfalso
                  omega
        exact wp_fg (le_s (le_s (le_s le_0))) (c37_451 _ M10 0 v18 rfl hP11 hF13 e19 (by omega) (by omega) (by omega) (by omega) (by omega))
      · intro h452
        refine wk_c1 r158_33 ?_
        subst hQ; exact wk_zret r158_34 (by decide) (⟨rfl, _, rfl, hP11, hF13, by omega, by omega, by have := e19; omega⟩)
    · intro h453
      exfalso
      omega
  · intro h454
    refine wk_al0 r158_7 (wk_c1 r158_8 (wk_cv2 r158_9 kc_6_159 rfl (m159_6v1 _ M0 1 hP0 (by decide) (by decide)) (cqI ?_)))
    rintro v460 M455 ⟨hP456, hQ457, h461, h462, h459⟩
    have hF458 : Fr fm_m158_6v4 M0 M455 := hF0.tr hQ457 rfl
    obtain ⟨v463, e464⟩ : ∃ v, M455 6 4 = v := ⟨_, rfl⟩
    have h465 := bf_6_4 hP456; rw [e464] at h465
    subst hQ; exact wk_zret r158_12 ⟨by omega, by omega⟩ (⟨rfl, _, rfl, hP456, hF458, by omega, by omega, by have := e464; omega⟩)
def fm_m168_6v3 : Nat := 3941070043873280
/-- IslandHall$Parser.parenthesis -/
theorem m168_6v3 {B : eB} (d : Nat) (M0 : Mm) (p1 : Int) (hP0 : Pw M0) (l1 : 3 ≤ p1) (u1 : p1 ≤ 3) : Ct B (d + 17) 168 [R 6, I p1] M0 (qI fun z M => Pw M ∧ Fr fm_m168_6v3 M0 M ∧ 0 ≤ z ∧ z ≤ 1 ∧ 0 ≤ z + M 6 4 + (-1)) := by
  refine ct_of (d := d + 16) (k := 0) (L := [some (R 6), some (I p1)]) rfl rfl rfl ?_
  have hF0 := Fr.rf fm_m168_6v3 M0
  generalize hQ : (qI fun z M => Pw M ∧ Fr fm_m168_6v3 M0 M ∧ 0 ≤ z ∧ z ≤ 1 ∧ 0 ≤ z + M 6 4 + (-1)) = Q
  refine wk_al0 r168_0 (wk_c2 r168_1 (wk_cv2 r168_3 kc_6_174 rfl (m174_6v1 _ M0 40 hP0 (by decide) (by decide)) (cqI ?_)))
  rintro v6 M1 ⟨hP2, hQ3, h7, h8, h5⟩
  have hF4 : Fr fm_m168_6v3 M0 M1 := hF0.tr hQ3 rfl
  obtain ⟨v9, e10⟩ : ∃ v, M1 6 4 = v := ⟨_, rfl⟩
  have h11 := bf_6_4 hP2; rw [e10] at h11
  refine wk_ifeq r168_6 ⟨by omega, by omega⟩ ?_ ?_
  · intro h12
    refine wk_c1 r168_32 ?_
    subst hQ; exact wk_zret r168_33 (by decide) (⟨rfl, _, rfl, hP2, hF4, by omega, by omega, by have := e10; omega⟩)
  · intro h13
    refine wk_al0 r168_9 (wk_il1 r168_10 (wk_c1 r168_11 (wk_iadd r168_12 (wk_cv2 r168_13 kc_6_158 rfl (m158_6v4 _ M1 (p1 + 1) hP2 (by omega) (by omega)) (cqI ?_)))))
    rintro v19 M14 ⟨hP15, hQ16, h20, h21, h18⟩
    have hF17 : Fr fm_m168_6v3 M0 M14 := hF4.tr hQ16 rfl
    obtain ⟨v22, e23⟩ : ∃ v, M14 6 4 = v := ⟨_, rfl⟩
    have h24 := bf_6_4 hP15; rw [e23] at h24
    refine wk_ifeq r168_16 ⟨by omega, by omega⟩ ?_ ?_
    · intro h25
      refine wk_c1 r168_32 ?_
      subst hQ; exact wk_zret r168_33 (by decide) (⟨rfl, _, rfl, hP15, hF17, by omega, by omega, by have := e23; omega⟩)
    · intro h26
      refine wk_al0 r168_19 (wk_c2 r168_20 (wk_cv2 r168_22 kc_6_174 rfl (m174_6v1 _ M14 41 hP15 (by decide) (by decide)) (cqI ?_)))
      rintro v32 M27 ⟨hP28, hQ29, h33, h34, h31⟩
      have hF30 : Fr fm_m168_6v3 M0 M27 := hF17.tr hQ29 rfl
      obtain ⟨v35, e36⟩ : ∃ v, M27 6 4 = v := ⟨_, rfl⟩
      have h37 := bf_6_4 hP28; rw [e36] at h37
      refine wk_ifeq r168_25 ⟨by omega, by omega⟩ ?_ ?_
      · intro h38
        refine wk_c1 r168_32 ?_
        subst hQ; exact wk_zret r168_33 (by decide) (⟨rfl, _, rfl, hP28, hF30, by omega, by omega, by have := e36; omega⟩)
      · intro h39
        refine wk_c1 r168_28 (wk_goto r168_29 ?_)
        subst hQ; exact wk_zret r168_33 (by decide) (⟨rfl, _, rfl, hP28, hF30, by omega, by omega, by have := e36; omega⟩)
def fm_m152_6v3 : Nat := 3941070043873280
/-- IslandHall$Parser.aboutSomeone -/
theorem m152_6v3 {B : eB} (d : Nat) (M0 : Mm) (p1 : Int) (hP0 : Pw M0) (l1 : 3 ≤ p1) (u1 : p1 ≤ 3) : Ct B (d + 18) 152 [R 6, I p1] M0 (qI fun z M => Pw M ∧ Fr fm_m152_6v3 M0 M ∧ 0 ≤ z ∧ z ≤ 1 ∧ 0 ≤ z + M 6 4 + (-1)) := by
  refine ct_of (d := d + 17) (k := 2) (L := [some (R 6), some (I p1), none, none]) rfl rfl rfl ?_
  have hF0 := Fr.rf fm_m152_6v3 M0
  generalize hQ : (qI fun z M => Pw M ∧ Fr fm_m152_6v3 M0 M ∧ 0 ≤ z ∧ z ≤ 1 ∧ 0 ≤ z + M 6 4 + (-1)) = Q
  refine wk_al0 r152_0 (wk_cv1 r152_1 kc_6_165 rfl (m165_6 _ M0 hP0) (cqI ?_))
  rintro v6 M1 ⟨hP2, hQ3, h7, h8, h5⟩
  have hF4 : Fr fm_m152_6v3 M0 M1 := hF0.tr hQ3 rfl
  obtain ⟨v9, e10⟩ : ∃ v, M1 6 4 = v := ⟨_, rfl⟩
  have h11 := bf_6_4 hP2; rw [e10] at h11
  refine wk_is2 r152_4 rfl (wk_il2 r152_5 (wk_c1 r152_6 ?_))
  refine wk_icne r152_7 ⟨by omega, by omega⟩ (by decide) ?_ ?_
  · intro h12
    refine wk_al0 r152_12 (wk_c8 r152_13 (wk_cv2 r152_15 kc_6_175 rfl (m175_6 _ M1 4111 hP2 (by decide)) (cqI ?_)))
    rintro v17 M13 ⟨hP14, hQ15, h18, h19⟩
    have hF16 : Fr fm_m152_6v3 M0 M13 := hF4.tr hQ15 rfl
    refine wk_ifeq r152_18 ⟨by omega, by omega⟩ ?_ ?_
    · intro h20
      refine wk_al0 r152_35 (wk_c8 r152_36 (wk_cv2 r152_38 kc_6_175 rfl (m175_6 _ M13 4112 hP14 (by decide)) (cqI ?_)))
      rintro v25 M21 ⟨hP22, hQ23, h26, h27⟩
      have hF24 : Fr fm_m152_6v3 M0 M21 := hF16.tr hQ23 rfl
      refine wk_ifeq r152_41 ⟨by omega, by omega⟩ ?_ ?_
      · intro h28
        refine wk_al0 r152_73 (wk_c8 r152_74 (wk_cv2 r152_76 kc_6_175 rfl (m175_6 _ M21 4113 hP22 (by decide)) (cqI ?_)))
        rintro v33 M29 ⟨hP30, hQ31, h34, h35⟩
        have hF32 : Fr fm_m152_6v3 M0 M29 := hF24.tr hQ31 rfl
        refine wk_ifne r152_79 ⟨by omega, by omega⟩ ?_ ?_
        · intro h36
          refine wk_al0 r152_88 (wk_il1 r152_89 (wk_cv2 r152_90 kc_6_168 rfl (m168_6v3 _ M29 p1 hP30 (by omega) (by omega)) (cqI ?_)))
          rintro v42 M37 ⟨hP38, hQ39, h43, h44, h41⟩
          have hF40 : Fr fm_m152_6v3 M0 M37 := hF32.tr hQ39 rfl
          obtain ⟨v45, e46⟩ : ∃ v, M37 6 4 = v := ⟨_, rfl⟩
          have h47 := bf_6_4 hP38; rw [e46] at h47
          refine wk_ifne r152_93 ⟨by omega, by omega⟩ ?_ ?_
          · intro h48
            refine wk_al0 r152_98 ?_
            obtain ⟨v49, e50⟩ : ∃ v, M37 6 2 = v := ⟨_, rfl⟩
            have hC51 : isC v49 := by have := pcE hP38; rw [e50] at this; exact this
            refine wk_getfr r152_99 fd_6_2 e50 (wk_il2 r152_102 (wk_cv2 r152_103 (kcC_139 hC51) rfl (m139 _ M37 v49 v6 hP38 hC51 (by omega) (by omega)) (cqV ?_)))
            rintro M52 ⟨hP53, hQ54⟩
            have hF55 : Fr fm_m152_6v3 M0 M52 := hF40.tr hQ54 rfl
            refine wk_c1 r152_106 ?_
            subst hQ; exact wk_zret r152_107 (by decide) (⟨rfl, _, rfl, hP53, hF55, by omega, by omega, by have := ((hQ54.at g_6_4 rfl).trans e46); omega⟩)
          · intro h56
            refine wk_c1 r152_96 ?_
            subst hQ; exact wk_zret r152_97 (by decide) (⟨rfl, _, rfl, hP38, hF40, by omega, by omega, by have := e46; omega⟩)
        · intro h57
          refine wk_al0 r152_82 (wk_c1 r152_83 (wk_cv2 r152_84 kc_6_159 rfl (m159_6v1 _ M29 1 hP30 (by decide) (by decide)) (cqI ?_)))
          rintro v63 M58 ⟨hP59, hQ60, h64, h65, h62⟩
          have hF61 : Fr fm_m152_6v3 M0 M58 := hF32.tr hQ60 rfl
          obtain ⟨v66, e67⟩ : ∃ v, M58 6 4 = v := ⟨_, rfl⟩
          have h68 := bf_6_4 hP59; rw [e67] at h68
          subst hQ; exact wk_zret r152_87 ⟨by omega, by omega⟩ (⟨rfl, _, rfl, hP59, hF61, by omega, by omega, by have := e67; omega⟩)
      · intro h69
        refine wk_al0 r152_44 (wk_cv1 r152_45 kc_6_165 rfl (m165_6 _ M21 hP22) (cqI ?_))
        rintro v75 M70 ⟨hP71, hQ72, h76, h77, h74⟩
        have hF73 : Fr fm_m152_6v3 M0 M70 := hF24.tr hQ72 rfl
        obtain ⟨v78, e79⟩ : ∃ v, M70 6 4 = v := ⟨_, rfl⟩
        have h80 := bf_6_4 hP71; rw [e79] at h80
        refine wk_is3 r152_48 rfl (wk_il3 r152_49 (wk_c1 r152_50 ?_))
        refine wk_iceq r152_51 ⟨by omega, by omega⟩ (by decide) ?_ ?_
        · intro h81
          refine wk_c1 r152_71 ?_
          subst hQ; exact wk_zret r152_72 (by decide) (⟨rfl, _, rfl, hP71, hF73, by omega, by omega, by have := e79; omega⟩)
        · intro h82
          refine wk_al0 r152_54 (wk_c1 r152_55 (wk_il2 r152_56 (wk_c1 r152_57 (wk_ishlc r152_58 (by decide) pwl_3 (wk_il3 r152_59 (wk_iord2 3 8 r152_60 (by decide) ⟨by omega, by omega⟩ ⟨by omega, by omega, by omega⟩ (wk_cv3 r152_61 kc_6_172 rfl (m172_6 _ M70 5 ((v6 * 8) + v75) hP71 (by decide) (by decide) (by omega) (by omega) (by first | assumption | omega | (unfold stepok; omega))) (cqI ?_))))))))
          rintro v87 M83 ⟨hP84, hQ85, h88, h89⟩
          have hF86 : Fr fm_m152_6v3 M0 M83 := hF73.tr hQ85 rfl
          refine wk_ifeq r152_64 ⟨by omega, by omega⟩ ?_ ?_
          · intro h90
            exfalso
            omega
          · intro h91
            refine wk_c1 r152_67 (wk_goto r152_68 ?_)
            subst hQ; exact wk_zret r152_72 (by decide) (⟨rfl, _, rfl, hP84, hF86, by omega, by omega, by have := ((hQ85.at g_6_4 rfl).trans e79); omega⟩)
    · intro h92
      refine wk_al0 r152_21 (wk_c1 r152_22 (wk_il2 r152_23 (wk_c1 r152_24 (wk_imul r152_25 (wk_iadd r152_26 (wk_al0 r152_27 (wk_cv1 r152_28 kc_6_173 rfl (m173_6 _ M13 hP14) (cqI ?_))))))))
      rintro v98 M93 ⟨hP94, hQ95, h99, h100, h97⟩
      have hF96 : Fr fm_m152_6v3 M0 M93 := hF16.tr hQ95 rfl
      obtain ⟨v101, e102⟩ : ∃ v, M93 6 4 = v := ⟨_, rfl⟩
      have h103 := bf_6_4 hP94; rw [e102] at h103
      refine wk_cv3 r152_31 kc_6_171 rfl (m171_6v3 _ M93 (0 + (v6 * 5)) v98 v101 hP94 (by omega) (by omega) (by omega) (by omega) e102 (by omega) (by omega) (by omega)) (cqI ?_)
      rintro v109 M104 ⟨hP105, hQ106, h110, h111, h108⟩
      have hF107 : Fr fm_m152_6v3 M0 M104 := hF96.tr hQ106 rfl
      have e112 := ((hQ106.at g_6_4 rfl).trans e102)
      subst hQ; exact wk_zret r152_34 ⟨by omega, by omega⟩ (⟨rfl, _, rfl, hP105, hF107, by omega, by omega, by have := ((hQ106.at g_6_4 rfl).trans e102); omega⟩)
  · intro h113
    refine wk_c1 r152_10 ?_
    subst hQ; exact wk_zret r152_11 (by decide) (⟨rfl, _, rfl, hP2, hF4, by omega, by omega, by have := e10; omega⟩)
def fm_m153_6v3 : Nat := 3941070043873280
/-- IslandHall$Parser.atom -/
theorem m153_6v3 {B : eB} (d : Nat) (M0 : Mm) (p1 : Int) (hP0 : Pw M0) (l1 : 3 ≤ p1) (u1 : p1 ≤ 3) : Ct B (d + 19) 153 [R 6, I p1] M0 (qI fun z M => Pw M ∧ Fr fm_m153_6v3 M0 M ∧ 0 ≤ z ∧ z ≤ 1 ∧ 0 ≤ z + M 6 4 + (-1)) := by
  refine ct_of (d := d + 18) (k := 0) (L := [some (R 6), some (I p1)]) rfl rfl rfl ?_
  have hF0 := Fr.rf fm_m153_6v3 M0
  generalize hQ : (qI fun z M => Pw M ∧ Fr fm_m153_6v3 M0 M ∧ 0 ≤ z ∧ z ≤ 1 ∧ 0 ≤ z + M 6 4 + (-1)) = Q
  refine wk_al0 r153_0 (wk_getfr r153_1 fd_6_0 (br_6_0 hP0) (wk_cv1 r153_4 kc_9_237 rfl (m237_9 _ M0 hP0) (cqI ?_)))
  rintro v7 M1 ⟨hP2, hQ3, h8, h9, h5, h6⟩
  obtain rfl := Fr.same hQ3
  obtain ⟨v10, e11⟩ : ∃ v, M0 9 2 = v := ⟨_, rfl⟩
  have h12 := bf_9_2 hP0; rw [e11] at h12
  obtain ⟨v13, e14⟩ : ∃ v, M0 9 3 = v := ⟨_, rfl⟩
  have h15 := bf_9_3 hP0; rw [e14] at h15
  refine wk_ifeq r153_7 ⟨by omega, by omega⟩ ?_ ?_
  · intro h16
    refine wk_al0 r153_16 (wk_c8 r153_17 (wk_cv2 r153_19 kc_6_175 rfl (m175_6 _ M0 4114 hP0 (by decide)) (cqI ?_)))
    rintro v21 M17 ⟨hP18, hQ19, h22, h23⟩
    have hF20 : Fr fm_m153_6v3 M0 M17 := hF0.tr hQ19 rfl
    refine wk_ifeq r153_22 ⟨by omega, by omega⟩ ?_ ?_
    · intro h24
      refine wk_al0 r153_38 (wk_c8 r153_39 (wk_cv2 r153_41 kc_6_175 rfl (m175_6 _ M17 4115 hP18 (by decide)) (cqI ?_)))
      rintro v29 M25 ⟨hP26, hQ27, h30, h31⟩
      have hF28 : Fr fm_m153_6v3 M0 M25 := hF20.tr hQ27 rfl
      refine wk_ifeq r153_44 ⟨by omega, by omega⟩ ?_ ?_
      · intro h32
        refine wk_al0 r153_61 (wk_c8 r153_62 (wk_cv2 r153_64 kc_6_175 rfl (m175_6 _ M25 4116 hP26 (by decide)) (cqI ?_)))
        rintro v37 M33 ⟨hP34, hQ35, h38, h39⟩
        have hF36 : Fr fm_m153_6v3 M0 M33 := hF28.tr hQ35 rfl
        refine wk_ifeq r153_67 ⟨by omega, by omega⟩ ?_ ?_
        · intro h40
          refine wk_al0 r153_83 (wk_c8 r153_84 (wk_cv2 r153_86 kc_6_175 rfl (m175_6 _ M33 4117 hP34 (by decide)) (cqI ?_)))
          rintro v45 M41 ⟨hP42, hQ43, h46, h47⟩
          have hF44 : Fr fm_m153_6v3 M0 M41 := hF36.tr hQ43 rfl
          refine wk_ifeq r153_89 ⟨by omega, by omega⟩ ?_ ?_
          · intro h48
            refine wk_al0 r153_97 (wk_c8 r153_98 (wk_cv2 r153_100 kc_6_175 rfl (m175_6 _ M41 4118 hP42 (by decide)) (cqI ?_)))
            rintro v53 M49 ⟨hP50, hQ51, h54, h55⟩
            have hF52 : Fr fm_m153_6v3 M0 M49 := hF44.tr hQ51 rfl
            refine wk_ifeq r153_103 ⟨by omega, by omega⟩ ?_ ?_
            · intro h56
              refine wk_al0 r153_117 (wk_c1 r153_118 (wk_cv2 r153_119 kc_6_159 rfl (m159_6v1 _ M49 1 hP50 (by decide) (by decide)) (cqI ?_)))
              rintro v62 M57 ⟨hP58, hQ59, h63, h64, h61⟩
              have hF60 : Fr fm_m153_6v3 M0 M57 := hF52.tr hQ59 rfl
              obtain ⟨v65, e66⟩ : ∃ v, M57 6 4 = v := ⟨_, rfl⟩
              have h67 := bf_6_4 hP58; rw [e66] at h67
              subst hQ; exact wk_zret r153_122 ⟨by omega, by omega⟩ (⟨rfl, _, rfl, hP58, hF60, by omega, by omega, by have := e66; omega⟩)
            · intro h68
              refine wk_al0 r153_106 (wk_al0 r153_107 (wk_cv1 r153_108 kc_6_173 rfl (m173_6 _ M49 hP50) (cqI ?_)))
              rintro v74 M69 ⟨hP70, hQ71, h75, h76, h73⟩
              have hF72 : Fr fm_m153_6v3 M0 M69 := hF52.tr hQ71 rfl
              obtain ⟨v77, e78⟩ : ∃ v, M69 6 4 = v := ⟨_, rfl⟩
              have h79 := bf_6_4 hP70; rw [e78] at h79
              refine wk_cv2 r153_111 kc_6_163 rfl (m163_6 _ M69 v74 v77 hP70 (by omega) (by omega) e78 (by omega) (by omega) (by omega)) (cqI ?_)
              rintro v85 M80 ⟨hP81, hQ82, h86, h87, h84⟩
              have hF83 : Fr fm_m153_6v3 M0 M80 := hF72.tr hQ82 rfl
              obtain ⟨v88, e89⟩ : ∃ v, M80 6 4 = v := ⟨_, rfl⟩
              have h90 := bf_6_4 hP81; rw [e89] at h90
              refine wk_goto r153_114 ?_
              subst hQ; exact wk_zret r153_122 ⟨by omega, by omega⟩ (⟨rfl, _, rfl, hP81, hF83, by omega, by omega, by have := e89; omega⟩)
          · intro h91
            refine wk_al0 r153_92 (wk_cv1 r153_93 kc_6_176 rfl (m176_6 _ M41 hP42) (cqI ?_))
            rintro v97 M92 ⟨hP93, hQ94, h98, h99, h96⟩
            have hF95 : Fr fm_m153_6v3 M0 M92 := hF44.tr hQ94 rfl
            obtain ⟨v100, e101⟩ : ∃ v, M92 6 4 = v := ⟨_, rfl⟩
            have h102 := bf_6_4 hP93; rw [e101] at h102
            subst hQ; exact wk_zret r153_96 ⟨by omega, by omega⟩ (⟨rfl, _, rfl, hP93, hF95, by omega, by omega, by have := e101; omega⟩)
        · intro h103
          refine wk_al0 r153_70 (wk_c2 r153_71 (wk_al0 r153_73 (wk_c1 r153_74 (wk_c1 r153_75 (wk_cv3 r153_76 kc_6_167 rfl (m167_6v4 _ M33 0 1 hP34 (by decide) (by decide) (by decide) (by decide)) (cqI ?_))))))
          rintro v109 M104 ⟨hP105, hQ106, h110, h111, h108⟩
          have hF107 : Fr fm_m153_6v3 M0 M104 := hF36.tr hQ106 rfl
          obtain ⟨v112, e113⟩ : ∃ v, M104 6 4 = v := ⟨_, rfl⟩
          have h114 := bf_6_4 hP105; rw [e113] at h114
          refine wk_cv3 r153_79 kc_6_171 rfl (m171_6 _ M104 46 v109 v112 hP105 (by decide) (by decide) (by omega) (by omega) e113 (by omega) (by omega) (by omega)) (cqI ?_)
          rintro v120 M115 ⟨hP116, hQ117, h121, h122, h119⟩
          have hF118 : Fr fm_m153_6v3 M0 M115 := hF107.tr hQ117 rfl
          have e123 := ((hQ117.at g_6_4 rfl).trans e113)
          subst hQ; exact wk_zret r153_82 ⟨by omega, by omega⟩ (⟨rfl, _, rfl, hP116, hF118, by omega, by omega, by have := ((hQ117.at g_6_4 rfl).trans e113); omega⟩)
      · intro h124
        refine wk_al0 r153_47 (wk_c2 r153_48 (wk_al0 r153_50 (wk_c1 r153_51 (wk_c2 r153_52 (wk_cv3 r153_54 kc_6_167 rfl (m167_6v1 _ M25 0 6 hP26 (by decide) (by decide) (by decide) (by decide)) (cqI ?_))))))
        rintro v130 M125 ⟨hP126, hQ127, h131, h132, h129⟩
        have hF128 : Fr fm_m153_6v3 M0 M125 := hF28.tr hQ127 rfl
        obtain ⟨v133, e134⟩ : ∃ v, M125 6 4 = v := ⟨_, rfl⟩
        have h135 := bf_6_4 hP126; rw [e134] at h135
        refine wk_cv3 r153_57 kc_6_171 rfl (m171_6v1 _ M125 39 v130 v133 hP126 (by decide) (by decide) (by omega) (by omega) e134 (by omega) (by omega) (by omega)) (cqI ?_)
        rintro v141 M136 ⟨hP137, hQ138, h142, h143, h140⟩
        have hF139 : Fr fm_m153_6v3 M0 M136 := hF128.tr hQ138 rfl
        have e144 := ((hQ138.at g_6_4 rfl).trans e134)
        subst hQ; exact wk_zret r153_60 ⟨by omega, by omega⟩ (⟨rfl, _, rfl, hP137, hF139, by omega, by omega, by have := ((hQ138.at g_6_4 rfl).trans e134); omega⟩)
    · intro h145
      refine wk_al0 r153_25 (wk_c2 r153_26 (wk_al0 r153_28 (wk_c1 r153_29 (wk_c1 r153_30 (wk_cv3 r153_31 kc_6_167 rfl (m167_6v5 _ M17 0 3 hP18 (by decide) (by decide) (by decide) (by decide)) (cqI ?_))))))
      rintro v151 M146 ⟨hP147, hQ148, h152, h153, h150⟩
      have hF149 : Fr fm_m153_6v3 M0 M146 := hF20.tr hQ148 rfl
      obtain ⟨v154, e155⟩ : ∃ v, M146 6 4 = v := ⟨_, rfl⟩
      have h156 := bf_6_4 hP147; rw [e155] at h156
      refine wk_cv3 r153_34 kc_6_171 rfl (m171_6v2 _ M146 35 v151 v154 hP147 (by decide) (by decide) (by omega) (by omega) e155 (by omega) (by omega) (by omega)) (cqI ?_)
      rintro v162 M157 ⟨hP158, hQ159, h163, h164, h161⟩
      have hF160 : Fr fm_m153_6v3 M0 M157 := hF149.tr hQ159 rfl
      have e165 := ((hQ159.at g_6_4 rfl).trans e155)
      subst hQ; exact wk_zret r153_37 ⟨by omega, by omega⟩ (⟨rfl, _, rfl, hP158, hF160, by omega, by omega, by have := ((hQ159.at g_6_4 rfl).trans e155); omega⟩)
  · intro h166
    refine wk_al0 r153_10 (wk_il1 r153_11 (wk_cv2 r153_12 kc_6_152 rfl (m152_6v3 _ M0 p1 hP0 (by omega) (by omega)) (cqI ?_)))
    rintro v172 M167 ⟨hP168, hQ169, h173, h174, h171⟩
    have hF170 : Fr fm_m153_6v3 M0 M167 := hF0.tr hQ169 rfl
    obtain ⟨v175, e176⟩ : ∃ v, M167 6 4 = v := ⟨_, rfl⟩
    have h177 := bf_6_4 hP168; rw [e176] at h177
    subst hQ; exact wk_zret r153_15 ⟨by omega, by omega⟩ (⟨rfl, _, rfl, hP168, hF170, by omega, by omega, by have := e176; omega⟩)
def fm_m166_6v3 : Nat := 3941070043873280
/-- IslandHall$Parser.negation -/
theorem m166_6v3 {B : eB} (d : Nat) (M0 : Mm) (p1 : Int) (hP0 : Pw M0) (l1 : 3 ≤ p1) (u1 : p1 ≤ 3) : Ct B (d + 20) 166 [R 6, I p1] M0 (qI fun z M => Pw M ∧ Fr fm_m166_6v3 M0 M ∧ 0 ≤ z ∧ z ≤ 1 ∧ 0 ≤ z + M 6 4 + (-1)) := by
  refine ct_of (d := d + 19) (k := 2) (L := [some (R 6), some (I p1), none, none]) rfl rfl rfl ?_
  have hF0 := Fr.rf fm_m166_6v3 M0
  generalize hQ : (qI fun z M => Pw M ∧ Fr fm_m166_6v3 M0 M ∧ 0 ≤ z ∧ z ≤ 1 ∧ 0 ≤ z + M 6 4 + (-1)) = Q
  refine wk_c1 r166_0 (wk_is2 r166_1 rfl ?_)
  have c2_658 : ∀ (k658 : Nat) (M562 : Mm) (v559 : Int), (6 - v559).toNat = k658 → Pw M562 → Fr fm_m166_6v3 M0 M562 → 0 ≤ v559 → v559 ≤ 6 → Wp B (d + 19) 166 2 [some (R 6), some (I p1), some (I v559), none] [] M562 Q := by
    refine lp_ind ?_
    intro k658 ih658 M562 v559 hk658 hP563 hF564 h560 h561
    refine wk_il2 r166_2 (wk_c2 r166_3 ?_)
    have c23_657 : ∀ (M576 : Mm), Pw M576 → Fr fm_m166_6v3 M0 M576 → Wp B (d + 19) 166 23 [some (R 6), some (I p1), some (I v559), none] [] M576 Q := by
      intro M576 hP577 hF578
      refine wk_al0 r166_23 (wk_getfr r166_24 fd_6_0 (br_6_0 hP577) (wk_c8 r166_27 (wk_cv2 r166_29 kc_9_239 rfl (m239_9 _ M576 4119 hP577 (by decide)) (cqI ?_))))
      rintro v584 M579 ⟨hP580, hQ581, h585, h586, xh583⟩
      obtain rfl := Fr.same hQ581
      refine wk_ifeq r166_32 ⟨by omega, by omega⟩ ?_ ?_
      · intro h587
        refine wk_al0 r166_41 (wk_getfr r166_42 fd_6_0 (br_6_0 hP577) (wk_c2 r166_45 (wk_cv2 r166_47 kc_9_238 rfl (m238_9v1 _ M576 40 hP577 (by decide) (by decide)) (cqI ?_))))
        rintro v592 M588 ⟨hP589, hQ590, h593, h594⟩
        obtain rfl := Fr.same hQ590
        have c66_644 : ∀ (M622 : Mm) (v619 : Int) (v625 : Int), Pw M622 → Fr fm_m166_6v3 M0 M622 → M622 6 4 = v625 → 0 ≤ v619 → v619 ≤ 1 → 0 ≤ v625 → v625 ≤ 6 → 1 ≤ v619 + v625 → Wp B (d + 19) 166 66 [some (R 6), none, some (I v559), none] [I v619] M622 Q := by
          intro M622 v619 v625 hP623 hF624 e628 h620 h621 h626 h627 h629
          refine wk_is3 r166_66 rfl (wk_il3 r166_67 ?_)
          refine wk_ifeq r166_68 ⟨by omega, by omega⟩ ?_ ?_
          · intro h630
            refine wk_c1 r166_90 ?_
            subst hQ; exact wk_zret r166_91 (by decide) (⟨rfl, _, rfl, hP623, hF624, by omega, by omega, by have := e628; omega⟩)
          · intro h631
            refine wk_il2 r166_71 (wk_c1 r166_72 (wk_iandc 1 2 r166_73 ⟨rfl, by decide⟩ rfl ?_))
            refine wk_ifeq r166_74 ⟨by omega, by omega⟩ ?_ ?_
            · intro h633
              refine wk_c1 r166_86 (wk_goto r166_87 ?_)
              subst hQ; exact wk_zret r166_91 (by decide) (⟨rfl, _, rfl, hP623, hF624, by omega, by omega, by have := e628; omega⟩)
            · intro h634
              refine wk_al0 r166_77 (wk_c1 r166_78 (wk_c1 r166_79 (wk_cv3 r166_80 kc_6_172 rfl (m172_6 _ M622 1 0 hP623 (by decide) (by decide) (by decide) (by decide) (by first | assumption | omega | (unfold stepok; omega))) (cqI ?_))))
              rintro v639 M635 ⟨hP636, hQ637, h640, h641⟩
              have hF638 : Fr fm_m166_6v3 M0 M635 := hF624.tr hQ637 rfl
              refine wk_ifeq r166_83 ⟨by omega, by omega⟩ ?_ ?_
              · intro h642
                exfalso
                omega
              · intro h643
                refine wk_c1 r166_86 (wk_goto r166_87 ?_)
                subst hQ; exact wk_zret r166_91 (by decide) (⟨rfl, _, rfl, hP636, hF638, by omega, by omega, by have := ((hQ637.at g_6_4 rfl).trans e628); omega⟩)
        refine wk_ifeq r166_50 ⟨by omega, by omega⟩ ?_ ?_
        · intro h595
          refine wk_al0 r166_61 (wk_il1 r166_62 (wk_cv2 r166_63 kc_6_153 rfl (m153_6v3 _ M576 p1 hP577 (by omega) (by omega)) (cqI ?_)))
          rintro v601 M596 ⟨hP597, hQ598, h602, h603, h600⟩
          have hF599 : Fr fm_m166_6v3 M0 M596 := hF578.tr hQ598 rfl
          obtain ⟨v604, e605⟩ : ∃ v, M596 6 4 = v := ⟨_, rfl⟩
          have h606 := bf_6_4 hP597; rw [e605] at h606
          exact wp_fg (le_s (le_n (le_s (le_s le_0)))) (c66_644 M596 v601 v604 hP597 hF599 e605 (by omega) (by omega) (by omega) (by omega) (by omega))
        · intro h607
          refine wk_al0 r166_53 (wk_il1 r166_54 (wk_cv2 r166_55 kc_6_168 rfl (m168_6v3 _ M576 p1 hP577 (by omega) (by omega)) (cqI ?_)))
          rintro v613 M608 ⟨hP609, hQ610, h614, h615, h612⟩
          have hF611 : Fr fm_m166_6v3 M0 M608 := hF578.tr hQ610 rfl
          obtain ⟨v616, e617⟩ : ∃ v, M608 6 4 = v := ⟨_, rfl⟩
          have h618 := bf_6_4 hP609; rw [e617] at h618
          refine wk_goto r166_58 ?_
          exact wp_fg (le_s (le_n (le_s (le_s le_0)))) (c66_644 M608 v613 v616 hP609 hF611 e617 (by omega) (by omega) (by omega) (by omega) (by omega))
      · intro h645
        refine wk_al0 r166_35 (wk_c1 r166_36 (wk_cv2 r166_37 kc_6_159 rfl (m159_6 _ M576 2 hP577 (by decide) (by decide)) (cqI ?_)))
        rintro v651 M646 ⟨hP647, hQ648, h652, h653, h650⟩
        have hF649 : Fr fm_m166_6v3 M0 M646 := hF578.tr hQ648 rfl
        obtain ⟨v654, e655⟩ : ∃ v, M646 6 4 = v := ⟨_, rfl⟩
        have h656 := bf_6_4 hP647; rw [e655] at h656
        subst hQ; exact wk_zret r166_40 ⟨by omega, by omega⟩ (⟨rfl, _, rfl, hP647, hF649, by omega, by omega, by have := e655; omega⟩)
    refine wk_icge r166_5 ⟨by omega, by omega⟩ (by decide) ?_ ?_
    · intro h565
      exact wp_fg (le_s (le_s (le_s (le_s le_0)))) (c23_657 M562 hP563 hF564)
    · intro h566
      refine wk_al0 r166_8 (wk_c8 r166_9 (wk_cv2 r166_11 kc_6_175 rfl (m175_6 _ M562 4119 hP563 (by decide)) (cqI ?_)))
      rintro v571 M567 ⟨hP568, hQ569, h572, h573⟩
      have hF570 : Fr fm_m166_6v3 M0 M567 := hF564.tr hQ569 rfl
      refine wk_ifeq r166_14 ⟨by omega, by omega⟩ ?_ ?_
      · intro h574
        exact wp_fg (le_s (le_s (le_s (le_s le_0)))) (c23_657 M567 hP568 hF570)
      · intro h575
        refine wk_inc2 r166_17 rfl (wk_goto r166_20 ?_)
        exact wp_fg (le_s (le_s (le_s (le_s le_0)))) (ih658 (6 - (v559 + 1)).toNat (by omega) M567 (v559 + 1) rfl hP568 hF570 (by omega) (by omega))
  exact wp_fg (le_s (le_s (le_s (le_s le_0)))) (c2_658 _ M0 0 rfl hP0 hF0 (by omega) (by omega))
def fm_m157_6v3 : Nat := 3941070043873280
/-- IslandHall$Parser.conjunction -/
theorem m157_6v3 {B : eB} (d : Nat) (M0 : Mm) (p1 : Int) (hP0 : Pw M0) (l1 : 3 ≤ p1) (u1 : p1 ≤ 3) : Ct B (d + 21) 157 [R 6, I p1] M0 (qI fun z M => Pw M ∧ Fr fm_m157_6v3 M0 M ∧ 0 ≤ z ∧ z ≤ 1 ∧ 0 ≤ z + M 6 4 + (-1)) := by
  refine ct_of (d := d + 20) (k := 1) (L := [some (R 6), some (I p1), none]) rfl rfl rfl ?_
  have hF0 := Fr.rf fm_m157_6v3 M0
  generalize hQ : (qI fun z M => Pw M ∧ Fr fm_m157_6v3 M0 M ∧ 0 ≤ z ∧ z ≤ 1 ∧ 0 ≤ z + M 6 4 + (-1)) = Q
  refine wk_al0 r157_0 (wk_il1 r157_1 (wk_cv2 r157_2 kc_6_166 rfl (m166_6v3 _ M0 p1 hP0 (by omega) (by omega)) (cqI ?_)))
  rintro v6 M1 ⟨hP2, hQ3, h7, h8, h5⟩
  have hF4 : Fr fm_m157_6v3 M0 M1 := hF0.tr hQ3 rfl
  obtain ⟨v9, e10⟩ : ∃ v, M1 6 4 = v := ⟨_, rfl⟩
  have h11 := bf_6_4 hP2; rw [e10] at h11
  refine wk_ifne r157_5 ⟨by omega, by omega⟩ ?_ ?_
  · intro h12
    refine wk_c1 r157_10 (wk_is2 r157_11 rfl ?_)
    have c12_442 : ∀ (k442 : Nat) (M401 : Mm) (v398 : Int) (v404 : Int), (500 - v398).toNat = k442 → Pw M401 → Fr fm_m157_6v3 M0 M401 → M401 6 4 = v404 → 0 ≤ v398 → v398 ≤ 500 → 0 ≤ v404 → v404 ≤ 6 → 0 ≤ (-1) * v404 + v398 + 6 → Wp B (d + 20) 157 12 [some (R 6), some (I p1), some (I v398)] [] M401 Q := by
      refine lp_ind ?_
      intro k442 ih442 M401 v398 v404 hk442 hP402 hF403 e407 h399 h400 h405 h406 h408
      refine wk_il2 r157_12 (wk_c3 r157_13 ?_)
      refine wk_icge r157_16 ⟨by omega, by omega⟩ (by decide) ?_ ?_
      · intro h409
        refine wk_c1 r157_53 ?_
        subst hQ; exact wk_zret r157_54 (by decide) (⟨rfl, _, rfl, hP402, hF403, by omega, by omega, by have := e407; omega⟩)
      · intro h410
        refine wk_al0 r157_19 (wk_c8 r157_20 (wk_cv2 r157_22 kc_6_175 rfl (m175_6 _ M401 4125 hP402 (by decide)) (cqI ?_)))
        rintro v415 M411 ⟨hP412, hQ413, h416, h417⟩
        have hF414 : Fr fm_m157_6v3 M0 M411 := hF403.tr hQ413 rfl
        refine wk_ifeq r157_25 ⟨by omega, by omega⟩ ?_ ?_
        · intro h418
          refine wk_c1 r157_53 ?_
          subst hQ; exact wk_zret r157_54 (by decide) (⟨rfl, _, rfl, hP412, hF414, by omega, by omega, by have := ((hQ413.at g_6_4 rfl).trans e407); omega⟩)
        · intro h419
          refine wk_al0 r157_28 (wk_il1 r157_29 (wk_cv2 r157_30 kc_6_166 rfl (m166_6v3 _ M411 p1 hP412 (by omega) (by omega)) (cqI ?_)))
          rintro v425 M420 ⟨hP421, hQ422, h426, h427, h424⟩
          have hF423 : Fr fm_m157_6v3 M0 M420 := hF414.tr hQ422 rfl
          obtain ⟨v428, e429⟩ : ∃ v, M420 6 4 = v := ⟨_, rfl⟩
          have h430 := bf_6_4 hP421; rw [e429] at h430
          refine wk_ifeq r157_33 ⟨by omega, by omega⟩ ?_ ?_
          · intro h431
            refine wk_c1 r157_45 ?_
            subst hQ; exact wk_zret r157_46 (by decide) (⟨rfl, _, rfl, hP421, hF423, by omega, by omega, by have := e429; omega⟩)
          · intro h432
            refine wk_al0 r157_36 (wk_c1 r157_37 (wk_c1 r157_38 (wk_cv3 r157_39 kc_6_172 rfl (m172_6 _ M420 2 0 hP421 (by decide) (by decide) (by decide) (by decide) (by first | assumption | omega | (unfold stepok; omega))) (cqI ?_))))
            rintro v437 M433 ⟨hP434, hQ435, h438, h439⟩
            have hF436 : Fr fm_m157_6v3 M0 M433 := hF423.tr hQ435 rfl
            refine wk_ifne r157_42 ⟨by omega, by omega⟩ ?_ ?_
            · intro h440
              refine wk_inc2 r157_47 rfl (wk_goto r157_50 ?_)
              exact wp_fg (le_s (le_s (le_s le_0))) (ih442 (500 - (v398 + 1)).toNat (by omega) M433 (v398 + 1) v428 rfl hP434 hF436 ((hQ435.at g_6_4 rfl).trans e429) (by omega) (by omega) (by omega) (by omega) (by omega))
            · intro h441
              exfalso
              omega
    exact wp_fg (le_s (le_s (le_s le_0))) (c12_442 _ M1 0 v9 rfl hP2 hF4 e10 (by omega) (by omega) (by omega) (by omega) (by omega))
  · intro h443
    refine wk_c1 r157_8 ?_
    subst hQ; exact wk_zret r157_9 (by decide) (⟨rfl, _, rfl, hP2, hF4, by omega, by omega, by have := e10; omega⟩)
def fm_m158_6v3 : Nat := 3941070043873280
/-- IslandHall$Parser.expr -/
theorem m158_6v3 {B : eB} (d : Nat) (M0 : Mm) (p1 : Int) (hP0 : Pw M0) (l1 : 3 ≤ p1) (u1 : p1 ≤ 3) : Ct B (d + 22) 158 [R 6, I p1] M0 (qI fun z M => Pw M ∧ Fr fm_m158_6v3 M0 M ∧ 0 ≤ z ∧ z ≤ 1 ∧ 0 ≤ z + M 6 4 + (-1)) := by
  refine ct_of (d := d + 21) (k := 1) (L := [some (R 6), some (I p1), none]) rfl rfl rfl ?_
  have hF0 := Fr.rf fm_m158_6v3 M0
  generalize hQ : (qI fun z M => Pw M ∧ Fr fm_m158_6v3 M0 M ∧ 0 ≤ z ∧ z ≤ 1 ∧ 0 ≤ z + M 6 4 + (-1)) = Q
  refine wk_al0 r158_0 (wk_cv1 r158_1 kc_6_155 rfl (m155_6 _ M0 hP0) (cqI ?_))
  rintro v5 M1 ⟨hP2, hQ3, h6, h7⟩
  obtain rfl := Fr.same hQ3
  refine wk_ifne r158_4 ⟨by omega, by omega⟩ ?_ ?_
  · intro h8
    refine wk_il1 r158_13 (wk_c2 r158_14 ?_)
    refine wk_iclt r158_16 ⟨by omega, by omega⟩ (by decide) ?_ ?_
    · intro h9
      refine wk_al0 r158_25 (wk_il1 r158_26 (wk_cv2 r158_27 kc_6_157 rfl (m157_6v3 _ M0 p1 hP0 (by omega) (by omega)) (cqI ?_)))
      rintro v15 M10 ⟨hP11, hQ12, h16, h17, h14⟩
      have hF13 : Fr fm_m158_6v3 M0 M10 := hF0.tr hQ12 rfl
      obtain ⟨v18, e19⟩ : ∃ v, M10 6 4 = v := ⟨_, rfl⟩
      have h20 := bf_6_4 hP11; rw [e19] at h20
      refine wk_ifne r158_30 ⟨by omega, by omega⟩ ?_ ?_
      · intro h21
        refine wk_c1 r158_35 (wk_is2 r158_36 rfl ?_)
        have c37_451 : ∀ (k451 : Nat) (M410 : Mm) (v407 : Int) (v413 : Int), (500 - v407).toNat = k451 → Pw M410 → Fr fm_m158_6v3 M0 M410 → M410 6 4 = v413 → 0 ≤ v407 → v407 ≤ 500 → 0 ≤ v413 → v413 ≤ 6 → 0 ≤ (-1) * v413 + v407 + 6 → Wp B (d + 21) 158 37 [some (R 6), some (I p1), some (I v407)] [] M410 Q := by
          refine lp_ind ?_
          intro k451 ih451 M410 v407 v413 hk451 hP411 hF412 e416 h408 h409 h414 h415 h417
          refine wk_il2 r158_37 (wk_c3 r158_38 ?_)
          refine wk_icge r158_41 ⟨by omega, by omega⟩ (by decide) ?_ ?_
          · intro h418
            refine wk_c1 r158_78 ?_
            subst hQ; exact wk_zret r158_79 (by decide) (⟨rfl, _, rfl, hP411, hF412, by omega, by omega, by have := e416; omega⟩)
          · intro h419
            refine wk_al0 r158_44 (wk_c8 r158_45 (wk_cv2 r158_47 kc_6_175 rfl (m175_6 _ M410 4126 hP411 (by decide)) (cqI ?_)))
            rintro v424 M420 ⟨hP421, hQ422, h425, h426⟩
            have hF423 : Fr fm_m158_6v3 M0 M420 := hF412.tr hQ422 rfl
            refine wk_ifeq r158_50 ⟨by omega, by omega⟩ ?_ ?_
            · intro h427
              refine wk_c1 r158_78 ?_
              subst hQ; exact wk_zret r158_79 (by decide) (⟨rfl, _, rfl, hP421, hF423, by omega, by omega, by have := ((hQ422.at g_6_4 rfl).trans e416); omega⟩)
            · intro h428
              refine wk_al0 r158_53 (wk_il1 r158_54 (wk_cv2 r158_55 kc_6_157 rfl (m157_6v3 _ M420 p1 hP421 (by omega) (by omega)) (cqI ?_)))
              rintro v434 M429 ⟨hP430, hQ431, h435, h436, h433⟩
              have hF432 : Fr fm_m158_6v3 M0 M429 := hF423.tr hQ431 rfl
              obtain ⟨v437, e438⟩ : ∃ v, M429 6 4 = v := ⟨_, rfl⟩
              have h439 := bf_6_4 hP430; rw [e438] at h439
              refine wk_ifeq r158_58 ⟨by omega, by omega⟩ ?_ ?_
              · intro h440
                refine wk_c1 r158_70 ?_
                subst hQ; exact wk_zret r158_71 (by decide) (⟨rfl, _, rfl, hP430, hF432, by omega, by omega, by have := e438; omega⟩)
              · intro h441
                refine wk_al0 r158_61 (wk_c1 r158_62 (wk_c1 r158_63 (wk_cv3 r158_64 kc_6_172 rfl (m172_6 _ M429 3 0 hP430 (by decide) (by decide) (by decide) (by decide) (by first | assumption | omega | (unfold stepok; omega))) (cqI ?_))))
                rintro v446 M442 ⟨hP443, hQ444, h447, h448⟩
                have hF445 : Fr fm_m158_6v3 M0 M442 := hF432.tr hQ444 rfl
                refine wk_ifne r158_67 ⟨by omega, by omega⟩ ?_ ?_
                · intro h449
                  refine wk_inc2 r158_72 rfl (wk_goto r158_75 ?_)
                  exact wp_fg (le_s (le_s (le_s le_0))) (ih451 (500 - (v407 + 1)).toNat (by omega) M442 (v407 + 1) v437 rfl hP443 hF445 ((hQ444.at g_6_4 rfl).trans e438) (by omega) (by omega) (by omega) (by omega) (by omega))
                · intro h450
                  exfalso
                  omega
        exact wp_fg (le_s (le_s (le_s le_0))) (c37_451 _ M10 0 v18 rfl hP11 hF13 e19 (by omega) (by omega) (by omega) (by omega) (by omega))
      · intro h452
        refine wk_c1 r158_33 ?_
        subst hQ; exact wk_zret r158_34 (by decide) (⟨rfl, _, rfl, hP11, hF13, by omega, by omega, by have := e19; omega⟩)
    · intro h453
      exfalso
      omega
  · intro h454
    refine wk_al0 r158_7 (wk_c1 r158_8 (wk_cv2 r158_9 kc_6_159 rfl (m159_6v1 _ M0 1 hP0 (by decide) (by decide)) (cqI ?_)))
    rintro v460 M455 ⟨hP456, hQ457, h461, h462, h459⟩
    have hF458 : Fr fm_m158_6v3 M0 M455 := hF0.tr hQ457 rfl
    obtain ⟨v463, e464⟩ : ∃ v, M455 6 4 = v := ⟨_, rfl⟩
    have h465 := bf_6_4 hP456; rw [e464] at h465
    subst hQ; exact wk_zret r158_12 ⟨by omega, by omega⟩ (⟨rfl, _, rfl, hP456, hF458, by omega, by omega, by have := e464; omega⟩)
def fm_m168_6v2 : Nat := 3941070043873280
/-- IslandHall$Parser.parenthesis -/
theorem m168_6v2 {B : eB} (d : Nat) (M0 : Mm) (p1 : Int) (hP0 : Pw M0) (l1 : 2 ≤ p1) (u1 : p1 ≤ 2) : Ct B (d + 23) 168 [R 6, I p1] M0 (qI fun z M => Pw M ∧ Fr fm_m168_6v2 M0 M ∧ 0 ≤ z ∧ z ≤ 1 ∧ 0 ≤ z + M 6 4 + (-1)) := by
  refine ct_of (d := d + 22) (k := 0) (L := [some (R 6), some (I p1)]) rfl rfl rfl ?_
  have hF0 := Fr.rf fm_m168_6v2 M0
  generalize hQ : (qI fun z M => Pw M ∧ Fr fm_m168_6v2 M0 M ∧ 0 ≤ z ∧ z ≤ 1 ∧ 0 ≤ z + M 6 4 + (-1)) = Q
  refine wk_al0 r168_0 (wk_c2 r168_1 (wk_cv2 r168_3 kc_6_174 rfl (m174_6v1 _ M0 40 hP0 (by decide) (by decide)) (cqI ?_)))
  rintro v6 M1 ⟨hP2, hQ3, h7, h8, h5⟩
  have hF4 : Fr fm_m168_6v2 M0 M1 := hF0.tr hQ3 rfl
  obtain ⟨v9, e10⟩ : ∃ v, M1 6 4 = v := ⟨_, rfl⟩
  have h11 := bf_6_4 hP2; rw [e10] at h11
  refine wk_ifeq r168_6 ⟨by omega, by omega⟩ ?_ ?_
  · intro h12
    refine wk_c1 r168_32 ?_
    subst hQ; exact wk_zret r168_33 (by decide) (⟨rfl, _, rfl, hP2, hF4, by omega, by omega, by have := e10; omega⟩)
  · intro h13
    refine wk_al0 r168_9 (wk_il1 r168_10 (wk_c1 r168_11 (wk_iadd r168_12 (wk_cv2 r168_13 kc_6_158 rfl (m158_6v3 _ M1 (p1 + 1) hP2 (by omega) (by omega)) (cqI ?_)))))
    rintro v19 M14 ⟨hP15, hQ16, h20, h21, h18⟩
    have hF17 : Fr fm_m168_6v2 M0 M14 := hF4.tr hQ16 rfl
    obtain ⟨v22, e23⟩ : ∃ v, M14 6 4 = v := ⟨_, rfl⟩
    have h24 := bf_6_4 hP15; rw [e23] at h24
    refine wk_ifeq r168_16 ⟨by omega, by omega⟩ ?_ ?_
    · intro h25
      refine wk_c1 r168_32 ?_
      subst hQ; exact wk_zret r168_33 (by decide) (⟨rfl, _, rfl, hP15, hF17, by omega, by omega, by have := e23; omega⟩)
    · intro h26
      refine wk_al0 r168_19 (wk_c2 r168_20 (wk_cv2 r168_22 kc_6_174 rfl (m174_6v1 _ M14 41 hP15 (by decide) (by decide)) (cqI ?_)))
      rintro v32 M27 ⟨hP28, hQ29, h33, h34, h31⟩
      have hF30 : Fr fm_m168_6v2 M0 M27 := hF17.tr hQ29 rfl
      obtain ⟨v35, e36⟩ : ∃ v, M27 6 4 = v := ⟨_, rfl⟩
      have h37 := bf_6_4 hP28; rw [e36] at h37
      refine wk_ifeq r168_25 ⟨by omega, by omega⟩ ?_ ?_
      · intro h38
        refine wk_c1 r168_32 ?_
        subst hQ; exact wk_zret r168_33 (by decide) (⟨rfl, _, rfl, hP28, hF30, by omega, by omega, by have := e36; omega⟩)
      · intro h39
        refine wk_c1 r168_28 (wk_goto r168_29 ?_)
        subst hQ; exact wk_zret r168_33 (by decide) (⟨rfl, _, rfl, hP28, hF30, by omega, by omega, by have := e36; omega⟩)
def fm_m152_6v2 : Nat := 3941070043873280
/-- IslandHall$Parser.aboutSomeone -/
theorem m152_6v2 {B : eB} (d : Nat) (M0 : Mm) (p1 : Int) (hP0 : Pw M0) (l1 : 2 ≤ p1) (u1 : p1 ≤ 2) : Ct B (d + 24) 152 [R 6, I p1] M0 (qI fun z M => Pw M ∧ Fr fm_m152_6v2 M0 M ∧ 0 ≤ z ∧ z ≤ 1 ∧ 0 ≤ z + M 6 4 + (-1)) := by
  refine ct_of (d := d + 23) (k := 2) (L := [some (R 6), some (I p1), none, none]) rfl rfl rfl ?_
  have hF0 := Fr.rf fm_m152_6v2 M0
  generalize hQ : (qI fun z M => Pw M ∧ Fr fm_m152_6v2 M0 M ∧ 0 ≤ z ∧ z ≤ 1 ∧ 0 ≤ z + M 6 4 + (-1)) = Q
  refine wk_al0 r152_0 (wk_cv1 r152_1 kc_6_165 rfl (m165_6 _ M0 hP0) (cqI ?_))
  rintro v6 M1 ⟨hP2, hQ3, h7, h8, h5⟩
  have hF4 : Fr fm_m152_6v2 M0 M1 := hF0.tr hQ3 rfl
  obtain ⟨v9, e10⟩ : ∃ v, M1 6 4 = v := ⟨_, rfl⟩
  have h11 := bf_6_4 hP2; rw [e10] at h11
  refine wk_is2 r152_4 rfl (wk_il2 r152_5 (wk_c1 r152_6 ?_))
  refine wk_icne r152_7 ⟨by omega, by omega⟩ (by decide) ?_ ?_
  · intro h12
    refine wk_al0 r152_12 (wk_c8 r152_13 (wk_cv2 r152_15 kc_6_175 rfl (m175_6 _ M1 4111 hP2 (by decide)) (cqI ?_)))
    rintro v17 M13 ⟨hP14, hQ15, h18, h19⟩
    have hF16 : Fr fm_m152_6v2 M0 M13 := hF4.tr hQ15 rfl
    refine wk_ifeq r152_18 ⟨by omega, by omega⟩ ?_ ?_
    · intro h20
      refine wk_al0 r152_35 (wk_c8 r152_36 (wk_cv2 r152_38 kc_6_175 rfl (m175_6 _ M13 4112 hP14 (by decide)) (cqI ?_)))
      rintro v25 M21 ⟨hP22, hQ23, h26, h27⟩
      have hF24 : Fr fm_m152_6v2 M0 M21 := hF16.tr hQ23 rfl
      refine wk_ifeq r152_41 ⟨by omega, by omega⟩ ?_ ?_
      · intro h28
        refine wk_al0 r152_73 (wk_c8 r152_74 (wk_cv2 r152_76 kc_6_175 rfl (m175_6 _ M21 4113 hP22 (by decide)) (cqI ?_)))
        rintro v33 M29 ⟨hP30, hQ31, h34, h35⟩
        have hF32 : Fr fm_m152_6v2 M0 M29 := hF24.tr hQ31 rfl
        refine wk_ifne r152_79 ⟨by omega, by omega⟩ ?_ ?_
        · intro h36
          refine wk_al0 r152_88 (wk_il1 r152_89 (wk_cv2 r152_90 kc_6_168 rfl (m168_6v2 _ M29 p1 hP30 (by omega) (by omega)) (cqI ?_)))
          rintro v42 M37 ⟨hP38, hQ39, h43, h44, h41⟩
          have hF40 : Fr fm_m152_6v2 M0 M37 := hF32.tr hQ39 rfl
          obtain ⟨v45, e46⟩ : ∃ v, M37 6 4 = v := ⟨_, rfl⟩
          have h47 := bf_6_4 hP38; rw [e46] at h47
          refine wk_ifne r152_93 ⟨by omega, by omega⟩ ?_ ?_
          · intro h48
            refine wk_al0 r152_98 ?_
            obtain ⟨v49, e50⟩ : ∃ v, M37 6 2 = v := ⟨_, rfl⟩
            have hC51 : isC v49 := by have := pcE hP38; rw [e50] at this; exact this
            refine wk_getfr r152_99 fd_6_2 e50 (wk_il2 r152_102 (wk_cv2 r152_103 (kcC_139 hC51) rfl (m139 _ M37 v49 v6 hP38 hC51 (by omega) (by omega)) (cqV ?_)))
            rintro M52 ⟨hP53, hQ54⟩
            have hF55 : Fr fm_m152_6v2 M0 M52 := hF40.tr hQ54 rfl
            refine wk_c1 r152_106 ?_
            subst hQ; exact wk_zret r152_107 (by decide) (⟨rfl, _, rfl, hP53, hF55, by omega, by omega, by have := ((hQ54.at g_6_4 rfl).trans e46); omega⟩)
          · intro h56
            refine wk_c1 r152_96 ?_
            subst hQ; exact wk_zret r152_97 (by decide) (⟨rfl, _, rfl, hP38, hF40, by omega, by omega, by have := e46; omega⟩)
        · intro h57
          refine wk_al0 r152_82 (wk_c1 r152_83 (wk_cv2 r152_84 kc_6_159 rfl (m159_6v1 _ M29 1 hP30 (by decide) (by decide)) (cqI ?_)))
          rintro v63 M58 ⟨hP59, hQ60, h64, h65, h62⟩
          have hF61 : Fr fm_m152_6v2 M0 M58 := hF32.tr hQ60 rfl
          obtain ⟨v66, e67⟩ : ∃ v, M58 6 4 = v := ⟨_, rfl⟩
          have h68 := bf_6_4 hP59; rw [e67] at h68
          subst hQ; exact wk_zret r152_87 ⟨by omega, by omega⟩ (⟨rfl, _, rfl, hP59, hF61, by omega, by omega, by have := e67; omega⟩)
      · intro h69
        refine wk_al0 r152_44 (wk_cv1 r152_45 kc_6_165 rfl (m165_6 _ M21 hP22) (cqI ?_))
        rintro v75 M70 ⟨hP71, hQ72, h76, h77, h74⟩
        have hF73 : Fr fm_m152_6v2 M0 M70 := hF24.tr hQ72 rfl
        obtain ⟨v78, e79⟩ : ∃ v, M70 6 4 = v := ⟨_, rfl⟩
        have h80 := bf_6_4 hP71; rw [e79] at h80
        refine wk_is3 r152_48 rfl (wk_il3 r152_49 (wk_c1 r152_50 ?_))
        refine wk_iceq r152_51 ⟨by omega, by omega⟩ (by decide) ?_ ?_
        · intro h81
          refine wk_c1 r152_71 ?_
          subst hQ; exact wk_zret r152_72 (by decide) (⟨rfl, _, rfl, hP71, hF73, by omega, by omega, by have := e79; omega⟩)
        · intro h82
          refine wk_al0 r152_54 (wk_c1 r152_55 (wk_il2 r152_56 (wk_c1 r152_57 (wk_ishlc r152_58 (by decide) pwl_3 (wk_il3 r152_59 (wk_iord2 3 8 r152_60 (by decide) ⟨by omega, by omega⟩ ⟨by omega, by omega, by omega⟩ (wk_cv3 r152_61 kc_6_172 rfl (m172_6 _ M70 5 ((v6 * 8) + v75) hP71 (by decide) (by decide) (by omega) (by omega) (by first | assumption | omega | (unfold stepok; omega))) (cqI ?_))))))))
          rintro v87 M83 ⟨hP84, hQ85, h88, h89⟩
          have hF86 : Fr fm_m152_6v2 M0 M83 := hF73.tr hQ85 rfl
          refine wk_ifeq r152_64 ⟨by omega, by omega⟩ ?_ ?_
          · intro h90
            exfalso
            omega
          · intro h91
            refine wk_c1 r152_67 (wk_goto r152_68 ?_)
            subst hQ; exact wk_zret r152_72 (by decide) (⟨rfl, _, rfl, hP84, hF86, by omega, by omega, by have := ((hQ85.at g_6_4 rfl).trans e79); omega⟩)
    · intro h92
      refine wk_al0 r152_21 (wk_c1 r152_22 (wk_il2 r152_23 (wk_c1 r152_24 (wk_imul r152_25 (wk_iadd r152_26 (wk_al0 r152_27 (wk_cv1 r152_28 kc_6_173 rfl (m173_6 _ M13 hP14) (cqI ?_))))))))
      rintro v98 M93 ⟨hP94, hQ95, h99, h100, h97⟩
      have hF96 : Fr fm_m152_6v2 M0 M93 := hF16.tr hQ95 rfl
      obtain ⟨v101, e102⟩ : ∃ v, M93 6 4 = v := ⟨_, rfl⟩
      have h103 := bf_6_4 hP94; rw [e102] at h103
      refine wk_cv3 r152_31 kc_6_171 rfl (m171_6v3 _ M93 (0 + (v6 * 5)) v98 v101 hP94 (by omega) (by omega) (by omega) (by omega) e102 (by omega) (by omega) (by omega)) (cqI ?_)
      rintro v109 M104 ⟨hP105, hQ106, h110, h111, h108⟩
      have hF107 : Fr fm_m152_6v2 M0 M104 := hF96.tr hQ106 rfl
      have e112 := ((hQ106.at g_6_4 rfl).trans e102)
      subst hQ; exact wk_zret r152_34 ⟨by omega, by omega⟩ (⟨rfl, _, rfl, hP105, hF107, by omega, by omega, by have := ((hQ106.at g_6_4 rfl).trans e102); omega⟩)
  · intro h113
    refine wk_c1 r152_10 ?_
    subst hQ; exact wk_zret r152_11 (by decide) (⟨rfl, _, rfl, hP2, hF4, by omega, by omega, by have := e10; omega⟩)
def fm_m153_6v2 : Nat := 3941070043873280
/-- IslandHall$Parser.atom -/
theorem m153_6v2 {B : eB} (d : Nat) (M0 : Mm) (p1 : Int) (hP0 : Pw M0) (l1 : 2 ≤ p1) (u1 : p1 ≤ 2) : Ct B (d + 25) 153 [R 6, I p1] M0 (qI fun z M => Pw M ∧ Fr fm_m153_6v2 M0 M ∧ 0 ≤ z ∧ z ≤ 1 ∧ 0 ≤ z + M 6 4 + (-1)) := by
  refine ct_of (d := d + 24) (k := 0) (L := [some (R 6), some (I p1)]) rfl rfl rfl ?_
  have hF0 := Fr.rf fm_m153_6v2 M0
  generalize hQ : (qI fun z M => Pw M ∧ Fr fm_m153_6v2 M0 M ∧ 0 ≤ z ∧ z ≤ 1 ∧ 0 ≤ z + M 6 4 + (-1)) = Q
  refine wk_al0 r153_0 (wk_getfr r153_1 fd_6_0 (br_6_0 hP0) (wk_cv1 r153_4 kc_9_237 rfl (m237_9 _ M0 hP0) (cqI ?_)))
  rintro v7 M1 ⟨hP2, hQ3, h8, h9, h5, h6⟩
  obtain rfl := Fr.same hQ3
  obtain ⟨v10, e11⟩ : ∃ v, M0 9 2 = v := ⟨_, rfl⟩
  have h12 := bf_9_2 hP0; rw [e11] at h12
  obtain ⟨v13, e14⟩ : ∃ v, M0 9 3 = v := ⟨_, rfl⟩
  have h15 := bf_9_3 hP0; rw [e14] at h15
  refine wk_ifeq r153_7 ⟨by omega, by omega⟩ ?_ ?_
  · intro h16
    refine wk_al0 r153_16 (wk_c8 r153_17 (wk_cv2 r153_19 kc_6_175 rfl (m175_6 _ M0 4114 hP0 (by decide)) (cqI ?_)))
    rintro v21 M17 ⟨hP18, hQ19, h22, h23⟩
    have hF20 : Fr fm_m153_6v2 M0 M17 := hF0.tr hQ19 rfl
    refine wk_ifeq r153_22 ⟨by omega, by omega⟩ ?_ ?_
    · intro h24
      refine wk_al0 r153_38 (wk_c8 r153_39 (wk_cv2 r153_41 kc_6_175 rfl (m175_6 _ M17 4115 hP18 (by decide)) (cqI ?_)))
      rintro v29 M25 ⟨hP26, hQ27, h30, h31⟩
      have hF28 : Fr fm_m153_6v2 M0 M25 := hF20.tr hQ27 rfl
      refine wk_ifeq r153_44 ⟨by omega, by omega⟩ ?_ ?_
      · intro h32
        refine wk_al0 r153_61 (wk_c8 r153_62 (wk_cv2 r153_64 kc_6_175 rfl (m175_6 _ M25 4116 hP26 (by decide)) (cqI ?_)))
        rintro v37 M33 ⟨hP34, hQ35, h38, h39⟩
        have hF36 : Fr fm_m153_6v2 M0 M33 := hF28.tr hQ35 rfl
        refine wk_ifeq r153_67 ⟨by omega, by omega⟩ ?_ ?_
        · intro h40
          refine wk_al0 r153_83 (wk_c8 r153_84 (wk_cv2 r153_86 kc_6_175 rfl (m175_6 _ M33 4117 hP34 (by decide)) (cqI ?_)))
          rintro v45 M41 ⟨hP42, hQ43, h46, h47⟩
          have hF44 : Fr fm_m153_6v2 M0 M41 := hF36.tr hQ43 rfl
          refine wk_ifeq r153_89 ⟨by omega, by omega⟩ ?_ ?_
          · intro h48
            refine wk_al0 r153_97 (wk_c8 r153_98 (wk_cv2 r153_100 kc_6_175 rfl (m175_6 _ M41 4118 hP42 (by decide)) (cqI ?_)))
            rintro v53 M49 ⟨hP50, hQ51, h54, h55⟩
            have hF52 : Fr fm_m153_6v2 M0 M49 := hF44.tr hQ51 rfl
            refine wk_ifeq r153_103 ⟨by omega, by omega⟩ ?_ ?_
            · intro h56
              refine wk_al0 r153_117 (wk_c1 r153_118 (wk_cv2 r153_119 kc_6_159 rfl (m159_6v1 _ M49 1 hP50 (by decide) (by decide)) (cqI ?_)))
              rintro v62 M57 ⟨hP58, hQ59, h63, h64, h61⟩
              have hF60 : Fr fm_m153_6v2 M0 M57 := hF52.tr hQ59 rfl
              obtain ⟨v65, e66⟩ : ∃ v, M57 6 4 = v := ⟨_, rfl⟩
              have h67 := bf_6_4 hP58; rw [e66] at h67
              subst hQ; exact wk_zret r153_122 ⟨by omega, by omega⟩ (⟨rfl, _, rfl, hP58, hF60, by omega, by omega, by have := e66; omega⟩)
            · intro h68
              refine wk_al0 r153_106 (wk_al0 r153_107 (wk_cv1 r153_108 kc_6_173 rfl (m173_6 _ M49 hP50) (cqI ?_)))
              rintro v74 M69 ⟨hP70, hQ71, h75, h76, h73⟩
              have hF72 : Fr fm_m153_6v2 M0 M69 := hF52.tr hQ71 rfl
              obtain ⟨v77, e78⟩ : ∃ v, M69 6 4 = v := ⟨_, rfl⟩
              have h79 := bf_6_4 hP70; rw [e78] at h79
              refine wk_cv2 r153_111 kc_6_163 rfl (m163_6 _ M69 v74 v77 hP70 (by omega) (by omega) e78 (by omega) (by omega) (by omega)) (cqI ?_)
              rintro v85 M80 ⟨hP81, hQ82, h86, h87, h84⟩
              have hF83 : Fr fm_m153_6v2 M0 M80 := hF72.tr hQ82 rfl
              obtain ⟨v88, e89⟩ : ∃ v, M80 6 4 = v := ⟨_, rfl⟩
              have h90 := bf_6_4 hP81; rw [e89] at h90
              refine wk_goto r153_114 ?_
              subst hQ; exact wk_zret r153_122 ⟨by omega, by omega⟩ (⟨rfl, _, rfl, hP81, hF83, by omega, by omega, by have := e89; omega⟩)
          · intro h91
            refine wk_al0 r153_92 (wk_cv1 r153_93 kc_6_176 rfl (m176_6 _ M41 hP42) (cqI ?_))
            rintro v97 M92 ⟨hP93, hQ94, h98, h99, h96⟩
            have hF95 : Fr fm_m153_6v2 M0 M92 := hF44.tr hQ94 rfl
            obtain ⟨v100, e101⟩ : ∃ v, M92 6 4 = v := ⟨_, rfl⟩
            have h102 := bf_6_4 hP93; rw [e101] at h102
            subst hQ; exact wk_zret r153_96 ⟨by omega, by omega⟩ (⟨rfl, _, rfl, hP93, hF95, by omega, by omega, by have := e101; omega⟩)
        · intro h103
          refine wk_al0 r153_70 (wk_c2 r153_71 (wk_al0 r153_73 (wk_c1 r153_74 (wk_c1 r153_75 (wk_cv3 r153_76 kc_6_167 rfl (m167_6v4 _ M33 0 1 hP34 (by decide) (by decide) (by decide) (by decide)) (cqI ?_))))))
          rintro v109 M104 ⟨hP105, hQ106, h110, h111, h108⟩
          have hF107 : Fr fm_m153_6v2 M0 M104 := hF36.tr hQ106 rfl
          obtain ⟨v112, e113⟩ : ∃ v, M104 6 4 = v := ⟨_, rfl⟩
          have h114 := bf_6_4 hP105; rw [e113] at h114
          refine wk_cv3 r153_79 kc_6_171 rfl (m171_6 _ M104 46 v109 v112 hP105 (by decide) (by decide) (by omega) (by omega) e113 (by omega) (by omega) (by omega)) (cqI ?_)
          rintro v120 M115 ⟨hP116, hQ117, h121, h122, h119⟩
          have hF118 : Fr fm_m153_6v2 M0 M115 := hF107.tr hQ117 rfl
          have e123 := ((hQ117.at g_6_4 rfl).trans e113)
          subst hQ; exact wk_zret r153_82 ⟨by omega, by omega⟩ (⟨rfl, _, rfl, hP116, hF118, by omega, by omega, by have := ((hQ117.at g_6_4 rfl).trans e113); omega⟩)
      · intro h124
        refine wk_al0 r153_47 (wk_c2 r153_48 (wk_al0 r153_50 (wk_c1 r153_51 (wk_c2 r153_52 (wk_cv3 r153_54 kc_6_167 rfl (m167_6v1 _ M25 0 6 hP26 (by decide) (by decide) (by decide) (by decide)) (cqI ?_))))))
        rintro v130 M125 ⟨hP126, hQ127, h131, h132, h129⟩
        have hF128 : Fr fm_m153_6v2 M0 M125 := hF28.tr hQ127 rfl
        obtain ⟨v133, e134⟩ : ∃ v, M125 6 4 = v := ⟨_, rfl⟩
        have h135 := bf_6_4 hP126; rw [e134] at h135
        refine wk_cv3 r153_57 kc_6_171 rfl (m171_6v1 _ M125 39 v130 v133 hP126 (by decide) (by decide) (by omega) (by omega) e134 (by omega) (by omega) (by omega)) (cqI ?_)
        rintro v141 M136 ⟨hP137, hQ138, h142, h143, h140⟩
        have hF139 : Fr fm_m153_6v2 M0 M136 := hF128.tr hQ138 rfl
        have e144 := ((hQ138.at g_6_4 rfl).trans e134)
        subst hQ; exact wk_zret r153_60 ⟨by omega, by omega⟩ (⟨rfl, _, rfl, hP137, hF139, by omega, by omega, by have := ((hQ138.at g_6_4 rfl).trans e134); omega⟩)
    · intro h145
      refine wk_al0 r153_25 (wk_c2 r153_26 (wk_al0 r153_28 (wk_c1 r153_29 (wk_c1 r153_30 (wk_cv3 r153_31 kc_6_167 rfl (m167_6v5 _ M17 0 3 hP18 (by decide) (by decide) (by decide) (by decide)) (cqI ?_))))))
      rintro v151 M146 ⟨hP147, hQ148, h152, h153, h150⟩
      have hF149 : Fr fm_m153_6v2 M0 M146 := hF20.tr hQ148 rfl
      obtain ⟨v154, e155⟩ : ∃ v, M146 6 4 = v := ⟨_, rfl⟩
      have h156 := bf_6_4 hP147; rw [e155] at h156
      refine wk_cv3 r153_34 kc_6_171 rfl (m171_6v2 _ M146 35 v151 v154 hP147 (by decide) (by decide) (by omega) (by omega) e155 (by omega) (by omega) (by omega)) (cqI ?_)
      rintro v162 M157 ⟨hP158, hQ159, h163, h164, h161⟩
      have hF160 : Fr fm_m153_6v2 M0 M157 := hF149.tr hQ159 rfl
      have e165 := ((hQ159.at g_6_4 rfl).trans e155)
      subst hQ; exact wk_zret r153_37 ⟨by omega, by omega⟩ (⟨rfl, _, rfl, hP158, hF160, by omega, by omega, by have := ((hQ159.at g_6_4 rfl).trans e155); omega⟩)
  · intro h166
    refine wk_al0 r153_10 (wk_il1 r153_11 (wk_cv2 r153_12 kc_6_152 rfl (m152_6v2 _ M0 p1 hP0 (by omega) (by omega)) (cqI ?_)))
    rintro v172 M167 ⟨hP168, hQ169, h173, h174, h171⟩
    have hF170 : Fr fm_m153_6v2 M0 M167 := hF0.tr hQ169 rfl
    obtain ⟨v175, e176⟩ : ∃ v, M167 6 4 = v := ⟨_, rfl⟩
    have h177 := bf_6_4 hP168; rw [e176] at h177
    subst hQ; exact wk_zret r153_15 ⟨by omega, by omega⟩ (⟨rfl, _, rfl, hP168, hF170, by omega, by omega, by have := e176; omega⟩)
def fm_m166_6v2 : Nat := 3941070043873280
/-- IslandHall$Parser.negation -/
theorem m166_6v2 {B : eB} (d : Nat) (M0 : Mm) (p1 : Int) (hP0 : Pw M0) (l1 : 2 ≤ p1) (u1 : p1 ≤ 2) : Ct B (d + 26) 166 [R 6, I p1] M0 (qI fun z M => Pw M ∧ Fr fm_m166_6v2 M0 M ∧ 0 ≤ z ∧ z ≤ 1 ∧ 0 ≤ z + M 6 4 + (-1)) := by
  refine ct_of (d := d + 25) (k := 2) (L := [some (R 6), some (I p1), none, none]) rfl rfl rfl ?_
  have hF0 := Fr.rf fm_m166_6v2 M0
  generalize hQ : (qI fun z M => Pw M ∧ Fr fm_m166_6v2 M0 M ∧ 0 ≤ z ∧ z ≤ 1 ∧ 0 ≤ z + M 6 4 + (-1)) = Q
  refine wk_c1 r166_0 (wk_is2 r166_1 rfl ?_)
  have c2_658 : ∀ (k658 : Nat) (M562 : Mm) (v559 : Int), (6 - v559).toNat = k658 → Pw M562 → Fr fm_m166_6v2 M0 M562 → 0 ≤ v559 → v559 ≤ 6 → Wp B (d + 25) 166 2 [some (R 6), some (I p1), some (I v559), none] [] M562 Q := by
    refine lp_ind ?_
    intro k658 ih658 M562 v559 hk658 hP563 hF564 h560 h561
    refine wk_il2 r166_2 (wk_c2 r166_3 ?_)
    have c23_657 : ∀ (M576 : Mm), Pw M576 → Fr fm_m166_6v2 M0 M576 → Wp B (d + 25) 166 23 [some (R 6), some (I p1), some (I v559), none] [] M576 Q := by
      intro M576 hP577 hF578
      refine wk_al0 r166_23 (wk_getfr r166_24 fd_6_0 (br_6_0 hP577) (wk_c8 r166_27 (wk_cv2 r166_29 kc_9_239 rfl (m239_9 _ M576 4119 hP577 (by decide)) (cqI ?_))))
      rintro v584 M579 ⟨hP580, hQ581, h585, h586, xh583⟩
      obtain rfl := Fr.same hQ581
      refine wk_ifeq r166_32 ⟨by omega, by omega⟩ ?_ ?_
      · intro h587
        refine wk_al0 r166_41 (wk_getfr r166_42 fd_6_0 (br_6_0 hP577) (wk_c2 r166_45 (wk_cv2 r166_47 kc_9_238 rfl (m238_9v1 _ M576 40 hP577 (by decide) (by decide)) (cqI ?_))))
        rintro v592 M588 ⟨hP589, hQ590, h593, h594⟩
        obtain rfl := Fr.same hQ590
        have c66_644 : ∀ (M622 : Mm) (v619 : Int) (v625 : Int), Pw M622 → Fr fm_m166_6v2 M0 M622 → M622 6 4 = v625 → 0 ≤ v619 → v619 ≤ 1 → 0 ≤ v625 → v625 ≤ 6 → 1 ≤ v619 + v625 → Wp B (d + 25) 166 66 [some (R 6), none, some (I v559), none] [I v619] M622 Q := by
          intro M622 v619 v625 hP623 hF624 e628 h620 h621 h626 h627 h629
          refine wk_is3 r166_66 rfl (wk_il3 r166_67 ?_)
          refine wk_ifeq r166_68 ⟨by omega, by omega⟩ ?_ ?_
          · intro h630
            refine wk_c1 r166_90 ?_
            subst hQ; exact wk_zret r166_91 (by decide) (⟨rfl, _, rfl, hP623, hF624, by omega, by omega, by have := e628; omega⟩)
          · intro h631
            refine wk_il2 r166_71 (wk_c1 r166_72 (wk_iandc 1 2 r166_73 ⟨rfl, by decide⟩ rfl ?_))
            refine wk_ifeq r166_74 ⟨by omega, by omega⟩ ?_ ?_
            · intro h633
              refine wk_c1 r166_86 (wk_goto r166_87 ?_)
              subst hQ; exact wk_zret r166_91 (by decide) (⟨rfl, _, rfl, hP623, hF624, by omega, by omega, by have := e628; omega⟩)
            · intro h634
              refine wk_al0 r166_77 (wk_c1 r166_78 (wk_c1 r166_79 (wk_cv3 r166_80 kc_6_172 rfl (m172_6 _ M622 1 0 hP623 (by decide) (by decide) (by decide) (by decide) (by first | assumption | omega | (unfold stepok; omega))) (cqI ?_))))
              rintro v639 M635 ⟨hP636, hQ637, h640, h641⟩
              have hF638 : Fr fm_m166_6v2 M0 M635 := hF624.tr hQ637 rfl
              refine wk_ifeq r166_83 ⟨by omega, by omega⟩ ?_ ?_
              · intro h642
                exfalso
                omega
              · intro h643
                refine wk_c1 r166_86 (wk_goto r166_87 ?_)
                subst hQ; exact wk_zret r166_91 (by decide) (⟨rfl, _, rfl, hP636, hF638, by omega, by omega, by have := ((hQ637.at g_6_4 rfl).trans e628); omega⟩)
        refine wk_ifeq r166_50 ⟨by omega, by omega⟩ ?_ ?_
        · intro h595
          refine wk_al0 r166_61 (wk_il1 r166_62 (wk_cv2 r166_63 kc_6_153 rfl (m153_6v2 _ M576 p1 hP577 (by omega) (by omega)) (cqI ?_)))
          rintro v601 M596 ⟨hP597, hQ598, h602, h603, h600⟩
          have hF599 : Fr fm_m166_6v2 M0 M596 := hF578.tr hQ598 rfl
          obtain ⟨v604, e605⟩ : ∃ v, M596 6 4 = v := ⟨_, rfl⟩
          have h606 := bf_6_4 hP597; rw [e605] at h606
          exact wp_fg (le_s (le_n (le_s (le_s le_0)))) (c66_644 M596 v601 v604 hP597 hF599 e605 (by omega) (by omega) (by omega) (by omega) (by omega))
        · intro h607
          refine wk_al0 r166_53 (wk_il1 r166_54 (wk_cv2 r166_55 kc_6_168 rfl (m168_6v2 _ M576 p1 hP577 (by omega) (by omega)) (cqI ?_)))
          rintro v613 M608 ⟨hP609, hQ610, h614, h615, h612⟩
          have hF611 : Fr fm_m166_6v2 M0 M608 := hF578.tr hQ610 rfl
          obtain ⟨v616, e617⟩ : ∃ v, M608 6 4 = v := ⟨_, rfl⟩
          have h618 := bf_6_4 hP609; rw [e617] at h618
          refine wk_goto r166_58 ?_
          exact wp_fg (le_s (le_n (le_s (le_s le_0)))) (c66_644 M608 v613 v616 hP609 hF611 e617 (by omega) (by omega) (by omega) (by omega) (by omega))
      · intro h645
        refine wk_al0 r166_35 (wk_c1 r166_36 (wk_cv2 r166_37 kc_6_159 rfl (m159_6 _ M576 2 hP577 (by decide) (by decide)) (cqI ?_)))
        rintro v651 M646 ⟨hP647, hQ648, h652, h653, h650⟩
        have hF649 : Fr fm_m166_6v2 M0 M646 := hF578.tr hQ648 rfl
        obtain ⟨v654, e655⟩ : ∃ v, M646 6 4 = v := ⟨_, rfl⟩
        have h656 := bf_6_4 hP647; rw [e655] at h656
        subst hQ; exact wk_zret r166_40 ⟨by omega, by omega⟩ (⟨rfl, _, rfl, hP647, hF649, by omega, by omega, by have := e655; omega⟩)
    refine wk_icge r166_5 ⟨by omega, by omega⟩ (by decide) ?_ ?_
    · intro h565
      exact wp_fg (le_s (le_s (le_s (le_s le_0)))) (c23_657 M562 hP563 hF564)
    · intro h566
      refine wk_al0 r166_8 (wk_c8 r166_9 (wk_cv2 r166_11 kc_6_175 rfl (m175_6 _ M562 4119 hP563 (by decide)) (cqI ?_)))
      rintro v571 M567 ⟨hP568, hQ569, h572, h573⟩
      have hF570 : Fr fm_m166_6v2 M0 M567 := hF564.tr hQ569 rfl
      refine wk_ifeq r166_14 ⟨by omega, by omega⟩ ?_ ?_
      · intro h574
        exact wp_fg (le_s (le_s (le_s (le_s le_0)))) (c23_657 M567 hP568 hF570)
      · intro h575
        refine wk_inc2 r166_17 rfl (wk_goto r166_20 ?_)
        exact wp_fg (le_s (le_s (le_s (le_s le_0)))) (ih658 (6 - (v559 + 1)).toNat (by omega) M567 (v559 + 1) rfl hP568 hF570 (by omega) (by omega))
  exact wp_fg (le_s (le_s (le_s (le_s le_0)))) (c2_658 _ M0 0 rfl hP0 hF0 (by omega) (by omega))
def fm_m157_6v2 : Nat := 3941070043873280
/-- IslandHall$Parser.conjunction -/
theorem m157_6v2 {B : eB} (d : Nat) (M0 : Mm) (p1 : Int) (hP0 : Pw M0) (l1 : 2 ≤ p1) (u1 : p1 ≤ 2) : Ct B (d + 27) 157 [R 6, I p1] M0 (qI fun z M => Pw M ∧ Fr fm_m157_6v2 M0 M ∧ 0 ≤ z ∧ z ≤ 1 ∧ 0 ≤ z + M 6 4 + (-1)) := by
  refine ct_of (d := d + 26) (k := 1) (L := [some (R 6), some (I p1), none]) rfl rfl rfl ?_
  have hF0 := Fr.rf fm_m157_6v2 M0
  generalize hQ : (qI fun z M => Pw M ∧ Fr fm_m157_6v2 M0 M ∧ 0 ≤ z ∧ z ≤ 1 ∧ 0 ≤ z + M 6 4 + (-1)) = Q
  refine wk_al0 r157_0 (wk_il1 r157_1 (wk_cv2 r157_2 kc_6_166 rfl (m166_6v2 _ M0 p1 hP0 (by omega) (by omega)) (cqI ?_)))
  rintro v6 M1 ⟨hP2, hQ3, h7, h8, h5⟩
  have hF4 : Fr fm_m157_6v2 M0 M1 := hF0.tr hQ3 rfl
  obtain ⟨v9, e10⟩ : ∃ v, M1 6 4 = v := ⟨_, rfl⟩
  have h11 := bf_6_4 hP2; rw [e10] at h11
  refine wk_ifne r157_5 ⟨by omega, by omega⟩ ?_ ?_
  · intro h12
    refine wk_c1 r157_10 (wk_is2 r157_11 rfl ?_)
    have c12_442 : ∀ (k442 : Nat) (M401 : Mm) (v398 : Int) (v404 : Int), (500 - v398).toNat = k442 → Pw M401 → Fr fm_m157_6v2 M0 M401 → M401 6 4 = v404 → 0 ≤ v398 → v398 ≤ 500 → 0 ≤ v404 → v404 ≤ 6 → 0 ≤ (-1) * v404 + v398 + 6 → Wp B (d + 26) 157 12 [some (R 6), some (I p1), some (I v398)] [] M401 Q := by
      refine lp_ind ?_
      intro k442 ih442 M401 v398 v404 hk442 hP402 hF403 e407 h399 h400 h405 h406 h408
      refine wk_il2 r157_12 (wk_c3 r157_13 ?_)
      refine wk_icge r157_16 ⟨by omega, by omega⟩ (by decide) ?_ ?_
      · intro h409
        refine wk_c1 r157_53 ?_
        subst hQ; exact wk_zret r157_54 (by decide) (⟨rfl, _, rfl, hP402, hF403, by omega, by omega, by have := e407; omega⟩)
      · intro h410
        refine wk_al0 r157_19 (wk_c8 r157_20 (wk_cv2 r157_22 kc_6_175 rfl (m175_6 _ M401 4125 hP402 (by decide)) (cqI ?_)))
        rintro v415 M411 ⟨hP412, hQ413, h416, h417⟩
        have hF414 : Fr fm_m157_6v2 M0 M411 := hF403.tr hQ413 rfl
        refine wk_ifeq r157_25 ⟨by omega, by omega⟩ ?_ ?_
        · intro h418
          refine wk_c1 r157_53 ?_
          subst hQ; exact wk_zret r157_54 (by decide) (⟨rfl, _, rfl, hP412, hF414, by omega, by omega, by have := ((hQ413.at g_6_4 rfl).trans e407); omega⟩)
        · intro h419
          refine wk_al0 r157_28 (wk_il1 r157_29 (wk_cv2 r157_30 kc_6_166 rfl (m166_6v2 _ M411 p1 hP412 (by omega) (by omega)) (cqI ?_)))
          rintro v425 M420 ⟨hP421, hQ422, h426, h427, h424⟩
          have hF423 : Fr fm_m157_6v2 M0 M420 := hF414.tr hQ422 rfl
          obtain ⟨v428, e429⟩ : ∃ v, M420 6 4 = v := ⟨_, rfl⟩
          have h430 := bf_6_4 hP421; rw [e429] at h430
          refine wk_ifeq r157_33 ⟨by omega, by omega⟩ ?_ ?_
          · intro h431
            refine wk_c1 r157_45 ?_
            subst hQ; exact wk_zret r157_46 (by decide) (⟨rfl, _, rfl, hP421, hF423, by omega, by omega, by have := e429; omega⟩)
          · intro h432
            refine wk_al0 r157_36 (wk_c1 r157_37 (wk_c1 r157_38 (wk_cv3 r157_39 kc_6_172 rfl (m172_6 _ M420 2 0 hP421 (by decide) (by decide) (by decide) (by decide) (by first | assumption | omega | (unfold stepok; omega))) (cqI ?_))))
            rintro v437 M433 ⟨hP434, hQ435, h438, h439⟩
            have hF436 : Fr fm_m157_6v2 M0 M433 := hF423.tr hQ435 rfl
            refine wk_ifne r157_42 ⟨by omega, by omega⟩ ?_ ?_
            · intro h440
              refine wk_inc2 r157_47 rfl (wk_goto r157_50 ?_)
              exact wp_fg (le_s (le_s (le_s le_0))) (ih442 (500 - (v398 + 1)).toNat (by omega) M433 (v398 + 1) v428 rfl hP434 hF436 ((hQ435.at g_6_4 rfl).trans e429) (by omega) (by omega) (by omega) (by omega) (by omega))
            · intro h441
              exfalso
              omega
    exact wp_fg (le_s (le_s (le_s le_0))) (c12_442 _ M1 0 v9 rfl hP2 hF4 e10 (by omega) (by omega) (by omega) (by omega) (by omega))
  · intro h443
    refine wk_c1 r157_8 ?_
    subst hQ; exact wk_zret r157_9 (by decide) (⟨rfl, _, rfl, hP2, hF4, by omega, by omega, by have := e10; omega⟩)
def fm_m158_6v2 : Nat := 3941070043873280
/-- IslandHall$Parser.expr -/
theorem m158_6v2 {B : eB} (d : Nat) (M0 : Mm) (p1 : Int) (hP0 : Pw M0) (l1 : 2 ≤ p1) (u1 : p1 ≤ 2) : Ct B (d + 28) 158 [R 6, I p1] M0 (qI fun z M => Pw M ∧ Fr fm_m158_6v2 M0 M ∧ 0 ≤ z ∧ z ≤ 1 ∧ 0 ≤ z + M 6 4 + (-1)) := by
  refine ct_of (d := d + 27) (k := 1) (L := [some (R 6), some (I p1), none]) rfl rfl rfl ?_
  have hF0 := Fr.rf fm_m158_6v2 M0
  generalize hQ : (qI fun z M => Pw M ∧ Fr fm_m158_6v2 M0 M ∧ 0 ≤ z ∧ z ≤ 1 ∧ 0 ≤ z + M 6 4 + (-1)) = Q
  refine wk_al0 r158_0 (wk_cv1 r158_1 kc_6_155 rfl (m155_6 _ M0 hP0) (cqI ?_))
  rintro v5 M1 ⟨hP2, hQ3, h6, h7⟩
  obtain rfl := Fr.same hQ3
  refine wk_ifne r158_4 ⟨by omega, by omega⟩ ?_ ?_
  · intro h8
    refine wk_il1 r158_13 (wk_c2 r158_14 ?_)
    refine wk_iclt r158_16 ⟨by omega, by omega⟩ (by decide) ?_ ?_
    · intro h9
      refine wk_al0 r158_25 (wk_il1 r158_26 (wk_cv2 r158_27 kc_6_157 rfl (m157_6v2 _ M0 p1 hP0 (by omega) (by omega)) (cqI ?_)))
      rintro v15 M10 ⟨hP11, hQ12, h16, h17, h14⟩
      have hF13 : Fr fm_m158_6v2 M0 M10 := hF0.tr hQ12 rfl
      obtain ⟨v18, e19⟩ : ∃ v, M10 6 4 = v := ⟨_, rfl⟩
      have h20 := bf_6_4 hP11; rw [e19] at h20
      refine wk_ifne r158_30 ⟨by omega, by omega⟩ ?_ ?_
      · intro h21
        refine wk_c1 r158_35 (wk_is2 r158_36 rfl ?_)
        have c37_451 : ∀ (k451 : Nat) (M410 : Mm) (v407 : Int) (v413 : Int), (500 - v407).toNat = k451 → Pw M410 → Fr fm_m158_6v2 M0 M410 → M410 6 4 = v413 → 0 ≤ v407 → v407 ≤ 500 → 0 ≤ v413 → v413 ≤ 6 → 0 ≤ (-1) * v413 + v407 + 6 → Wp B (d + 27) 158 37 [some (R 6), some (I p1), some (I v407)] [] M410 Q := by
          refine lp_ind ?_
          intro k451 ih451 M410 v407 v413 hk451 hP411 hF412 e416 h408 h409 h414 h415 h417
          refine wk_il2 r158_37 (wk_c3 r158_38 ?_)
          refine wk_icge r158_41 ⟨by omega, by omega⟩ (by decide) ?_ ?_
          · intro h418
            refine wk_c1 r158_78 ?_
            subst hQ; exact wk_zret r158_79 (by decide) (⟨rfl, _, rfl, hP411, hF412, by omega, by omega, by have := e416; omega⟩)
          · intro h419
            refine wk_al0 r158_44 (wk_c8 r158_45 (wk_cv2 r158_47 kc_6_175 rfl (m175_6 _ M410 4126 hP411 (by decide)) (cqI ?_)))
            rintro v424 M420 ⟨hP421, hQ422, h425, h426⟩
            have hF423 : Fr fm_m158_6v2 M0 M420 := hF412.tr hQ422 rfl
            refine wk_ifeq r158_50 ⟨by omega, by omega⟩ ?_ ?_
            · intro h427
              refine wk_c1 r158_78 ?_
              subst hQ; exact wk_zret r158_79 (by decide) (⟨rfl, _, rfl, hP421, hF423, by omega, by omega, by have := ((hQ422.at g_6_4 rfl).trans e416); omega⟩)
            · intro h428
              refine wk_al0 r158_53 (wk_il1 r158_54 (wk_cv2 r158_55 kc_6_157 rfl (m157_6v2 _ M420 p1 hP421 (by omega) (by omega)) (cqI ?_)))
              rintro v434 M429 ⟨hP430, hQ431, h435, h436, h433⟩
              have hF432 : Fr fm_m158_6v2 M0 M429 := hF423.tr hQ431 rfl
              obtain ⟨v437, e438⟩ : ∃ v, M429 6 4 = v := ⟨_, rfl⟩
              have h439 := bf_6_4 hP430; rw [e438] at h439
              refine wk_ifeq r158_58 ⟨by omega, by omega⟩ ?_ ?_
              · intro h440
                refine wk_c1 r158_70 ?_
                subst hQ; exact wk_zret r158_71 (by decide) (⟨rfl, _, rfl, hP430, hF432, by omega, by omega, by have := e438; omega⟩)
              · intro h441
                refine wk_al0 r158_61 (wk_c1 r158_62 (wk_c1 r158_63 (wk_cv3 r158_64 kc_6_172 rfl (m172_6 _ M429 3 0 hP430 (by decide) (by decide) (by decide) (by decide) (by first | assumption | omega | (unfold stepok; omega))) (cqI ?_))))
                rintro v446 M442 ⟨hP443, hQ444, h447, h448⟩
                have hF445 : Fr fm_m158_6v2 M0 M442 := hF432.tr hQ444 rfl
                refine wk_ifne r158_67 ⟨by omega, by omega⟩ ?_ ?_
                · intro h449
                  refine wk_inc2 r158_72 rfl (wk_goto r158_75 ?_)
                  exact wp_fg (le_s (le_s (le_s le_0))) (ih451 (500 - (v407 + 1)).toNat (by omega) M442 (v407 + 1) v437 rfl hP443 hF445 ((hQ444.at g_6_4 rfl).trans e438) (by omega) (by omega) (by omega) (by omega) (by omega))
                · intro h450
                  exfalso
                  omega
        exact wp_fg (le_s (le_s (le_s le_0))) (c37_451 _ M10 0 v18 rfl hP11 hF13 e19 (by omega) (by omega) (by omega) (by omega) (by omega))
      · intro h452
        refine wk_c1 r158_33 ?_
        subst hQ; exact wk_zret r158_34 (by decide) (⟨rfl, _, rfl, hP11, hF13, by omega, by omega, by have := e19; omega⟩)
    · intro h453
      exfalso
      omega
  · intro h454
    refine wk_al0 r158_7 (wk_c1 r158_8 (wk_cv2 r158_9 kc_6_159 rfl (m159_6v1 _ M0 1 hP0 (by decide) (by decide)) (cqI ?_)))
    rintro v460 M455 ⟨hP456, hQ457, h461, h462, h459⟩
    have hF458 : Fr fm_m158_6v2 M0 M455 := hF0.tr hQ457 rfl
    obtain ⟨v463, e464⟩ : ∃ v, M455 6 4 = v := ⟨_, rfl⟩
    have h465 := bf_6_4 hP456; rw [e464] at h465
    subst hQ; exact wk_zret r158_12 ⟨by omega, by omega⟩ (⟨rfl, _, rfl, hP456, hF458, by omega, by omega, by have := e464; omega⟩)
def fm_m168_6v1 : Nat := 3941070043873280
/-- IslandHall$Parser.parenthesis -/
theorem m168_6v1 {B : eB} (d : Nat) (M0 : Mm) (p1 : Int) (hP0 : Pw M0) (l1 : 1 ≤ p1) (u1 : p1 ≤ 1) : Ct B (d + 29) 168 [R 6, I p1] M0 (qI fun z M => Pw M ∧ Fr fm_m168_6v1 M0 M ∧ 0 ≤ z ∧ z ≤ 1 ∧ 0 ≤ z + M 6 4 + (-1)) := by
  refine ct_of (d := d + 28) (k := 0) (L := [some (R 6), some (I p1)]) rfl rfl rfl ?_
  have hF0 := Fr.rf fm_m168_6v1 M0
  generalize hQ : (qI fun z M => Pw M ∧ Fr fm_m168_6v1 M0 M ∧ 0 ≤ z ∧ z ≤ 1 ∧ 0 ≤ z + M 6 4 + (-1)) = Q
  refine wk_al0 r168_0 (wk_c2 r168_1 (wk_cv2 r168_3 kc_6_174 rfl (m174_6v1 _ M0 40 hP0 (by decide) (by decide)) (cqI ?_)))
  rintro v6 M1 ⟨hP2, hQ3, h7, h8, h5⟩
  have hF4 : Fr fm_m168_6v1 M0 M1 := hF0.tr hQ3 rfl
  obtain ⟨v9, e10⟩ : ∃ v, M1 6 4 = v := ⟨_, rfl⟩
  have h11 := bf_6_4 hP2; rw [e10] at h11
  refine wk_ifeq r168_6 ⟨by omega, by omega⟩ ?_ ?_
  · intro h12
    refine wk_c1 r168_32 ?_
    subst hQ; exact wk_zret r168_33 (by decide) (⟨rfl, _, rfl, hP2, hF4, by omega, by omega, by have := e10; omega⟩)
  · intro h13
    refine wk_al0 r168_9 (wk_il1 r168_10 (wk_c1 r168_11 (wk_iadd r168_12 (wk_cv2 r168_13 kc_6_158 rfl (m158_6v2 _ M1 (p1 + 1) hP2 (by omega) (by omega)) (cqI ?_)))))
    rintro v19 M14 ⟨hP15, hQ16, h20, h21, h18⟩
    have hF17 : Fr fm_m168_6v1 M0 M14 := hF4.tr hQ16 rfl
    obtain ⟨v22, e23⟩ : ∃ v, M14 6 4 = v := ⟨_, rfl⟩
    have h24 := bf_6_4 hP15; rw [e23] at h24
    refine wk_ifeq r168_16 ⟨by omega, by omega⟩ ?_ ?_
    · intro h25
      refine wk_c1 r168_32 ?_
      subst hQ; exact wk_zret r168_33 (by decide) (⟨rfl, _, rfl, hP15, hF17, by omega, by omega, by have := e23; omega⟩)
    · intro h26
      refine wk_al0 r168_19 (wk_c2 r168_20 (wk_cv2 r168_22 kc_6_174 rfl (m174_6v1 _ M14 41 hP15 (by decide) (by decide)) (cqI ?_)))
      rintro v32 M27 ⟨hP28, hQ29, h33, h34, h31⟩
      have hF30 : Fr fm_m168_6v1 M0 M27 := hF17.tr hQ29 rfl
      obtain ⟨v35, e36⟩ : ∃ v, M27 6 4 = v := ⟨_, rfl⟩
      have h37 := bf_6_4 hP28; rw [e36] at h37
      refine wk_ifeq r168_25 ⟨by omega, by omega⟩ ?_ ?_
      · intro h38
        refine wk_c1 r168_32 ?_
        subst hQ; exact wk_zret r168_33 (by decide) (⟨rfl, _, rfl, hP28, hF30, by omega, by omega, by have := e36; omega⟩)
      · intro h39
        refine wk_c1 r168_28 (wk_goto r168_29 ?_)
        subst hQ; exact wk_zret r168_33 (by decide) (⟨rfl, _, rfl, hP28, hF30, by omega, by omega, by have := e36; omega⟩)
def fm_m152_6v1 : Nat := 3941070043873280
/-- IslandHall$Parser.aboutSomeone -/
theorem m152_6v1 {B : eB} (d : Nat) (M0 : Mm) (p1 : Int) (hP0 : Pw M0) (l1 : 1 ≤ p1) (u1 : p1 ≤ 1) : Ct B (d + 30) 152 [R 6, I p1] M0 (qI fun z M => Pw M ∧ Fr fm_m152_6v1 M0 M ∧ 0 ≤ z ∧ z ≤ 1 ∧ 0 ≤ z + M 6 4 + (-1)) := by
  refine ct_of (d := d + 29) (k := 2) (L := [some (R 6), some (I p1), none, none]) rfl rfl rfl ?_
  have hF0 := Fr.rf fm_m152_6v1 M0
  generalize hQ : (qI fun z M => Pw M ∧ Fr fm_m152_6v1 M0 M ∧ 0 ≤ z ∧ z ≤ 1 ∧ 0 ≤ z + M 6 4 + (-1)) = Q
  refine wk_al0 r152_0 (wk_cv1 r152_1 kc_6_165 rfl (m165_6 _ M0 hP0) (cqI ?_))
  rintro v6 M1 ⟨hP2, hQ3, h7, h8, h5⟩
  have hF4 : Fr fm_m152_6v1 M0 M1 := hF0.tr hQ3 rfl
  obtain ⟨v9, e10⟩ : ∃ v, M1 6 4 = v := ⟨_, rfl⟩
  have h11 := bf_6_4 hP2; rw [e10] at h11
  refine wk_is2 r152_4 rfl (wk_il2 r152_5 (wk_c1 r152_6 ?_))
  refine wk_icne r152_7 ⟨by omega, by omega⟩ (by decide) ?_ ?_
  · intro h12
    refine wk_al0 r152_12 (wk_c8 r152_13 (wk_cv2 r152_15 kc_6_175 rfl (m175_6 _ M1 4111 hP2 (by decide)) (cqI ?_)))
    rintro v17 M13 ⟨hP14, hQ15, h18, h19⟩
    have hF16 : Fr fm_m152_6v1 M0 M13 := hF4.tr hQ15 rfl
    refine wk_ifeq r152_18 ⟨by omega, by omega⟩ ?_ ?_
    · intro h20
      refine wk_al0 r152_35 (wk_c8 r152_36 (wk_cv2 r152_38 kc_6_175 rfl (m175_6 _ M13 4112 hP14 (by decide)) (cqI ?_)))
      rintro v25 M21 ⟨hP22, hQ23, h26, h27⟩
      have hF24 : Fr fm_m152_6v1 M0 M21 := hF16.tr hQ23 rfl
      refine wk_ifeq r152_41 ⟨by omega, by omega⟩ ?_ ?_
      · intro h28
        refine wk_al0 r152_73 (wk_c8 r152_74 (wk_cv2 r152_76 kc_6_175 rfl (m175_6 _ M21 4113 hP22 (by decide)) (cqI ?_)))
        rintro v33 M29 ⟨hP30, hQ31, h34, h35⟩
        have hF32 : Fr fm_m152_6v1 M0 M29 := hF24.tr hQ31 rfl
        refine wk_ifne r152_79 ⟨by omega, by omega⟩ ?_ ?_
        · intro h36
          refine wk_al0 r152_88 (wk_il1 r152_89 (wk_cv2 r152_90 kc_6_168 rfl (m168_6v1 _ M29 p1 hP30 (by omega) (by omega)) (cqI ?_)))
          rintro v42 M37 ⟨hP38, hQ39, h43, h44, h41⟩
          have hF40 : Fr fm_m152_6v1 M0 M37 := hF32.tr hQ39 rfl
          obtain ⟨v45, e46⟩ : ∃ v, M37 6 4 = v := ⟨_, rfl⟩
          have h47 := bf_6_4 hP38; rw [e46] at h47
          refine wk_ifne r152_93 ⟨by omega, by omega⟩ ?_ ?_
          · intro h48
            refine wk_al0 r152_98 ?_
            obtain ⟨v49, e50⟩ : ∃ v, M37 6 2 = v := ⟨_, rfl⟩
            have hC51 : isC v49 := by have := pcE hP38; rw [e50] at this; exact this
            refine wk_getfr r152_99 fd_6_2 e50 (wk_il2 r152_102 (wk_cv2 r152_103 (kcC_139 hC51) rfl (m139 _ M37 v49 v6 hP38 hC51 (by omega) (by omega)) (cqV ?_)))
            rintro M52 ⟨hP53, hQ54⟩
            have hF55 : Fr fm_m152_6v1 M0 M52 := hF40.tr hQ54 rfl
            refine wk_c1 r152_106 ?_
            subst hQ; exact wk_zret r152_107 (by decide) (⟨rfl, _, rfl, hP53, hF55, by omega, by omega, by have := ((hQ54.at g_6_4 rfl).trans e46); omega⟩)
          · intro h56
            refine wk_c1 r152_96 ?_
            subst hQ; exact wk_zret r152_97 (by decide) (⟨rfl, _, rfl, hP38, hF40, by omega, by omega, by have := e46; omega⟩)
        · intro h57
          refine wk_al0 r152_82 (wk_c1 r152_83 (wk_cv2 r152_84 kc_6_159 rfl (m159_6v1 _ M29 1 hP30 (by decide) (by decide)) (cqI ?_)))
          rintro v63 M58 ⟨hP59, hQ60, h64, h65, h62⟩
          have hF61 : Fr fm_m152_6v1 M0 M58 := hF32.tr hQ60 rfl
          obtain ⟨v66, e67⟩ : ∃ v, M58 6 4 = v := ⟨_, rfl⟩
          have h68 := bf_6_4 hP59; rw [e67] at h68
          subst hQ; exact wk_zret r152_87 ⟨by omega, by omega⟩ (⟨rfl, _, rfl, hP59, hF61, by omega, by omega, by have := e67; omega⟩)
      · intro h69
        refine wk_al0 r152_44 (wk_cv1 r152_45 kc_6_165 rfl (m165_6 _ M21 hP22) (cqI ?_))
        rintro v75 M70 ⟨hP71, hQ72, h76, h77, h74⟩
        have hF73 : Fr fm_m152_6v1 M0 M70 := hF24.tr hQ72 rfl
        obtain ⟨v78, e79⟩ : ∃ v, M70 6 4 = v := ⟨_, rfl⟩
        have h80 := bf_6_4 hP71; rw [e79] at h80
        refine wk_is3 r152_48 rfl (wk_il3 r152_49 (wk_c1 r152_50 ?_))
        refine wk_iceq r152_51 ⟨by omega, by omega⟩ (by decide) ?_ ?_
        · intro h81
          refine wk_c1 r152_71 ?_
          subst hQ; exact wk_zret r152_72 (by decide) (⟨rfl, _, rfl, hP71, hF73, by omega, by omega, by have := e79; omega⟩)
        · intro h82
          refine wk_al0 r152_54 (wk_c1 r152_55 (wk_il2 r152_56 (wk_c1 r152_57 (wk_ishlc r152_58 (by decide) pwl_3 (wk_il3 r152_59 (wk_iord2 3 8 r152_60 (by decide) ⟨by omega, by omega⟩ ⟨by omega, by omega, by omega⟩ (wk_cv3 r152_61 kc_6_172 rfl (m172_6 _ M70 5 ((v6 * 8) + v75) hP71 (by decide) (by decide) (by omega) (by omega) (by first | assumption | omega | (unfold stepok; omega))) (cqI ?_))))))))
          rintro v87 M83 ⟨hP84, hQ85, h88, h89⟩
          have hF86 : Fr fm_m152_6v1 M0 M83 := hF73.tr hQ85 rfl
          refine wk_ifeq r152_64 ⟨by omega, by omega⟩ ?_ ?_
          · intro h90
            exfalso
            omega
          · intro h91
            refine wk_c1 r152_67 (wk_goto r152_68 ?_)
            subst hQ; exact wk_zret r152_72 (by decide) (⟨rfl, _, rfl, hP84, hF86, by omega, by omega, by have := ((hQ85.at g_6_4 rfl).trans e79); omega⟩)
    · intro h92
      refine wk_al0 r152_21 (wk_c1 r152_22 (wk_il2 r152_23 (wk_c1 r152_24 (wk_imul r152_25 (wk_iadd r152_26 (wk_al0 r152_27 (wk_cv1 r152_28 kc_6_173 rfl (m173_6 _ M13 hP14) (cqI ?_))))))))
      rintro v98 M93 ⟨hP94, hQ95, h99, h100, h97⟩
      have hF96 : Fr fm_m152_6v1 M0 M93 := hF16.tr hQ95 rfl
      obtain ⟨v101, e102⟩ : ∃ v, M93 6 4 = v := ⟨_, rfl⟩
      have h103 := bf_6_4 hP94; rw [e102] at h103
      refine wk_cv3 r152_31 kc_6_171 rfl (m171_6v3 _ M93 (0 + (v6 * 5)) v98 v101 hP94 (by omega) (by omega) (by omega) (by omega) e102 (by omega) (by omega) (by omega)) (cqI ?_)
      rintro v109 M104 ⟨hP105, hQ106, h110, h111, h108⟩
      have hF107 : Fr fm_m152_6v1 M0 M104 := hF96.tr hQ106 rfl
      have e112 := ((hQ106.at g_6_4 rfl).trans e102)
      subst hQ; exact wk_zret r152_34 ⟨by omega, by omega⟩ (⟨rfl, _, rfl, hP105, hF107, by omega, by omega, by have := ((hQ106.at g_6_4 rfl).trans e102); omega⟩)
  · intro h113
    refine wk_c1 r152_10 ?_
    subst hQ; exact wk_zret r152_11 (by decide) (⟨rfl, _, rfl, hP2, hF4, by omega, by omega, by have := e10; omega⟩)
def fm_m153_6v1 : Nat := 3941070043873280
/-- IslandHall$Parser.atom -/
theorem m153_6v1 {B : eB} (d : Nat) (M0 : Mm) (p1 : Int) (hP0 : Pw M0) (l1 : 1 ≤ p1) (u1 : p1 ≤ 1) : Ct B (d + 31) 153 [R 6, I p1] M0 (qI fun z M => Pw M ∧ Fr fm_m153_6v1 M0 M ∧ 0 ≤ z ∧ z ≤ 1 ∧ 0 ≤ z + M 6 4 + (-1)) := by
  refine ct_of (d := d + 30) (k := 0) (L := [some (R 6), some (I p1)]) rfl rfl rfl ?_
  have hF0 := Fr.rf fm_m153_6v1 M0
  generalize hQ : (qI fun z M => Pw M ∧ Fr fm_m153_6v1 M0 M ∧ 0 ≤ z ∧ z ≤ 1 ∧ 0 ≤ z + M 6 4 + (-1)) = Q
  refine wk_al0 r153_0 (wk_getfr r153_1 fd_6_0 (br_6_0 hP0) (wk_cv1 r153_4 kc_9_237 rfl (m237_9 _ M0 hP0) (cqI ?_)))
  rintro v7 M1 ⟨hP2, hQ3, h8, h9, h5, h6⟩
  obtain rfl := Fr.same hQ3
  obtain ⟨v10, e11⟩ : ∃ v, M0 9 2 = v := ⟨_, rfl⟩
  have h12 := bf_9_2 hP0; rw [e11] at h12
  obtain ⟨v13, e14⟩ : ∃ v, M0 9 3 = v := ⟨_, rfl⟩
  have h15 := bf_9_3 hP0; rw [e14] at h15
  refine wk_ifeq r153_7 ⟨by omega, by omega⟩ ?_ ?_
  · intro h16
    refine wk_al0 r153_16 (wk_c8 r153_17 (wk_cv2 r153_19 kc_6_175 rfl (m175_6 _ M0 4114 hP0 (by decide)) (cqI ?_)))
    rintro v21 M17 ⟨hP18, hQ19, h22, h23⟩
    have hF20 : Fr fm_m153_6v1 M0 M17 := hF0.tr hQ19 rfl
    refine wk_ifeq r153_22 ⟨by omega, by omega⟩ ?_ ?_
    · intro h24
      refine wk_al0 r153_38 (wk_c8 r153_39 (wk_cv2 r153_41 kc_6_175 rfl (m175_6 _ M17 4115 hP18 (by decide)) (cqI ?_)))
      rintro v29 M25 ⟨hP26, hQ27, h30, h31⟩
      have hF28 : Fr fm_m153_6v1 M0 M25 := hF20.tr hQ27 rfl
      refine wk_ifeq r153_44 ⟨by omega, by omega⟩ ?_ ?_
      · intro h32
        refine wk_al0 r153_61 (wk_c8 r153_62 (wk_cv2 r153_64 kc_6_175 rfl (m175_6 _ M25 4116 hP26 (by decide)) (cqI ?_)))
        rintro v37 M33 ⟨hP34, hQ35, h38, h39⟩
        have hF36 : Fr fm_m153_6v1 M0 M33 := hF28.tr hQ35 rfl
        refine wk_ifeq r153_67 ⟨by omega, by omega⟩ ?_ ?_
        · intro h40
          refine wk_al0 r153_83 (wk_c8 r153_84 (wk_cv2 r153_86 kc_6_175 rfl (m175_6 _ M33 4117 hP34 (by decide)) (cqI ?_)))
          rintro v45 M41 ⟨hP42, hQ43, h46, h47⟩
          have hF44 : Fr fm_m153_6v1 M0 M41 := hF36.tr hQ43 rfl
          refine wk_ifeq r153_89 ⟨by omega, by omega⟩ ?_ ?_
          · intro h48
            refine wk_al0 r153_97 (wk_c8 r153_98 (wk_cv2 r153_100 kc_6_175 rfl (m175_6 _ M41 4118 hP42 (by decide)) (cqI ?_)))
            rintro v53 M49 ⟨hP50, hQ51, h54, h55⟩
            have hF52 : Fr fm_m153_6v1 M0 M49 := hF44.tr hQ51 rfl
            refine wk_ifeq r153_103 ⟨by omega, by omega⟩ ?_ ?_
            · intro h56
              refine wk_al0 r153_117 (wk_c1 r153_118 (wk_cv2 r153_119 kc_6_159 rfl (m159_6v1 _ M49 1 hP50 (by decide) (by decide)) (cqI ?_)))
              rintro v62 M57 ⟨hP58, hQ59, h63, h64, h61⟩
              have hF60 : Fr fm_m153_6v1 M0 M57 := hF52.tr hQ59 rfl
              obtain ⟨v65, e66⟩ : ∃ v, M57 6 4 = v := ⟨_, rfl⟩
              have h67 := bf_6_4 hP58; rw [e66] at h67
              subst hQ; exact wk_zret r153_122 ⟨by omega, by omega⟩ (⟨rfl, _, rfl, hP58, hF60, by omega, by omega, by have := e66; omega⟩)
            · intro h68
              refine wk_al0 r153_106 (wk_al0 r153_107 (wk_cv1 r153_108 kc_6_173 rfl (m173_6 _ M49 hP50) (cqI ?_)))
              rintro v74 M69 ⟨hP70, hQ71, h75, h76, h73⟩
              have hF72 : Fr fm_m153_6v1 M0 M69 := hF52.tr hQ71 rfl
              obtain ⟨v77, e78⟩ : ∃ v, M69 6 4 = v := ⟨_, rfl⟩
              have h79 := bf_6_4 hP70; rw [e78] at h79
              refine wk_cv2 r153_111 kc_6_163 rfl (m163_6 _ M69 v74 v77 hP70 (by omega) (by omega) e78 (by omega) (by omega) (by omega)) (cqI ?_)
              rintro v85 M80 ⟨hP81, hQ82, h86, h87, h84⟩
              have hF83 : Fr fm_m153_6v1 M0 M80 := hF72.tr hQ82 rfl
              obtain ⟨v88, e89⟩ : ∃ v, M80 6 4 = v := ⟨_, rfl⟩
              have h90 := bf_6_4 hP81; rw [e89] at h90
              refine wk_goto r153_114 ?_
              subst hQ; exact wk_zret r153_122 ⟨by omega, by omega⟩ (⟨rfl, _, rfl, hP81, hF83, by omega, by omega, by have := e89; omega⟩)
          · intro h91
            refine wk_al0 r153_92 (wk_cv1 r153_93 kc_6_176 rfl (m176_6 _ M41 hP42) (cqI ?_))
            rintro v97 M92 ⟨hP93, hQ94, h98, h99, h96⟩
            have hF95 : Fr fm_m153_6v1 M0 M92 := hF44.tr hQ94 rfl
            obtain ⟨v100, e101⟩ : ∃ v, M92 6 4 = v := ⟨_, rfl⟩
            have h102 := bf_6_4 hP93; rw [e101] at h102
            subst hQ; exact wk_zret r153_96 ⟨by omega, by omega⟩ (⟨rfl, _, rfl, hP93, hF95, by omega, by omega, by have := e101; omega⟩)
        · intro h103
          refine wk_al0 r153_70 (wk_c2 r153_71 (wk_al0 r153_73 (wk_c1 r153_74 (wk_c1 r153_75 (wk_cv3 r153_76 kc_6_167 rfl (m167_6v4 _ M33 0 1 hP34 (by decide) (by decide) (by decide) (by decide)) (cqI ?_))))))
          rintro v109 M104 ⟨hP105, hQ106, h110, h111, h108⟩
          have hF107 : Fr fm_m153_6v1 M0 M104 := hF36.tr hQ106 rfl
          obtain ⟨v112, e113⟩ : ∃ v, M104 6 4 = v := ⟨_, rfl⟩
          have h114 := bf_6_4 hP105; rw [e113] at h114
          refine wk_cv3 r153_79 kc_6_171 rfl (m171_6 _ M104 46 v109 v112 hP105 (by decide) (by decide) (by omega) (by omega) e113 (by omega) (by omega) (by omega)) (cqI ?_)
          rintro v120 M115 ⟨hP116, hQ117, h121, h122, h119⟩
          have hF118 : Fr fm_m153_6v1 M0 M115 := hF107.tr hQ117 rfl
          have e123 := ((hQ117.at g_6_4 rfl).trans e113)
          subst hQ; exact wk_zret r153_82 ⟨by omega, by omega⟩ (⟨rfl, _, rfl, hP116, hF118, by omega, by omega, by have := ((hQ117.at g_6_4 rfl).trans e113); omega⟩)
      · intro h124
        refine wk_al0 r153_47 (wk_c2 r153_48 (wk_al0 r153_50 (wk_c1 r153_51 (wk_c2 r153_52 (wk_cv3 r153_54 kc_6_167 rfl (m167_6v1 _ M25 0 6 hP26 (by decide) (by decide) (by decide) (by decide)) (cqI ?_))))))
        rintro v130 M125 ⟨hP126, hQ127, h131, h132, h129⟩
        have hF128 : Fr fm_m153_6v1 M0 M125 := hF28.tr hQ127 rfl
        obtain ⟨v133, e134⟩ : ∃ v, M125 6 4 = v := ⟨_, rfl⟩
        have h135 := bf_6_4 hP126; rw [e134] at h135
        refine wk_cv3 r153_57 kc_6_171 rfl (m171_6v1 _ M125 39 v130 v133 hP126 (by decide) (by decide) (by omega) (by omega) e134 (by omega) (by omega) (by omega)) (cqI ?_)
        rintro v141 M136 ⟨hP137, hQ138, h142, h143, h140⟩
        have hF139 : Fr fm_m153_6v1 M0 M136 := hF128.tr hQ138 rfl
        have e144 := ((hQ138.at g_6_4 rfl).trans e134)
        subst hQ; exact wk_zret r153_60 ⟨by omega, by omega⟩ (⟨rfl, _, rfl, hP137, hF139, by omega, by omega, by have := ((hQ138.at g_6_4 rfl).trans e134); omega⟩)
    · intro h145
      refine wk_al0 r153_25 (wk_c2 r153_26 (wk_al0 r153_28 (wk_c1 r153_29 (wk_c1 r153_30 (wk_cv3 r153_31 kc_6_167 rfl (m167_6v5 _ M17 0 3 hP18 (by decide) (by decide) (by decide) (by decide)) (cqI ?_))))))
      rintro v151 M146 ⟨hP147, hQ148, h152, h153, h150⟩
      have hF149 : Fr fm_m153_6v1 M0 M146 := hF20.tr hQ148 rfl
      obtain ⟨v154, e155⟩ : ∃ v, M146 6 4 = v := ⟨_, rfl⟩
      have h156 := bf_6_4 hP147; rw [e155] at h156
      refine wk_cv3 r153_34 kc_6_171 rfl (m171_6v2 _ M146 35 v151 v154 hP147 (by decide) (by decide) (by omega) (by omega) e155 (by omega) (by omega) (by omega)) (cqI ?_)
      rintro v162 M157 ⟨hP158, hQ159, h163, h164, h161⟩
      have hF160 : Fr fm_m153_6v1 M0 M157 := hF149.tr hQ159 rfl
      have e165 := ((hQ159.at g_6_4 rfl).trans e155)
      subst hQ; exact wk_zret r153_37 ⟨by omega, by omega⟩ (⟨rfl, _, rfl, hP158, hF160, by omega, by omega, by have := ((hQ159.at g_6_4 rfl).trans e155); omega⟩)
  · intro h166
    refine wk_al0 r153_10 (wk_il1 r153_11 (wk_cv2 r153_12 kc_6_152 rfl (m152_6v1 _ M0 p1 hP0 (by omega) (by omega)) (cqI ?_)))
    rintro v172 M167 ⟨hP168, hQ169, h173, h174, h171⟩
    have hF170 : Fr fm_m153_6v1 M0 M167 := hF0.tr hQ169 rfl
    obtain ⟨v175, e176⟩ : ∃ v, M167 6 4 = v := ⟨_, rfl⟩
    have h177 := bf_6_4 hP168; rw [e176] at h177
    subst hQ; exact wk_zret r153_15 ⟨by omega, by omega⟩ (⟨rfl, _, rfl, hP168, hF170, by omega, by omega, by have := e176; omega⟩)
def fm_m166_6v1 : Nat := 3941070043873280
/-- IslandHall$Parser.negation -/
theorem m166_6v1 {B : eB} (d : Nat) (M0 : Mm) (p1 : Int) (hP0 : Pw M0) (l1 : 1 ≤ p1) (u1 : p1 ≤ 1) : Ct B (d + 32) 166 [R 6, I p1] M0 (qI fun z M => Pw M ∧ Fr fm_m166_6v1 M0 M ∧ 0 ≤ z ∧ z ≤ 1 ∧ 0 ≤ z + M 6 4 + (-1)) := by
  refine ct_of (d := d + 31) (k := 2) (L := [some (R 6), some (I p1), none, none]) rfl rfl rfl ?_
  have hF0 := Fr.rf fm_m166_6v1 M0
  generalize hQ : (qI fun z M => Pw M ∧ Fr fm_m166_6v1 M0 M ∧ 0 ≤ z ∧ z ≤ 1 ∧ 0 ≤ z + M 6 4 + (-1)) = Q
  refine wk_c1 r166_0 (wk_is2 r166_1 rfl ?_)
  have c2_658 : ∀ (k658 : Nat) (M562 : Mm) (v559 : Int), (6 - v559).toNat = k658 → Pw M562 → Fr fm_m166_6v1 M0 M562 → 0 ≤ v559 → v559 ≤ 6 → Wp B (d + 31) 166 2 [some (R 6), some (I p1), some (I v559), none] [] M562 Q := by
    refine lp_ind ?_
    intro k658 ih658 M562 v559 hk658 hP563 hF564 h560 h561
    refine wk_il2 r166_2 (wk_c2 r166_3 ?_)
    have c23_657 : ∀ (M576 : Mm), Pw M576 → Fr fm_m166_6v1 M0 M576 → Wp B (d + 31) 166 23 [some (R 6), some (I p1), some (I v559), none] [] M576 Q := by
      intro M576 hP577 hF578
      refine wk_al0 r166_23 (wk_getfr r166_24 fd_6_0 (br_6_0 hP577) (wk_c8 r166_27 (wk_cv2 r166_29 kc_9_239 rfl (m239_9 _ M576 4119 hP577 (by decide)) (cqI ?_))))
      rintro v584 M579 ⟨hP580, hQ581, h585, h586, xh583⟩
      obtain rfl := Fr.same hQ581
      refine wk_ifeq r166_32 ⟨by omega, by omega⟩ ?_ ?_
      · intro h587
        refine wk_al0 r166_41 (wk_getfr r166_42 fd_6_0 (br_6_0 hP577) (wk_c2 r166_45 (wk_cv2 r166_47 kc_9_238 rfl (m238_9v1 _ M576 40 hP577 (by decide) (by decide)) (cqI ?_))))
        rintro v592 M588 ⟨hP589, hQ590, h593, h594⟩
        obtain rfl := Fr.same hQ590
        have c66_644 : ∀ (M622 : Mm) (v619 : Int) (v625 : Int), Pw M622 → Fr fm_m166_6v1 M0 M622 → M622 6 4 = v625 → 0 ≤ v619 → v619 ≤ 1 → 0 ≤ v625 → v625 ≤ 6 → 1 ≤ v619 + v625 → Wp B (d + 31) 166 66 [some (R 6), none, some (I v559), none] [I v619] M622 Q := by
          intro M622 v619 v625 hP623 hF624 e628 h620 h621 h626 h627 h629
          refine wk_is3 r166_66 rfl (wk_il3 r166_67 ?_)
          refine wk_ifeq r166_68 ⟨by omega, by omega⟩ ?_ ?_
          · intro h630
            refine wk_c1 r166_90 ?_
            subst hQ; exact wk_zret r166_91 (by decide) (⟨rfl, _, rfl, hP623, hF624, by omega, by omega, by have := e628; omega⟩)
          · intro h631
            refine wk_il2 r166_71 (wk_c1 r166_72 (wk_iandc 1 2 r166_73 ⟨rfl, by decide⟩ rfl ?_))
            refine wk_ifeq r166_74 ⟨by omega, by omega⟩ ?_ ?_
            · intro h633
              refine wk_c1 r166_86 (wk_goto r166_87 ?_)
              subst hQ; exact wk_zret r166_91 (by decide) (⟨rfl, _, rfl, hP623, hF624, by omega, by omega, by have := e628; omega⟩)
            · intro h634
              refine wk_al0 r166_77 (wk_c1 r166_78 (wk_c1 r166_79 (wk_cv3 r166_80 kc_6_172 rfl (m172_6 _ M622 1 0 hP623 (by decide) (by decide) (by decide) (by decide) (by first | assumption | omega | (unfold stepok; omega))) (cqI ?_))))
              rintro v639 M635 ⟨hP636, hQ637, h640, h641⟩
              have hF638 : Fr fm_m166_6v1 M0 M635 := hF624.tr hQ637 rfl
              refine wk_ifeq r166_83 ⟨by omega, by omega⟩ ?_ ?_
              · intro h642
                exfalso
                omega
              · intro h643
                refine wk_c1 r166_86 (wk_goto r166_87 ?_)
                subst hQ; exact wk_zret r166_91 (by decide) (⟨rfl, _, rfl, hP636, hF638, by omega, by omega, by have := ((hQ637.at g_6_4 rfl).trans e628); omega⟩)
        refine wk_ifeq r166_50 ⟨by omega, by omega⟩ ?_ ?_
        · intro h595
          refine wk_al0 r166_61 (wk_il1 r166_62 (wk_cv2 r166_63 kc_6_153 rfl (m153_6v1 _ M576 p1 hP577 (by omega) (by omega)) (cqI ?_)))
          rintro v601 M596 ⟨hP597, hQ598, h602, h603, h600⟩
          have hF599 : Fr fm_m166_6v1 M0 M596 := hF578.tr hQ598 rfl
          obtain ⟨v604, e605⟩ : ∃ v, M596 6 4 = v := ⟨_, rfl⟩
          have h606 := bf_6_4 hP597; rw [e605] at h606
          exact wp_fg (le_s (le_n (le_s (le_s le_0)))) (c66_644 M596 v601 v604 hP597 hF599 e605 (by omega) (by omega) (by omega) (by omega) (by omega))
        · intro h607
          refine wk_al0 r166_53 (wk_il1 r166_54 (wk_cv2 r166_55 kc_6_168 rfl (m168_6v1 _ M576 p1 hP577 (by omega) (by omega)) (cqI ?_)))
          rintro v613 M608 ⟨hP609, hQ610, h614, h615, h612⟩
          have hF611 : Fr fm_m166_6v1 M0 M608 := hF578.tr hQ610 rfl
          obtain ⟨v616, e617⟩ : ∃ v, M608 6 4 = v := ⟨_, rfl⟩
          have h618 := bf_6_4 hP609; rw [e617] at h618
          refine wk_goto r166_58 ?_
          exact wp_fg (le_s (le_n (le_s (le_s le_0)))) (c66_644 M608 v613 v616 hP609 hF611 e617 (by omega) (by omega) (by omega) (by omega) (by omega))
      · intro h645
        refine wk_al0 r166_35 (wk_c1 r166_36 (wk_cv2 r166_37 kc_6_159 rfl (m159_6 _ M576 2 hP577 (by decide) (by decide)) (cqI ?_)))
        rintro v651 M646 ⟨hP647, hQ648, h652, h653, h650⟩
        have hF649 : Fr fm_m166_6v1 M0 M646 := hF578.tr hQ648 rfl
        obtain ⟨v654, e655⟩ : ∃ v, M646 6 4 = v := ⟨_, rfl⟩
        have h656 := bf_6_4 hP647; rw [e655] at h656
        subst hQ; exact wk_zret r166_40 ⟨by omega, by omega⟩ (⟨rfl, _, rfl, hP647, hF649, by omega, by omega, by have := e655; omega⟩)
    refine wk_icge r166_5 ⟨by omega, by omega⟩ (by decide) ?_ ?_
    · intro h565
      exact wp_fg (le_s (le_s (le_s (le_s le_0)))) (c23_657 M562 hP563 hF564)
    · intro h566
      refine wk_al0 r166_8 (wk_c8 r166_9 (wk_cv2 r166_11 kc_6_175 rfl (m175_6 _ M562 4119 hP563 (by decide)) (cqI ?_)))
      rintro v571 M567 ⟨hP568, hQ569, h572, h573⟩
      have hF570 : Fr fm_m166_6v1 M0 M567 := hF564.tr hQ569 rfl
      refine wk_ifeq r166_14 ⟨by omega, by omega⟩ ?_ ?_
      · intro h574
        exact wp_fg (le_s (le_s (le_s (le_s le_0)))) (c23_657 M567 hP568 hF570)
      · intro h575
        refine wk_inc2 r166_17 rfl (wk_goto r166_20 ?_)
        exact wp_fg (le_s (le_s (le_s (le_s le_0)))) (ih658 (6 - (v559 + 1)).toNat (by omega) M567 (v559 + 1) rfl hP568 hF570 (by omega) (by omega))
  exact wp_fg (le_s (le_s (le_s (le_s le_0)))) (c2_658 _ M0 0 rfl hP0 hF0 (by omega) (by omega))
def fm_m157_6v1 : Nat := 3941070043873280
/-- IslandHall$Parser.conjunction -/
theorem m157_6v1 {B : eB} (d : Nat) (M0 : Mm) (p1 : Int) (hP0 : Pw M0) (l1 : 1 ≤ p1) (u1 : p1 ≤ 1) : Ct B (d + 33) 157 [R 6, I p1] M0 (qI fun z M => Pw M ∧ Fr fm_m157_6v1 M0 M ∧ 0 ≤ z ∧ z ≤ 1 ∧ 0 ≤ z + M 6 4 + (-1)) := by
  refine ct_of (d := d + 32) (k := 1) (L := [some (R 6), some (I p1), none]) rfl rfl rfl ?_
  have hF0 := Fr.rf fm_m157_6v1 M0
  generalize hQ : (qI fun z M => Pw M ∧ Fr fm_m157_6v1 M0 M ∧ 0 ≤ z ∧ z ≤ 1 ∧ 0 ≤ z + M 6 4 + (-1)) = Q
  refine wk_al0 r157_0 (wk_il1 r157_1 (wk_cv2 r157_2 kc_6_166 rfl (m166_6v1 _ M0 p1 hP0 (by omega) (by omega)) (cqI ?_)))
  rintro v6 M1 ⟨hP2, hQ3, h7, h8, h5⟩
  have hF4 : Fr fm_m157_6v1 M0 M1 := hF0.tr hQ3 rfl
  obtain ⟨v9, e10⟩ : ∃ v, M1 6 4 = v := ⟨_, rfl⟩
  have h11 := bf_6_4 hP2; rw [e10] at h11
  refine wk_ifne r157_5 ⟨by omega, by omega⟩ ?_ ?_
  · intro h12
    refine wk_c1 r157_10 (wk_is2 r157_11 rfl ?_)
    have c12_442 : ∀ (k442 : Nat) (M401 : Mm) (v398 : Int) (v404 : Int), (500 - v398).toNat = k442 → Pw M401 → Fr fm_m157_6v1 M0 M401 → M401 6 4 = v404 → 0 ≤ v398 → v398 ≤ 500 → 0 ≤ v404 → v404 ≤ 6 → 0 ≤ (-1) * v404 + v398 + 6 → Wp B (d + 32) 157 12 [some (R 6), some (I p1), some (I v398)] [] M401 Q := by
      refine lp_ind ?_
      intro k442 ih442 M401 v398 v404 hk442 hP402 hF403 e407 h399 h400 h405 h406 h408
      refine wk_il2 r157_12 (wk_c3 r157_13 ?_)
      refine wk_icge r157_16 ⟨by omega, by omega⟩ (by decide) ?_ ?_
      · intro h409
        refine wk_c1 r157_53 ?_
        subst hQ; exact wk_zret r157_54 (by decide) (⟨rfl, _, rfl, hP402, hF403, by omega, by omega, by have := e407; omega⟩)
      · intro h410
        refine wk_al0 r157_19 (wk_c8 r157_20 (wk_cv2 r157_22 kc_6_175 rfl (m175_6 _ M401 4125 hP402 (by decide)) (cqI ?_)))
        rintro v415 M411 ⟨hP412, hQ413, h416, h417⟩
        have hF414 : Fr fm_m157_6v1 M0 M411 := hF403.tr hQ413 rfl
        refine wk_ifeq r157_25 ⟨by omega, by omega⟩ ?_ ?_
        · intro h418
          refine wk_c1 r157_53 ?_
          subst hQ; exact wk_zret r157_54 (by decide) (⟨rfl, _, rfl, hP412, hF414, by omega, by omega, by have := ((hQ413.at g_6_4 rfl).trans e407); omega⟩)
        · intro h419
          refine wk_al0 r157_28 (wk_il1 r157_29 (wk_cv2 r157_30 kc_6_166 rfl (m166_6v1 _ M411 p1 hP412 (by omega) (by omega)) (cqI ?_)))
          rintro v425 M420 ⟨hP421, hQ422, h426, h427, h424⟩
          have hF423 : Fr fm_m157_6v1 M0 M420 := hF414.tr hQ422 rfl
          obtain ⟨v428, e429⟩ : ∃ v, M420 6 4 = v := ⟨_, rfl⟩
          have h430 := bf_6_4 hP421; rw [e429] at h430
          refine wk_ifeq r157_33 ⟨by omega, by omega⟩ ?_ ?_
          · intro h431
            refine wk_c1 r157_45 ?_
            subst hQ; exact wk_zret r157_46 (by decide) (⟨rfl, _, rfl, hP421, hF423, by omega, by omega, by have := e429; omega⟩)
          · intro h432
            refine wk_al0 r157_36 (wk_c1 r157_37 (wk_c1 r157_38 (wk_cv3 r157_39 kc_6_172 rfl (m172_6 _ M420 2 0 hP421 (by decide) (by decide) (by decide) (by decide) (by first | assumption | omega | (unfold stepok; omega))) (cqI ?_))))
            rintro v437 M433 ⟨hP434, hQ435, h438, h439⟩
            have hF436 : Fr fm_m157_6v1 M0 M433 := hF423.tr hQ435 rfl
            refine wk_ifne r157_42 ⟨by omega, by omega⟩ ?_ ?_
            · intro h440
              refine wk_inc2 r157_47 rfl (wk_goto r157_50 ?_)
              exact wp_fg (le_s (le_s (le_s le_0))) (ih442 (500 - (v398 + 1)).toNat (by omega) M433 (v398 + 1) v428 rfl hP434 hF436 ((hQ435.at g_6_4 rfl).trans e429) (by omega) (by omega) (by omega) (by omega) (by omega))
            · intro h441
              exfalso
              omega
    exact wp_fg (le_s (le_s (le_s le_0))) (c12_442 _ M1 0 v9 rfl hP2 hF4 e10 (by omega) (by omega) (by omega) (by omega) (by omega))
  · intro h443
    refine wk_c1 r157_8 ?_
    subst hQ; exact wk_zret r157_9 (by decide) (⟨rfl, _, rfl, hP2, hF4, by omega, by omega, by have := e10; omega⟩)
def fm_m158_6v1 : Nat := 3941070043873280
/-- IslandHall$Parser.expr -/
theorem m158_6v1 {B : eB} (d : Nat) (M0 : Mm) (p1 : Int) (hP0 : Pw M0) (l1 : 1 ≤ p1) (u1 : p1 ≤ 1) : Ct B (d + 34) 158 [R 6, I p1] M0 (qI fun z M => Pw M ∧ Fr fm_m158_6v1 M0 M ∧ 0 ≤ z ∧ z ≤ 1 ∧ 0 ≤ z + M 6 4 + (-1)) := by
  refine ct_of (d := d + 33) (k := 1) (L := [some (R 6), some (I p1), none]) rfl rfl rfl ?_
  have hF0 := Fr.rf fm_m158_6v1 M0
  generalize hQ : (qI fun z M => Pw M ∧ Fr fm_m158_6v1 M0 M ∧ 0 ≤ z ∧ z ≤ 1 ∧ 0 ≤ z + M 6 4 + (-1)) = Q
  refine wk_al0 r158_0 (wk_cv1 r158_1 kc_6_155 rfl (m155_6 _ M0 hP0) (cqI ?_))
  rintro v5 M1 ⟨hP2, hQ3, h6, h7⟩
  obtain rfl := Fr.same hQ3
  refine wk_ifne r158_4 ⟨by omega, by omega⟩ ?_ ?_
  · intro h8
    refine wk_il1 r158_13 (wk_c2 r158_14 ?_)
    refine wk_iclt r158_16 ⟨by omega, by omega⟩ (by decide) ?_ ?_
    · intro h9
      refine wk_al0 r158_25 (wk_il1 r158_26 (wk_cv2 r158_27 kc_6_157 rfl (m157_6v1 _ M0 p1 hP0 (by omega) (by omega)) (cqI ?_)))
      rintro v15 M10 ⟨hP11, hQ12, h16, h17, h14⟩
      have hF13 : Fr fm_m158_6v1 M0 M10 := hF0.tr hQ12 rfl
      obtain ⟨v18, e19⟩ : ∃ v, M10 6 4 = v := ⟨_, rfl⟩
      have h20 := bf_6_4 hP11; rw [e19] at h20
      refine wk_ifne r158_30 ⟨by omega, by omega⟩ ?_ ?_
      · intro h21
        refine wk_c1 r158_35 (wk_is2 r158_36 rfl ?_)
        have c37_451 : ∀ (k451 : Nat) (M410 : Mm) (v407 : Int) (v413 : Int), (500 - v407).toNat = k451 → Pw M410 → Fr fm_m158_6v1 M0 M410 → M410 6 4 = v413 → 0 ≤ v407 → v407 ≤ 500 → 0 ≤ v413 → v413 ≤ 6 → 0 ≤ (-1) * v413 + v407 + 6 → Wp B (d + 33) 158 37 [some (R 6), some (I p1), some (I v407)] [] M410 Q := by
          refine lp_ind ?_
          intro k451 ih451 M410 v407 v413 hk451 hP411 hF412 e416 h408 h409 h414 h415 h417
          refine wk_il2 r158_37 (wk_c3 r158_38 ?_)
          refine wk_icge r158_41 ⟨by omega, by omega⟩ (by decide) ?_ ?_
          · intro h418
            refine wk_c1 r158_78 ?_
            subst hQ; exact wk_zret r158_79 (by decide) (⟨rfl, _, rfl, hP411, hF412, by omega, by omega, by have := e416; omega⟩)
          · intro h419
            refine wk_al0 r158_44 (wk_c8 r158_45 (wk_cv2 r158_47 kc_6_175 rfl (m175_6 _ M410 4126 hP411 (by decide)) (cqI ?_)))
            rintro v424 M420 ⟨hP421, hQ422, h425, h426⟩
            have hF423 : Fr fm_m158_6v1 M0 M420 := hF412.tr hQ422 rfl
            refine wk_ifeq r158_50 ⟨by omega, by omega⟩ ?_ ?_
            · intro h427
              refine wk_c1 r158_78 ?_
              subst hQ; exact wk_zret r158_79 (by decide) (⟨rfl, _, rfl, hP421, hF423, by omega, by omega, by have := ((hQ422.at g_6_4 rfl).trans e416); omega⟩)
            · intro h428
              refine wk_al0 r158_53 (wk_il1 r158_54 (wk_cv2 r158_55 kc_6_157 rfl (m157_6v1 _ M420 p1 hP421 (by omega) (by omega)) (cqI ?_)))
              rintro v434 M429 ⟨hP430, hQ431, h435, h436, h433⟩
              have hF432 : Fr fm_m158_6v1 M0 M429 := hF423.tr hQ431 rfl
              obtain ⟨v437, e438⟩ : ∃ v, M429 6 4 = v := ⟨_, rfl⟩
              have h439 := bf_6_4 hP430; rw [e438] at h439
              refine wk_ifeq r158_58 ⟨by omega, by omega⟩ ?_ ?_
              · intro h440
                refine wk_c1 r158_70 ?_
                subst hQ; exact wk_zret r158_71 (by decide) (⟨rfl, _, rfl, hP430, hF432, by omega, by omega, by have := e438; omega⟩)
              · intro h441
                refine wk_al0 r158_61 (wk_c1 r158_62 (wk_c1 r158_63 (wk_cv3 r158_64 kc_6_172 rfl (m172_6 _ M429 3 0 hP430 (by decide) (by decide) (by decide) (by decide) (by first | assumption | omega | (unfold stepok; omega))) (cqI ?_))))
                rintro v446 M442 ⟨hP443, hQ444, h447, h448⟩
                have hF445 : Fr fm_m158_6v1 M0 M442 := hF432.tr hQ444 rfl
                refine wk_ifne r158_67 ⟨by omega, by omega⟩ ?_ ?_
                · intro h449
                  refine wk_inc2 r158_72 rfl (wk_goto r158_75 ?_)
                  exact wp_fg (le_s (le_s (le_s le_0))) (ih451 (500 - (v407 + 1)).toNat (by omega) M442 (v407 + 1) v437 rfl hP443 hF445 ((hQ444.at g_6_4 rfl).trans e438) (by omega) (by omega) (by omega) (by omega) (by omega))
                · intro h450
                  exfalso
                  omega
        exact wp_fg (le_s (le_s (le_s le_0))) (c37_451 _ M10 0 v18 rfl hP11 hF13 e19 (by omega) (by omega) (by omega) (by omega) (by omega))
      · intro h452
        refine wk_c1 r158_33 ?_
        subst hQ; exact wk_zret r158_34 (by decide) (⟨rfl, _, rfl, hP11, hF13, by omega, by omega, by have := e19; omega⟩)
    · intro h453
      exfalso
      omega
  · intro h454
    refine wk_al0 r158_7 (wk_c1 r158_8 (wk_cv2 r158_9 kc_6_159 rfl (m159_6v1 _ M0 1 hP0 (by decide) (by decide)) (cqI ?_)))
    rintro v460 M455 ⟨hP456, hQ457, h461, h462, h459⟩
    have hF458 : Fr fm_m158_6v1 M0 M455 := hF0.tr hQ457 rfl
    obtain ⟨v463, e464⟩ : ∃ v, M455 6 4 = v := ⟨_, rfl⟩
    have h465 := bf_6_4 hP456; rw [e464] at h465
    subst hQ; exact wk_zret r158_12 ⟨by omega, by omega⟩ (⟨rfl, _, rfl, hP456, hF458, by omega, by omega, by have := e464; omega⟩)
def fm_m168_6 : Nat := 3941070043873280
/-- IslandHall$Parser.parenthesis -/
theorem m168_6 {B : eB} (d : Nat) (M0 : Mm) (p1 : Int) (hP0 : Pw M0) (l1 : 0 ≤ p1) (u1 : p1 ≤ 0) : Ct B (d + 35) 168 [R 6, I p1] M0 (qI fun z M => Pw M ∧ Fr fm_m168_6 M0 M ∧ 0 ≤ z ∧ z ≤ 1 ∧ 0 ≤ z + M 6 4 + (-1)) := by
  refine ct_of (d := d + 34) (k := 0) (L := [some (R 6), some (I p1)]) rfl rfl rfl ?_
  have hF0 := Fr.rf fm_m168_6 M0
  generalize hQ : (qI fun z M => Pw M ∧ Fr fm_m168_6 M0 M ∧ 0 ≤ z ∧ z ≤ 1 ∧ 0 ≤ z + M 6 4 + (-1)) = Q
  refine wk_al0 r168_0 (wk_c2 r168_1 (wk_cv2 r168_3 kc_6_174 rfl (m174_6v1 _ M0 40 hP0 (by decide) (by decide)) (cqI ?_)))
  rintro v6 M1 ⟨hP2, hQ3, h7, h8, h5⟩
  have hF4 : Fr fm_m168_6 M0 M1 := hF0.tr hQ3 rfl
  obtain ⟨v9, e10⟩ : ∃ v, M1 6 4 = v := ⟨_, rfl⟩
  have h11 := bf_6_4 hP2; rw [e10] at h11
  refine wk_ifeq r168_6 ⟨by omega, by omega⟩ ?_ ?_
  · intro h12
    refine wk_c1 r168_32 ?_
    subst hQ; exact wk_zret r168_33 (by decide) (⟨rfl, _, rfl, hP2, hF4, by omega, by omega, by have := e10; omega⟩)
  · intro h13
    refine wk_al0 r168_9 (wk_il1 r168_10 (wk_c1 r168_11 (wk_iadd r168_12 (wk_cv2 r168_13 kc_6_158 rfl (m158_6v1 _ M1 (p1 + 1) hP2 (by omega) (by omega)) (cqI ?_)))))
    rintro v19 M14 ⟨hP15, hQ16, h20, h21, h18⟩
    have hF17 : Fr fm_m168_6 M0 M14 := hF4.tr hQ16 rfl
    obtain ⟨v22, e23⟩ : ∃ v, M14 6 4 = v := ⟨_, rfl⟩
    have h24 := bf_6_4 hP15; rw [e23] at h24
    refine wk_ifeq r168_16 ⟨by omega, by omega⟩ ?_ ?_
    · intro h25
      refine wk_c1 r168_32 ?_
      subst hQ; exact wk_zret r168_33 (by decide) (⟨rfl, _, rfl, hP15, hF17, by omega, by omega, by have := e23; omega⟩)
    · intro h26
      refine wk_al0 r168_19 (wk_c2 r168_20 (wk_cv2 r168_22 kc_6_174 rfl (m174_6v1 _ M14 41 hP15 (by decide) (by decide)) (cqI ?_)))
      rintro v32 M27 ⟨hP28, hQ29, h33, h34, h31⟩
      have hF30 : Fr fm_m168_6 M0 M27 := hF17.tr hQ29 rfl
      obtain ⟨v35, e36⟩ : ∃ v, M27 6 4 = v := ⟨_, rfl⟩
      have h37 := bf_6_4 hP28; rw [e36] at h37
      refine wk_ifeq r168_25 ⟨by omega, by omega⟩ ?_ ?_
      · intro h38
        refine wk_c1 r168_32 ?_
        subst hQ; exact wk_zret r168_33 (by decide) (⟨rfl, _, rfl, hP28, hF30, by omega, by omega, by have := e36; omega⟩)
      · intro h39
        refine wk_c1 r168_28 (wk_goto r168_29 ?_)
        subst hQ; exact wk_zret r168_33 (by decide) (⟨rfl, _, rfl, hP28, hF30, by omega, by omega, by have := e36; omega⟩)
def fm_m152_6 : Nat := 3941070043873280
/-- IslandHall$Parser.aboutSomeone -/
theorem m152_6 {B : eB} (d : Nat) (M0 : Mm) (p1 : Int) (hP0 : Pw M0) (l1 : 0 ≤ p1) (u1 : p1 ≤ 0) : Ct B (d + 36) 152 [R 6, I p1] M0 (qI fun z M => Pw M ∧ Fr fm_m152_6 M0 M ∧ 0 ≤ z ∧ z ≤ 1 ∧ 0 ≤ z + M 6 4 + (-1)) := by
  refine ct_of (d := d + 35) (k := 2) (L := [some (R 6), some (I p1), none, none]) rfl rfl rfl ?_
  have hF0 := Fr.rf fm_m152_6 M0
  generalize hQ : (qI fun z M => Pw M ∧ Fr fm_m152_6 M0 M ∧ 0 ≤ z ∧ z ≤ 1 ∧ 0 ≤ z + M 6 4 + (-1)) = Q
  refine wk_al0 r152_0 (wk_cv1 r152_1 kc_6_165 rfl (m165_6 _ M0 hP0) (cqI ?_))
  rintro v6 M1 ⟨hP2, hQ3, h7, h8, h5⟩
  have hF4 : Fr fm_m152_6 M0 M1 := hF0.tr hQ3 rfl
  obtain ⟨v9, e10⟩ : ∃ v, M1 6 4 = v := ⟨_, rfl⟩
  have h11 := bf_6_4 hP2; rw [e10] at h11
  refine wk_is2 r152_4 rfl (wk_il2 r152_5 (wk_c1 r152_6 ?_))
  refine wk_icne r152_7 ⟨by omega, by omega⟩ (by decide) ?_ ?_
  · intro h12
    refine wk_al0 r152_12 (wk_c8 r152_13 (wk_cv2 r152_15 kc_6_175 rfl (m175_6 _ M1 4111 hP2 (by decide)) (cqI ?_)))
    rintro v17 M13 ⟨hP14, hQ15, h18, h19⟩
    have hF16 : Fr fm_m152_6 M0 M13 := hF4.tr hQ15 rfl
    refine wk_ifeq r152_18 ⟨by omega, by omega⟩ ?_ ?_
    · intro h20
      refine wk_al0 r152_35 (wk_c8 r152_36 (wk_cv2 r152_38 kc_6_175 rfl (m175_6 _ M13 4112 hP14 (by decide)) (cqI ?_)))
      rintro v25 M21 ⟨hP22, hQ23, h26, h27⟩
      have hF24 : Fr fm_m152_6 M0 M21 := hF16.tr hQ23 rfl
      refine wk_ifeq r152_41 ⟨by omega, by omega⟩ ?_ ?_
      · intro h28
        refine wk_al0 r152_73 (wk_c8 r152_74 (wk_cv2 r152_76 kc_6_175 rfl (m175_6 _ M21 4113 hP22 (by decide)) (cqI ?_)))
        rintro v33 M29 ⟨hP30, hQ31, h34, h35⟩
        have hF32 : Fr fm_m152_6 M0 M29 := hF24.tr hQ31 rfl
        refine wk_ifne r152_79 ⟨by omega, by omega⟩ ?_ ?_
        · intro h36
          refine wk_al0 r152_88 (wk_il1 r152_89 (wk_cv2 r152_90 kc_6_168 rfl (m168_6 _ M29 p1 hP30 (by omega) (by omega)) (cqI ?_)))
          rintro v42 M37 ⟨hP38, hQ39, h43, h44, h41⟩
          have hF40 : Fr fm_m152_6 M0 M37 := hF32.tr hQ39 rfl
          obtain ⟨v45, e46⟩ : ∃ v, M37 6 4 = v := ⟨_, rfl⟩
          have h47 := bf_6_4 hP38; rw [e46] at h47
          refine wk_ifne r152_93 ⟨by omega, by omega⟩ ?_ ?_
          · intro h48
            refine wk_al0 r152_98 ?_
            obtain ⟨v49, e50⟩ : ∃ v, M37 6 2 = v := ⟨_, rfl⟩
            have hC51 : isC v49 := by have := pcE hP38; rw [e50] at this; exact this
            refine wk_getfr r152_99 fd_6_2 e50 (wk_il2 r152_102 (wk_cv2 r152_103 (kcC_139 hC51) rfl (m139 _ M37 v49 v6 hP38 hC51 (by omega) (by omega)) (cqV ?_)))
            rintro M52 ⟨hP53, hQ54⟩
            have hF55 : Fr fm_m152_6 M0 M52 := hF40.tr hQ54 rfl
            refine wk_c1 r152_106 ?_
            subst hQ; exact wk_zret r152_107 (by decide) (⟨rfl, _, rfl, hP53, hF55, by omega, by omega, by have := ((hQ54.at g_6_4 rfl).trans e46); omega⟩)
          · intro h56
            refine wk_c1 r152_96 ?_
            subst hQ; exact wk_zret r152_97 (by decide) (⟨rfl, _, rfl, hP38, hF40, by omega, by omega, by have := e46; omega⟩)
        · intro h57
          refine wk_al0 r152_82 (wk_c1 r152_83 (wk_cv2 r152_84 kc_6_159 rfl (m159_6v1 _ M29 1 hP30 (by decide) (by decide)) (cqI ?_)))
          rintro v63 M58 ⟨hP59, hQ60, h64, h65, h62⟩
          have hF61 : Fr fm_m152_6 M0 M58 := hF32.tr hQ60 rfl
          obtain ⟨v66, e67⟩ : ∃ v, M58 6 4 = v := ⟨_, rfl⟩
          have h68 := bf_6_4 hP59; rw [e67] at h68
          subst hQ; exact wk_zret r152_87 ⟨by omega, by omega⟩ (⟨rfl, _, rfl, hP59, hF61, by omega, by omega, by have := e67; omega⟩)
      · intro h69
        refine wk_al0 r152_44 (wk_cv1 r152_45 kc_6_165 rfl (m165_6 _ M21 hP22) (cqI ?_))
        rintro v75 M70 ⟨hP71, hQ72, h76, h77, h74⟩
        have hF73 : Fr fm_m152_6 M0 M70 := hF24.tr hQ72 rfl
        obtain ⟨v78, e79⟩ : ∃ v, M70 6 4 = v := ⟨_, rfl⟩
        have h80 := bf_6_4 hP71; rw [e79] at h80
        refine wk_is3 r152_48 rfl (wk_il3 r152_49 (wk_c1 r152_50 ?_))
        refine wk_iceq r152_51 ⟨by omega, by omega⟩ (by decide) ?_ ?_
        · intro h81
          refine wk_c1 r152_71 ?_
          subst hQ; exact wk_zret r152_72 (by decide) (⟨rfl, _, rfl, hP71, hF73, by omega, by omega, by have := e79; omega⟩)
        · intro h82
          refine wk_al0 r152_54 (wk_c1 r152_55 (wk_il2 r152_56 (wk_c1 r152_57 (wk_ishlc r152_58 (by decide) pwl_3 (wk_il3 r152_59 (wk_iord2 3 8 r152_60 (by decide) ⟨by omega, by omega⟩ ⟨by omega, by omega, by omega⟩ (wk_cv3 r152_61 kc_6_172 rfl (m172_6 _ M70 5 ((v6 * 8) + v75) hP71 (by decide) (by decide) (by omega) (by omega) (by first | assumption | omega | (unfold stepok; omega))) (cqI ?_))))))))
          rintro v87 M83 ⟨hP84, hQ85, h88, h89⟩
          have hF86 : Fr fm_m152_6 M0 M83 := hF73.tr hQ85 rfl
          refine wk_ifeq r152_64 ⟨by omega, by omega⟩ ?_ ?_
          · intro h90
            exfalso
            omega
          · intro h91
            refine wk_c1 r152_67 (wk_goto r152_68 ?_)
            subst hQ; exact wk_zret r152_72 (by decide) (⟨rfl, _, rfl, hP84, hF86, by omega, by omega, by have := ((hQ85.at g_6_4 rfl).trans e79); omega⟩)
    · intro h92
      refine wk_al0 r152_21 (wk_c1 r152_22 (wk_il2 r152_23 (wk_c1 r152_24 (wk_imul r152_25 (wk_iadd r152_26 (wk_al0 r152_27 (wk_cv1 r152_28 kc_6_173 rfl (m173_6 _ M13 hP14) (cqI ?_))))))))
      rintro v98 M93 ⟨hP94, hQ95, h99, h100, h97⟩
      have hF96 : Fr fm_m152_6 M0 M93 := hF16.tr hQ95 rfl
      obtain ⟨v101, e102⟩ : ∃ v, M93 6 4 = v := ⟨_, rfl⟩
      have h103 := bf_6_4 hP94; rw [e102] at h103
      refine wk_cv3 r152_31 kc_6_171 rfl (m171_6v3 _ M93 (0 + (v6 * 5)) v98 v101 hP94 (by omega) (by omega) (by omega) (by omega) e102 (by omega) (by omega) (by omega)) (cqI ?_)
      rintro v109 M104 ⟨hP105, hQ106, h110, h111, h108⟩
      have hF107 : Fr fm_m152_6 M0 M104 := hF96.tr hQ106 rfl
      have e112 := ((hQ106.at g_6_4 rfl).trans e102)
      subst hQ; exact wk_zret r152_34 ⟨by omega, by omega⟩ (⟨rfl, _, rfl, hP105, hF107, by omega, by omega, by have := ((hQ106.at g_6_4 rfl).trans e102); omega⟩)
  · intro h113
    refine wk_c1 r152_10 ?_
    subst hQ; exact wk_zret r152_11 (by decide) (⟨rfl, _, rfl, hP2, hF4, by omega, by omega, by have := e10; omega⟩)
def fm_m153_6 : Nat := 3941070043873280
/-- IslandHall$Parser.atom -/
theorem m153_6 {B : eB} (d : Nat) (M0 : Mm) (p1 : Int) (hP0 : Pw M0) (l1 : 0 ≤ p1) (u1 : p1 ≤ 0) : Ct B (d + 37) 153 [R 6, I p1] M0 (qI fun z M => Pw M ∧ Fr fm_m153_6 M0 M ∧ 0 ≤ z ∧ z ≤ 1 ∧ 0 ≤ z + M 6 4 + (-1)) := by
  refine ct_of (d := d + 36) (k := 0) (L := [some (R 6), some (I p1)]) rfl rfl rfl ?_
  have hF0 := Fr.rf fm_m153_6 M0
  generalize hQ : (qI fun z M => Pw M ∧ Fr fm_m153_6 M0 M ∧ 0 ≤ z ∧ z ≤ 1 ∧ 0 ≤ z + M 6 4 + (-1)) = Q
  refine wk_al0 r153_0 (wk_getfr r153_1 fd_6_0 (br_6_0 hP0) (wk_cv1 r153_4 kc_9_237 rfl (m237_9 _ M0 hP0) (cqI ?_)))
  rintro v7 M1 ⟨hP2, hQ3, h8, h9, h5, h6⟩
  obtain rfl := Fr.same hQ3
  obtain ⟨v10, e11⟩ : ∃ v, M0 9 2 = v := ⟨_, rfl⟩
  have h12 := bf_9_2 hP0; rw [e11] at h12
  obtain ⟨v13, e14⟩ : ∃ v, M0 9 3 = v := ⟨_, rfl⟩
  have h15 := bf_9_3 hP0; rw [e14] at h15
  refine wk_ifeq r153_7 ⟨by omega, by omega⟩ ?_ ?_
  · intro h16
    refine wk_al0 r153_16 (wk_c8 r153_17 (wk_cv2 r153_19 kc_6_175 rfl (m175_6 _ M0 4114 hP0 (by decide)) (cqI ?_)))
    rintro v21 M17 ⟨hP18, hQ19, h22, h23⟩
    have hF20 : Fr fm_m153_6 M0 M17 := hF0.tr hQ19 rfl
    refine wk_ifeq r153_22 ⟨by omega, by omega⟩ ?_ ?_
    · intro h24
      refine wk_al0 r153_38 (wk_c8 r153_39 (wk_cv2 r153_41 kc_6_175 rfl (m175_6 _ M17 4115 hP18 (by decide)) (cqI ?_)))
      rintro v29 M25 ⟨hP26, hQ27, h30, h31⟩
      have hF28 : Fr fm_m153_6 M0 M25 := hF20.tr hQ27 rfl
      refine wk_ifeq r153_44 ⟨by omega, by omega⟩ ?_ ?_
      · intro h32
        refine wk_al0 r153_61 (wk_c8 r153_62 (wk_cv2 r153_64 kc_6_175 rfl (m175_6 _ M25 4116 hP26 (by decide)) (cqI ?_)))
        rintro v37 M33 ⟨hP34, hQ35, h38, h39⟩
        have hF36 : Fr fm_m153_6 M0 M33 := hF28.tr hQ35 rfl
        refine wk_ifeq r153_67 ⟨by omega, by omega⟩ ?_ ?_
        · intro h40
          refine wk_al0 r153_83 (wk_c8 r153_84 (wk_cv2 r153_86 kc_6_175 rfl (m175_6 _ M33 4117 hP34 (by decide)) (cqI ?_)))
          rintro v45 M41 ⟨hP42, hQ43, h46, h47⟩
          have hF44 : Fr fm_m153_6 M0 M41 := hF36.tr hQ43 rfl
          refine wk_ifeq r153_89 ⟨by omega, by omega⟩ ?_ ?_
          · intro h48
            refine wk_al0 r153_97 (wk_c8 r153_98 (wk_cv2 r153_100 kc_6_175 rfl (m175_6 _ M41 4118 hP42 (by decide)) (cqI ?_)))
            rintro v53 M49 ⟨hP50, hQ51, h54, h55⟩
            have hF52 : Fr fm_m153_6 M0 M49 := hF44.tr hQ51 rfl
            refine wk_ifeq r153_103 ⟨by omega, by omega⟩ ?_ ?_
            · intro h56
              refine wk_al0 r153_117 (wk_c1 r153_118 (wk_cv2 r153_119 kc_6_159 rfl (m159_6v1 _ M49 1 hP50 (by decide) (by decide)) (cqI ?_)))
              rintro v62 M57 ⟨hP58, hQ59, h63, h64, h61⟩
              have hF60 : Fr fm_m153_6 M0 M57 := hF52.tr hQ59 rfl
              obtain ⟨v65, e66⟩ : ∃ v, M57 6 4 = v := ⟨_, rfl⟩
              have h67 := bf_6_4 hP58; rw [e66] at h67
              subst hQ; exact wk_zret r153_122 ⟨by omega, by omega⟩ (⟨rfl, _, rfl, hP58, hF60, by omega, by omega, by have := e66; omega⟩)
            · intro h68
              refine wk_al0 r153_106 (wk_al0 r153_107 (wk_cv1 r153_108 kc_6_173 rfl (m173_6 _ M49 hP50) (cqI ?_)))
              rintro v74 M69 ⟨hP70, hQ71, h75, h76, h73⟩
              have hF72 : Fr fm_m153_6 M0 M69 := hF52.tr hQ71 rfl
              obtain ⟨v77, e78⟩ : ∃ v, M69 6 4 = v := ⟨_, rfl⟩
              have h79 := bf_6_4 hP70; rw [e78] at h79
              refine wk_cv2 r153_111 kc_6_163 rfl (m163_6 _ M69 v74 v77 hP70 (by omega) (by omega) e78 (by omega) (by omega) (by omega)) (cqI ?_)
              rintro v85 M80 ⟨hP81, hQ82, h86, h87, h84⟩
              have hF83 : Fr fm_m153_6 M0 M80 := hF72.tr hQ82 rfl
              obtain ⟨v88, e89⟩ : ∃ v, M80 6 4 = v := ⟨_, rfl⟩
              have h90 := bf_6_4 hP81; rw [e89] at h90
              refine wk_goto r153_114 ?_
              subst hQ; exact wk_zret r153_122 ⟨by omega, by omega⟩ (⟨rfl, _, rfl, hP81, hF83, by omega, by omega, by have := e89; omega⟩)
          · intro h91
            refine wk_al0 r153_92 (wk_cv1 r153_93 kc_6_176 rfl (m176_6 _ M41 hP42) (cqI ?_))
            rintro v97 M92 ⟨hP93, hQ94, h98, h99, h96⟩
            have hF95 : Fr fm_m153_6 M0 M92 := hF44.tr hQ94 rfl
            obtain ⟨v100, e101⟩ : ∃ v, M92 6 4 = v := ⟨_, rfl⟩
            have h102 := bf_6_4 hP93; rw [e101] at h102
            subst hQ; exact wk_zret r153_96 ⟨by omega, by omega⟩ (⟨rfl, _, rfl, hP93, hF95, by omega, by omega, by have := e101; omega⟩)
        · intro h103
          refine wk_al0 r153_70 (wk_c2 r153_71 (wk_al0 r153_73 (wk_c1 r153_74 (wk_c1 r153_75 (wk_cv3 r153_76 kc_6_167 rfl (m167_6v4 _ M33 0 1 hP34 (by decide) (by decide) (by decide) (by decide)) (cqI ?_))))))
          rintro v109 M104 ⟨hP105, hQ106, h110, h111, h108⟩
          have hF107 : Fr fm_m153_6 M0 M104 := hF36.tr hQ106 rfl
          obtain ⟨v112, e113⟩ : ∃ v, M104 6 4 = v := ⟨_, rfl⟩
          have h114 := bf_6_4 hP105; rw [e113] at h114
          refine wk_cv3 r153_79 kc_6_171 rfl (m171_6 _ M104 46 v109 v112 hP105 (by decide) (by decide) (by omega) (by omega) e113 (by omega) (by omega) (by omega)) (cqI ?_)
          rintro v120 M115 ⟨hP116, hQ117, h121, h122, h119⟩
          have hF118 : Fr fm_m153_6 M0 M115 := hF107.tr hQ117 rfl
          have e123 := ((hQ117.at g_6_4 rfl).trans e113)
          subst hQ; exact wk_zret r153_82 ⟨by omega, by omega⟩ (⟨rfl, _, rfl, hP116, hF118, by omega, by omega, by have := ((hQ117.at g_6_4 rfl).trans e113); omega⟩)
      · intro h124
        refine wk_al0 r153_47 (wk_c2 r153_48 (wk_al0 r153_50 (wk_c1 r153_51 (wk_c2 r153_52 (wk_cv3 r153_54 kc_6_167 rfl (m167_6v1 _ M25 0 6 hP26 (by decide) (by decide) (by decide) (by decide)) (cqI ?_))))))
        rintro v130 M125 ⟨hP126, hQ127, h131, h132, h129⟩
        have hF128 : Fr fm_m153_6 M0 M125 := hF28.tr hQ127 rfl
        obtain ⟨v133, e134⟩ : ∃ v, M125 6 4 = v := ⟨_, rfl⟩
        have h135 := bf_6_4 hP126; rw [e134] at h135
        refine wk_cv3 r153_57 kc_6_171 rfl (m171_6v1 _ M125 39 v130 v133 hP126 (by decide) (by decide) (by omega) (by omega) e134 (by omega) (by omega) (by omega)) (cqI ?_)
        rintro v141 M136 ⟨hP137, hQ138, h142, h143, h140⟩
        have hF139 : Fr fm_m153_6 M0 M136 := hF128.tr hQ138 rfl
        have e144 := ((hQ138.at g_6_4 rfl).trans e134)
        subst hQ; exact wk_zret r153_60 ⟨by omega, by omega⟩ (⟨rfl, _, rfl, hP137, hF139, by omega, by omega, by have := ((hQ138.at g_6_4 rfl).trans e134); omega⟩)
    · intro h145
      refine wk_al0 r153_25 (wk_c2 r153_26 (wk_al0 r153_28 (wk_c1 r153_29 (wk_c1 r153_30 (wk_cv3 r153_31 kc_6_167 rfl (m167_6v5 _ M17 0 3 hP18 (by decide) (by decide) (by decide) (by decide)) (cqI ?_))))))
      rintro v151 M146 ⟨hP147, hQ148, h152, h153, h150⟩
      have hF149 : Fr fm_m153_6 M0 M146 := hF20.tr hQ148 rfl
      obtain ⟨v154, e155⟩ : ∃ v, M146 6 4 = v := ⟨_, rfl⟩
      have h156 := bf_6_4 hP147; rw [e155] at h156
      refine wk_cv3 r153_34 kc_6_171 rfl (m171_6v2 _ M146 35 v151 v154 hP147 (by decide) (by decide) (by omega) (by omega) e155 (by omega) (by omega) (by omega)) (cqI ?_)
      rintro v162 M157 ⟨hP158, hQ159, h163, h164, h161⟩
      have hF160 : Fr fm_m153_6 M0 M157 := hF149.tr hQ159 rfl
      have e165 := ((hQ159.at g_6_4 rfl).trans e155)
      subst hQ; exact wk_zret r153_37 ⟨by omega, by omega⟩ (⟨rfl, _, rfl, hP158, hF160, by omega, by omega, by have := ((hQ159.at g_6_4 rfl).trans e155); omega⟩)
  · intro h166
    refine wk_al0 r153_10 (wk_il1 r153_11 (wk_cv2 r153_12 kc_6_152 rfl (m152_6 _ M0 p1 hP0 (by omega) (by omega)) (cqI ?_)))
    rintro v172 M167 ⟨hP168, hQ169, h173, h174, h171⟩
    have hF170 : Fr fm_m153_6 M0 M167 := hF0.tr hQ169 rfl
    obtain ⟨v175, e176⟩ : ∃ v, M167 6 4 = v := ⟨_, rfl⟩
    have h177 := bf_6_4 hP168; rw [e176] at h177
    subst hQ; exact wk_zret r153_15 ⟨by omega, by omega⟩ (⟨rfl, _, rfl, hP168, hF170, by omega, by omega, by have := e176; omega⟩)
def fm_m166_6 : Nat := 3941070043873280
/-- IslandHall$Parser.negation -/
theorem m166_6 {B : eB} (d : Nat) (M0 : Mm) (p1 : Int) (hP0 : Pw M0) (l1 : 0 ≤ p1) (u1 : p1 ≤ 0) : Ct B (d + 38) 166 [R 6, I p1] M0 (qI fun z M => Pw M ∧ Fr fm_m166_6 M0 M ∧ 0 ≤ z ∧ z ≤ 1 ∧ 0 ≤ z + M 6 4 + (-1)) := by
  refine ct_of (d := d + 37) (k := 2) (L := [some (R 6), some (I p1), none, none]) rfl rfl rfl ?_
  have hF0 := Fr.rf fm_m166_6 M0
  generalize hQ : (qI fun z M => Pw M ∧ Fr fm_m166_6 M0 M ∧ 0 ≤ z ∧ z ≤ 1 ∧ 0 ≤ z + M 6 4 + (-1)) = Q
  refine wk_c1 r166_0 (wk_is2 r166_1 rfl ?_)
  have c2_658 : ∀ (k658 : Nat) (M562 : Mm) (v559 : Int), (6 - v559).toNat = k658 → Pw M562 → Fr fm_m166_6 M0 M562 → 0 ≤ v559 → v559 ≤ 6 → Wp B (d + 37) 166 2 [some (R 6), some (I p1), some (I v559), none] [] M562 Q := by
    refine lp_ind ?_
    intro k658 ih658 M562 v559 hk658 hP563 hF564 h560 h561
    refine wk_il2 r166_2 (wk_c2 r166_3 ?_)
    have c23_657 : ∀ (M576 : Mm), Pw M576 → Fr fm_m166_6 M0 M576 → Wp B (d + 37) 166 23 [some (R 6), some (I p1), some (I v559), none] [] M576 Q := by
      intro M576 hP577 hF578
      refine wk_al0 r166_23 (wk_getfr r166_24 fd_6_0 (br_6_0 hP577) (wk_c8 r166_27 (wk_cv2 r166_29 kc_9_239 rfl (m239_9 _ M576 4119 hP577 (by decide)) (cqI ?_))))
      rintro v584 M579 ⟨hP580, hQ581, h585, h586, xh583⟩
      obtain rfl := Fr.same hQ581
      refine wk_ifeq r166_32 ⟨by omega, by omega⟩ ?_ ?_
      · intro h587
        refine wk_al0 r166_41 (wk_getfr r166_42 fd_6_0 (br_6_0 hP577) (wk_c2 r166_45 (wk_cv2 r166_47 kc_9_238 rfl (m238_9v1 _ M576 40 hP577 (by decide) (by decide)) (cqI ?_))))
        rintro v592 M588 ⟨hP589, hQ590, h593, h594⟩
        obtain rfl := Fr.same hQ590
        have c66_644 : ∀ (M622 : Mm) (v619 : Int) (v625 : Int), Pw M622 → Fr fm_m166_6 M0 M622 → M622 6 4 = v625 → 0 ≤ v619 → v619 ≤ 1 → 0 ≤ v625 → v625 ≤ 6 → 1 ≤ v619 + v625 → Wp B (d + 37) 166 66 [some (R 6), none, some (I v559), none] [I v619] M622 Q := by
          intro M622 v619 v625 hP623 hF624 e628 h620 h621 h626 h627 h629
          refine wk_is3 r166_66 rfl (wk_il3 r166_67 ?_)
          refine wk_ifeq r166_68 ⟨by omega, by omega⟩ ?_ ?_
          · intro h630
            refine wk_c1 r166_90 ?_
            subst hQ; exact wk_zret r166_91 (by decide) (⟨rfl, _, rfl, hP623, hF624, by omega, by omega, by have := e628; omega⟩)
          · intro h631
            refine wk_il2 r166_71 (wk_c1 r166_72 (wk_iandc 1 2 r166_73 ⟨rfl, by decide⟩ rfl ?_))
            refine wk_ifeq r166_74 ⟨by omega, by omega⟩ ?_ ?_
            · intro h633
              refine wk_c1 r166_86 (wk_goto r166_87 ?_)
              subst hQ; exact wk_zret r166_91 (by decide) (⟨rfl, _, rfl, hP623, hF624, by omega, by omega, by have := e628; omega⟩)
            · intro h634
              refine wk_al0 r166_77 (wk_c1 r166_78 (wk_c1 r166_79 (wk_cv3 r166_80 kc_6_172 rfl (m172_6 _ M622 1 0 hP623 (by decide) (by decide) (by decide) (by decide) (by first | assumption | omega | (unfold stepok; omega))) (cqI ?_))))
              rintro v639 M635 ⟨hP636, hQ637, h640, h641⟩
              have hF638 : Fr fm_m166_6 M0 M635 := hF624.tr hQ637 rfl
              refine wk_ifeq r166_83 ⟨by omega, by omega⟩ ?_ ?_
              · intro h642
                exfalso
                omega
              · intro h643
                refine wk_c1 r166_86 (wk_goto r166_87 ?_)
                subst hQ; exact wk_zret r166_91 (by decide) (⟨rfl, _, rfl, hP636, hF638, by omega, by omega, by have := ((hQ637.at g_6_4 rfl).trans e628); omega⟩)
        refine wk_ifeq r166_50 ⟨by omega, by omega⟩ ?_ ?_
        · intro h595
          refine wk_al0 r166_61 (wk_il1 r166_62 (wk_cv2 r166_63 kc_6_153 rfl (m153_6 _ M576 p1 hP577 (by omega) (by omega)) (cqI ?_)))
          rintro v601 M596 ⟨hP597, hQ598, h602, h603, h600⟩
          have hF599 : Fr fm_m166_6 M0 M596 := hF578.tr hQ598 rfl
          obtain ⟨v604, e605⟩ : ∃ v, M596 6 4 = v := ⟨_, rfl⟩
          have h606 := bf_6_4 hP597; rw [e605] at h606
          exact wp_fg (le_s (le_n (le_s (le_s le_0)))) (c66_644 M596 v601 v604 hP597 hF599 e605 (by omega) (by omega) (by omega) (by omega) (by omega))
        · intro h607
          refine wk_al0 r166_53 (wk_il1 r166_54 (wk_cv2 r166_55 kc_6_168 rfl (m168_6 _ M576 p1 hP577 (by omega) (by omega)) (cqI ?_)))
          rintro v613 M608 ⟨hP609, hQ610, h614, h615, h612⟩
          have hF611 : Fr fm_m166_6 M0 M608 := hF578.tr hQ610 rfl
          obtain ⟨v616, e617⟩ : ∃ v, M608 6 4 = v := ⟨_, rfl⟩
          have h618 := bf_6_4 hP609; rw [e617] at h618
          refine wk_goto r166_58 ?_
          exact wp_fg (le_s (le_n (le_s (le_s le_0)))) (c66_644 M608 v613 v616 hP609 hF611 e617 (by omega) (by omega) (by omega) (by omega) (by omega))
      · intro h645
        refine wk_al0 r166_35 (wk_c1 r166_36 (wk_cv2 r166_37 kc_6_159 rfl (m159_6 _ M576 2 hP577 (by decide) (by decide)) (cqI ?_)))
        rintro v651 M646 ⟨hP647, hQ648, h652, h653, h650⟩
        have hF649 : Fr fm_m166_6 M0 M646 := hF578.tr hQ648 rfl
        obtain ⟨v654, e655⟩ : ∃ v, M646 6 4 = v := ⟨_, rfl⟩
        have h656 := bf_6_4 hP647; rw [e655] at h656
        subst hQ; exact wk_zret r166_40 ⟨by omega, by omega⟩ (⟨rfl, _, rfl, hP647, hF649, by omega, by omega, by have := e655; omega⟩)
    refine wk_icge r166_5 ⟨by omega, by omega⟩ (by decide) ?_ ?_
    · intro h565
      exact wp_fg (le_s (le_s (le_s (le_s le_0)))) (c23_657 M562 hP563 hF564)
    · intro h566
      refine wk_al0 r166_8 (wk_c8 r166_9 (wk_cv2 r166_11 kc_6_175 rfl (m175_6 _ M562 4119 hP563 (by decide)) (cqI ?_)))
      rintro v571 M567 ⟨hP568, hQ569, h572, h573⟩
      have hF570 : Fr fm_m166_6 M0 M567 := hF564.tr hQ569 rfl
      refine wk_ifeq r166_14 ⟨by omega, by omega⟩ ?_ ?_
      · intro h574
        exact wp_fg (le_s (le_s (le_s (le_s le_0)))) (c23_657 M567 hP568 hF570)
      · intro h575
        refine wk_inc2 r166_17 rfl (wk_goto r166_20 ?_)
        exact wp_fg (le_s (le_s (le_s (le_s le_0)))) (ih658 (6 - (v559 + 1)).toNat (by omega) M567 (v559 + 1) rfl hP568 hF570 (by omega) (by omega))
  exact wp_fg (le_s (le_s (le_s (le_s le_0)))) (c2_658 _ M0 0 rfl hP0 hF0 (by omega) (by omega))
def fm_m157_6 : Nat := 3941070043873280
/-- IslandHall$Parser.conjunction -/
theorem m157_6 {B : eB} (d : Nat) (M0 : Mm) (p1 : Int) (hP0 : Pw M0) (l1 : 0 ≤ p1) (u1 : p1 ≤ 0) : Ct B (d + 39) 157 [R 6, I p1] M0 (qI fun z M => Pw M ∧ Fr fm_m157_6 M0 M ∧ 0 ≤ z ∧ z ≤ 1 ∧ 0 ≤ z + M 6 4 + (-1)) := by
  refine ct_of (d := d + 38) (k := 1) (L := [some (R 6), some (I p1), none]) rfl rfl rfl ?_
  have hF0 := Fr.rf fm_m157_6 M0
  generalize hQ : (qI fun z M => Pw M ∧ Fr fm_m157_6 M0 M ∧ 0 ≤ z ∧ z ≤ 1 ∧ 0 ≤ z + M 6 4 + (-1)) = Q
  refine wk_al0 r157_0 (wk_il1 r157_1 (wk_cv2 r157_2 kc_6_166 rfl (m166_6 _ M0 p1 hP0 (by omega) (by omega)) (cqI ?_)))
  rintro v6 M1 ⟨hP2, hQ3, h7, h8, h5⟩
  have hF4 : Fr fm_m157_6 M0 M1 := hF0.tr hQ3 rfl
  obtain ⟨v9, e10⟩ : ∃ v, M1 6 4 = v := ⟨_, rfl⟩
  have h11 := bf_6_4 hP2; rw [e10] at h11
  refine wk_ifne r157_5 ⟨by omega, by omega⟩ ?_ ?_
  · intro h12
    refine wk_c1 r157_10 (wk_is2 r157_11 rfl ?_)
    have c12_442 : ∀ (k442 : Nat) (M401 : Mm) (v398 : Int) (v404 : Int), (500 - v398).toNat = k442 → Pw M401 → Fr fm_m157_6 M0 M401 → M401 6 4 = v404 → 0 ≤ v398 → v398 ≤ 500 → 0 ≤ v404 → v404 ≤ 6 → 0 ≤ (-1) * v404 + v398 + 6 → Wp B (d + 38) 157 12 [some (R 6), some (I p1), some (I v398)] [] M401 Q := by
      refine lp_ind ?_
      intro k442 ih442 M401 v398 v404 hk442 hP402 hF403 e407 h399 h400 h405 h406 h408
      refine wk_il2 r157_12 (wk_c3 r157_13 ?_)
      refine wk_icge r157_16 ⟨by omega, by omega⟩ (by decide) ?_ ?_
      · intro h409
        refine wk_c1 r157_53 ?_
        subst hQ; exact wk_zret r157_54 (by decide) (⟨rfl, _, rfl, hP402, hF403, by omega, by omega, by have := e407; omega⟩)
      · intro h410
        refine wk_al0 r157_19 (wk_c8 r157_20 (wk_cv2 r157_22 kc_6_175 rfl (m175_6 _ M401 4125 hP402 (by decide)) (cqI ?_)))
        rintro v415 M411 ⟨hP412, hQ413, h416, h417⟩
        have hF414 : Fr fm_m157_6 M0 M411 := hF403.tr hQ413 rfl
        refine wk_ifeq r157_25 ⟨by omega, by omega⟩ ?_ ?_
        · intro h418
          refine wk_c1 r157_53 ?_
          subst hQ; exact wk_zret r157_54 (by decide) (⟨rfl, _, rfl, hP412, hF414, by omega, by omega, by have := ((hQ413.at g_6_4 rfl).trans e407); omega⟩)
        · intro h419
          refine wk_al0 r157_28 (wk_il1 r157_29 (wk_cv2 r157_30 kc_6_166 rfl (m166_6 _ M411 p1 hP412 (by omega) (by omega)) (cqI ?_)))
          rintro v425 M420 ⟨hP421, hQ422, h426, h427, h424⟩
          have hF423 : Fr fm_m157_6 M0 M420 := hF414.tr hQ422 rfl
          obtain ⟨v428, e429⟩ : ∃ v, M420 6 4 = v := ⟨_, rfl⟩
          have h430 := bf_6_4 hP421; rw [e429] at h430
          refine wk_ifeq r157_33 ⟨by omega, by omega⟩ ?_ ?_
          · intro h431
            refine wk_c1 r157_45 ?_
            subst hQ; exact wk_zret r157_46 (by decide) (⟨rfl, _, rfl, hP421, hF423, by omega, by omega, by have := e429; omega⟩)
          · intro h432
            refine wk_al0 r157_36 (wk_c1 r157_37 (wk_c1 r157_38 (wk_cv3 r157_39 kc_6_172 rfl (m172_6 _ M420 2 0 hP421 (by decide) (by decide) (by decide) (by decide) (by first | assumption | omega | (unfold stepok; omega))) (cqI ?_))))
            rintro v437 M433 ⟨hP434, hQ435, h438, h439⟩
            have hF436 : Fr fm_m157_6 M0 M433 := hF423.tr hQ435 rfl
            refine wk_ifne r157_42 ⟨by omega, by omega⟩ ?_ ?_
            · intro h440
              refine wk_inc2 r157_47 rfl (wk_goto r157_50 ?_)
              exact wp_fg (le_s (le_s (le_s le_0))) (ih442 (500 - (v398 + 1)).toNat (by omega) M433 (v398 + 1) v428 rfl hP434 hF436 ((hQ435.at g_6_4 rfl).trans e429) (by omega) (by omega) (by omega) (by omega) (by omega))
            · intro h441
              exfalso
              omega
    exact wp_fg (le_s (le_s (le_s le_0))) (c12_442 _ M1 0 v9 rfl hP2 hF4 e10 (by omega) (by omega) (by omega) (by omega) (by omega))
  · intro h443
    refine wk_c1 r157_8 ?_
    subst hQ; exact wk_zret r157_9 (by decide) (⟨rfl, _, rfl, hP2, hF4, by omega, by omega, by have := e10; omega⟩)
def fm_m158_6 : Nat := 3941070043873280
/-- IslandHall$Parser.expr -/
theorem m158_6 {B : eB} (d : Nat) (M0 : Mm) (p1 : Int) (hP0 : Pw M0) (l1 : 0 ≤ p1) (u1 : p1 ≤ 0) : Ct B (d + 40) 158 [R 6, I p1] M0 (qI fun z M => Pw M ∧ Fr fm_m158_6 M0 M ∧ 0 ≤ z ∧ z ≤ 1 ∧ 0 ≤ z + M 6 4 + (-1)) := by
  refine ct_of (d := d + 39) (k := 1) (L := [some (R 6), some (I p1), none]) rfl rfl rfl ?_
  have hF0 := Fr.rf fm_m158_6 M0
  generalize hQ : (qI fun z M => Pw M ∧ Fr fm_m158_6 M0 M ∧ 0 ≤ z ∧ z ≤ 1 ∧ 0 ≤ z + M 6 4 + (-1)) = Q
  refine wk_al0 r158_0 (wk_cv1 r158_1 kc_6_155 rfl (m155_6 _ M0 hP0) (cqI ?_))
  rintro v5 M1 ⟨hP2, hQ3, h6, h7⟩
  obtain rfl := Fr.same hQ3
  refine wk_ifne r158_4 ⟨by omega, by omega⟩ ?_ ?_
  · intro h8
    refine wk_il1 r158_13 (wk_c2 r158_14 ?_)
    refine wk_iclt r158_16 ⟨by omega, by omega⟩ (by decide) ?_ ?_
    · intro h9
      refine wk_al0 r158_25 (wk_il1 r158_26 (wk_cv2 r158_27 kc_6_157 rfl (m157_6 _ M0 p1 hP0 (by omega) (by omega)) (cqI ?_)))
      rintro v15 M10 ⟨hP11, hQ12, h16, h17, h14⟩
      have hF13 : Fr fm_m158_6 M0 M10 := hF0.tr hQ12 rfl
      obtain ⟨v18, e19⟩ : ∃ v, M10 6 4 = v := ⟨_, rfl⟩
      have h20 := bf_6_4 hP11; rw [e19] at h20
      refine wk_ifne r158_30 ⟨by omega, by omega⟩ ?_ ?_
      · intro h21
        refine wk_c1 r158_35 (wk_is2 r158_36 rfl ?_)
        have c37_451 : ∀ (k451 : Nat) (M410 : Mm) (v407 : Int) (v413 : Int), (500 - v407).toNat = k451 → Pw M410 → Fr fm_m158_6 M0 M410 → M410 6 4 = v413 → 0 ≤ v407 → v407 ≤ 500 → 0 ≤ v413 → v413 ≤ 6 → 0 ≤ (-1) * v413 + v407 + 6 → Wp B (d + 39) 158 37 [some (R 6), some (I p1), some (I v407)] [] M410 Q := by
          refine lp_ind ?_
          intro k451 ih451 M410 v407 v413 hk451 hP411 hF412 e416 h408 h409 h414 h415 h417
          refine wk_il2 r158_37 (wk_c3 r158_38 ?_)
          refine wk_icge r158_41 ⟨by omega, by omega⟩ (by decide) ?_ ?_
          · intro h418
            refine wk_c1 r158_78 ?_
            subst hQ; exact wk_zret r158_79 (by decide) (⟨rfl, _, rfl, hP411, hF412, by omega, by omega, by have := e416; omega⟩)
          · intro h419
            refine wk_al0 r158_44 (wk_c8 r158_45 (wk_cv2 r158_47 kc_6_175 rfl (m175_6 _ M410 4126 hP411 (by decide)) (cqI ?_)))
            rintro v424 M420 ⟨hP421, hQ422, h425, h426⟩
            have hF423 : Fr fm_m158_6 M0 M420 := hF412.tr hQ422 rfl
            refine wk_ifeq r158_50 ⟨by omega, by omega⟩ ?_ ?_
            · intro h427
              refine wk_c1 r158_78 ?_
              subst hQ; exact wk_zret r158_79 (by decide) (⟨rfl, _, rfl, hP421, hF423, by omega, by omega, by have := ((hQ422.at g_6_4 rfl).trans e416); omega⟩)
            · intro h428
              refine wk_al0 r158_53 (wk_il1 r158_54 (wk_cv2 r158_55 kc_6_157 rfl (m157_6 _ M420 p1 hP421 (by omega) (by omega)) (cqI ?_)))
              rintro v434 M429 ⟨hP430, hQ431, h435, h436, h433⟩
              have hF432 : Fr fm_m158_6 M0 M429 := hF423.tr hQ431 rfl
              obtain ⟨v437, e438⟩ : ∃ v, M429 6 4 = v := ⟨_, rfl⟩
              have h439 := bf_6_4 hP430; rw [e438] at h439
              refine wk_ifeq r158_58 ⟨by omega, by omega⟩ ?_ ?_
              · intro h440
                refine wk_c1 r158_70 ?_
                subst hQ; exact wk_zret r158_71 (by decide) (⟨rfl, _, rfl, hP430, hF432, by omega, by omega, by have := e438; omega⟩)
              · intro h441
                refine wk_al0 r158_61 (wk_c1 r158_62 (wk_c1 r158_63 (wk_cv3 r158_64 kc_6_172 rfl (m172_6 _ M429 3 0 hP430 (by decide) (by decide) (by decide) (by decide) (by first | assumption | omega | (unfold stepok; omega))) (cqI ?_))))
                rintro v446 M442 ⟨hP443, hQ444, h447, h448⟩
                have hF445 : Fr fm_m158_6 M0 M442 := hF432.tr hQ444 rfl
                refine wk_ifne r158_67 ⟨by omega, by omega⟩ ?_ ?_
                · intro h449
                  refine wk_inc2 r158_72 rfl (wk_goto r158_75 ?_)
                  exact wp_fg (le_s (le_s (le_s le_0))) (ih451 (500 - (v407 + 1)).toNat (by omega) M442 (v407 + 1) v437 rfl hP443 hF445 ((hQ444.at g_6_4 rfl).trans e438) (by omega) (by omega) (by omega) (by omega) (by omega))
                · intro h450
                  exfalso
                  omega
        exact wp_fg (le_s (le_s (le_s le_0))) (c37_451 _ M10 0 v18 rfl hP11 hF13 e19 (by omega) (by omega) (by omega) (by omega) (by omega))
      · intro h452
        refine wk_c1 r158_33 ?_
        subst hQ; exact wk_zret r158_34 (by decide) (⟨rfl, _, rfl, hP11, hF13, by omega, by omega, by have := e19; omega⟩)
    · intro h453
      exfalso
      omega
  · intro h454
    refine wk_al0 r158_7 (wk_c1 r158_8 (wk_cv2 r158_9 kc_6_159 rfl (m159_6v1 _ M0 1 hP0 (by decide) (by decide)) (cqI ?_)))
    rintro v460 M455 ⟨hP456, hQ457, h461, h462, h459⟩
    have hF458 : Fr fm_m158_6 M0 M455 := hF0.tr hQ457 rfl
    obtain ⟨v463, e464⟩ : ∃ v, M455 6 4 = v := ⟨_, rfl⟩
    have h465 := bf_6_4 hP456; rw [e464] at h465
    subst hQ; exact wk_zret r158_12 ⟨by omega, by omega⟩ (⟨rfl, _, rfl, hP456, hF458, by omega, by omega, by have := e464; omega⟩)
def fm_m162_6 : Nat := 3967450269876224
/-- IslandHall$Parser.liesClause -/
theorem m162_6 {B : eB} (d : Nat) (M0 : Mm) (hP0 : Pw M0)  : Ct B (d + 4) 162 [R 6] M0 (qI fun z M => Pw M ∧ Fr fm_m162_6 M0 M ∧ 0 ≤ z ∧ z ≤ 1 ∧ 0 ≤ z + M 6 4 + (-1)) := by
  refine ct_of (d := d + 3) (k := 3) (L := [some (R 6), none, none, none]) rfl rfl rfl ?_
  have hF0 := Fr.rf fm_m162_6 M0
  generalize hQ : (qI fun z M => Pw M ∧ Fr fm_m162_6 M0 M ∧ 0 ≤ z ∧ z ≤ 1 ∧ 0 ≤ z + M 6 4 + (-1)) = Q
  refine wk_c1 r162_0 (wk_is1 r162_1 rfl (wk_c1 r162_2 (wk_is2 r162_3 rfl ?_)))
  have c4_501 : ∀ (k501 : Nat) (M448 : Mm) (v442 : Int) (v445 : Int), (500 - v445).toNat = k501 → Pw M448 → Fr fm_m162_6 M0 M448 → 0 ≤ v442 → v442 ≤ 127 → 0 ≤ v445 → v445 ≤ 500 → Wp B (d + 3) 162 4 [some (R 6), some (I v442), some (I v445), none] [] M448 Q := by
    refine lp_ind ?_
    intro k501 ih501 M448 v442 v445 hk501 hP449 hF450 h443 h444 h446 h447
    refine wk_il2 r162_4 (wk_c3 r162_5 ?_)
    refine wk_icge r162_8 ⟨by omega, by omega⟩ (by decide) ?_ ?_
    · intro h451
      refine wk_al0 r162_53 (wk_getfr r162_54 fd_6_1 (br_6_1 hP449) (wk_il1 r162_57 (wk_putfi81 r162_58 fd_7_4 (wk_nw g_7_4 rfl hP449 hF450 (uf_7_4 ⟨by omega, by omega⟩) ?_))))
      intro M452 hP453 hF454 e455
      refine wk_al0 r162_61 (wk_getfr r162_62 fd_6_1 (br_6_1 hP453) (wk_c1 r162_65 (wk_putfz81 r162_66 fd_7_5 (by decide) (wk_nw g_7_5 rfl hP453 hF454 (uf_7_5 (by decide)) ?_))))
      intro M456 hP457 hF458 e459
      refine wk_c1 r162_69 ?_
      subst hQ; exact wk_zret r162_70 (by decide) (⟨rfl, _, rfl, hP457, hF458, by omega, by omega, by have := (bf_6_4 hP457); omega⟩)
    · intro h460
      refine wk_il2 r162_11 ?_
      have c26_500 : Wp B (d + 3) 162 26 [some (R 6), some (I v442), some (I v445), none] [] M448 Q := by
        refine wk_al0 r162_26 (wk_c1 r162_27 (wk_c2 r162_28 (wk_cv3 r162_30 kc_6_167 rfl (m167_6v1 _ M448 0 6 hP449 (by decide) (by decide) (by decide) (by decide)) (cqI ?_))))
        rintro v482 M477 ⟨hP478, hQ479, h483, h484, h481⟩
        have hF480 : Fr fm_m162_6 M0 M477 := hF450.tr hQ479 rfl
        obtain ⟨v485, e486⟩ : ∃ v, M477 6 4 = v := ⟨_, rfl⟩
        have h487 := bf_6_4 hP478; rw [e486] at h487
        refine wk_is3 r162_33 rfl (wk_il3 r162_34 (wk_c1 r162_35 ?_))
        refine wk_icne r162_36 ⟨by omega, by omega⟩ (by decide) ?_ ?_
        · intro h488
          refine wk_il1 r162_41 (wk_c1 r162_42 (wk_il3 r162_43 (wk_shl1 6 64 r162_44 ⟨by omega, by omega⟩ ⟨pwl_6, by decide⟩ ?_)))
          intro v489 h490 h491 h492
          refine wk_ior 7 128 r162_45 (by decide) ⟨by omega, by omega⟩ ⟨by omega, by omega⟩ ?_
          intro v493 h494 h495 h496 h497 h498
          refine wk_is1 r162_46 rfl (wk_inc2 r162_47 rfl (wk_goto r162_50 ?_))
          exact wp_fg (le_s (le_s (le_s (le_n le_0)))) (ih501 (500 - (v445 + 1)).toNat (by omega) M477 v493 (v445 + 1) rfl hP478 hF480 (by omega) (by omega) (by omega) (by omega))
        · intro h499
          refine wk_c1 r162_39 ?_
          subst hQ; exact wk_zret r162_40 (by decide) (⟨rfl, _, rfl, hP478, hF480, by omega, by omega, by have := e486; omega⟩)
      refine wk_ifeq r162_12 ⟨by omega, by omega⟩ ?_ ?_
      · intro h461
        exact wp_fg (le_s (le_s (le_s (le_s le_0)))) c26_500
      · intro h462
        refine wk_al0 r162_15 (wk_getfr r162_16 fd_6_0 (br_6_0 hP449) (wk_getfb r162_19 fd_9_4 (bf_9_4 hP449) ?_))
        intro v463 h465 h466 e464
        refine wk_c1 r162_22 ?_
        refine wk_icne r162_23 ⟨by omega, by omega⟩ (by decide) ?_ ?_
        · intro h467
          refine wk_al0 r162_53 (wk_getfr r162_54 fd_6_1 (br_6_1 hP449) (wk_il1 r162_57 (wk_putfi81 r162_58 fd_7_4 (wk_nw g_7_4 rfl hP449 hF450 (uf_7_4 ⟨by omega, by omega⟩) ?_))))
          intro M468 hP469 hF470 e471
          refine wk_al0 r162_61 (wk_getfr r162_62 fd_6_1 (br_6_1 hP469) (wk_c1 r162_65 (wk_putfz81 r162_66 fd_7_5 (by decide) (wk_nw g_7_5 rfl hP469 hF470 (uf_7_5 (by decide)) ?_))))
          intro M472 hP473 hF474 e475
          refine wk_c1 r162_69 ?_
          subst hQ; exact wk_zret r162_70 (by decide) (⟨rfl, _, rfl, hP473, hF474, by omega, by omega, by have := (bf_6_4 hP473); omega⟩)
        · intro h476
          exact wp_fg (le_s (le_s (le_s (le_s le_0)))) c26_500
  exact wp_fg (le_s (le_s (le_s (le_s le_0)))) (c4_501 _ M0 0 0 rfl hP0 hF0 (by omega) (by omega) (by omega) (by omega))
def fm_m164_6 : Nat := 4011430734987264
/-- IslandHall$Parser.mayClause -/
theorem m164_6 {B : eB} (d : Nat) (M0 : Mm) (hP0 : Pw M0)  : Ct B (d + 5) 164 [R 6] M0 (qI fun z M => Pw M ∧ Fr fm_m164_6 M0 M ∧ 0 ≤ z ∧ z ≤ 1 ∧ 0 ≤ z + M 6 4 + (-1)) := by
  refine ct_of (d := d + 4) (k := 5) (L := [some (R 6), none, none, none, none, none]) rfl rfl rfl ?_
  have hF0 := Fr.rf fm_m164_6 M0
  generalize hQ : (qI fun z M => Pw M ∧ Fr fm_m164_6 M0 M ∧ 0 ≤ z ∧ z ≤ 1 ∧ 0 ≤ z + M 6 4 + (-1)) = Q
  refine wk_al0 r164_0 (wk_cv1 r164_1 kc_6_165 rfl (m165_6 _ M0 hP0) (cqI ?_))
  rintro v6 M1 ⟨hP2, hQ3, h7, h8, h5⟩
  have hF4 : Fr fm_m164_6 M0 M1 := hF0.tr hQ3 rfl
  obtain ⟨v9, e10⟩ : ∃ v, M1 6 4 = v := ⟨_, rfl⟩
  have h11 := bf_6_4 hP2; rw [e10] at h11
  refine wk_is1 r164_4 rfl (wk_il1 r164_5 (wk_c1 r164_6 ?_))
  refine wk_icne r164_7 ⟨by omega, by omega⟩ (by decide) ?_ ?_
  · intro h12
    refine wk_al0 r164_14 (wk_cv1 r164_15 kc_6_173 rfl (m173_6 _ M1 hP2) (cqI ?_))
    rintro v18 M13 ⟨hP14, hQ15, h19, h20, h17⟩
    have hF16 : Fr fm_m164_6 M0 M13 := hF4.tr hQ15 rfl
    obtain ⟨v21, e22⟩ : ∃ v, M13 6 4 = v := ⟨_, rfl⟩
    have h23 := bf_6_4 hP14; rw [e22] at h23
    refine wk_is2 r164_18 rfl (wk_il2 r164_19 (wk_c1 r164_20 ?_))
    refine wk_icne r164_21 ⟨by omega, by omega⟩ (by decide) ?_ ?_
    · intro h24
      refine wk_c1 r164_26 (wk_il2 r164_27 (wk_shl1 4 16 r164_28 ⟨by omega, by omega⟩ ⟨pwl_4, by decide⟩ ?_))
      intro v25 h26 h27 h28
      refine wk_is3 r164_29 rfl (wk_c1 r164_30 (wk_is4 r164_31 rfl ?_))
      have c33_499 : ∀ (k499 : Nat) (M435 : Mm) (v429 : Int) (v432 : Int), (5 - v432).toNat = k499 → Pw M435 → Fr fm_m164_6 M0 M435 → M435 6 4 = v21 → 1 ≤ v429 → v429 ≤ 31 → 0 ≤ v432 → v432 ≤ 5 → Wp B (d + 4) 164 33 [some (R 6), some (I v6), none, some (I v429), some (I v432), none] [] M435 Q := by
        refine lp_ind ?_
        intro k499 ih499 M435 v429 v432 hk499 hP436 hF437 e438 h430 h431 h433 h434
        refine wk_il4 r164_33 (wk_c1 r164_35 ?_)
        refine wk_icge r164_36 ⟨by omega, by omega⟩ (by decide) ?_ ?_
        · intro h439
          refine wk_al0 r164_92 (wk_getfr r164_93 fd_6_1 (br_6_1 hP436) (wk_getfr r164_96 fd_7_0 (br_7_0 hP436) (wk_il1 r164_99 (wk_il3 r164_100 (wk_iast r164_101 ar_8 ⟨by omega, by omega⟩ (wk_nw (ga_8 _) rfl hP436 hF437 (ua_8 ⟨by omega, by omega⟩) ?_))))))
          intro M440 hP441 hF442 e443
          refine wk_c1 r164_102 ?_
          subst hQ; exact wk_zret r164_103 (by decide) (⟨rfl, _, rfl, hP441, hF442, by omega, by omega, by have := (mUp_no e443 e438 (Or.inl (by decide))); omega⟩)
        · intro h444
          refine wk_al0 r164_39 (wk_getfr r164_40 fd_6_0 (br_6_0 hP436) (wk_cv1 r164_43 kc_9_240 rfl (m240_9 _ M435 hP436) (cqI ?_)))
          rintro v450 M445 ⟨hP446, hQ447, h451, h452, xh449⟩
          obtain rfl := Fr.same hQ447
          refine wk_c1 r164_46 ?_
          refine wk_iceq r164_47 ⟨by omega, by omega⟩ (by decide) ?_ ?_
          · intro h453
            refine wk_al0 r164_92 (wk_getfr r164_93 fd_6_1 (br_6_1 hP436) (wk_getfr r164_96 fd_7_0 (br_7_0 hP436) (wk_il1 r164_99 (wk_il3 r164_100 (wk_iast r164_101 ar_8 ⟨by omega, by omega⟩ (wk_nw (ga_8 _) rfl hP436 hF437 (ua_8 ⟨by omega, by omega⟩) ?_))))))
            intro M454 hP455 hF456 e457
            refine wk_c1 r164_102 ?_
            subst hQ; exact wk_zret r164_103 (by decide) (⟨rfl, _, rfl, hP455, hF456, by omega, by omega, by have := (mUp_no e457 e438 (Or.inl (by decide))); omega⟩)
          · intro h458
            refine wk_c1 r164_50 (wk_al0 r164_51 (wk_getfr r164_52 fd_6_0 (br_6_0 hP436) (wk_cv1 r164_55 kc_9_240 rfl (m240_9 _ M435 hP436) (cqI ?_))))
            rintro v464 M459 ⟨hP460, hQ461, h465, h466, xh463⟩
            obtain rfl := Fr.same hQ461
            refine wk_shl1 4 16 r164_58 ⟨by omega, by omega⟩ ⟨pwl_4, by decide⟩ ?_
            intro v467 h468 h469 h470
            refine wk_is5 r164_59 rfl (wk_il3 r164_61 (wk_il5 r164_62 (wk_iand r164_64 ⟨by omega, by omega⟩ ⟨by omega, by omega⟩ ?_)))
            intro v471 h472 h473 h474 h475
            refine wk_ifeq r164_65 ⟨by omega, by omega⟩ ?_ ?_
            · intro h476
              refine wk_il3 r164_74 (wk_il5 r164_75 (wk_ior 5 32 r164_77 (by decide) ⟨by omega, by omega⟩ ⟨by omega, by omega⟩ ?_))
              intro v477 h478 h479 h480 h481 h482
              refine wk_is3 r164_78 rfl (wk_al0 r164_79 (wk_getfr r164_80 fd_6_0 (br_6_0 hP436) (wk_cv1 r164_83 kc_9_241 rfl (m241_9 _ M435 hP436) (cqV ?_))))
              rintro M483 ⟨hP484, hQ485⟩
              have hF486 : Fr fm_m164_6 M0 M483 := hF437.tr hQ485 rfl
              refine wk_inc4 r164_86 rfl (wk_goto r164_89 ?_)
              exact wp_fg (le_s (le_s (le_s (le_s (le_s (le_n le_0)))))) (ih499 (5 - (v432 + 1)).toNat (by omega) M483 v477 (v432 + 1) rfl hP484 hF486 ((hQ485.at g_6_4 rfl).trans e438) (by omega) (by omega) (by omega) (by omega))
            · intro h487
              refine wk_al0 r164_68 (wk_c1 r164_69 (wk_cv2 r164_70 kc_6_159 rfl (m159_6v2 _ M435 5 hP436 (by decide) (by decide)) (cqI ?_)))
              rintro v493 M488 ⟨hP489, hQ490, h494, h495, h492⟩
              have hF491 : Fr fm_m164_6 M0 M488 := hF437.tr hQ490 rfl
              obtain ⟨v496, e497⟩ : ∃ v, M488 6 4 = v := ⟨_, rfl⟩
              have h498 := bf_6_4 hP489; rw [e497] at h498
              subst hQ; exact wk_zret r164_73 ⟨by omega, by omega⟩ (⟨rfl, _, rfl, hP489, hF491, by omega, by omega, by have := e497; omega⟩)
      exact wp_fg (le_s (le_s (le_n (le_s (le_s (le_s le_0)))))) (c33_499 _ M13 v25 0 rfl hP14 hF16 e22 (by omega) (by omega) (by omega) (by omega))
    · intro h500
      refine wk_c1 r164_24 ?_
      subst hQ; exact wk_zret r164_25 (by decide) (⟨rfl, _, rfl, hP14, hF16, by omega, by omega, by have := e22; omega⟩)
  · intro h501
    refine wk_c1 r164_10 (wk_goto r164_11 (wk_is2 r164_18 rfl (wk_il2 r164_19 (wk_c1 r164_20 ?_))))
    refine wk_icne r164_21 (by decide) (by decide) ?_ ?_
    · intro h502
      exfalso
      omega
    · intro h503
      refine wk_c1 r164_24 ?_
      subst hQ; exact wk_zret r164_25 (by decide) (⟨rfl, _, rfl, hP2, hF4, by omega, by omega, by have := e10; omega⟩)
def fm_m156_6 : Nat := 4079608508973056
/-- IslandHall$Parser.clause -/
theorem m156_6 {B : eB} (d : Nat) (M0 : Mm) (hP0 : Pw M0)  : Ct B (d + 41) 156 [R 6] M0 (qI fun z M => Pw M ∧ Fr fm_m156_6 M0 M ∧ 0 ≤ z ∧ z ≤ 1 ∧ 0 ≤ z + M 6 4 + (-1)) := by
  refine ct_of (d := d + 40) (k := 0) (L := [some (R 6)]) rfl rfl rfl ?_
  have hF0 := Fr.rf fm_m156_6 M0
  generalize hQ : (qI fun z M => Pw M ∧ Fr fm_m156_6 M0 M ∧ 0 ≤ z ∧ z ≤ 1 ∧ 0 ≤ z + M 6 4 + (-1)) = Q
  refine wk_al0 r156_0 (wk_c8 r156_1 (wk_cv2 r156_3 kc_6_175 rfl (m175_6 _ M0 4120 hP0 (by decide)) (cqI ?_)))
  rintro v5 M1 ⟨hP2, hQ3, h6, h7⟩
  have hF4 : Fr fm_m156_6 M0 M1 := hF0.tr hQ3 rfl
  refine wk_ifeq r156_6 ⟨by omega, by omega⟩ ?_ ?_
  · intro h8
    refine wk_al0 r156_14 (wk_c8 r156_15 (wk_cv2 r156_17 kc_6_175 rfl (m175_6 _ M1 4121 hP2 (by decide)) (cqI ?_)))
    rintro v13 M9 ⟨hP10, hQ11, h14, h15⟩
    have hF12 : Fr fm_m156_6 M0 M9 := hF4.tr hQ11 rfl
    refine wk_ifeq r156_20 ⟨by omega, by omega⟩ ?_ ?_
    · intro h16
      refine wk_al0 r156_28 (wk_c8 r156_29 (wk_cv2 r156_31 kc_6_175 rfl (m175_6 _ M9 4122 hP10 (by decide)) (cqI ?_)))
      rintro v21 M17 ⟨hP18, hQ19, h22, h23⟩
      have hF20 : Fr fm_m156_6 M0 M17 := hF12.tr hQ19 rfl
      refine wk_ifeq r156_34 ⟨by omega, by omega⟩ ?_ ?_
      · intro h24
        refine wk_al0 r156_60 (wk_c8 r156_61 (wk_cv2 r156_63 kc_6_175 rfl (m175_6 _ M17 4123 hP18 (by decide)) (cqI ?_)))
        rintro v29 M25 ⟨hP26, hQ27, h30, h31⟩
        have hF28 : Fr fm_m156_6 M0 M25 := hF20.tr hQ27 rfl
        refine wk_ifeq r156_66 ⟨by omega, by omega⟩ ?_ ?_
        · intro h32
          refine wk_al0 r156_79 (wk_c8 r156_80 (wk_cv2 r156_82 kc_6_175 rfl (m175_6 _ M25 4124 hP26 (by decide)) (cqI ?_)))
          rintro v37 M33 ⟨hP34, hQ35, h38, h39⟩
          have hF36 : Fr fm_m156_6 M0 M33 := hF28.tr hQ35 rfl
          refine wk_ifeq r156_85 ⟨by omega, by omega⟩ ?_ ?_
          · intro h40
            refine wk_al0 r156_118 (wk_c8 r156_119 (wk_cv2 r156_121 kc_6_175 rfl (m175_6 _ M33 4115 hP34 (by decide)) (cqI ?_)))
            rintro v45 M41 ⟨hP42, hQ43, h46, h47⟩
            have hF44 : Fr fm_m156_6 M0 M41 := hF36.tr hQ43 rfl
            refine wk_ifeq r156_124 ⟨by omega, by omega⟩ ?_ ?_
            · intro h48
              refine wk_al0 r156_158 (wk_c1 r156_159 (wk_cv2 r156_160 kc_6_159 rfl (m159_6v1 _ M41 1 hP42 (by decide) (by decide)) (cqI ?_)))
              rintro v54 M49 ⟨hP50, hQ51, h55, h56, h53⟩
              have hF52 : Fr fm_m156_6 M0 M49 := hF44.tr hQ51 rfl
              obtain ⟨v57, e58⟩ : ∃ v, M49 6 4 = v := ⟨_, rfl⟩
              have h59 := bf_6_4 hP50; rw [e58] at h59
              subst hQ; exact wk_zret r156_163 ⟨by omega, by omega⟩ (⟨rfl, _, rfl, hP50, hF52, by omega, by omega, by have := e58; omega⟩)
            · intro h60
              refine wk_al0 r156_127 (wk_getfr r156_128 fd_6_1 (br_6_1 hP42) (wk_al0 r156_131 (wk_c1 r156_132 (wk_c2 r156_133 (wk_cv3 r156_135 kc_6_167 rfl (m167_6v1 _ M41 0 6 hP42 (by decide) (by decide) (by decide) (by decide)) (cqI ?_))))))
              rintro v66 M61 ⟨hP62, hQ63, h67, h68, h65⟩
              have hF64 : Fr fm_m156_6 M0 M61 := hF44.tr hQ63 rfl
              obtain ⟨v69, e70⟩ : ∃ v, M61 6 4 = v := ⟨_, rfl⟩
              have h71 := bf_6_4 hP62; rw [e70] at h71
              refine wk_putfi81 r156_138 fd_7_3 (wk_nw g_7_3 rfl hP62 hF64 (uf_7_3 ⟨by omega, by omega⟩) ?_)
              intro M72 hP73 hF74 e75
              refine wk_al0 r156_141 (wk_getfr r156_142 fd_6_1 (br_6_1 hP73) (wk_getfi r156_145 fd_7_3 (mUp_at e75) (wk_c1 r156_148 ?_)))
              refine wk_iceq r156_149 ⟨by omega, by omega⟩ (by decide) ?_ ?_
              · intro h76
                refine wk_c1 r156_156 ?_
                subst hQ; exact wk_zret r156_157 (by decide) (⟨rfl, _, rfl, hP73, hF74, by omega, by omega, by have := (mUp_no e75 e70 (Or.inl (by decide))); omega⟩)
              · intro h77
                refine wk_c1 r156_152 (wk_goto r156_153 ?_)
                subst hQ; exact wk_zret r156_157 (by decide) (⟨rfl, _, rfl, hP73, hF74, by omega, by omega, by have := (mUp_no e75 e70 (Or.inl (by decide))); omega⟩)
          · intro h78
            refine wk_al0 r156_88 (wk_getfr r156_89 fd_6_1 (br_6_1 hP34) (wk_al0 r156_92 (wk_c1 r156_93 (wk_c1 r156_94 (wk_cv3 r156_95 kc_6_167 rfl (m167_6v2 _ M33 1 4 hP34 (by decide) (by decide) (by decide) (by decide)) (cqI ?_))))))
            rintro v84 M79 ⟨hP80, hQ81, h85, h86, h83⟩
            have hF82 : Fr fm_m156_6 M0 M79 := hF36.tr hQ81 rfl
            obtain ⟨v87, e88⟩ : ∃ v, M79 6 4 = v := ⟨_, rfl⟩
            have h89 := bf_6_4 hP80; rw [e88] at h89
            refine wk_putfi81 r156_98 fd_7_2 (wk_nw g_7_2 rfl hP80 hF82 (uf_7_2 ⟨by omega, by omega⟩) ?_)
            intro M90 hP91 hF92 e93
            refine wk_al0 r156_101 (wk_getfr r156_102 fd_6_1 (br_6_1 hP91) (wk_getfi r156_105 fd_7_2 (mUp_at e93) (wk_c1 r156_108 ?_)))
            refine wk_iceq r156_109 ⟨by omega, by omega⟩ (by decide) ?_ ?_
            · intro h94
              refine wk_c1 r156_116 ?_
              subst hQ; exact wk_zret r156_117 (by decide) (⟨rfl, _, rfl, hP91, hF92, by omega, by omega, by have := (mUp_no e93 e88 (Or.inl (by decide))); omega⟩)
            · intro h95
              refine wk_c1 r156_112 (wk_goto r156_113 ?_)
              subst hQ; exact wk_zret r156_117 (by decide) (⟨rfl, _, rfl, hP91, hF92, by omega, by omega, by have := (mUp_no e93 e88 (Or.inl (by decide))); omega⟩)
        · intro h96
          refine wk_al0 r156_69 (wk_getfr r156_70 fd_6_1 (br_6_1 hP26) (wk_c1 r156_73 (wk_putfz81 r156_74 fd_7_6 (by decide) (wk_nw g_7_6 rfl hP26 hF28 (uf_7_6 (by decide)) ?_))))
          intro M97 hP98 hF99 e100
          refine wk_c1 r156_77 ?_
          subst hQ; exact wk_zret r156_78 (by decide) (⟨rfl, _, rfl, hP98, hF99, by omega, by omega, by have := (bf_6_4 hP98); omega⟩)
      · intro h101
        refine wk_al0 r156_37 (wk_c1 r156_38 (wk_cv2 r156_39 kc_6_158 rfl (m158_6 _ M17 0 hP18 (by decide) (by decide)) (cqI ?_)))
        rintro v107 M102 ⟨hP103, hQ104, h108, h109, h106⟩
        have hF105 : Fr fm_m156_6 M0 M102 := hF20.tr hQ104 rfl
        obtain ⟨v110, e111⟩ : ∃ v, M102 6 4 = v := ⟨_, rfl⟩
        have h112 := bf_6_4 hP103; rw [e111] at h112
        refine wk_ifeq r156_42 ⟨by omega, by omega⟩ ?_ ?_
        · intro h113
          refine wk_c1 r156_58 ?_
          subst hQ; exact wk_zret r156_59 (by decide) (⟨rfl, _, rfl, hP103, hF105, by omega, by omega, by have := e111; omega⟩)
        · intro h114
          refine wk_al0 r156_45 (wk_c1 r156_46 (wk_c1 r156_47 (wk_cv3 r156_48 kc_6_172 rfl (m172_6 _ M102 2 0 hP103 (by decide) (by decide) (by decide) (by decide) (by first | assumption | omega | (unfold stepok; omega))) (cqI ?_))))
          rintro v119 M115 ⟨hP116, hQ117, h120, h121⟩
          have hF118 : Fr fm_m156_6 M0 M115 := hF105.tr hQ117 rfl
          refine wk_ifeq r156_51 ⟨by omega, by omega⟩ ?_ ?_
          · intro h122
            exfalso
            omega
          · intro h123
            refine wk_c1 r156_54 (wk_goto r156_55 ?_)
            subst hQ; exact wk_zret r156_59 (by decide) (⟨rfl, _, rfl, hP116, hF118, by omega, by omega, by have := ((hQ117.at g_6_4 rfl).trans e111); omega⟩)
    · intro h124
      refine wk_al0 r156_23 (wk_cv1 r156_24 kc_6_162 rfl (m162_6 _ M9 hP10) (cqI ?_))
      rintro v130 M125 ⟨hP126, hQ127, h131, h132, h129⟩
      have hF128 : Fr fm_m156_6 M0 M125 := hF12.tr hQ127 rfl
      obtain ⟨v133, e134⟩ : ∃ v, M125 6 4 = v := ⟨_, rfl⟩
      have h135 := bf_6_4 hP126; rw [e134] at h135
      subst hQ; exact wk_zret r156_27 ⟨by omega, by omega⟩ (⟨rfl, _, rfl, hP126, hF128, by omega, by omega, by have := e134; omega⟩)
  · intro h136
    refine wk_al0 r156_9 (wk_cv1 r156_10 kc_6_164 rfl (m164_6 _ M1 hP2) (cqI ?_))
    rintro v142 M137 ⟨hP138, hQ139, h143, h144, h141⟩
    have hF140 : Fr fm_m156_6 M0 M137 := hF4.tr hQ139 rfl
    obtain ⟨v145, e146⟩ : ∃ v, M137 6 4 = v := ⟨_, rfl⟩
    have h147 := bf_6_4 hP138; rw [e146] at h147
    subst hQ; exact wk_zret r156_13 ⟨by omega, by omega⟩ (⟨rfl, _, rfl, hP138, hF140, by omega, by omega, by have := e146; omega⟩)
def fm_m169_6 : Nat := 4362286076526592
/-- IslandHall$Parser.readIsland -/
theorem m169_6 {B : eB} (d : Nat) (M0 : Mm) (p1 : Int) (c2 : Int) (hP0 : Pw M0) (l1 : 0 ≤ p1) (u1 : p1 ≤ 500) (hC2 : isC c2) : Ct B (d + 42) 169 [R 6, I p1, R c2] M0 (qI fun z M => Pw M ∧ Fr fm_m169_6 M0 M ∧ 0 ≤ z ∧ z ≤ 6 ∧ (z = 0 → SZk M 7 8 ≤ 3000)) := by
  refine ct_of (d := d + 41) (k := 2) (L := [some (R 6), some (I p1), some (R c2), none, none]) rfl rfl rfl ?_
  have hF0 := Fr.rf fm_m169_6 M0
  generalize hQ : (qI fun z M => Pw M ∧ Fr fm_m169_6 M0 M ∧ 0 ≤ z ∧ z ≤ 6 ∧ (z = 0 → SZk M 7 8 ≤ 3000)) = Q
  refine wk_al0 r169_0 (wk_il1 r169_1 (wk_al2 r169_2 (wk_cv3 r169_3 kc_6_154 rfl (m154_6 _ M0 p1 c2 hP0 (by omega) (by omega) hC2) (cqV ?_))))
  rintro M1 ⟨hP2, hQ3⟩
  have hF4 : Fr fm_m169_6 M0 M1 := hF0.tr hQ3 rfl
  refine wk_al0 r169_6 (wk_getfr r169_7 fd_6_1 (br_6_1 hP2) (wk_cv1 r169_10 kc_7_183 rfl (m183_7 _ M1 hP2) (cqV ?_)))
  rintro M5 ⟨hP6, hQ7⟩
  have hF8 : Fr fm_m169_6 M0 M5 := hF4.tr hQ7 rfl
  refine wk_al2 r169_13 (wk_cv1 r169_14 (kcC_144 hC2) rfl (m144 _ M5 c2 hP6 hC2) (cqV ?_))
  rintro M9 ⟨hP10, hQ11⟩
  have hF12 : Fr fm_m169_6 M0 M9 := hF8.tr hQ11 rfl
  refine wk_al0 r169_17 (wk_cv1 r169_18 kc_6_160 rfl (m160_6 _ M9 hP10) (cqI ?_))
  rintro v18 M13 ⟨hP14, hQ15, h19, h20, h17⟩
  have hF16 : Fr fm_m169_6 M0 M13 := hF12.tr hQ15 rfl
  obtain ⟨v21, e22⟩ : ∃ v, M13 6 4 = v := ⟨_, rfl⟩
  have h23 := bf_6_4 hP14; rw [e22] at h23
  refine wk_is3 r169_21 rfl (wk_c1 r169_22 (wk_is4 r169_23 rfl ?_))
  have c25_848 : ∀ (k848 : Nat) (M752 : Mm) (v746 : Int) (v749 : Int) (v755 : Int), (500 - v749).toNat = k848 → Pw M752 → Fr fm_m169_6 M0 M752 → M752 6 4 = v755 → 0 ≤ v746 → v746 ≤ 1 → 0 ≤ v749 → v749 ≤ 500 → 0 ≤ v755 → v755 ≤ 6 → 0 ≤ v746 + v755 + (-1) → 0 ≤ (-1) * v746 + v749 + 1 → 0 ≤ (-1) * v746 + v755 + 1 → 0 ≤ (-1) * v755 + v746 + 6 → 0 ≤ (-1) * v755 + v749 + 6 → Wp B (d + 41) 169 25 [some (R 6), none, none, some (I v746), some (I v749)] [] M752 Q := by
    refine lp_ind ?_
    intro k848 ih848 M752 v746 v749 v755 hk848 hP753 hF754 e758 h747 h748 h750 h751 h756 h757 h759 h760 h761 h762 h763
    refine wk_il4 r169_25 (wk_c3 r169_27 ?_)
    refine wk_icge r169_30 ⟨by omega, by omega⟩ (by decide) ?_ ?_
    · intro h764
      refine wk_il3 r169_75 ?_
      refine wk_ifeq r169_76 ⟨by omega, by omega⟩ ?_ ?_
      · intro h765
        refine wk_al0 r169_99 (wk_getfi r169_100 fd_6_4 e758 ?_)
        subst hQ; exact wk_iret r169_103 (⟨rfl, _, rfl, hP753, hF754, by omega, by omega, by first | (intro h; omega) | (intro _; rw [← _]; omega)⟩)
      · intro h766
        refine wk_al0 r169_79 (wk_getfr r169_80 fd_6_1 (br_6_1 hP753) (wk_cv1 r169_83 kc_7_184 rfl (m184_7 _ M752 hP753) (cqI ?_)))
        rintro v772 M767 ⟨hP768, hQ769, h773, h774, xh771⟩
        obtain rfl := Fr.same hQ769
        refine wk_c3 r169_86 ?_
        refine wk_icle r169_89 ⟨by omega, by omega⟩ (by decide) ?_ ?_
        · intro h775
          refine wk_al0 r169_99 (wk_getfi r169_100 fd_6_4 e758 ?_)
          subst hQ; exact wk_iret r169_103 (⟨rfl, _, rfl, hP753, hF754, by omega, by omega, by first | (intro h; omega) | (intro _; rw [← xh771]; omega)⟩)
        · intro h776
          refine wk_al0 r169_92 (wk_c2 r169_93 (wk_cv2 r169_95 kc_6_159 rfl (m159_6v2 _ M752 6 hP753 (by decide) (by decide)) (cqI ?_)))
          rintro v782 M777 ⟨hP778, hQ779, h783, h784, h781⟩
          have hF780 : Fr fm_m169_6 M0 M777 := hF754.tr hQ779 rfl
          obtain ⟨v785, e786⟩ : ∃ v, M777 6 4 = v := ⟨_, rfl⟩
          have h787 := bf_6_4 hP778; rw [e786] at h787
          refine wk_popi r169_98 (wk_al0 r169_99 (wk_getfi r169_100 fd_6_4 e786 ?_))
          subst hQ; exact wk_iret r169_103 (⟨rfl, _, rfl, hP778, hF780, by omega, by omega, by first | (intro h; omega) | (intro _; rw [← xh771]; omega)⟩)
    · intro h788
      refine wk_il3 r169_33 ?_
      refine wk_ifeq r169_34 ⟨by omega, by omega⟩ ?_ ?_
      · intro h789
        refine wk_il3 r169_75 ?_
        refine wk_ifeq r169_76 ⟨by omega, by omega⟩ ?_ ?_
        · intro h790
          refine wk_al0 r169_99 (wk_getfi r169_100 fd_6_4 e758 ?_)
          subst hQ; exact wk_iret r169_103 (⟨rfl, _, rfl, hP753, hF754, by omega, by omega, by first | (intro h; omega) | (intro _; rw [← _]; omega)⟩)
        · intro h791
          exfalso
          omega
      · intro h792
        refine wk_al0 r169_37 (wk_getfr r169_38 fd_6_0 (br_6_0 hP753) (wk_getfb r169_41 fd_9_4 (bf_9_4 hP753) ?_))
        intro v793 h795 h796 e794
        refine wk_ifeq r169_44 ⟨by omega, by omega⟩ ?_ ?_
        · intro h797
          refine wk_il3 r169_75 ?_
          refine wk_ifeq r169_76 ⟨by omega, by omega⟩ ?_ ?_
          · intro h798
            exfalso
            omega
          · intro h799
            refine wk_al0 r169_79 (wk_getfr r169_80 fd_6_1 (br_6_1 hP753) (wk_cv1 r169_83 kc_7_184 rfl (m184_7 _ M752 hP753) (cqI ?_)))
            rintro v805 M800 ⟨hP801, hQ802, h806, h807, xh804⟩
            obtain rfl := Fr.same hQ802
            refine wk_c3 r169_86 ?_
            refine wk_icle r169_89 ⟨by omega, by omega⟩ (by decide) ?_ ?_
            · intro h808
              refine wk_al0 r169_99 (wk_getfi r169_100 fd_6_4 e758 ?_)
              subst hQ; exact wk_iret r169_103 (⟨rfl, _, rfl, hP753, hF754, by omega, by omega, by first | (intro h; omega) | (intro _; rw [← xh804]; omega)⟩)
            · intro h809
              refine wk_al0 r169_92 (wk_c2 r169_93 (wk_cv2 r169_95 kc_6_159 rfl (m159_6v2 _ M752 6 hP753 (by decide) (by decide)) (cqI ?_)))
              rintro v815 M810 ⟨hP811, hQ812, h816, h817, h814⟩
              have hF813 : Fr fm_m169_6 M0 M810 := hF754.tr hQ812 rfl
              obtain ⟨v818, e819⟩ : ∃ v, M810 6 4 = v := ⟨_, rfl⟩
              have h820 := bf_6_4 hP811; rw [e819] at h820
              refine wk_popi r169_98 (wk_al0 r169_99 (wk_getfi r169_100 fd_6_4 e819 ?_))
              subst hQ; exact wk_iret r169_103 (⟨rfl, _, rfl, hP811, hF813, by omega, by omega, by first | (intro h; omega) | (intro _; rw [← xh804]; omega)⟩)
        · intro h821
          refine wk_al0 r169_47 (wk_cv1 r169_48 kc_6_156 rfl (m156_6 _ M752 hP753) (cqI ?_))
          rintro v827 M822 ⟨hP823, hQ824, h828, h829, h826⟩
          have hF825 : Fr fm_m169_6 M0 M822 := hF754.tr hQ824 rfl
          obtain ⟨v830, e831⟩ : ∃ v, M822 6 4 = v := ⟨_, rfl⟩
          have h832 := bf_6_4 hP823; rw [e831] at h832
          refine wk_ifeq r169_51 ⟨by omega, by omega⟩ ?_ ?_
          · intro h833
            refine wk_c1 r169_67 (wk_is3 r169_68 rfl (wk_inc4 r169_69 rfl (wk_goto r169_72 ?_)))
            exact wp_fg (le_s (le_s (le_s (le_s (le_s le_0))))) (ih848 (500 - (v749 + 1)).toNat (by omega) M822 0 (v749 + 1) v830 rfl hP823 hF825 e831 (by omega) (by omega) (by omega) (by omega) (by omega) (by omega) (by omega) (by omega) (by omega) (by omega) (by omega))
          · intro h834
            refine wk_al0 r169_54 (wk_c2 r169_55 (wk_cv2 r169_57 kc_6_174 rfl (m174_6 _ M822 59 hP823 (by decide) (by decide)) (cqI ?_)))
            rintro v840 M835 ⟨hP836, hQ837, h841, h842, h839⟩
            have hF838 : Fr fm_m169_6 M0 M835 := hF825.tr hQ837 rfl
            obtain ⟨v843, e844⟩ : ∃ v, M835 6 4 = v := ⟨_, rfl⟩
            have h845 := bf_6_4 hP836; rw [e844] at h845
            refine wk_ifeq r169_60 ⟨by omega, by omega⟩ ?_ ?_
            · intro h846
              refine wk_c1 r169_67 (wk_is3 r169_68 rfl (wk_inc4 r169_69 rfl (wk_goto r169_72 ?_)))
              exact wp_fg (le_s (le_s (le_s (le_s (le_s le_0))))) (ih848 (500 - (v749 + 1)).toNat (by omega) M835 0 (v749 + 1) v843 rfl hP836 hF838 e844 (by omega) (by omega) (by omega) (by omega) (by omega) (by omega) (by omega) (by omega) (by omega) (by omega) (by omega))
            · intro h847
              refine wk_c1 r169_63 (wk_goto r169_64 (wk_is3 r169_68 rfl (wk_inc4 r169_69 rfl (wk_goto r169_72 ?_))))
              exact wp_fg (le_s (le_s (le_s (le_s (le_s le_0))))) (ih848 (500 - (v749 + 1)).toNat (by omega) M835 1 (v749 + 1) v843 rfl hP836 hF838 e844 (by omega) (by omega) (by omega) (by omega) (by omega) (by omega) (by omega) (by omega) (by omega) (by omega) (by omega))
  exact wp_fg (le_s (le_n (le_n (le_s (le_s le_0))))) (c25_848 _ M13 v18 0 v21 rfl hP14 hF16 e22 (by omega) (by omega) (by omega) (by omega) (by omega) (by omega) (by omega) (by omega) (by omega) (by omega) (by omega))
def fm_m178_2_7 : Nat := 266338304
/-- IslandHall$Plan.copy -/
theorem m178_2_7 {B : eB} (d : Nat) (M0 : Mm) (hP0 : Pw M0)  : Ct B (d + 1) 178 [R 2, R 7] M0 (qV fun M => Pw M ∧ Fr fm_m178_2_7 M0 M ∧ (SZk M 2 3 = SZk M0 7 8)) := by
  refine ct_of (d := d + 0) (k := 0) (L := [some (R 2), some (R 7)]) rfl rfl rfl ?_
  have hF0 := Fr.rf fm_m178_2_7 M0
  generalize hQ : (qV fun M => Pw M ∧ Fr fm_m178_2_7 M0 M ∧ (SZk M 2 3 = SZk M0 7 8)) = Q
  refine wk_al1 r178_0 (wk_getfr r178_1 fd_7_0 (br_7_0 hP0) (wk_c1 r178_4 (wk_al0 r178_5 (wk_getfr r178_6 fd_2_0 (br_2_0 hP0) (wk_c1 r178_9 (wk_c2 r178_10 (wk_copy109 r178_12 ar_8 ar_3 ⟨by decide, by decide, by decide, by omega, by omega, by omega⟩ rfl (wk_nc (fun i => by rw [(ga_3 i)]; rfl) hP0 hF0 (fun i h0 h1 => by have := ba_8 hP0 h0 (by omega); exact (ua_3 ⟨by omega, by omega⟩)) ?_))))))))
  intro M1 hP2 hF3 e4
  obtain ⟨u5, hu6⟩ : ∃ u : Int → Int, ∀ k, M1 3 k = u k := ⟨fun k => M1 3 k, fun k => rfl⟩
  have cq : ∀ k : Int, 0 ≤ k → k < 7 → u5 k = M0 8 k := fun k a b => by rw [← hu6 k]; exact cpy_at e4 a b
  refine wk_al0 r178_15 (wk_al1 r178_16 (wk_getfb r178_17 fd_7_1 (bf_7_1 hP2) ?_))
  intro v7 h9 h10 e8
  refine wk_putfi81 r178_20 fd_2_1 (wk_nw g_2_1 rfl hP2 hF3 (uf_2_1 ⟨by omega, by omega⟩) ?_)
  intro M11 hP12 hF13 e14
  refine wk_al0 r178_23 (wk_al1 r178_24 (wk_getfb r178_25 fd_7_2 (bf_7_2 hP12) ?_))
  intro v15 h17 h18 e16
  refine wk_putfi81 r178_28 fd_2_2 (wk_nw g_2_2 rfl hP12 hF13 (uf_2_2 ⟨by omega, by omega⟩) ?_)
  intro M19 hP20 hF21 e22
  refine wk_al0 r178_31 (wk_al1 r178_32 (wk_getfb r178_33 fd_7_3 (bf_7_3 hP20) ?_))
  intro v23 h25 h26 e24
  refine wk_putfi81 r178_36 fd_2_3 (wk_nw g_2_3 rfl hP20 hF21 (uf_2_3 ⟨by omega, by omega⟩) ?_)
  intro M27 hP28 hF29 e30
  refine wk_al0 r178_39 (wk_al1 r178_40 (wk_getfb r178_41 fd_7_4 (bf_7_4 hP28) ?_))
  intro v31 h33 h34 e32
  refine wk_putfi81 r178_44 fd_2_4 (wk_nw g_2_4 rfl hP28 hF29 (uf_2_4 ⟨by omega, by omega⟩) ?_)
  intro M35 hP36 hF37 e38
  refine wk_al0 r178_47 (wk_al1 r178_48 (wk_getfb r178_49 fd_7_5 (bf_7_5 hP36) ?_))
  intro v39 h41 h42 e40
  refine wk_putfz81 r178_52 fd_2_5 ⟨by omega, by omega⟩ (wk_nw g_2_5 rfl hP36 hF37 (uf_2_5 ⟨by omega, by omega⟩) ?_)
  intro M43 hP44 hF45 e46
  refine wk_al0 r178_55 (wk_al1 r178_56 (wk_getfb r178_57 fd_7_6 (bf_7_6 hP44) ?_))
  intro v47 h49 h50 e48
  refine wk_putfz81 r178_60 fd_2_6 ⟨by omega, by omega⟩ (wk_nw g_2_6 rfl hP44 hF45 (uf_2_6 ⟨by omega, by omega⟩) ?_)
  intro M51 hP52 hF53 e54
  subst hQ; exact wk_ret r178_63 (⟨rfl, hP52, hF53, SZk_eq (six (P := fun i => M51 2 i = M0 7 i) ((mUp_no e54 (mUp_no e46 (mUp_no e38 (mUp_no e30 (mUp_no e22 (mUp_at e14) (Or.inr (by decide))) (Or.inr (by decide))) (Or.inr (by decide))) (Or.inr (by decide))) (Or.inr (by decide))).trans ((hF53.at g_7_1 rfl).symm.trans (mUp_no e54 (mUp_no e46 (mUp_no e38 (mUp_no e30 (mUp_no e22 (mUp_no e14 e8 (Or.inl (by decide))) (Or.inl (by decide))) (Or.inl (by decide))) (Or.inl (by decide))) (Or.inl (by decide))) (Or.inl (by decide)))).symm) ((mUp_no e54 (mUp_no e46 (mUp_no e38 (mUp_no e30 (mUp_at e22) (Or.inr (by decide))) (Or.inr (by decide))) (Or.inr (by decide))) (Or.inr (by decide))).trans ((hF53.at g_7_2 rfl).symm.trans (mUp_no e54 (mUp_no e46 (mUp_no e38 (mUp_no e30 (mUp_no e22 e16 (Or.inl (by decide))) (Or.inl (by decide))) (Or.inl (by decide))) (Or.inl (by decide))) (Or.inl (by decide)))).symm) ((mUp_no e54 (mUp_no e46 (mUp_no e38 (mUp_at e30) (Or.inr (by decide))) (Or.inr (by decide))) (Or.inr (by decide))).trans ((hF53.at g_7_3 rfl).symm.trans (mUp_no e54 (mUp_no e46 (mUp_no e38 (mUp_no e30 e24 (Or.inl (by decide))) (Or.inl (by decide))) (Or.inl (by decide))) (Or.inl (by decide)))).symm) ((mUp_no e54 (mUp_no e46 (mUp_at e38) (Or.inr (by decide))) (Or.inr (by decide))).trans ((hF53.at g_7_4 rfl).symm.trans (mUp_no e54 (mUp_no e46 (mUp_no e38 e32 (Or.inl (by decide))) (Or.inl (by decide))) (Or.inl (by decide)))).symm) ((mUp_no e54 (mUp_at e46) (Or.inr (by decide))).trans ((hF53.at g_7_5 rfl).symm.trans (mUp_no e54 (mUp_no e46 e40 (Or.inl (by decide))) (Or.inl (by decide)))).symm) ((mUp_at e54).trans ((hF53.at g_7_6 rfl).symm.trans (mUp_no e54 e48 (Or.inl (by decide)))).symm)) (fun k a b => by rw [(fun k => mUp_no e54 ((fun k => mUp_no e46 ((fun k => mUp_no e38 ((fun k => mUp_no e30 ((fun k => mUp_no e22 ((fun k => mUp_no e14 (hu6 k) (Or.inl (by decide))) k) (Or.inl (by decide))) k) (Or.inl (by decide))) k) (Or.inl (by decide))) k) (Or.inl (by decide))) k) (Or.inl (by decide))) k]; exact cq k a b) (bf_7_1 hP0).2⟩)
def fm_m187_10 : Nat := 4740236766191051341824
/-- IslandHall$Realm.clear -/
theorem m187_10 {B : eB} (d : Nat) (M0 : Mm) (p1 : Int) (p2 : Int) (hP0 : Pw M0) (l1 : (-1) ≤ p1) (u1 : p1 ≤ 7) (l2 : 0 ≤ p2) (u2 : p2 ≤ 127) : Ct B (d + 2) 187 [R 10, I p1, I p2] M0 (qV fun M => Pw M ∧ Fr fm_m187_10 M0 M ∧ 0 ≤ (-1) * (M 10 9)) := by
  refine ct_of (d := d + 1) (k := 1) (L := [some (R 10), some (I p1), some (I p2), none]) rfl rfl rfl ?_
  have hF0 := Fr.rf fm_m187_10 M0
  generalize hQ : (qV fun M => Pw M ∧ Fr fm_m187_10 M0 M ∧ 0 ≤ (-1) * (M 10 9)) = Q
  refine wk_al0 r187_0 (wk_il1 r187_1 (wk_putfi81 r187_2 fd_10_7 (wk_nw g_10_7 rfl hP0 hF0 (uf_10_7 ⟨by omega, by omega⟩) ?_)))
  intro M1 hP2 hF3 e4
  refine wk_al0 r187_5 (wk_il2 r187_6 (wk_putfi81 r187_7 fd_10_8 (wk_nw g_10_8 rfl hP2 hF3 (uf_10_8 ⟨by omega, by omega⟩) ?_)))
  intro M5 hP6 hF7 e8
  refine wk_al0 r187_10 (wk_c1 r187_11 (wk_putfi81 r187_12 fd_10_9 (wk_nw g_10_9 rfl hP6 hF7 (uf_10_9 (by decide)) ?_)))
  intro M9 hP10 hF11 e12
  refine wk_al0 r187_15 (wk_c1 r187_16 (wk_putfi81 r187_17 fd_10_10 (wk_nw g_10_10 rfl hP10 hF11 (uf_10_10 (by decide)) ?_)))
  intro M13 hP14 hF15 e16
  refine wk_c1 r187_20 (wk_is3 r187_21 rfl ?_)
  have c22_185 : ∀ (k185 : Nat) (M168 : Mm) (v165 : Int), (119 - v165).toNat = k185 → Pw M168 → Fr fm_m187_10 M0 M168 → M168 10 7 = p1 → M168 10 8 = p2 → M168 10 9 = 0 → M168 10 10 = 0 → 0 ≤ v165 → v165 ≤ 119 → Wp B (d + 1) 187 22 [some (R 10), none, none, some (I v165)] [] M168 Q := by
    refine lp_ind ?_
    intro k185 ih185 M168 v165 hk185 hP169 hF170 e171 e172 e173 e174 h166 h167
    refine wk_il3 r187_22 (wk_c2 r187_23 ?_)
    refine wk_icge r187_25 ⟨by omega, by omega⟩ (by decide) ?_ ?_
    · intro h175
      refine wk_al0 r187_44 (wk_getfr r187_45 fd_10_3 (br_10_3 hP169) (wk_c1 r187_48 (wk_cs102_2 r187_49 rfl (ct_fi ar_11) (cqV ?_))))
      intro M176 e177
      have hP178 : Pw M176 := by rw [e177]; exact hP169.fil (fun i => (ua_11 (by decide)))
      have hF179 : Fr fm_m187_10 M0 M176 := by rw [e177]; exact hF170.fil (fun i => by rw [(ga_11 i)]; rfl)
      subst hQ; exact wk_ret r187_52 (⟨rfl, hP178, hF179, by have := (fil_no e177 e173 (by decide)); omega⟩)
    · intro h180
      refine wk_al0 r187_28 (wk_getfr r187_29 fd_10_0 (br_10_0 hP169) (wk_il3 r187_32 (wk_raldb r187_33 ar_16 ⟨by omega, by omega⟩ (fun q0 q1 => ba_16 hP169 q0 q1) (wk_c6 r187_34 (wk_cs102_2 r187_35 rfl (ct_fl (arF_17 (by omega) (by omega))) (cqV ?_))))))
      intro M181 e182
      have hP183 : Pw M181 := by rw [e182]; exact hP169.fil (fun i => (uaF_17 (by omega) (by omega) ⟨by omega, by omega⟩))
      have hF184 : Fr fm_m187_10 M0 M181 := by rw [e182]; exact hF170.fil (fun i => by rw [(gr_17 (by omega) (by omega) i)]; rfl)
      refine wk_inc3 r187_38 rfl (wk_goto r187_41 ?_)
      exact wp_fg (le_s (le_s (le_s (le_s le_0)))) (ih185 (119 - (v165 + 1)).toNat (by omega) M181 (v165 + 1) rfl hP183 hF184 (fil_no e182 e171 (by omega)) (fil_no e182 e172 (by omega)) (fil_no e182 e173 (by omega)) (fil_no e182 e174 (by omega)) (by omega) (by omega))
  exact wp_fg (le_s (le_n (le_n (le_s le_0)))) (c22_185 _ M13 0 rfl hP14 hF15 (mUp_no e16 (mUp_no e12 (mUp_no e8 (mUp_at e4) (Or.inr (by decide))) (Or.inr (by decide))) (Or.inr (by decide))) (mUp_no e16 (mUp_no e12 (mUp_at e8) (Or.inr (by decide))) (Or.inr (by decide))) (mUp_no e16 (mUp_at e12) (Or.inr (by decide))) (mUp_at e16) (by omega) (by omega))
def fm_m179_2 : Nat := 0
/-- IslandHall$Plan.earliestDay -/
theorem m179_2 {B : eB} (d : Nat) (M0 : Mm) (hP0 : Pw M0)  : Ct B (d + 1) 179 [R 2] M0 (qI fun z M => Pw M ∧ Fr fm_m179_2 M0 M ∧ 0 ≤ z ∧ z ≤ 6 ∧ (z = eD M0 2)) := by
  refine ct_of (d := d + 0) (k := 0) (L := [some (R 2)]) rfl rfl rfl ?_
  have hF0 := Fr.rf fm_m179_2 M0
  generalize hQ : (qI fun z M => Pw M ∧ Fr fm_m179_2 M0 M ∧ 0 ≤ z ∧ z ≤ 6 ∧ (z = eD M0 2)) = Q
  refine wk_al0 r179_0 (wk_getfb r179_1 fd_2_3 (bf_2_3 hP0) ?_)
  intro v1 h3 h4 e2
  refine wk_c1 r179_4 ?_
  refine wk_icne r179_5 ⟨by omega, by omega⟩ (by decide) ?_ ?_
  · intro h5
    refine wk_al0 r179_12 (wk_getfi r179_13 fd_2_3 e2 ?_)
    subst hQ; exact wk_iret r179_16 (⟨rfl, _, rfl, hP0, hF0, by omega, by omega, by unfold eD; split <;> omega⟩)
  · intro h6
    refine wk_c1 r179_8 (wk_goto r179_9 ?_)
    subst hQ; exact wk_iret r179_16 (⟨rfl, _, rfl, hP0, hF0, by omega, by omega, by unfold eD; split <;> omega⟩)
def fm_m177_2v5 : Nat := 0
/-- IslandHall$Plan.codeBehind -/
theorem m177_2v5 {B : eB} (d : Nat) (M0 : Mm) (p1 : Int) (p2 : Int) (hP0 : Pw M0) (l1 : 0 ≤ p1) (u1 : p1 ≤ 6) (l2 : (-1) ≤ p2) (u2 : p2 ≤ (-1)) : Ct B (d + 1) 177 [R 2, I p1, I p2] M0 (qI fun z M => Pw M ∧ Fr fm_m177_2v5 M0 M ∧ 0 ≤ z ∧ z ≤ 5 ∧ (0 ≤ z → M0 3 p1 / pw (kf z) % 2 = 1)) := by
  refine ct_of (d := d + 0) (k := 1) (L := [some (R 2), some (I p1), some (I p2), none]) rfl rfl rfl ?_
  have hF0 := Fr.rf fm_m177_2v5 M0
  generalize hQ : (qI fun z M => Pw M ∧ Fr fm_m177_2v5 M0 M ∧ 0 ≤ z ∧ z ≤ 5 ∧ (0 ≤ z → M0 3 p1 / pw (kf z) % 2 = 1)) = Q
  refine wk_il2 r177_0 (wk_c1 r177_1 (wk_iadd r177_2 (wk_is3 r177_3 rfl (wk_il3 r177_4 (wk_c2 r177_5 ?_)))))
  refine wk_icge r177_7 ⟨by omega, by omega⟩ (by decide) ?_ ?_
  · intro h1
    exfalso
    omega
  · intro h2
    refine wk_al0 r177_10 (wk_getfr r177_11 fd_2_0 (br_2_0 hP0) (wk_il1 r177_14 (wk_ialdb r177_15 ar_3 ⟨by omega, by omega⟩ (fun q0 q1 => ba_3 hP0 q0 q1) ?_)))
    intro v3 h5 h6 e4
    refine wk_kget r177_16 (wk_il3 r177_19 (wk_kald r177_20 ⟨by omega, by omega⟩ ?_))
    intro v7 h8 h9 h10
    obtain rfl : v7 = 0 := by rw [h10, show (p2 + 1) = 0 by omega]; decide
    refine wk_ishrc r177_21 ⟨by omega, by omega⟩ (by decide) pwl_0 (wk_c1 r177_22 (wk_iandc 1 2 r177_23 ⟨rfl, by decide⟩ rfl (wk_c1 r177_24 ?_)))
    refine wk_icne r177_25 ⟨by omega, by omega⟩ (by decide) ?_ ?_
    · intro h13
      refine wk_inc3 r177_30 rfl (wk_goto r177_33 (wk_il3 r177_4 (wk_c2 r177_5 ?_)))
      refine wk_icge r177_7 ⟨by omega, by omega⟩ (by decide) ?_ ?_
      · intro h14
        exfalso
        omega
      · intro h15
        refine wk_al0 r177_10 (wk_getfr r177_11 fd_2_0 (br_2_0 hP0) (wk_il1 r177_14 (wk_iald r177_15 ar_3 ⟨by omega, by omega⟩ e4 (wk_kget r177_16 (wk_il3 r177_19 (wk_kald r177_20 ⟨by omega, by omega⟩ ?_))))))
        intro v16 h17 h18 h19
        obtain rfl : v16 = 1 := by rw [h19, show ((p2 + 1) + 1) = 1 by omega]; decide
        refine wk_ishrc r177_21 ⟨by omega, by omega⟩ (by decide) pwl_1 (wk_c1 r177_22 (wk_iandc 1 2 r177_23 ⟨rfl, by decide⟩ rfl (wk_c1 r177_24 ?_)))
        refine wk_icne r177_25 ⟨by omega, by omega⟩ (by decide) ?_ ?_
        · intro h22
          refine wk_inc3 r177_30 rfl (wk_goto r177_33 (wk_il3 r177_4 (wk_c2 r177_5 ?_)))
          refine wk_icge r177_7 ⟨by omega, by omega⟩ (by decide) ?_ ?_
          · intro h23
            exfalso
            omega
          · intro h24
            refine wk_al0 r177_10 (wk_getfr r177_11 fd_2_0 (br_2_0 hP0) (wk_il1 r177_14 (wk_iald r177_15 ar_3 ⟨by omega, by omega⟩ e4 (wk_kget r177_16 (wk_il3 r177_19 (wk_kald r177_20 ⟨by omega, by omega⟩ ?_))))))
            intro v25 h26 h27 h28
            obtain rfl : v25 = 2 := by rw [h28, show (((p2 + 1) + 1) + 1) = 2 by omega]; decide
            refine wk_ishrc r177_21 ⟨by omega, by omega⟩ (by decide) pwl_2 (wk_c1 r177_22 (wk_iandc 1 2 r177_23 ⟨rfl, by decide⟩ rfl (wk_c1 r177_24 ?_)))
            refine wk_icne r177_25 ⟨by omega, by omega⟩ (by decide) ?_ ?_
            · intro h31
              refine wk_inc3 r177_30 rfl (wk_goto r177_33 (wk_il3 r177_4 (wk_c2 r177_5 ?_)))
              refine wk_icge r177_7 ⟨by omega, by omega⟩ (by decide) ?_ ?_
              · intro h32
                exfalso
                omega
              · intro h33
                refine wk_al0 r177_10 (wk_getfr r177_11 fd_2_0 (br_2_0 hP0) (wk_il1 r177_14 (wk_iald r177_15 ar_3 ⟨by omega, by omega⟩ e4 (wk_kget r177_16 (wk_il3 r177_19 (wk_kald r177_20 ⟨by omega, by omega⟩ ?_))))))
                intro v34 h35 h36 h37
                obtain rfl : v34 = 2 := by rw [h37, show ((((p2 + 1) + 1) + 1) + 1) = 3 by omega]; decide
                refine wk_ishrc r177_21 ⟨by omega, by omega⟩ (by decide) pwl_2 (wk_c1 r177_22 (wk_iandc 1 2 r177_23 ⟨rfl, by decide⟩ rfl (wk_c1 r177_24 ?_)))
                refine wk_icne r177_25 ⟨by omega, by omega⟩ (by decide) ?_ ?_
                · intro h38
                  refine wk_inc3 r177_30 rfl (wk_goto r177_33 (wk_il3 r177_4 (wk_c2 r177_5 ?_)))
                  refine wk_icge r177_7 ⟨by omega, by omega⟩ (by decide) ?_ ?_
                  · intro h39
                    exfalso
                    omega
                  · intro h40
                    refine wk_al0 r177_10 (wk_getfr r177_11 fd_2_0 (br_2_0 hP0) (wk_il1 r177_14 (wk_iald r177_15 ar_3 ⟨by omega, by omega⟩ e4 (wk_kget r177_16 (wk_il3 r177_19 (wk_kald r177_20 ⟨by omega, by omega⟩ ?_))))))
                    intro v41 h42 h43 h44
                    obtain rfl : v41 = 3 := by rw [h44, show (((((p2 + 1) + 1) + 1) + 1) + 1) = 4 by omega]; decide
                    refine wk_ishrc r177_21 ⟨by omega, by omega⟩ (by decide) pwl_3 (wk_c1 r177_22 (wk_iandc 1 2 r177_23 ⟨rfl, by decide⟩ rfl (wk_c1 r177_24 ?_)))
                    refine wk_icne r177_25 ⟨by omega, by omega⟩ (by decide) ?_ ?_
                    · intro h47
                      refine wk_inc3 r177_30 rfl (wk_goto r177_33 (wk_il3 r177_4 (wk_c2 r177_5 ?_)))
                      refine wk_icge r177_7 ⟨by omega, by omega⟩ (by decide) ?_ ?_
                      · intro h48
                        exfalso
                        omega
                      · intro h49
                        refine wk_al0 r177_10 (wk_getfr r177_11 fd_2_0 (br_2_0 hP0) (wk_il1 r177_14 (wk_iald r177_15 ar_3 ⟨by omega, by omega⟩ e4 (wk_kget r177_16 (wk_il3 r177_19 (wk_kald r177_20 ⟨by omega, by omega⟩ ?_))))))
                        intro v50 h51 h52 h53
                        obtain rfl : v50 = 4 := by rw [h53, show ((((((p2 + 1) + 1) + 1) + 1) + 1) + 1) = 5 by omega]; decide
                        refine wk_ishrc r177_21 ⟨by omega, by omega⟩ (by decide) pwl_4 (wk_c1 r177_22 (wk_iandc 1 2 r177_23 ⟨rfl, by decide⟩ rfl (wk_c1 r177_24 ?_)))
                        refine wk_icne r177_25 ⟨by omega, by omega⟩ (by decide) ?_ ?_
                        · intro h56
                          refine wk_inc3 r177_30 rfl (wk_goto r177_33 (wk_il3 r177_4 (wk_c2 r177_5 ?_)))
                          refine wk_icge r177_7 ⟨by omega, by omega⟩ (by decide) ?_ ?_
                          · intro h57
                            exfalso
                            omega
                          · intro h58
                            exfalso
                            omega
                        · intro h59
                          refine wk_il3 r177_28 ?_
                          subst hQ; exact wk_iret r177_29 (⟨rfl, _, rfl, hP0, hF0, by omega, by omega, fun _ => by rw [e4, show ((((((p2 + 1) + 1) + 1) + 1) + 1) + 1) = 5 by omega, show pw (kf 5) = 16 by decide]; omega⟩)
                    · intro h60
                      refine wk_il3 r177_28 ?_
                      subst hQ; exact wk_iret r177_29 (⟨rfl, _, rfl, hP0, hF0, by omega, by omega, fun _ => by rw [e4, show (((((p2 + 1) + 1) + 1) + 1) + 1) = 4 by omega, show pw (kf 4) = 8 by decide]; omega⟩)
                · intro h61
                  exfalso
                  omega
            · intro h62
              refine wk_il3 r177_28 ?_
              subst hQ; exact wk_iret r177_29 (⟨rfl, _, rfl, hP0, hF0, by omega, by omega, fun _ => by rw [e4, show (((p2 + 1) + 1) + 1) = 2 by omega, show pw (kf 2) = 4 by decide]; omega⟩)
        · intro h63
          refine wk_il3 r177_28 ?_
          subst hQ; exact wk_iret r177_29 (⟨rfl, _, rfl, hP0, hF0, by omega, by omega, fun _ => by rw [e4, show ((p2 + 1) + 1) = 1 by omega, show pw (kf 1) = 2 by decide]; omega⟩)
    · intro h64
      refine wk_il3 r177_28 ?_
      subst hQ; exact wk_iret r177_29 (⟨rfl, _, rfl, hP0, hF0, by omega, by omega, fun _ => by rw [e4, show (p2 + 1) = 0 by omega, show pw (kf 0) = 1 by decide]; omega⟩)
def fm_m5_14_2 : Nat := 2213609288845146193920
/-- IslandHall$Walk.begin -/
theorem m5_14_2 {B : eB} (d : Nat) (M0 : Mm) (hP0 : Pw M0)  : Ct B (d + 2) 5 [R 14, R 2] M0 (qV fun M => Pw M ∧ Fr fm_m5_14_2 M0 M ∧ (WC M)) := by
  refine ct_of (d := d + 1) (k := 1) (L := [some (R 14), some (R 2), none]) rfl rfl rfl ?_
  have hF0 := Fr.rf fm_m5_14_2 M0
  generalize hQ : (qV fun M => Pw M ∧ Fr fm_m5_14_2 M0 M ∧ (WC M)) = Q
  refine wk_c1 r5_0 (wk_is2 r5_1 rfl ?_)
  have c2_207 : ∀ (k207 : Nat) (M159 : Mm) (v156 : Int), (7 - v156).toNat = k207 → Pw M159 → Fr fm_m5_14_2 M0 M159 → 0 ≤ v156 → v156 ≤ 7 → (∀ q : Int, 0 ≤ q → q < v156 → q < M159 2 1 → M159 3 q / pw (kf (M159 15 q)) % 2 = 1) → Wp B (d + 1) 5 2 [some (R 14), some (R 2), some (I v156)] [] M159 Q := by
    refine lp_ind ?_
    intro k207 ih207 M159 v156 hk207 hP160 hF161 h157 h158 ti162
    refine wk_il2 r5_2 (wk_c2 r5_3 ?_)
    refine wk_icge r5_5 ⟨by omega, by omega⟩ (by decide) ?_ ?_
    · intro h163
      have wc0 : WC M159 := fun q a b => ti162 q a (by have := bf_2_1 hP160; omega) b
      refine wk_al0 r5_38 (wk_c1 r5_39 (wk_putfi81 r5_40 fd_14_1 (wk_nw g_14_1 rfl hP160 hF161 (uf_14_1 (by decide)) ?_)))
      intro M164 hP165 hF166 e167
      refine wk_al0 r5_43 (wk_al1 r5_44 (wk_cv1 r5_45 kc_2_179 rfl (m179_2 _ M164 hP165) (cqI ?_)))
      rintro v173 M168 ⟨hP169, hQ170, h174, h175, xh172⟩
      obtain rfl := Fr.same hQ170
      refine wk_putfi81 r5_48 fd_14_2 (wk_nw g_14_2 rfl hP165 hF166 (uf_14_2 ⟨by omega, by omega⟩) ?_)
      intro M176 hP177 hF178 e179
      refine wk_al0 r5_51 (wk_c1 r5_52 (wk_putfi81 r5_53 fd_14_3 (wk_nw g_14_3 rfl hP177 hF178 (uf_14_3 (by decide)) ?_)))
      intro M180 hP181 hF182 e183
      subst hQ; exact wk_ret r5_56 (⟨rfl, hP181, hF182, (WC_eq (by rw [e183, mUp_ne (Or.inl (by decide))]) (fun k => by rw [e183, mUp_ne (Or.inl (by decide))]) (fun k => by rw [e183, mUp_ne (Or.inl (by decide))]) (WC_eq (by rw [e179, mUp_ne (Or.inl (by decide))]) (fun k => by rw [e179, mUp_ne (Or.inl (by decide))]) (fun k => by rw [e179, mUp_ne (Or.inl (by decide))]) (WC_eq (by rw [e167, mUp_ne (Or.inl (by decide))]) (fun k => by rw [e167, mUp_ne (Or.inl (by decide))]) (fun k => by rw [e167, mUp_ne (Or.inl (by decide))]) wc0)))⟩)
    · intro h184
      refine wk_al0 r5_8 (wk_getfr r5_9 fd_14_0 (br_14_0 hP160) (wk_il2 r5_12 (wk_il2 r5_13 (wk_al1 r5_14 (wk_getfb r5_15 fd_2_1 (bf_2_1 hP160) ?_)))))
      intro v185 h187 h188 e186
      refine wk_icge r5_18 ⟨by omega, by omega⟩ ⟨by omega, by omega⟩ ?_ ?_
      · intro h189
        refine wk_c1 r5_30 (wk_iast r5_31 ar_15 ⟨by omega, by omega⟩ (wk_nw (ga_15 _) rfl hP160 hF161 (ua_15 (by decide)) ?_))
        intro M190 hP191 hF192 e193
        refine wk_inc2 r5_32 rfl (wk_goto r5_35 ?_)
        exact wp_fg (le_s (le_s (le_s le_0))) (ih207 (7 - (v156 + 1)).toNat (by omega) M190 (v156 + 1) rfl hP191 hF192 (by omega) (by omega) (wc_step e193 ti162 (fun h => by first | omega | exact _ (by omega))))
      · intro h194
        refine wk_al1 r5_21 (wk_il2 r5_22 (wk_c1 r5_23 (wk_cv3 r5_24 kc_2_177 rfl (m177_2v5 _ M159 v156 (-1) hP160 (by omega) (by omega) (by decide) (by decide)) (cqI ?_))))
        rintro v200 M195 ⟨hP196, hQ197, h201, h202, xh199⟩
        obtain rfl := Fr.same hQ197
        refine wk_goto r5_27 (wk_iast r5_31 ar_15 ⟨by omega, by omega⟩ (wk_nw (ga_15 _) rfl hP160 hF161 (ua_15 ⟨by omega, by omega⟩) ?_))
        intro M203 hP204 hF205 e206
        refine wk_inc2 r5_32 rfl (wk_goto r5_35 ?_)
        exact wp_fg (le_s (le_s (le_s le_0))) (ih207 (7 - (v156 + 1)).toNat (by omega) M203 (v156 + 1) rfl hP204 hF205 (by omega) (by omega) (wc_step e206 ti162 (fun h => by first | omega | exact xh199 (by omega))))
  exact wp_fg (le_s (le_s (le_s le_0))) (c2_207 _ M0 0 rfl hP0 hF0 (by omega) (by omega) (fun q a b => by omega))
def fm_m181_2 : Nat := 0
/-- IslandHall$Plan.latestDay -/
theorem m181_2 {B : eB} (d : Nat) (M0 : Mm) (hP0 : Pw M0)  : Ct B (d + 2) 181 [R 2] M0 (qI fun z M => Pw M ∧ Fr fm_m181_2 M0 M ∧ 0 ≤ z ∧ z ≤ 6 ∧ (z = lD M0 2)) := by
  refine ct_of (d := d + 1) (k := 0) (L := [some (R 2)]) rfl rfl rfl ?_
  have hF0 := Fr.rf fm_m181_2 M0
  generalize hQ : (qI fun z M => Pw M ∧ Fr fm_m181_2 M0 M ∧ 0 ≤ z ∧ z ≤ 6 ∧ (z = lD M0 2)) = Q
  refine wk_al0 r181_0 (wk_getfb r181_1 fd_2_3 (bf_2_3 hP0) ?_)
  intro v1 h3 h4 e2
  refine wk_c1 r181_4 ?_
  refine wk_icne r181_5 ⟨by omega, by omega⟩ (by decide) ?_ ?_
  · intro h5
    refine wk_al0 r181_20 (wk_cv1 r181_21 kc_2_179 rfl (m179_2 _ M0 hP0) (cqI ?_))
    rintro v11 M6 ⟨hP7, hQ8, h12, h13, xh10⟩
    obtain rfl := Fr.same hQ8
    subst hQ; exact wk_iret r181_24 (⟨rfl, _, rfl, hP0, hF0, by omega, by omega, by unfold lD; split <;> omega⟩)
  · intro h14
    refine wk_al0 r181_8 (wk_getfb r181_9 fd_2_5 (bf_2_5 hP0) ?_)
    intro v15 h17 h18 e16
    refine wk_ifeq r181_12 ⟨by omega, by omega⟩ ?_ ?_
    · intro h19
      refine wk_al0 r181_20 (wk_cv1 r181_21 kc_2_179 rfl (m179_2 _ M0 hP0) (cqI ?_))
      rintro v25 M20 ⟨hP21, hQ22, h26, h27, xh24⟩
      obtain rfl := Fr.same hQ22
      subst hQ; exact wk_iret r181_24 (⟨rfl, _, rfl, hP0, hF0, by omega, by omega, by unfold lD; split <;> omega⟩)
    · intro h28
      refine wk_c2 r181_15 (wk_goto r181_17 ?_)
      subst hQ; exact wk_iret r181_24 (⟨rfl, _, rfl, hP0, hF0, by omega, by omega, by unfold lD; split <;> omega⟩)
def fm_m182_2 : Nat := 0
/-- IslandHall$Plan.latestWord -/
theorem m182_2 {B : eB} (d : Nat) (M0 : Mm) (hP0 : Pw M0)  : Ct B (d + 1) 182 [R 2] M0 (qI fun z M => Pw M ∧ Fr fm_m182_2 M0 M ∧ 0 ≤ z ∧ z ≤ 1 ∧ (z = lW M0 2)) := by
  refine ct_of (d := d + 0) (k := 0) (L := [some (R 2)]) rfl rfl rfl ?_
  have hF0 := Fr.rf fm_m182_2 M0
  generalize hQ : (qI fun z M => Pw M ∧ Fr fm_m182_2 M0 M ∧ 0 ≤ z ∧ z ≤ 1 ∧ (z = lW M0 2)) = Q
  refine wk_al0 r182_0 (wk_getfb r182_1 fd_2_6 (bf_2_6 hP0) ?_)
  intro v1 h3 h4 e2
  refine wk_ifeq r182_4 ⟨by omega, by omega⟩ ?_ ?_
  · intro h5
    refine wk_c1 r182_11 ?_
    subst hQ; exact wk_iret r182_12 (⟨rfl, _, rfl, hP0, hF0, by omega, by omega, by unfold lW; split <;> omega⟩)
  · intro h6
    refine wk_c1 r182_7 (wk_goto r182_8 ?_)
    subst hQ; exact wk_iret r182_12 (⟨rfl, _, rfl, hP0, hF0, by omega, by omega, by unfold lW; split <;> omega⟩)
def fm_m184_2 : Nat := 0
/-- IslandHall$Plan.size -/
theorem m184_2 {B : eB} (d : Nat) (M0 : Mm) (hP0 : Pw M0)  : Ct B (d + 3) 184 [R 2] M0 (qI fun z M => Pw M ∧ Fr fm_m184_2 M0 M ∧ (-1791590400) ≤ z ∧ z ≤ 1791590400 ∧ (z = SZk M0 2 3)) := by
  refine ct_of (d := d + 2) (k := 2) (L := [some (R 2), none, none]) rfl rfl rfl ?_
  have hF0 := Fr.rf fm_m184_2 M0
  generalize hQ : (qI fun z M => Pw M ∧ Fr fm_m184_2 M0 M ∧ (-1791590400) ≤ z ∧ z ≤ 1791590400 ∧ (z = SZk M0 2 3)) = Q
  refine wk_al0 r184_0 (wk_getfb r184_1 fd_2_2 (bf_2_2 hP0) ?_)
  intro v1 h3 h4 e2
  refine wk_al0 r184_4 (wk_cv1 r184_5 kc_2_181 rfl (m181_2 _ M0 hP0) (cqI ?_))
  rintro v10 M5 ⟨hP6, hQ7, h11, h12, xh9⟩
  obtain rfl := Fr.same hQ7
  refine wk_al0 r184_8 (wk_cv1 r184_9 kc_2_179 rfl (m179_2 _ M0 hP0) (cqI ?_))
  rintro v18 M13 ⟨hP14, hQ15, h19, h20, xh17⟩
  obtain rfl := Fr.same hQ15
  refine wk_isub r184_12 (wk_c1 r184_13 (wk_iadd r184_14 (wk_mula 4 7 r184_15 ⟨by omega, by omega⟩ ⟨by omega, by omega⟩ ?_)))
  intro v21 h22 h23 h24
  refine wk_al0 r184_16 (wk_cv1 r184_17 kc_2_182 rfl (m182_2 _ M0 hP0) (cqI ?_))
  rintro v30 M25 ⟨hP26, hQ27, h31, h32, xh29⟩
  obtain rfl := Fr.same hQ27
  refine wk_c1 r184_20 (wk_iadd r184_21 (wk_mula 28 2 r184_22 ⟨by omega, by omega⟩ ⟨by omega, by omega⟩ ?_))
  intro v33 h34 h35 h36
  refine wk_is1 r184_23 rfl ?_
  have hRf : v33 = Rf M0 2 := by unfold Rf; rw [← xh9, ← xh17, ← xh29, e2, h36, h24]
  have hRb : -100 ≤ Rf M0 2 ∧ Rf M0 2 ≤ 100 := by rw [← hRf]; omega
  refine wk_c1 r184_24 (wk_is2 r184_25 rfl ?_)
  have c26_268 : ∀ (k268 : Nat) (v235 : Int) (v238 : Int), (7 - v238).toNat = k268 → (-1791590400) ≤ v235 → v235 ≤ 1791590400 → 0 ≤ v238 → v238 ≤ 7 → (v235 = Rf M0 2 * PS (fun k => M0 3 k) (v238).toNat) → (v238 ≤ M0 2 1 ∨ v238 = 0) → Wp B (d + 2) 184 26 [some (R 2), some (I v235), some (I v238)] [] M0 Q := by
    refine lp_ind ?_
    intro k268 ih268 v235 v238 hk268 h236 h237 h239 h240 ti241 ti242
    refine wk_il2 r184_26 (wk_al0 r184_27 (wk_getfb r184_28 fd_2_1 (bf_2_1 hP0) ?_))
    intro v243 h245 h246 e244
    refine wk_icge r184_31 ⟨by omega, by omega⟩ ⟨by omega, by omega⟩ ?_ ?_
    · intro h247
      refine wk_il1 r184_63 ?_
      subst hQ; exact wk_iret r184_64 (⟨rfl, _, rfl, hP0, hF0, by omega, by omega, by unfold SZk; rw [show (M0 2 1).toNat = (v238).toNat by have := ti242; omega]; exact ti241⟩)
    · intro h248
      refine wk_il1 r184_34 (wk_al0 r184_35 (wk_getfr r184_36 fd_2_0 (br_2_0 hP0) (wk_il2 r184_39 (wk_ialdb r184_40 ar_3 ⟨by omega, by omega⟩ (fun q0 q1 => ba_3 hP0 q0 q1) ?_))))
      intro v249 h251 h252 e250
      refine wk_cs102_1 r184_41 rfl (m246 _ M0 v249 hP0 (by omega) (by omega)) (cqI ?_)
      rintro v258 M253 ⟨hP254, hQ255, h259, h260, xh257⟩
      obtain rfl := Fr.same hQ255
      refine wk_al0 r184_44 (wk_getfr r184_45 fd_2_0 (br_2_0 hP0) (wk_il2 r184_48 (wk_iald r184_49 ar_3 ⟨by omega, by omega⟩ e250 (wk_c1 r184_50 (wk_ishrc r184_51 ⟨by omega, by omega⟩ (by decide) pwl_2 (wk_c1 r184_52 (wk_iandc 1 2 r184_53 ⟨rfl, by decide⟩ rfl (wk_iadd r184_54 ?_))))))))
      have h263 := sz_rg (u := fun k => M0 3 k) (fun k a b => ba_3 hP0 a b) (R := Rf M0 2) (v := v235) (p := v238) (by omega) (by omega) hRb ti241
      refine wk_mula 27993600 64 r184_55 ⟨by omega, by omega⟩ ⟨by omega, by omega⟩ ?_
      intro v264 h265 h266 h267
      refine wk_is1 r184_56 rfl (wk_inc2 r184_57 rfl (wk_goto r184_60 ?_))
      exact wp_fg (le_s (le_s (le_s le_0))) (ih268 (7 - (v238 + 1)).toNat (by omega) v264 (v238 + 1) rfl (by omega) (by omega) (by omega) (by omega) (sz_back (by omega) ti241 (by show _ = bcF (M0 3 v238) + M0 3 v238 / 4 % 2; rw [e250]; omega) h267) (Or.inl (by omega)))
  exact wp_fg (le_s (le_s (le_s le_0))) (c26_268 _ v33 0 rfl (by omega) (by omega) (by omega) (by omega) (by rw [hRf]; exact (Int.mul_one _).symm) (Or.inr rfl))
def fm_m7_14 : Nat := 0
/-- IslandHall$Walk.packed -/
theorem m7_14 {B : eB} (d : Nat) (M0 : Mm) (hP0 : Pw M0)  : Ct B (d + 1) 7 [R 14] M0 (qI fun z M => Pw M ∧ Fr fm_m7_14 M0 M ∧ 0 ≤ z ∧ z ≤ 134217727) := by
  refine ct_of (d := d + 0) (k := 2) (L := [some (R 14), none, none]) rfl rfl rfl ?_
  have hF0 := Fr.rf fm_m7_14 M0
  generalize hQ : (qI fun z M => Pw M ∧ Fr fm_m7_14 M0 M ∧ 0 ≤ z ∧ z ≤ 134217727) = Q
  refine wk_al0 r7_0 (wk_getfb r7_1 fd_14_3 (bf_14_3 hP0) ?_)
  intro v1 h3 h4 e2
  refine wk_c2 r7_4 (wk_ishlc r7_6 (by decide) pwl_26 (wk_al0 r7_7 (wk_getfb r7_8 fd_14_2 (bf_14_2 hP0) ?_)))
  intro v5 h7 h8 e6
  refine wk_c2 r7_11 (wk_ishlc r7_13 (by decide) pwl_23 (wk_iord2 26 67108864 r7_14 (by decide) ⟨by omega, by omega⟩ ⟨by omega, by omega, by omega⟩ (wk_al0 r7_15 (wk_getfb r7_16 fd_14_1 (bf_14_1 hP0) ?_))))
  intro v9 h11 h12 e10
  refine wk_c2 r7_19 (wk_ishlc r7_21 (by decide) pwl_21 (wk_iord2 23 8388608 r7_22 (by decide) ⟨by omega, by omega⟩ ⟨by omega, by omega, by omega⟩ (wk_is1 r7_23 rfl (wk_c1 r7_24 (wk_is2 r7_25 rfl ?_)))))
  have c26_146 : ∀ (k146 : Nat) (v124 : Int) (v127 : Int), (7 - v127).toNat = k146 → 0 ≤ v124 → v124 ≤ 134217727 → 0 ≤ v127 → v127 ≤ 7 → Wp B (d + 0) 7 26 [some (R 14), some (I v124), some (I v127)] [] M0 Q := by
    refine lp_ind ?_
    intro k146 ih146 v124 v127 hk146 h125 h126 h128 h129
    refine wk_il2 r7_26 (wk_c2 r7_27 ?_)
    refine wk_icge r7_29 ⟨by omega, by omega⟩ (by decide) ?_ ?_
    · intro h130
      refine wk_il1 r7_51 ?_
      subst hQ; exact wk_iret r7_52 (⟨rfl, _, rfl, hP0, hF0, by omega, by omega⟩)
    · intro h131
      refine wk_il1 r7_32 (wk_al0 r7_33 (wk_getfr r7_34 fd_14_0 (br_14_0 hP0) (wk_il2 r7_37 (wk_ialdb r7_38 ar_15 ⟨by omega, by omega⟩ (fun q0 q1 => ba_15 hP0 q0 q1) ?_))))
      intro v132 h134 h135 e133
      refine wk_c1 r7_39 (wk_il2 r7_40 (wk_imul r7_41 (wk_shlb 18 262144 5 r7_42 ⟨by omega, by omega⟩ ⟨by omega, by omega⟩ ⟨pwl_18, by decide⟩ ?_)))
      intro v136 h137 h138 h139
      refine wk_ior 27 134217728 r7_43 (by decide) ⟨by omega, by omega⟩ ⟨by omega, by omega⟩ ?_
      intro v140 h141 h142 h143 h144 h145
      refine wk_is1 r7_44 rfl (wk_inc2 r7_45 rfl (wk_goto r7_48 ?_))
      exact wp_fg (le_s (le_s (le_s le_0))) (ih146 (7 - (v127 + 1)).toNat (by omega) v140 (v127 + 1) rfl (by omega) (by omega) (by omega) (by omega))
  exact wp_fg (le_s (le_s (le_s le_0))) (c26_146 _ (((v1 * 67108864) + (v5 * 8388608)) + (v9 * 2097152)) 0 rfl (by omega) (by omega) (by omega) (by omega))
def fm_m8_14_2 : Nat := 0
/-- IslandHall$Walk.rowOfKinds -/
theorem m8_14_2 {B : eB} (d : Nat) (M0 : Mm) (hP0 : Pw M0) (xp0 : WC M0) (xp1 : PBok M0) : Ct B (d + 2) 8 [R 14, R 2] M0 (qI fun z M => Pw M ∧ Fr fm_m8_14_2 M0 M ∧ 0 ≤ z ∧ z ≤ 2999) := by
  refine ct_of (d := d + 1) (k := 3) (L := [some (R 14), some (R 2), none, none, none]) rfl rfl rfl ?_
  have hF0 := Fr.rf fm_m8_14_2 M0
  generalize hQ : (qI fun z M => Pw M ∧ Fr fm_m8_14_2 M0 M ∧ 0 ≤ z ∧ z ≤ 2999) = Q
  refine wk_c1 r8_0 (wk_is2 r8_1 rfl (wk_c1 r8_2 (wk_is3 r8_3 rfl ?_)))
  have c4_400 : ∀ (k400 : Nat) (v343 : Int) (v346 : Int), (7 - v346).toNat = k400 → 0 ≤ v343 → v343 ≤ 189000 → 0 ≤ v346 → v346 ≤ 7 → (0 ≤ v343 ∧ v343 + 1 ≤ PB (fun k => M0 3 k) (v346).toNat) → (v346 ≤ M0 2 1 ∨ v346 = 0) → Wp B (d + 1) 8 4 [some (R 14), some (R 2), some (I v343), some (I v346), none] [] M0 Q := by
    refine lp_ind ?_
    intro k400 ih400 v343 v346 hk400 h344 h345 h347 h348 ti349 ti350
    have h351 := pb_mono (u := fun k => M0 3 k) (fun k a b => ba_3 hP0 a b) (p := v346) (n := M0 2 1) (by have := ti350; omega) (bf_2_1 hP0).2
    have h352 : v343 ≤ 2999 := by have h1 := xp1; unfold PBok at h1; have h2 := ti349; omega
    refine wk_il3 r8_4 (wk_al1 r8_5 (wk_getfb r8_6 fd_2_1 (bf_2_1 hP0) ?_))
    intro v353 h355 h356 e354
    refine wk_icge r8_9 ⟨by omega, by omega⟩ ⟨by omega, by omega⟩ ?_ ?_
    · intro h357
      refine wk_il2 r8_59 ?_
      subst hQ; exact wk_iret r8_60 (⟨rfl, _, rfl, hP0, hF0, by omega, by omega⟩)
    · intro h358
      refine wk_al1 r8_12 (wk_getfr r8_13 fd_2_0 (br_2_0 hP0) (wk_il3 r8_16 (wk_ialdb r8_17 ar_3 ⟨by omega, by omega⟩ (fun q0 q1 => ba_3 hP0 q0 q1) ?_)))
      intro v359 h361 h362 e360
      refine wk_c1 r8_18 (wk_kget r8_19 (wk_al0 r8_22 (wk_getfr r8_23 fd_14_0 (br_14_0 hP0) (wk_il3 r8_26 (wk_ialdb r8_27 ar_15 ⟨by omega, by omega⟩ (fun q0 q1 => ba_15 hP0 q0 q1) ?_)))))
      intro v363 h365 h366 e364
      refine wk_kald r8_28 ⟨by omega, by omega⟩ ?_
      intro v367 h368 h369 h370
      refine wk_shl1 4 16 r8_29 ⟨by omega, by omega⟩ ⟨pwl_4, by decide⟩ ?_
      intro v371 h372 h373 h374
      refine wk_c1 r8_30 (wk_isub r8_31 (wk_iand r8_32 ⟨by omega, by omega⟩ ⟨by omega, by omega⟩ ?_))
      intro v375 h376 h377 h378 h379
      refine wk_is4 r8_33 rfl (wk_il2 r8_35 (wk_al1 r8_36 (wk_getfr r8_37 fd_2_0 (br_2_0 hP0) (wk_il3 r8_40 (wk_iald r8_41 ar_3 ⟨by omega, by omega⟩ e360 (wk_cs102_1 r8_42 rfl (m246 _ M0 v359 hP0 (by omega) (by omega)) (cqI ?_)))))))
      rintro v385 M380 ⟨hP381, hQ382, h386, h387, xh384⟩
      obtain rfl := Fr.same hQ382
      refine wk_mulb 2999 63 r8_45 ⟨by omega, by omega⟩ ⟨by omega, by omega⟩ ?_
      intro v388 h389 h390 h391
      refine wk_il4 r8_46 (wk_cs102_1 r8_48 rfl (m246 _ M0 v375 hP0 (by omega) (by omega)) (cqI ?_))
      rintro v397 M392 ⟨hP393, hQ394, h398, h399, xh396⟩
      obtain rfl := Fr.same hQ394
      refine wk_iadd r8_51 (wk_is2 r8_52 rfl (wk_inc3 r8_53 rfl (wk_goto r8_56 ?_)))
      exact wp_fg (le_s (le_s (le_s (le_s (le_n le_0))))) (ih400 (7 - (v346 + 1)).toNat (by omega) (v388 + v397) (v346 + 1) rfl (by omega) (by omega) (by omega) (by omega) (rk_back xp0 (by omega) (by omega) e360 e364 h370 h374 h379 xh384 xh396 h391 ⟨by omega, by omega⟩ ⟨by omega, by omega⟩ ti349) (Or.inl (by omega)))
  exact wp_fg (le_s (le_s (le_s (le_s (le_s le_0))))) (c4_400 _ 0 0 rfl (by omega) (by omega) (by omega) (by omega) (⟨by decide, Int.le_refl 1⟩) (Or.inr rfl))
def fm_m186_10 : Nat := 0
/-- IslandHall$Realm.answerAt -/
theorem m186_10 {B : eB} (d : Nat) (M0 : Mm) (p1 : Int) (p2 : Int) (hP0 : Pw M0) (l1 : 0 ≤ p1) (u1 : p1 ≤ 2999) (l2 : 1 ≤ p2) (u2 : p2 ≤ 1) : Ct B (d + 1) 186 [R 10, I p1, I p2] M0 (qI fun z M => Pw M ∧ Fr fm_m186_10 M0 M ∧ 0 ≤ z ∧ z ≤ 3) := by
  refine ct_of (d := d + 0) (k := 0) (L := [some (R 10), some (I p1), some (I p2)]) rfl rfl rfl ?_
  have hF0 := Fr.rf fm_m186_10 M0
  generalize hQ : (qI fun z M => Pw M ∧ Fr fm_m186_10 M0 M ∧ 0 ≤ z ∧ z ≤ 3) = Q
  refine wk_il2 r186_0 ?_
  refine wk_sw8 r186_1 ⟨by omega, by omega⟩ ?_ ?_ ?_ ?_
  · intro h1
    exfalso
    omega
  · intro h2
    refine wk_al0 r186_28 (wk_getfr r186_29 fd_10_1 (br_10_1 hP0) (wk_il1 r186_32 (wk_ialdb r186_33 ar_136 ⟨by omega, by omega⟩ (fun q0 q1 => ba_136 hP0 q0 q1) ?_)))
    intro v3 h5 h6 e4
    refine wk_c2 r186_34 (wk_ishrc r186_36 ⟨by omega, by omega⟩ (by decide) pwl_21 (wk_c1 r186_37 (wk_iandc 2 4 r186_38 ⟨rfl, by decide⟩ rfl ?_)))
    subst hQ; exact wk_iret r186_39 (⟨rfl, _, rfl, hP0, hF0, by omega, by omega⟩)
  · intro h9
    exfalso
    omega
  · intro h10
    exfalso
    omega
def fm_m204_10v4 : Nat := 4722366482869645213696
/-- IslandHall$Realm.set -/
theorem m204_10v4 {B : eB} (d : Nat) (M0 : Mm) (p1 : Int) (p2 : Int) (hP0 : Pw M0) (l1 : 35 ≤ p1) (u1 : p1 ≤ 38) (l2 : 0 ≤ p2) (u2 : p2 ≤ 2999) : Ct B (d + 1) 204 [R 10, I p1, I p2] M0 (qV fun M => Pw M ∧ Fr fm_m204_10v4 M0 M) := by
  refine ct_of (d := d + 0) (k := 0) (L := [some (R 10), some (I p1), some (I p2)]) rfl rfl rfl ?_
  have hF0 := Fr.rf fm_m204_10v4 M0
  generalize hQ : (qV fun M => Pw M ∧ Fr fm_m204_10v4 M0 M) = Q
  refine wk_al0 r204_0 (wk_getfr r204_1 fd_10_0 (br_10_0 hP0) (wk_il1 r204_4 (wk_raldb r204_5 ar_16 ⟨by omega, by omega⟩ (fun q0 q1 => ba_16 hP0 q0 q1) (wk_il2 r204_6 (wk_c2 r204_7 (wk_ishrc r204_9 ⟨by omega, by omega⟩ (by decide) pwl_6 (wk_dup2 r204_10 (wk_laldb r204_11 (arF_17 (by omega) (by omega)) ⟨by omega, by omega⟩ (fun q0 q1 => baF_17 hP0 (by omega) (by omega) q0 q1) (by decide) ?_))))))))
  intro n2 h4 h5 e3
  refine wk_c6 r204_12 (wk_il2 r204_13 (wk_c2 r204_14 (wk_iandc 6 64 r204_16 ⟨rfl, by decide⟩ rfl (wk_lshlb r204_17 ⟨by omega, by omega⟩ ?_))))
  intro n6 h7 h8 h9
  refine wk_lorb r204_18 ?_
  intro n10 h11 h12 h13
  refine wk_last r204_19 (arF_17 (by omega) (by omega)) ⟨by omega, by omega⟩ (wk_nw (gr_17 (by omega) (by omega) _) rfl hP0 hF0 (uaF_17 (by omega) (by omega) ⟨by omega, by omega⟩) ?_)
  intro M14 hP15 hF16 e17
  subst hQ; exact wk_ret r204_20 (⟨rfl, hP15, hF16⟩)
def fm_m186_10v1 : Nat := 0
/-- IslandHall$Realm.answerAt -/
theorem m186_10v1 {B : eB} (d : Nat) (M0 : Mm) (p1 : Int) (p2 : Int) (hP0 : Pw M0) (l1 : 0 ≤ p1) (u1 : p1 ≤ 2999) (l2 : 2 ≤ p2) (u2 : p2 ≤ 2) : Ct B (d + 1) 186 [R 10, I p1, I p2] M0 (qI fun z M => Pw M ∧ Fr fm_m186_10v1 M0 M ∧ 0 ≤ z ∧ z ≤ 7) := by
  refine ct_of (d := d + 0) (k := 0) (L := [some (R 10), some (I p1), some (I p2)]) rfl rfl rfl ?_
  have hF0 := Fr.rf fm_m186_10v1 M0
  generalize hQ : (qI fun z M => Pw M ∧ Fr fm_m186_10v1 M0 M ∧ 0 ≤ z ∧ z ≤ 7) = Q
  refine wk_il2 r186_0 ?_
  refine wk_sw8 r186_1 ⟨by omega, by omega⟩ ?_ ?_ ?_ ?_
  · intro h1
    exfalso
    omega
  · intro h2
    exfalso
    omega
  · intro h3
    refine wk_al0 r186_40 (wk_getfr r186_41 fd_10_1 (br_10_1 hP0) (wk_il1 r186_44 (wk_ialdb r186_45 ar_136 ⟨by omega, by omega⟩ (fun q0 q1 => ba_136 hP0 q0 q1) ?_)))
    intro v4 h6 h7 e5
    refine wk_c2 r186_46 (wk_ishrc r186_48 ⟨by omega, by omega⟩ (by decide) pwl_23 (wk_c2 r186_49 (wk_iandc 3 8 r186_51 ⟨rfl, by decide⟩ rfl ?_)))
    subst hQ; exact wk_iret r186_52 (⟨rfl, _, rfl, hP0, hF0, by omega, by omega⟩)
  · intro h10
    exfalso
    omega
def fm_m204_10v5 : Nat := 4722366482869645213696
/-- IslandHall$Realm.set -/
theorem m204_10v5 {B : eB} (d : Nat) (M0 : Mm) (p1 : Int) (p2 : Int) (hP0 : Pw M0) (l1 : 39 ≤ p1) (u1 : p1 ≤ 46) (l2 : 0 ≤ p2) (u2 : p2 ≤ 2999) : Ct B (d + 1) 204 [R 10, I p1, I p2] M0 (qV fun M => Pw M ∧ Fr fm_m204_10v5 M0 M) := by
  refine ct_of (d := d + 0) (k := 0) (L := [some (R 10), some (I p1), some (I p2)]) rfl rfl rfl ?_
  have hF0 := Fr.rf fm_m204_10v5 M0
  generalize hQ : (qV fun M => Pw M ∧ Fr fm_m204_10v5 M0 M) = Q
  refine wk_al0 r204_0 (wk_getfr r204_1 fd_10_0 (br_10_0 hP0) (wk_il1 r204_4 (wk_raldb r204_5 ar_16 ⟨by omega, by omega⟩ (fun q0 q1 => ba_16 hP0 q0 q1) (wk_il2 r204_6 (wk_c2 r204_7 (wk_ishrc r204_9 ⟨by omega, by omega⟩ (by decide) pwl_6 (wk_dup2 r204_10 (wk_laldb r204_11 (arF_17 (by omega) (by omega)) ⟨by omega, by omega⟩ (fun q0 q1 => baF_17 hP0 (by omega) (by omega) q0 q1) (by decide) ?_))))))))
  intro n2 h4 h5 e3
  refine wk_c6 r204_12 (wk_il2 r204_13 (wk_c2 r204_14 (wk_iandc 6 64 r204_16 ⟨rfl, by decide⟩ rfl (wk_lshlb r204_17 ⟨by omega, by omega⟩ ?_))))
  intro n6 h7 h8 h9
  refine wk_lorb r204_18 ?_
  intro n10 h11 h12 h13
  refine wk_last r204_19 (arF_17 (by omega) (by omega)) ⟨by omega, by omega⟩ (wk_nw (gr_17 (by omega) (by omega) _) rfl hP0 hF0 (uaF_17 (by omega) (by omega) ⟨by omega, by omega⟩) ?_)
  intro M14 hP15 hF16 e17
  subst hQ; exact wk_ret r204_20 (⟨rfl, hP15, hF16⟩)
def fm_m186_10v2 : Nat := 0
/-- IslandHall$Realm.answerAt -/
theorem m186_10v2 {B : eB} (d : Nat) (M0 : Mm) (p1 : Int) (p2 : Int) (hP0 : Pw M0) (l1 : 0 ≤ p1) (u1 : p1 ≤ 2999) (l2 : 3 ≤ p2) (u2 : p2 ≤ 3) : Ct B (d + 1) 186 [R 10, I p1, I p2] M0 (qI fun z M => Pw M ∧ Fr fm_m186_10v2 M0 M ∧ 0 ≤ z ∧ z ≤ 1) := by
  refine ct_of (d := d + 0) (k := 0) (L := [some (R 10), some (I p1), some (I p2)]) rfl rfl rfl ?_
  have hF0 := Fr.rf fm_m186_10v2 M0
  generalize hQ : (qI fun z M => Pw M ∧ Fr fm_m186_10v2 M0 M ∧ 0 ≤ z ∧ z ≤ 1) = Q
  refine wk_il2 r186_0 ?_
  refine wk_sw8 r186_1 ⟨by omega, by omega⟩ ?_ ?_ ?_ ?_
  · intro h1
    exfalso
    omega
  · intro h2
    exfalso
    omega
  · intro h3
    exfalso
    omega
  · intro h4
    refine wk_al0 r186_53 (wk_getfr r186_54 fd_10_1 (br_10_1 hP0) (wk_il1 r186_57 (wk_ialdb r186_58 ar_136 ⟨by omega, by omega⟩ (fun q0 q1 => ba_136 hP0 q0 q1) ?_)))
    intro v5 h7 h8 e6
    refine wk_c2 r186_59 (wk_ishrc r186_61 ⟨by omega, by omega⟩ (by decide) pwl_26 (wk_c1 r186_62 (wk_iandc 1 2 r186_63 ⟨rfl, by decide⟩ rfl ?_)))
    subst hQ; exact wk_iret r186_64 (⟨rfl, _, rfl, hP0, hF0, by omega, by omega⟩)
def fm_m204_10v6 : Nat := 4722366482869645213696
/-- IslandHall$Realm.set -/
theorem m204_10v6 {B : eB} (d : Nat) (M0 : Mm) (p1 : Int) (p2 : Int) (hP0 : Pw M0) (l1 : 46 ≤ p1) (u1 : p1 ≤ 47) (l2 : 0 ≤ p2) (u2 : p2 ≤ 2999) : Ct B (d + 1) 204 [R 10, I p1, I p2] M0 (qV fun M => Pw M ∧ Fr fm_m204_10v6 M0 M) := by
  refine ct_of (d := d + 0) (k := 0) (L := [some (R 10), some (I p1), some (I p2)]) rfl rfl rfl ?_
  have hF0 := Fr.rf fm_m204_10v6 M0
  generalize hQ : (qV fun M => Pw M ∧ Fr fm_m204_10v6 M0 M) = Q
  refine wk_al0 r204_0 (wk_getfr r204_1 fd_10_0 (br_10_0 hP0) (wk_il1 r204_4 (wk_raldb r204_5 ar_16 ⟨by omega, by omega⟩ (fun q0 q1 => ba_16 hP0 q0 q1) (wk_il2 r204_6 (wk_c2 r204_7 (wk_ishrc r204_9 ⟨by omega, by omega⟩ (by decide) pwl_6 (wk_dup2 r204_10 (wk_laldb r204_11 (arF_17 (by omega) (by omega)) ⟨by omega, by omega⟩ (fun q0 q1 => baF_17 hP0 (by omega) (by omega) q0 q1) (by decide) ?_))))))))
  intro n2 h4 h5 e3
  refine wk_c6 r204_12 (wk_il2 r204_13 (wk_c2 r204_14 (wk_iandc 6 64 r204_16 ⟨rfl, by decide⟩ rfl (wk_lshlb r204_17 ⟨by omega, by omega⟩ ?_))))
  intro n6 h7 h8 h9
  refine wk_lorb r204_18 ?_
  intro n10 h11 h12 h13
  refine wk_last r204_19 (arF_17 (by omega) (by omega)) ⟨by omega, by omega⟩ (wk_nw (gr_17 (by omega) (by omega) _) rfl hP0 hF0 (uaF_17 (by omega) (by omega) ⟨by omega, by omega⟩) ?_)
  intro M14 hP15 hF16 e17
  subst hQ; exact wk_ret r204_20 (⟨rfl, hP15, hF16⟩)
def fm_m204_10v7 : Nat := 4722366482869645213696
/-- IslandHall$Realm.set -/
theorem m204_10v7 {B : eB} (d : Nat) (M0 : Mm) (p1 : Int) (p2 : Int) (hP0 : Pw M0) (l1 : 118 ≤ p1) (u1 : p1 ≤ 118) (l2 : 0 ≤ p2) (u2 : p2 ≤ 2999) : Ct B (d + 1) 204 [R 10, I p1, I p2] M0 (qV fun M => Pw M ∧ Fr fm_m204_10v7 M0 M) := by
  refine ct_of (d := d + 0) (k := 0) (L := [some (R 10), some (I p1), some (I p2)]) rfl rfl rfl ?_
  have hF0 := Fr.rf fm_m204_10v7 M0
  generalize hQ : (qV fun M => Pw M ∧ Fr fm_m204_10v7 M0 M) = Q
  refine wk_al0 r204_0 (wk_getfr r204_1 fd_10_0 (br_10_0 hP0) (wk_il1 r204_4 (wk_raldb r204_5 ar_16 ⟨by omega, by omega⟩ (fun q0 q1 => ba_16 hP0 q0 q1) (wk_il2 r204_6 (wk_c2 r204_7 (wk_ishrc r204_9 ⟨by omega, by omega⟩ (by decide) pwl_6 (wk_dup2 r204_10 (wk_laldb r204_11 (arF_17 (by omega) (by omega)) ⟨by omega, by omega⟩ (fun q0 q1 => baF_17 hP0 (by omega) (by omega) q0 q1) (by decide) ?_))))))))
  intro n2 h4 h5 e3
  refine wk_c6 r204_12 (wk_il2 r204_13 (wk_c2 r204_14 (wk_iandc 6 64 r204_16 ⟨rfl, by decide⟩ rfl (wk_lshlb r204_17 ⟨by omega, by omega⟩ ?_))))
  intro n6 h7 h8 h9
  refine wk_lorb r204_18 ?_
  intro n10 h11 h12 h13
  refine wk_last r204_19 (arF_17 (by omega) (by omega)) ⟨by omega, by omega⟩ (wk_nw (gr_17 (by omega) (by omega) _) rfl hP0 hF0 (uaF_17 (by omega) (by omega) ⟨by omega, by omega⟩) ?_)
  intro M14 hP15 hF16 e17
  subst hQ; exact wk_ret r204_20 (⟨rfl, hP15, hF16⟩)
def fm_m204_10v8 : Nat := 4722366482869645213696
/-- IslandHall$Realm.set -/
theorem m204_10v8 {B : eB} (d : Nat) (M0 : Mm) (p1 : Int) (p2 : Int) (hP0 : Pw M0) (l1 : 48 ≤ p1) (u1 : p1 ≤ 87) (l2 : 0 ≤ p2) (u2 : p2 ≤ 2999) : Ct B (d + 1) 204 [R 10, I p1, I p2] M0 (qV fun M => Pw M ∧ Fr fm_m204_10v8 M0 M) := by
  refine ct_of (d := d + 0) (k := 0) (L := [some (R 10), some (I p1), some (I p2)]) rfl rfl rfl ?_
  have hF0 := Fr.rf fm_m204_10v8 M0
  generalize hQ : (qV fun M => Pw M ∧ Fr fm_m204_10v8 M0 M) = Q
  refine wk_al0 r204_0 (wk_getfr r204_1 fd_10_0 (br_10_0 hP0) (wk_il1 r204_4 (wk_raldb r204_5 ar_16 ⟨by omega, by omega⟩ (fun q0 q1 => ba_16 hP0 q0 q1) (wk_il2 r204_6 (wk_c2 r204_7 (wk_ishrc r204_9 ⟨by omega, by omega⟩ (by decide) pwl_6 (wk_dup2 r204_10 (wk_laldb r204_11 (arF_17 (by omega) (by omega)) ⟨by omega, by omega⟩ (fun q0 q1 => baF_17 hP0 (by omega) (by omega) q0 q1) (by decide) ?_))))))))
  intro n2 h4 h5 e3
  refine wk_c6 r204_12 (wk_il2 r204_13 (wk_c2 r204_14 (wk_iandc 6 64 r204_16 ⟨rfl, by decide⟩ rfl (wk_lshlb r204_17 ⟨by omega, by omega⟩ ?_))))
  intro n6 h7 h8 h9
  refine wk_lorb r204_18 ?_
  intro n10 h11 h12 h13
  refine wk_last r204_19 (arF_17 (by omega) (by omega)) ⟨by omega, by omega⟩ (wk_nw (gr_17 (by omega) (by omega) _) rfl hP0 hF0 (uaF_17 (by omega) (by omega) ⟨by omega, by omega⟩) ?_)
  intro M14 hP15 hF16 e17
  subst hQ; exact wk_ret r204_20 (⟨rfl, hP15, hF16⟩)
def fm_m188_10 : Nat := 0
/-- IslandHall$Realm.codeAt -/
theorem m188_10 {B : eB} (d : Nat) (M0 : Mm) (p1 : Int) (p2 : Int) (hP0 : Pw M0) (l1 : 0 ≤ p1) (u1 : p1 ≤ 2999) (l2 : 0 ≤ p2) (u2 : p2 ≤ 6) : Ct B (d + 1) 188 [R 10, I p1, I p2] M0 (qI fun z M => Pw M ∧ Fr fm_m188_10 M0 M ∧ 0 ≤ z ∧ z ≤ 7) := by
  refine ct_of (d := d + 0) (k := 0) (L := [some (R 10), some (I p1), some (I p2)]) rfl rfl rfl ?_
  have hF0 := Fr.rf fm_m188_10 M0
  generalize hQ : (qI fun z M => Pw M ∧ Fr fm_m188_10 M0 M ∧ 0 ≤ z ∧ z ≤ 7) = Q
  refine wk_al0 r188_0 (wk_getfr r188_1 fd_10_1 (br_10_1 hP0) (wk_il1 r188_4 (wk_ialdb r188_5 ar_136 ⟨by omega, by omega⟩ (fun q0 q1 => ba_136 hP0 q0 q1) ?_)))
  intro v1 h3 h4 e2
  refine wk_c1 r188_6 (wk_il2 r188_7 (wk_imul r188_8 (wk_shrb r188_9 ⟨by omega, by omega⟩ ⟨by omega, by omega⟩ ?_)))
  intro v5 h6 h7 h8
  refine wk_c2 r188_10 (wk_iandc 3 8 r188_12 ⟨rfl, by decide⟩ rfl ?_)
  subst hQ; exact wk_iret r188_13 (⟨rfl, _, rfl, hP0, hF0, by omega, by omega⟩)
def fm_m197_10 : Nat := 0
/-- IslandHall$Realm.kindAt -/
theorem m197_10 {B : eB} (d : Nat) (M0 : Mm) (p1 : Int) (p2 : Int) (hP0 : Pw M0) (l1 : 0 ≤ p1) (u1 : p1 ≤ 2999) (l2 : 0 ≤ p2) (u2 : p2 ≤ 6) : Ct B (d + 2) 197 [R 10, I p1, I p2] M0 (qI fun z M => Pw M ∧ Fr fm_m197_10 M0 M ∧ 0 ≤ z ∧ z ≤ 4) := by
  refine ct_of (d := d + 1) (k := 1) (L := [some (R 10), some (I p1), some (I p2), none]) rfl rfl rfl ?_
  have hF0 := Fr.rf fm_m197_10 M0
  generalize hQ : (qI fun z M => Pw M ∧ Fr fm_m197_10 M0 M ∧ 0 ≤ z ∧ z ≤ 4) = Q
  refine wk_al0 r197_0 (wk_il1 r197_1 (wk_il2 r197_2 (wk_cv3 r197_3 kc_10_188 rfl (m188_10 _ M0 p1 p2 hP0 (by omega) (by omega) (by omega) (by omega)) (cqI ?_))))
  rintro v5 M1 ⟨hP2, hQ3, h6, h7⟩
  obtain rfl := Fr.same hQ3
  refine wk_is3 r197_6 rfl (wk_il3 r197_7 (wk_c2 r197_8 ?_))
  refine wk_icge r197_10 ⟨by omega, by omega⟩ (by decide) ?_ ?_
  · intro h8
    refine wk_c1 r197_21 ?_
    subst hQ; exact wk_iret r197_22 (⟨rfl, _, rfl, hP0, hF0, by omega, by omega⟩)
  · intro h9
    refine wk_kget r197_13 (wk_il3 r197_16 (wk_kald r197_17 ⟨by omega, by omega⟩ ?_))
    intro v10 h11 h12 h13
    refine wk_goto r197_18 ?_
    subst hQ; exact wk_iret r197_22 (⟨rfl, _, rfl, hP0, hF0, by omega, by omega⟩)
def fm_m204_10v9 : Nat := 4722366482869645213696
/-- IslandHall$Realm.set -/
theorem m204_10v9 {B : eB} (d : Nat) (M0 : Mm) (p1 : Int) (p2 : Int) (hP0 : Pw M0) (l1 : 0 ≤ p1) (u1 : p1 ≤ 34) (l2 : 0 ≤ p2) (u2 : p2 ≤ 2999) : Ct B (d + 1) 204 [R 10, I p1, I p2] M0 (qV fun M => Pw M ∧ Fr fm_m204_10v9 M0 M) := by
  refine ct_of (d := d + 0) (k := 0) (L := [some (R 10), some (I p1), some (I p2)]) rfl rfl rfl ?_
  have hF0 := Fr.rf fm_m204_10v9 M0
  generalize hQ : (qV fun M => Pw M ∧ Fr fm_m204_10v9 M0 M) = Q
  refine wk_al0 r204_0 (wk_getfr r204_1 fd_10_0 (br_10_0 hP0) (wk_il1 r204_4 (wk_raldb r204_5 ar_16 ⟨by omega, by omega⟩ (fun q0 q1 => ba_16 hP0 q0 q1) (wk_il2 r204_6 (wk_c2 r204_7 (wk_ishrc r204_9 ⟨by omega, by omega⟩ (by decide) pwl_6 (wk_dup2 r204_10 (wk_laldb r204_11 (arF_17 (by omega) (by omega)) ⟨by omega, by omega⟩ (fun q0 q1 => baF_17 hP0 (by omega) (by omega) q0 q1) (by decide) ?_))))))))
  intro n2 h4 h5 e3
  refine wk_c6 r204_12 (wk_il2 r204_13 (wk_c2 r204_14 (wk_iandc 6 64 r204_16 ⟨rfl, by decide⟩ rfl (wk_lshlb r204_17 ⟨by omega, by omega⟩ ?_))))
  intro n6 h7 h8 h9
  refine wk_lorb r204_18 ?_
  intro n10 h11 h12 h13
  refine wk_last r204_19 (arF_17 (by omega) (by omega)) ⟨by omega, by omega⟩ (wk_nw (gr_17 (by omega) (by omega) _) rfl hP0 hF0 (uaF_17 (by omega) (by omega) ⟨by omega, by omega⟩) ?_)
  intro M14 hP15 hF16 e17
  subst hQ; exact wk_ret r204_20 (⟨rfl, hP15, hF16⟩)
def fm_m192_10v1 : Nat := 0
/-- IslandHall$Realm.honestAt -/
theorem m192_10v1 {B : eB} (d : Nat) (M0 : Mm) (p1 : Int) (p2 : Int) (p3 : Int) (hP0 : Pw M0) (l1 : 0 ≤ p1) (u1 : p1 ≤ 2999) (l2 : 0 ≤ p2) (u2 : p2 ≤ 6) (l3 : 0 ≤ p3) (u3 : p3 ≤ 1) : Ct B (d + 3) 192 [R 10, I p1, I p2, I p3] M0 (qI fun z M => Pw M ∧ Fr fm_m192_10v1 M0 M ∧ 0 ≤ z ∧ z ≤ 1) := by
  refine ct_of (d := d + 2) (k := 0) (L := [some (R 10), some (I p1), some (I p2), some (I p3)]) rfl rfl rfl ?_
  have hF0 := Fr.rf fm_m192_10v1 M0
  generalize hQ : (qI fun z M => Pw M ∧ Fr fm_m192_10v1 M0 M ∧ 0 ≤ z ∧ z ≤ 1) = Q
  refine wk_al0 r192_0 (wk_il1 r192_1 (wk_il2 r192_2 (wk_cv3 r192_3 kc_10_197 rfl (m197_10 _ M0 p1 p2 hP0 (by omega) (by omega) (by omega) (by omega)) (cqI ?_))))
  rintro v5 M1 ⟨hP2, hQ3, h6, h7⟩
  obtain rfl := Fr.same hQ3
  refine wk_sw9 r192_6 ⟨by omega, by omega⟩ ?_ ?_ ?_ ?_ ?_
  · intro h8
    refine wk_c1 r192_94 ?_
    subst hQ; exact wk_zret r192_95 (by decide) (⟨rfl, _, rfl, hP0, hF0, by omega, by omega⟩)
  · intro h9
    refine wk_c1 r192_36 ?_
    subst hQ; exact wk_zret r192_37 (by decide) (⟨rfl, _, rfl, hP0, hF0, by omega, by omega⟩)
  · intro h10
    refine wk_c1 r192_94 ?_
    subst hQ; exact wk_zret r192_95 (by decide) (⟨rfl, _, rfl, hP0, hF0, by omega, by omega⟩)
  · intro h11
    refine wk_al0 r192_38 (wk_il1 r192_39 (wk_il2 r192_40 (wk_cv3 r192_41 kc_10_188 rfl (m188_10 _ M0 p1 p2 hP0 (by omega) (by omega) (by omega) (by omega)) (cqI ?_))))
    rintro v16 M12 ⟨hP13, hQ14, h17, h18⟩
    obtain rfl := Fr.same hQ14
    refine wk_c1 r192_44 ?_
    refine wk_icne r192_45 ⟨by omega, by omega⟩ (by decide) ?_ ?_
    · intro h19
      refine wk_c1 r192_52 (wk_il3 r192_53 (wk_c1 r192_54 ?_))
      refine wk_icne r192_55 ⟨by omega, by omega⟩ (by decide) ?_ ?_
      · intro h20
        refine wk_c1 r192_62 ?_
        refine wk_icne r192_63 (by decide) (by decide) ?_ ?_
        · intro h21
          exfalso
          omega
        · intro h22
          refine wk_c1 r192_66 (wk_goto r192_67 ?_)
          subst hQ; exact wk_zret r192_71 (by decide) (⟨rfl, _, rfl, hP0, hF0, by omega, by omega⟩)
      · intro h23
        refine wk_c1 r192_58 (wk_goto r192_59 ?_)
        refine wk_icne r192_63 (by decide) (by decide) ?_ ?_
        · intro h24
          refine wk_c1 r192_70 ?_
          subst hQ; exact wk_zret r192_71 (by decide) (⟨rfl, _, rfl, hP0, hF0, by omega, by omega⟩)
        · intro h25
          exfalso
          omega
    · intro h26
      refine wk_c1 r192_48 (wk_goto r192_49 (wk_il3 r192_53 (wk_c1 r192_54 ?_)))
      refine wk_icne r192_55 ⟨by omega, by omega⟩ (by decide) ?_ ?_
      · intro h27
        refine wk_c1 r192_62 ?_
        refine wk_icne r192_63 (by decide) (by decide) ?_ ?_
        · intro h28
          refine wk_c1 r192_70 ?_
          subst hQ; exact wk_zret r192_71 (by decide) (⟨rfl, _, rfl, hP0, hF0, by omega, by omega⟩)
        · intro h29
          exfalso
          omega
      · intro h30
        refine wk_c1 r192_58 (wk_goto r192_59 ?_)
        refine wk_icne r192_63 (by decide) (by decide) ?_ ?_
        · intro h31
          exfalso
          omega
        · intro h32
          refine wk_c1 r192_66 (wk_goto r192_67 ?_)
          subst hQ; exact wk_zret r192_71 (by decide) (⟨rfl, _, rfl, hP0, hF0, by omega, by omega⟩)
  · intro h33
    refine wk_al0 r192_72 (wk_getfb r192_73 fd_10_8 (bf_10_8 hP0) ?_)
    intro v34 h36 h37 e35
    refine wk_al0 r192_76 (wk_il1 r192_77 (wk_c1 r192_78 (wk_cv3 r192_79 kc_10_186 rfl (m186_10v1 _ M0 p1 2 hP0 (by omega) (by omega) (by decide) (by decide)) (cqI ?_))))
    rintro v42 M38 ⟨hP39, hQ40, h43, h44⟩
    obtain rfl := Fr.same hQ40
    refine wk_shrb r192_82 ⟨by omega, by omega⟩ ⟨by omega, by omega⟩ ?_
    intro v45 h46 h47 h48
    refine wk_c1 r192_83 (wk_iandc 1 2 r192_84 ⟨rfl, by decide⟩ rfl ?_)
    refine wk_ifne r192_85 ⟨by omega, by omega⟩ ?_ ?_
    · intro h50
      refine wk_c1 r192_92 ?_
      subst hQ; exact wk_zret r192_93 (by decide) (⟨rfl, _, rfl, hP0, hF0, by omega, by omega⟩)
    · intro h51
      refine wk_c1 r192_88 (wk_goto r192_89 ?_)
      subst hQ; exact wk_zret r192_93 (by decide) (⟨rfl, _, rfl, hP0, hF0, by omega, by omega⟩)
def fm_m204_10v11 : Nat := 4722366482869645213696
/-- IslandHall$Realm.set -/
theorem m204_10v11 {B : eB} (d : Nat) (M0 : Mm) (p1 : Int) (p2 : Int) (hP0 : Pw M0) (l1 : 88 ≤ p1) (u1 : p1 ≤ 101) (l2 : 0 ≤ p2) (u2 : p2 ≤ 2999) : Ct B (d + 1) 204 [R 10, I p1, I p2] M0 (qV fun M => Pw M ∧ Fr fm_m204_10v11 M0 M) := by
  refine ct_of (d := d + 0) (k := 0) (L := [some (R 10), some (I p1), some (I p2)]) rfl rfl rfl ?_
  have hF0 := Fr.rf fm_m204_10v11 M0
  generalize hQ : (qV fun M => Pw M ∧ Fr fm_m204_10v11 M0 M) = Q
  refine wk_al0 r204_0 (wk_getfr r204_1 fd_10_0 (br_10_0 hP0) (wk_il1 r204_4 (wk_raldb r204_5 ar_16 ⟨by omega, by omega⟩ (fun q0 q1 => ba_16 hP0 q0 q1) (wk_il2 r204_6 (wk_c2 r204_7 (wk_ishrc r204_9 ⟨by omega, by omega⟩ (by decide) pwl_6 (wk_dup2 r204_10 (wk_laldb r204_11 (arF_17 (by omega) (by omega)) ⟨by omega, by omega⟩ (fun q0 q1 => baF_17 hP0 (by omega) (by omega) q0 q1) (by decide) ?_))))))))
  intro n2 h4 h5 e3
  refine wk_c6 r204_12 (wk_il2 r204_13 (wk_c2 r204_14 (wk_iandc 6 64 r204_16 ⟨rfl, by decide⟩ rfl (wk_lshlb r204_17 ⟨by omega, by omega⟩ ?_))))
  intro n6 h7 h8 h9
  refine wk_lorb r204_18 ?_
  intro n10 h11 h12 h13
  refine wk_last r204_19 (arF_17 (by omega) (by omega)) ⟨by omega, by omega⟩ (wk_nw (gr_17 (by omega) (by omega) _) rfl hP0 hF0 (uaF_17 (by omega) (by omega) ⟨by omega, by omega⟩) ?_)
  intro M14 hP15 hF16 e17
  subst hQ; exact wk_ret r204_20 (⟨rfl, hP15, hF16⟩)
def fm_m203_10 : Nat := 4759259971017064316928
/-- IslandHall$Realm.placePerson -/
theorem m203_10 {B : eB} (d : Nat) (M0 : Mm) (p1 : Int) (p2 : Int) (hP0 : Pw M0) (l1 : 0 ≤ p1) (u1 : p1 ≤ 2999) (l2 : 0 ≤ p2) (u2 : p2 ≤ 6) (xp0 : ∀ k : Int, 0 ≤ k → k < 5 → M0 13 k ≤ p2) : Ct B (d + 4) 203 [R 10, I p1, I p2] M0 (qV fun M => Pw M ∧ Fr fm_m203_10 M0 M ∧ (∀ k : Int, 0 ≤ k → k < 5 → M 13 k ≤ p2 + 1)) := by
  refine ct_of (d := d + 3) (k := 2) (L := [some (R 10), some (I p1), some (I p2), none, none]) rfl rfl rfl ?_
  have hF0 := Fr.rf fm_m203_10 M0
  generalize hQ : (qV fun M => Pw M ∧ Fr fm_m203_10 M0 M ∧ (∀ k : Int, 0 ≤ k → k < 5 → M 13 k ≤ p2 + 1)) = Q
  refine wk_al0 r203_0 (wk_il1 r203_1 (wk_il2 r203_2 (wk_cv3 r203_3 kc_10_197 rfl (m197_10 _ M0 p1 p2 hP0 (by omega) (by omega) (by omega) (by omega)) (cqI ?_))))
  rintro v5 M1 ⟨hP2, hQ3, h6, h7⟩
  obtain rfl := Fr.same hQ3
  refine wk_is3 r203_6 rfl (wk_al0 r203_7 (wk_getfr r203_8 fd_10_5 (br_10_5 hP0) (wk_il3 r203_11 (wk_dup2 r203_12 (wk_ialdb r203_13 ar_13 ⟨by omega, by omega⟩ (fun q0 q1 => ba_13 hP0 q0 q1) ?_)))))
  intro v8 h10 h11 e9
  have h12 : v8 ≤ p2 := by have q := xp0 v5 (by omega) (by omega); rw [e9] at q; omega
  refine wk_c1 r203_14 (wk_iadd r203_15 (wk_iast r203_16 ar_13 ⟨by omega, by omega⟩ (wk_nw (ga_13 _) rfl hP0 hF0 (ua_13 ⟨by omega, by omega⟩) ?_)))
  intro M13 hP14 hF15 e16
  obtain ⟨u17, hu18⟩ : ∃ u : Int → Int, ∀ k, M13 13 k = u k := ⟨fun k => M13 13 k, fun k => rfl⟩
  have tal : ∀ k : Int, 0 ≤ k → k < 5 → u17 k ≤ p2 + 1 := fun k q0 q1 => by rw [← hu18 k]; exact tally_up e16 (by omega) xp0 k q0 q1
  refine wk_al0 r203_17 (wk_c1 r203_18 (wk_il2 r203_19 (wk_c1 r203_20 (wk_imul r203_21 (wk_iadd r203_22 (wk_il3 r203_23 (wk_iadd r203_24 (wk_il1 r203_25 (wk_cv3 r203_26 kc_10_204 rfl (m204_10v9 _ M13 ((0 + (p2 * 5)) + v5) p1 hP14 (by omega) (by omega) (by omega) (by omega)) (cqV ?_))))))))))
  rintro M19 ⟨hP20, hQ21⟩
  have hF22 : Fr fm_m203_10 M0 M19 := hF15.tr hQ21 rfl
  refine wk_c1 r203_29 (wk_is4 r203_30 rfl ?_)
  have c32_107 : ∀ (k107 : Nat) (M88 : Mm) (v85 : Int), (2 - v85).toNat = k107 → Pw M88 → Fr fm_m203_10 M0 M88 → 0 ≤ v85 → v85 ≤ 2 → (∀ k, M88 13 k = u17 k) → Wp B (d + 3) 203 32 [some (R 10), some (I p1), some (I p2), none, some (I v85)] [] M88 Q := by
    refine lp_ind ?_
    intro k107 ih107 M88 v85 hk107 hP89 hF90 h86 h87 hu91
    refine wk_il4 r203_32 (wk_c1 r203_34 ?_)
    refine wk_icge r203_35 ⟨by omega, by omega⟩ (by decide) ?_ ?_
    · intro h92
      subst hQ; exact wk_ret r203_69 (⟨rfl, hP89, hF90, fun k q0 q1 => by rw [hu91 k]; exact tal k q0 q1⟩)
    · intro h93
      refine wk_al0 r203_38 (wk_il1 r203_39 (wk_il2 r203_40 (wk_il4 r203_41 (wk_cv4 r203_43 kc_10_192 rfl (m192_10v1 _ M88 p1 p2 v85 hP89 (by omega) (by omega) (by omega) (by omega) (by omega) (by omega)) (cqI ?_)))))
      rintro v98 M94 ⟨hP95, hQ96, h99, h100⟩
      obtain rfl := Fr.same hQ96
      refine wk_ifeq r203_46 ⟨by omega, by omega⟩ ?_ ?_
      · intro h101
        refine wk_inc4 r203_63 rfl (wk_goto r203_66 ?_)
        exact wp_fg (le_s (le_s (le_s (le_s (le_s le_0))))) (ih107 (2 - (v85 + 1)).toNat (by omega) M88 (v85 + 1) rfl hP89 hF90 (by omega) (by omega) hu91)
      · intro h102
        refine wk_al0 r203_49 (wk_c2 r203_50 (wk_c1 r203_52 (wk_il2 r203_53 (wk_imul r203_54 (wk_iadd r203_55 (wk_il4 r203_56 (wk_iadd r203_58 (wk_il1 r203_59 (wk_cv3 r203_60 kc_10_204 rfl (m204_10v11 _ M88 ((88 + (2 * p2)) + v85) p1 hP89 (by omega) (by omega) (by omega) (by omega)) (cqV ?_))))))))))
        rintro M103 ⟨hP104, hQ105⟩
        have hF106 : Fr fm_m203_10 M0 M103 := hF90.tr hQ105 rfl
        refine wk_inc4 r203_63 rfl (wk_goto r203_66 ?_)
        exact wp_fg (le_s (le_s (le_s (le_s (le_s le_0))))) (ih107 (2 - (v85 + 1)).toNat (by omega) M103 (v85 + 1) rfl hP104 hF106 (by omega) (by omega) (fun k => (hQ105.at (ga_13 k) rfl).trans (hu91 k)))
  exact wp_fg (le_s (le_s (le_s (le_n (le_s le_0))))) (c32_107 _ M19 0 rfl hP20 hF22 (by omega) (by omega) (fun k => (hQ21.at (ga_13 k) rfl).trans (hu18 k)))
def fm_m202_10 : Nat := 33100376397262576680960
/-- IslandHall$Realm.place -/
theorem m202_10 {B : eB} (d : Nat) (M0 : Mm) (p1 : Int) (p2 : Int) (x10_9 : Int) (hP0 : Pw M0) (l1 : 0 ≤ p1) (u1 : p1 ≤ 134217727) (l2 : 0 ≤ p2) (u2 : p2 ≤ 2999) (ex10_9 : M0 10 9 = x10_9) (lx10_9 : 0 ≤ x10_9) (ux10_9 : x10_9 ≤ 2999) : Ct B (d + 5) 202 [R 10, I p1, I p2] M0 (qV fun M => Pw M ∧ Fr fm_m202_10 M0 M ∧ 0 ≤ M 10 9 + (-1) * x10_9 + (-1) ∧ 0 ≤ (-1) * (M 10 9) + x10_9 + 1) := by
  refine ct_of (d := d + 4) (k := 2) (L := [some (R 10), some (I p1), some (I p2), none, none]) rfl rfl rfl ?_
  have hF0 := Fr.rf fm_m202_10 M0
  generalize hQ : (qV fun M => Pw M ∧ Fr fm_m202_10 M0 M ∧ 0 ≤ M 10 9 + (-1) * x10_9 + (-1) ∧ 0 ≤ (-1) * (M 10 9) + x10_9 + 1) = Q
  refine wk_al0 r202_0 (wk_getfi r202_1 fd_10_9 ex10_9 (wk_is3 r202_4 rfl (wk_al0 r202_5 (wk_getfr r202_6 fd_10_1 (br_10_1 hP0) (wk_il3 r202_9 (wk_il1 r202_10 (wk_iast r202_11 ar_136 ⟨by omega, by omega⟩ (wk_nw (ga_136 _) rfl hP0 hF0 (ua_136 ⟨by omega, by omega⟩) ?_))))))))
  intro M1 hP2 hF3 e4
  refine wk_al0 r202_12 (wk_getfr r202_13 fd_10_2 (br_10_2 hP2) (wk_il3 r202_16 (wk_il2 r202_17 (wk_iast r202_18 ar_137 ⟨by omega, by omega⟩ (wk_nw (ga_137 _) rfl hP2 hF3 (ua_137 ⟨by omega, by omega⟩) ?_)))))
  intro M5 hP6 hF7 e8
  refine wk_al0 r202_19 (wk_dupr r202_20 (wk_getfi r202_21 fd_10_9 (mUp_no e8 (mUp_no e4 ex10_9 (Or.inl (by decide))) (Or.inl (by decide))) (wk_c1 r202_24 (wk_iadd r202_25 (wk_putfi81 r202_26 fd_10_9 (wk_nw g_10_9 rfl hP6 hF7 (uf_10_9 ⟨by omega, by omega⟩) ?_))))))
  intro M9 hP10 hF11 e12
  refine wk_al0 r202_29 (wk_al0 r202_30 (wk_getfi r202_31 fd_10_9 (mUp_at e12) (wk_c2 r202_34 (wk_iadd r202_36 (wk_c2 r202_37 (wk_ishrc r202_39 ⟨by omega, by omega⟩ (by decide) pwl_6 (wk_putfi81 r202_40 fd_10_10 (wk_nw g_10_10 rfl hP10 hF11 (uf_10_10 ⟨by omega, by omega⟩) ?_))))))))
  intro M14 hP15 hF16 e17
  refine wk_al0 r202_43 (wk_getfr r202_44 fd_10_5 (br_10_5 hP15) (wk_c1 r202_47 (wk_cs102_2 r202_48 rfl (ct_fi ar_13) (cqV ?_))))
  intro M18 e19
  have hP20 : Pw M18 := by rw [e19]; exact hP15.fil (fun i => (ua_13 (by decide)))
  have hF21 : Fr fm_m202_10 M0 M18 := by rw [e19]; exact hF16.fil (fun i => by rw [(ga_13 i)]; rfl)
  refine wk_c1 r202_51 (wk_is4 r202_52 rfl ?_)
  have c54_624 : ∀ (k624 : Nat) (M550 : Mm) (v547 : Int), (7 - v547).toNat = k624 → Pw M550 → Fr fm_m202_10 M0 M550 → M550 10 9 = (x10_9 + 1) → M550 10 10 = (((x10_9 + 1) + 63) / 64) → 0 ≤ v547 → v547 ≤ 7 → (∀ k : Int, 0 ≤ k → k < 5 → M550 13 k ≤ v547) → Wp B (d + 4) 202 54 [some (R 10), none, none, some (I x10_9), some (I v547)] [] M550 Q := by
    refine lp_ind ?_
    intro k624 ih624 M550 v547 hk624 hP551 hF552 e553 e554 h548 h549 ti555
    refine wk_il4 r202_54 (wk_al0 r202_56 (wk_getfb r202_57 fd_10_7 (bf_10_7 hP551) ?_))
    intro v556 h558 h559 e557
    refine wk_icge r202_60 ⟨by omega, by omega⟩ ⟨by omega, by omega⟩ ?_ ?_
    · intro h560
      refine wk_c1 r202_76 (wk_is4 r202_77 rfl ?_)
      have c79_617 : ∀ (k617 : Nat) (M564 : Mm) (v561 : Int), (5 - v561).toNat = k617 → Pw M564 → Fr fm_m202_10 M0 M564 → M564 10 9 = (x10_9 + 1) → M564 10 10 = (((x10_9 + 1) + 63) / 64) → M564 10 7 = v556 → 0 ≤ v561 → v561 ≤ 5 → Wp B (d + 4) 202 79 [some (R 10), none, none, some (I x10_9), some (I v561)] [] M564 Q := by
        refine lp_ind ?_
        intro k617 ih617 M564 v561 hk617 hP565 hF566 e567 e568 e569 h562 h563
        refine wk_il4 r202_79 (wk_c1 r202_81 ?_)
        refine wk_icge r202_82 ⟨by omega, by omega⟩ (by decide) ?_ ?_
        · intro h570
          refine wk_al0 r202_112 (wk_c2 r202_113 (wk_al0 r202_115 (wk_il3 r202_116 (wk_c1 r202_117 (wk_cv3 r202_118 kc_10_186 rfl (m186_10 _ M564 x10_9 1 hP565 (by omega) (by omega) (by decide) (by decide)) (cqI ?_))))))
          rintro v575 M571 ⟨hP572, hQ573, h576, h577⟩
          obtain rfl := Fr.same hQ573
          refine wk_iadd r202_121 (wk_il3 r202_122 (wk_cv3 r202_123 kc_10_204 rfl (m204_10v4 _ M564 (35 + v575) x10_9 hP565 (by omega) (by omega) (by omega) (by omega)) (cqV ?_)))
          rintro M578 ⟨hP579, hQ580⟩
          have hF581 : Fr fm_m202_10 M0 M578 := hF566.tr hQ580 rfl
          refine wk_al0 r202_126 (wk_c2 r202_127 (wk_al0 r202_129 (wk_il3 r202_130 (wk_c1 r202_131 (wk_cv3 r202_132 kc_10_186 rfl (m186_10v1 _ M578 x10_9 2 hP579 (by omega) (by omega) (by decide) (by decide)) (cqI ?_))))))
          rintro v586 M582 ⟨hP583, hQ584, h587, h588⟩
          obtain rfl := Fr.same hQ584
          refine wk_iadd r202_135 (wk_il3 r202_136 (wk_cv3 r202_137 kc_10_204 rfl (m204_10v5 _ M578 (39 + v586) x10_9 hP579 (by omega) (by omega) (by omega) (by omega)) (cqV ?_)))
          rintro M589 ⟨hP590, hQ591⟩
          have hF592 : Fr fm_m202_10 M0 M589 := hF581.tr hQ591 rfl
          refine wk_al0 r202_140 (wk_c2 r202_141 (wk_al0 r202_143 (wk_il3 r202_144 (wk_c1 r202_145 (wk_cv3 r202_146 kc_10_186 rfl (m186_10v2 _ M589 x10_9 3 hP590 (by omega) (by omega) (by decide) (by decide)) (cqI ?_))))))
          rintro v597 M593 ⟨hP594, hQ595, h598, h599⟩
          obtain rfl := Fr.same hQ595
          refine wk_iadd r202_149 (wk_il3 r202_150 (wk_cv3 r202_151 kc_10_204 rfl (m204_10v6 _ M589 (46 + v597) x10_9 hP590 (by omega) (by omega) (by omega) (by omega)) (cqV ?_)))
          rintro M600 ⟨hP601, hQ602⟩
          have hF603 : Fr fm_m202_10 M0 M600 := hF592.tr hQ602 rfl
          refine wk_al0 r202_154 (wk_c2 r202_155 (wk_il3 r202_157 (wk_cv3 r202_158 kc_10_204 rfl (m204_10v7 _ M600 118 x10_9 hP601 (by decide) (by decide) (by omega) (by omega)) (cqV ?_))))
          rintro M604 ⟨hP605, hQ606⟩
          have hF607 : Fr fm_m202_10 M0 M604 := hF603.tr hQ606 rfl
          subst hQ; exact wk_ret r202_161 (⟨rfl, hP605, hF607, by have := ((hQ606.at g_10_9 rfl).trans ((hQ602.at g_10_9 rfl).trans ((hQ591.at g_10_9 rfl).trans ((hQ580.at g_10_9 rfl).trans e567)))); omega, by have := ((hQ606.at g_10_9 rfl).trans ((hQ602.at g_10_9 rfl).trans ((hQ591.at g_10_9 rfl).trans ((hQ580.at g_10_9 rfl).trans e567)))); omega⟩)
        · intro h608
          refine wk_al0 r202_85 (wk_c2 r202_86 (wk_il4 r202_88 (wk_c2 r202_90 (wk_imul r202_92 (wk_iadd r202_93 (wk_al0 r202_94 (wk_getfr r202_95 fd_10_5 (br_10_5 hP565) (wk_il4 r202_98 (wk_ialdb r202_100 ar_13 ⟨by omega, by omega⟩ (fun q0 q1 => ba_13 hP565 q0 q1) ?_)))))))))
          intro v609 h611 h612 e610
          refine wk_iadd r202_101 (wk_il3 r202_102 (wk_cv3 r202_103 kc_10_204 rfl (m204_10v8 _ M564 ((48 + (v561 * 8)) + v609) x10_9 hP565 (by omega) (by omega) (by omega) (by omega)) (cqV ?_)))
          rintro M613 ⟨hP614, hQ615⟩
          have hF616 : Fr fm_m202_10 M0 M613 := hF566.tr hQ615 rfl
          refine wk_inc4 r202_106 rfl (wk_goto r202_109 ?_)
          exact wp_fg (le_s (le_s (le_s (le_s (le_s le_0))))) (ih617 (5 - (v561 + 1)).toNat (by omega) M613 (v561 + 1) rfl hP614 hF616 ((hQ615.at g_10_9 rfl).trans e567) ((hQ615.at g_10_10 rfl).trans e568) ((hQ615.at g_10_7 rfl).trans e569) (by omega) (by omega))
      exact wp_fg (le_s (le_s (le_s (le_s (le_s le_0))))) (c79_617 _ M550 0 rfl hP551 hF552 e553 e554 e557 (by omega) (by omega))
    · intro h618
      refine wk_al0 r202_63 (wk_il3 r202_64 (wk_il4 r202_65 (wk_cv3 r202_67 kc_10_203 rfl (m203_10 _ M550 x10_9 v547 hP551 (by omega) (by omega) (by omega) (by omega) (by first | assumption | omega | (unfold stepok; omega))) (cqV ?_))))
      rintro M619 ⟨hP620, hQ621, xh623⟩
      have hF622 : Fr fm_m202_10 M0 M619 := hF552.tr hQ621 rfl
      refine wk_inc4 r202_70 rfl (wk_goto r202_73 ?_)
      exact wp_fg (le_s (le_s (le_s (le_s (le_s le_0))))) (ih624 (7 - (v547 + 1)).toNat (by omega) M619 (v547 + 1) rfl hP620 hF622 ((hQ621.at g_10_9 rfl).trans e553) ((hQ621.at g_10_10 rfl).trans e554) (by omega) (by omega) (xh623))
  exact wp_fg (le_s (le_n (le_n (le_s (le_s le_0))))) (c54_624 _ M18 0 rfl hP20 hF21 (fil_no e19 (mUp_no e17 (mUp_at e12) (Or.inr (by decide))) (by decide)) (fil_no e19 (mUp_at e17) (by decide)) (by omega) (by omega) (fun k q0 q1 => by rw [e19, fil_eq]; omega))
def fm_m177_2v6 : Nat := 0
/-- IslandHall$Plan.codeBehind -/
theorem m177_2v6 {B : eB} (d : Nat) (M0 : Mm) (p1 : Int) (p2 : Int) (hP0 : Pw M0) (l1 : 0 ≤ p1) (u1 : p1 ≤ 6) (l2 : 0 ≤ p2) (u2 : p2 ≤ 5) : Ct B (d + 1) 177 [R 2, I p1, I p2] M0 (qI fun z M => Pw M ∧ Fr fm_m177_2v6 M0 M ∧ (-1) ≤ z ∧ z ≤ 5 ∧ (0 ≤ z → M0 3 p1 / pw (kf z) % 2 = 1)) := by
  refine ct_of (d := d + 0) (k := 1) (L := [some (R 2), some (I p1), some (I p2), none]) rfl rfl rfl ?_
  have hF0 := Fr.rf fm_m177_2v6 M0
  generalize hQ : (qI fun z M => Pw M ∧ Fr fm_m177_2v6 M0 M ∧ (-1) ≤ z ∧ z ≤ 5 ∧ (0 ≤ z → M0 3 p1 / pw (kf z) % 2 = 1)) = Q
  refine wk_il2 r177_0 (wk_c1 r177_1 (wk_iadd r177_2 (wk_is3 r177_3 rfl ?_)))
  have c4_21 : ∀ (k21 : Nat) (v1 : Int), (6 - v1).toNat = k21 → 1 ≤ v1 → v1 ≤ 6 → Wp B (d + 0) 177 4 [some (R 2), some (I p1), none, some (I v1)] [] M0 Q := by
    refine lp_ind ?_
    intro k21 ih21 v1 hk21 h2 h3
    refine wk_il3 r177_4 (wk_c2 r177_5 ?_)
    refine wk_icge r177_7 ⟨by omega, by omega⟩ (by decide) ?_ ?_
    · intro h4
      refine wk_c1 r177_36 ?_
      subst hQ; exact wk_iret r177_37 (⟨rfl, _, rfl, hP0, hF0, by omega, by omega, fun h => absurd h (by decide)⟩)
    · intro h5
      refine wk_al0 r177_10 (wk_getfr r177_11 fd_2_0 (br_2_0 hP0) (wk_il1 r177_14 (wk_ialdb r177_15 ar_3 ⟨by omega, by omega⟩ (fun q0 q1 => ba_3 hP0 q0 q1) ?_)))
      intro v6 h8 h9 e7
      refine wk_kget r177_16 (wk_il3 r177_19 (wk_kald r177_20 ⟨by omega, by omega⟩ ?_))
      intro v10 h11 h12 h13
      refine wk_shrb r177_21 ⟨by omega, by omega⟩ ⟨by omega, by omega⟩ ?_
      intro v14 h15 h16 h17
      refine wk_c1 r177_22 (wk_iandc 1 2 r177_23 ⟨rfl, by decide⟩ rfl (wk_c1 r177_24 ?_))
      refine wk_icne r177_25 ⟨by omega, by omega⟩ (by decide) ?_ ?_
      · intro h19
        refine wk_inc3 r177_30 rfl (wk_goto r177_33 ?_)
        exact wp_fg (le_s (le_s (le_s (le_s le_0)))) (ih21 (6 - (v1 + 1)).toNat (by omega) (v1 + 1) rfl (by omega) (by omega))
      · intro h20
        refine wk_il3 r177_28 ?_
        subst hQ; exact wk_iret r177_29 (⟨rfl, _, rfl, hP0, hF0, by omega, by omega, fun _ => by unfold kf; rw [e7, ← h13, ← h17]; omega⟩)
  exact wp_fg (le_s (le_s (le_n (le_s le_0)))) (c4_21 _ (p2 + 1) rfl (by omega) (by omega))
def fm_m10_14_2 : Nat := 1180591620717411303424
/-- IslandHall$Walk.stepPeople -/
theorem m10_14_2 {B : eB} (d : Nat) (M0 : Mm) (hP0 : Pw M0) (xp0 : WC M0) : Ct B (d + 2) 10 [R 14, R 2] M0 (qV fun M => Pw M ∧ Fr fm_m10_14_2 M0 M ∧ (WC M)) := by
  refine ct_of (d := d + 1) (k := 2) (L := [some (R 14), some (R 2), none, none]) rfl rfl rfl ?_
  have hF0 := Fr.rf fm_m10_14_2 M0
  generalize hQ : (qV fun M => Pw M ∧ Fr fm_m10_14_2 M0 M ∧ (WC M)) = Q
  refine wk_al1 r10_0 (wk_getfb r10_1 fd_2_1 (bf_2_1 hP0) ?_)
  intro v1 h3 h4 e2
  refine wk_c1 r10_4 (wk_isub r10_5 (wk_is2 r10_6 rfl ?_))
  have c7_45 : ∀ (k45 : Nat) (M8 : Mm) (v5 : Int), (v5 - (-2)).toNat = k45 → Pw M8 → Fr fm_m10_14_2 M0 M8 → M8 2 1 = v1 → (-2) ≤ v5 → v5 ≤ 6 → (WC M8) → Wp B (d + 1) 10 7 [some (R 14), some (R 2), some (I v5), none] [] M8 Q := by
    refine lp_ind ?_
    intro k45 ih45 M8 v5 hk45 hP9 hF10 e11 h6 h7 ti12
    refine wk_il2 r10_7 ?_
    refine wk_iflt r10_8 ⟨by omega, by omega⟩ ?_ ?_
    · intro h13
      subst hQ; exact wk_ret r10_54 (⟨rfl, hP9, hF10, ti12⟩)
    · intro h14
      refine wk_al1 r10_11 (wk_il2 r10_12 (wk_al0 r10_13 (wk_getfr r10_14 fd_14_0 (br_14_0 hP9) (wk_il2 r10_17 (wk_ialdb r10_18 ar_15 ⟨by omega, by omega⟩ (fun q0 q1 => ba_15 hP9 q0 q1) ?_)))))
      intro v15 h17 h18 e16
      refine wk_cv3 r10_19 kc_2_177 rfl (m177_2v6 _ M8 v5 v15 hP9 (by omega) (by omega) (by omega) (by omega)) (cqI ?_)
      rintro v24 M19 ⟨hP20, hQ21, h25, h26, xh23⟩
      obtain rfl := Fr.same hQ21
      refine wk_is3 r10_22 rfl (wk_il3 r10_23 (wk_c1 r10_24 ?_))
      refine wk_iceq r10_25 ⟨by omega, by omega⟩ (by decide) ?_ ?_
      · intro h27
        refine wk_al0 r10_36 (wk_getfr r10_37 fd_14_0 (br_14_0 hP9) (wk_il2 r10_40 (wk_al1 r10_41 (wk_il2 r10_42 (wk_c1 r10_43 (wk_cv3 r10_44 kc_2_177 rfl (m177_2v5 _ M8 v5 (-1) hP9 (by omega) (by omega) (by decide) (by decide)) (cqI ?_)))))))
        rintro v33 M28 ⟨hP29, hQ30, h34, h35, xh32⟩
        obtain rfl := Fr.same hQ30
        refine wk_iast r10_47 ar_15 ⟨by omega, by omega⟩ (wk_nw (ga_15 _) rfl hP9 hF10 (ua_15 ⟨by omega, by omega⟩) ?_)
        intro M36 hP37 hF38 e39
        refine wk_inc2 r10_48 rfl (wk_goto r10_51 ?_)
        exact wp_fg (le_s (le_s (le_s (le_n le_0)))) (ih45 ((v5 + (-1)) - (-2)).toNat (by omega) M36 (v5 + (-1)) rfl hP37 hF38 (mUp_no e39 e11 (Or.inl (by decide))) (by omega) (by omega) (WC_up e39 ti12 (xh32 (by omega))))
      · intro h40
        refine wk_al0 r10_28 (wk_getfr r10_29 fd_14_0 (br_14_0 hP9) (wk_il2 r10_32 (wk_il3 r10_33 (wk_iast r10_34 ar_15 ⟨by omega, by omega⟩ (wk_nw (ga_15 _) rfl hP9 hF10 (ua_15 ⟨by omega, by omega⟩) ?_)))))
        intro M41 hP42 hF43 e44
        subst hQ; exact wk_ret r10_35 (⟨rfl, hP42, hF43, WC_up e44 ti12 (xh23 (by omega))⟩)
  exact wp_fg (le_s (le_s (le_s (le_s le_0)))) (c7_45 _ M0 (v1 - 1) rfl hP0 hF0 e2 (by omega) (by omega) (xp0))
def fm_m9_14_2 : Nat := 2213609288845146193920
/-- IslandHall$Walk.step -/
theorem m9_14_2 {B : eB} (d : Nat) (M0 : Mm) (hP0 : Pw M0) (xp0 : WC M0) : Ct B (d + 3) 9 [R 14, R 2] M0 (qV fun M => Pw M ∧ Fr fm_m9_14_2 M0 M ∧ (WC M)) := by
  refine ct_of (d := d + 2) (k := 0) (L := [some (R 14), some (R 2)]) rfl rfl rfl ?_
  have hF0 := Fr.rf fm_m9_14_2 M0
  generalize hQ : (qV fun M => Pw M ∧ Fr fm_m9_14_2 M0 M ∧ (WC M)) = Q
  refine wk_al0 r9_0 (wk_getfb r9_1 fd_14_3 (bf_14_3 hP0) ?_)
  intro v1 h3 h4 e2
  refine wk_al1 r9_4 (wk_cv1 r9_5 kc_2_182 rfl (m182_2 _ M0 hP0) (cqI ?_))
  rintro v10 M5 ⟨hP6, hQ7, h11, h12, xh9⟩
  obtain rfl := Fr.same hQ7
  refine wk_icge r9_8 ⟨by omega, by omega⟩ ⟨by omega, by omega⟩ ?_ ?_
  · intro h13
    refine wk_al0 r9_22 (wk_c1 r9_23 (wk_putfi81 r9_24 fd_14_3 (wk_nw g_14_3 rfl hP0 hF0 (uf_14_3 (by decide)) ?_)))
    intro M14 hP15 hF16 e17
    refine wk_al0 r9_27 (wk_getfb r9_28 fd_14_2 (bf_14_2 hP15) ?_)
    intro v18 h20 h21 e19
    refine wk_al1 r9_31 (wk_cv1 r9_32 kc_2_181 rfl (m181_2 _ M14 hP15) (cqI ?_))
    rintro v27 M22 ⟨hP23, hQ24, h28, h29, xh26⟩
    obtain rfl := Fr.same hQ24
    refine wk_icge r9_35 ⟨by omega, by omega⟩ ⟨by omega, by omega⟩ ?_ ?_
    · intro h30
      refine wk_al0 r9_49 (wk_al1 r9_50 (wk_cv1 r9_51 kc_2_179 rfl (m179_2 _ M14 hP15) (cqI ?_)))
      rintro v36 M31 ⟨hP32, hQ33, h37, h38, xh35⟩
      obtain rfl := Fr.same hQ33
      refine wk_putfi81 r9_54 fd_14_2 (wk_nw g_14_2 rfl hP15 hF16 (uf_14_2 ⟨by omega, by omega⟩) ?_)
      intro M39 hP40 hF41 e42
      refine wk_al0 r9_57 (wk_getfb r9_58 fd_14_1 (bf_14_1 hP40) ?_)
      intro v43 h45 h46 e44
      refine wk_c1 r9_61 (wk_iadd r9_62 (wk_al1 r9_63 (wk_getfb r9_64 fd_2_2 (bf_2_2 hP40) ?_)))
      intro v47 h49 h50 e48
      refine wk_icge r9_67 ⟨by omega, by omega⟩ ⟨by omega, by omega⟩ ?_ ?_
      · intro h51
        refine wk_al0 r9_81 (wk_c1 r9_82 (wk_putfi81 r9_83 fd_14_1 (wk_nw g_14_1 rfl hP40 hF41 (uf_14_1 (by decide)) ?_)))
        intro M52 hP53 hF54 e55
        refine wk_al0 r9_86 (wk_al1 r9_87 (wk_cv2 r9_88 kc_14_10 rfl (m10_14_2 _ M52 hP53 ((WC_eq (by rw [e55, mUp_ne (Or.inl (by decide))]) (fun k => by rw [e55, mUp_ne (Or.inl (by decide))]) (fun k => by rw [e55, mUp_ne (Or.inl (by decide))]) (WC_eq (by rw [e42, mUp_ne (Or.inl (by decide))]) (fun k => by rw [e42, mUp_ne (Or.inl (by decide))]) (fun k => by rw [e42, mUp_ne (Or.inl (by decide))]) (WC_eq (by rw [e17, mUp_ne (Or.inl (by decide))]) (fun k => by rw [e17, mUp_ne (Or.inl (by decide))]) (fun k => by rw [e17, mUp_ne (Or.inl (by decide))]) xp0))))) (cqV ?_)))
        rintro M56 ⟨hP57, hQ58, xh60⟩
        have hF59 : Fr fm_m9_14_2 M0 M56 := hF54.tr hQ58 rfl
        subst hQ; exact wk_ret r9_91 (⟨rfl, hP57, hF59, xh60⟩)
      · intro h61
        refine wk_al0 r9_70 (wk_dupr r9_71 (wk_getfi r9_72 fd_14_1 e44 (wk_c1 r9_75 (wk_iadd r9_76 (wk_putfi81 r9_77 fd_14_1 (wk_nw g_14_1 rfl hP40 hF41 (uf_14_1 ⟨by omega, by omega⟩) ?_))))))
        intro M62 hP63 hF64 e65
        subst hQ; exact wk_ret r9_80 (⟨rfl, hP63, hF64, (WC_eq (by rw [e65, mUp_ne (Or.inl (by decide))]) (fun k => by rw [e65, mUp_ne (Or.inl (by decide))]) (fun k => by rw [e65, mUp_ne (Or.inl (by decide))]) (WC_eq (by rw [e42, mUp_ne (Or.inl (by decide))]) (fun k => by rw [e42, mUp_ne (Or.inl (by decide))]) (fun k => by rw [e42, mUp_ne (Or.inl (by decide))]) (WC_eq (by rw [e17, mUp_ne (Or.inl (by decide))]) (fun k => by rw [e17, mUp_ne (Or.inl (by decide))]) (fun k => by rw [e17, mUp_ne (Or.inl (by decide))]) xp0)))⟩)
    · intro h66
      refine wk_al0 r9_38 (wk_dupr r9_39 (wk_getfi r9_40 fd_14_2 e19 (wk_c1 r9_43 (wk_iadd r9_44 (wk_putfi81 r9_45 fd_14_2 (wk_nw g_14_2 rfl hP15 hF16 (uf_14_2 ⟨by omega, by omega⟩) ?_))))))
      intro M67 hP68 hF69 e70
      subst hQ; exact wk_ret r9_48 (⟨rfl, hP68, hF69, (WC_eq (by rw [e70, mUp_ne (Or.inl (by decide))]) (fun k => by rw [e70, mUp_ne (Or.inl (by decide))]) (fun k => by rw [e70, mUp_ne (Or.inl (by decide))]) (WC_eq (by rw [e17, mUp_ne (Or.inl (by decide))]) (fun k => by rw [e17, mUp_ne (Or.inl (by decide))]) (fun k => by rw [e17, mUp_ne (Or.inl (by decide))]) xp0))⟩)
  · intro h71
    refine wk_al0 r9_11 (wk_dupr r9_12 (wk_getfi r9_13 fd_14_3 e2 (wk_c1 r9_16 (wk_iadd r9_17 (wk_putfi81 r9_18 fd_14_3 (wk_nw g_14_3 rfl hP0 hF0 (uf_14_3 ⟨by omega, by omega⟩) ?_))))))
    intro M72 hP73 hF74 e75
    subst hQ; exact wk_ret r9_21 (⟨rfl, hP73, hF74, (WC_eq (by rw [e75, mUp_ne (Or.inl (by decide))]) (fun k => by rw [e75, mUp_ne (Or.inl (by decide))]) (fun k => by rw [e75, mUp_ne (Or.inl (by decide))]) xp0)⟩)
def fm_m205_10_2 : Nat := 35324938440401487921152
/-- IslandHall$Realm.settle -/
theorem m205_10_2 {B : eB} (d : Nat) (M0 : Mm) (hP0 : Pw M0) (xp0 : SZk M0 2 3 ≤ 3000) : Ct B (d + 6) 205 [R 10, R 2] M0 (qV fun M => Pw M ∧ Fr fm_m205_10_2 M0 M) := by
  refine ct_of (d := d + 5) (k := 2) (L := [some (R 10), some (R 2), none, none]) rfl rfl rfl ?_
  have hF0 := Fr.rf fm_m205_10_2 M0
  generalize hQ : (qV fun M => Pw M ∧ Fr fm_m205_10_2 M0 M) = Q
  refine wk_al0 r205_0 (wk_al1 r205_1 (wk_getfb r205_2 fd_2_1 (bf_2_1 hP0) ?_))
  intro v1 h3 h4 e2
  refine wk_al1 r205_5 (wk_getfb r205_6 fd_2_4 (bf_2_4 hP0) ?_)
  intro v5 h7 h8 e6
  refine wk_cv3 r205_9 kc_10_187 rfl (m187_10 _ M0 v1 v5 hP0 (by omega) (by omega) (by omega) (by omega)) (cqV ?_)
  rintro M9 ⟨hP10, hQ11, h13⟩
  have hF12 : Fr fm_m205_10_2 M0 M9 := hF0.tr hQ11 rfl
  obtain ⟨v14, e15⟩ : ∃ v, M9 10 9 = v := ⟨_, rfl⟩
  have h16 := bf_10_9 hP10; rw [e15] at h16
  refine wk_al0 r205_12 (wk_getfr r205_13 fd_10_6 (br_10_6 hP10) (wk_al1 r205_16 (wk_cv2 r205_17 kc_14_5 rfl (m5_14_2 _ M9 hP10) (cqV ?_))))
  rintro M17 ⟨hP18, hQ19, xh21⟩
  have hF20 : Fr fm_m205_10_2 M0 M17 := hF12.tr hQ19 rfl
  have wc0 := xh21
  refine wk_al1 r205_20 (wk_cv1 r205_21 kc_2_184 rfl (m184_2 _ M17 hP18) (cqI ?_))
  rintro v27 M22 ⟨hP23, hQ24, h28, h29, xh26⟩
  obtain rfl := Fr.same hQ24
  have pbk : 1 ≤ v27 → PBok M17 := fun h => PBok_of (fun k a b => ba_3 hP18 a b) (bf_2_1 hP18).2 xh26 h (by rw [xh26, SZk_eq (M := M0) (pl_fr hF20 rfl rfl rfl rfl rfl rfl) (fun k _ _ => hF20.at (ga_3 k) rfl) (bf_2_1 hP0).2]; exact xp0)
  refine wk_al0 r205_24 (wk_getfr r205_25 fd_10_1 (br_10_1 hP18) (wk_alen r205_28 ar_136 (by decide) (wk_min r205_29 ⟨by omega, by omega⟩ (by decide) rfl ?_)))
  intro v30 h31 h32 h33
  refine wk_is2 r205_32 rfl (wk_c1 r205_33 (wk_is3 r205_34 rfl ?_))
  have c35_478 : ∀ (k478 : Nat) (M435 : Mm) (v432 : Int) (v438 : Int), (3000 - v432).toNat = k478 → Pw M435 → Fr fm_m205_10_2 M0 M435 → M435 10 9 = v438 → M435 2 1 = v1 → M435 2 4 = v5 → 0 ≤ v432 → v432 ≤ 3000 → 0 ≤ v438 → v438 ≤ 3000 → 0 ≤ (-1) * v432 + v438 + 0 → 0 ≤ (-1) * v438 + v432 + 0 → (WC M435) → (1 ≤ v30 → PBok M435) → Wp B (d + 5) 205 35 [some (R 10), some (R 2), some (I v30), some (I v432)] [] M435 Q := by
    refine lp_ind ?_
    intro k478 ih478 M435 v432 v438 hk478 hP436 hF437 e441 e442 e443 h433 h434 h439 h440 h444 h445 ti446 ti447
    refine wk_il3 r205_35 (wk_il2 r205_36 ?_)
    refine wk_icge r205_37 ⟨by omega, by omega⟩ ⟨by omega, by omega⟩ ?_ ?_
    · intro h448
      subst hQ; exact wk_ret r205_73 (⟨rfl, hP436, hF437⟩)
    · intro h449
      refine wk_al0 r205_40 (wk_al0 r205_41 (wk_getfr r205_42 fd_10_6 (br_10_6 hP436) (wk_cv1 r205_45 kc_14_7 rfl (m7_14 _ M435 hP436) (cqI ?_))))
      rintro v454 M450 ⟨hP451, hQ452, h455, h456⟩
      obtain rfl := Fr.same hQ452
      refine wk_al0 r205_48 (wk_getfr r205_49 fd_10_6 (br_10_6 hP436) (wk_al1 r205_52 (wk_cv2 r205_53 kc_14_8 rfl (m8_14_2 _ M435 hP436 (ti446) (ti447 (by omega))) (cqI ?_))))
      rintro v461 M457 ⟨hP458, hQ459, h462, h463⟩
      obtain rfl := Fr.same hQ459
      refine wk_cv3 r205_56 kc_10_202 rfl (m202_10 _ M435 v454 v461 v438 hP436 (by omega) (by omega) (by omega) (by omega) e441 (by omega) (by omega)) (cqV ?_)
      rintro M464 ⟨hP465, hQ466, h468, h469⟩
      have hF467 : Fr fm_m205_10_2 M0 M464 := hF437.tr hQ466 rfl
      obtain ⟨v470, e471⟩ : ∃ v, M464 10 9 = v := ⟨_, rfl⟩
      have h472 := bf_10_9 hP465; rw [e471] at h472
      refine wk_al0 r205_59 (wk_getfr r205_60 fd_10_6 (br_10_6 hP465) (wk_al1 r205_63 (wk_cv2 r205_64 kc_14_9 rfl (m9_14_2 _ M464 hP465 ((WC_eq (hQ466.at g_2_1 rfl) (fun k => hQ466.at (ga_3 k) rfl) (fun k => hQ466.at (ga_15 k) rfl) ti446))) (cqV ?_))))
      rintro M473 ⟨hP474, hQ475, xh477⟩
      have hF476 : Fr fm_m205_10_2 M0 M473 := hF467.tr hQ475 rfl
      refine wk_inc3 r205_67 rfl (wk_goto r205_70 ?_)
      exact wp_fg (le_s (le_s (le_s (le_s le_0)))) (ih478 (3000 - (v432 + 1)).toNat (by omega) M473 (v432 + 1) v470 rfl hP474 hF476 ((hQ475.at g_10_9 rfl).trans e471) ((hQ475.at g_2_1 rfl).trans ((hQ466.at g_2_1 rfl).trans e442)) ((hQ475.at g_2_4 rfl).trans ((hQ466.at g_2_4 rfl).trans e443)) (by omega) (by omega) (by omega) (by omega) (by omega) (by omega) (xh477) (fun h => (PBok_eq (hQ475.at g_2_1 rfl) (fun k => hQ475.at (ga_3 k) rfl) (PBok_eq (hQ466.at g_2_1 rfl) (fun k => hQ466.at (ga_3 k) rfl) (ti447 h)))))
  exact wp_fg (le_s (le_s (le_s (le_s le_0)))) (c35_478 _ M17 0 v14 rfl hP18 hF20 ((hQ19.at g_10_9 rfl).trans e15) ((hQ19.at g_2_1 rfl).trans ((hQ11.at g_2_1 rfl).trans e2)) ((hQ19.at g_2_4 rfl).trans ((hQ11.at g_2_4 rfl).trans e6)) (by omega) (by omega) (by omega) (by omega) (by omega) (by omega) (wc0) (fun h => pbk (by omega)))
def fm_m190_10 : Nat := 0
/-- IslandHall$Realm.freeRow -/
theorem m190_10 {B : eB} (d : Nat) (M0 : Mm) (p1 : Int) (hP0 : Pw M0) (l1 : 0 ≤ p1) (u1 : p1 ≤ 6) : Ct B (d + 1) 190 [R 10, I p1] M0 (qR fun z M => Pw M ∧ Fr fm_m190_10 M0 M ∧ 21 ≤ z ∧ z ≤ 51) := by
  refine ct_of (d := d + 0) (k := 0) (L := [some (R 10), some (I p1)]) rfl rfl rfl ?_
  have hF0 := Fr.rf fm_m190_10 M0
  generalize hQ : (qR fun z M => Pw M ∧ Fr fm_m190_10 M0 M ∧ 21 ≤ z ∧ z ≤ 51) = Q
  refine wk_al0 r190_0 (wk_getfr r190_1 fd_10_0 (br_10_0 hP0) (wk_c1 r190_4 (wk_il1 r190_5 (wk_c1 r190_6 (wk_imul r190_7 (wk_iadd r190_8 (wk_c1 r190_9 (wk_iadd r190_10 (wk_raldb r190_11 ar_16 ⟨by omega, by omega⟩ (fun q0 q1 => ba_16 hP0 q0 q1) ?_)))))))))
  subst hQ; exact wk_aret r190_12 (⟨rfl, _, rfl, hP0, hF0, by omega, by omega⟩)
def fm_m208_10 : Nat := 0
/-- IslandHall$Realm.yesRow -/
theorem m208_10 {B : eB} (d : Nat) (M0 : Mm) (p1 : Int) (hP0 : Pw M0) (l1 : (-1) ≤ p1) (u1 : p1 ≤ (-1)) : Ct B (d + 1) 208 [R 10, I p1] M0 (qR fun z M => Pw M ∧ Fr fm_m208_10 M0 M ∧ 135 ≤ z ∧ z ≤ 135) := by
  refine ct_of (d := d + 0) (k := 0) (L := [some (R 10), some (I p1)]) rfl rfl rfl ?_
  have hF0 := Fr.rf fm_m208_10 M0
  generalize hQ : (qR fun z M => Pw M ∧ Fr fm_m208_10 M0 M ∧ 135 ≤ z ∧ z ≤ 135) = Q
  refine wk_al0 r208_0 (wk_getfr r208_1 fd_10_0 (br_10_0 hP0) (wk_il1 r208_4 (wk_c1 r208_5 ?_)))
  refine wk_icne r208_6 ⟨by omega, by omega⟩ (by decide) ?_ ?_
  · intro h1
    exfalso
    omega
  · intro h2
    refine wk_c2 r208_9 (wk_goto r208_11 (wk_raldb r208_18 ar_16 (by decide) (fun q0 q1 => ba_16 hP0 q0 q1) ?_))
    subst hQ; exact wk_aret r208_19 (⟨rfl, _, rfl, hP0, hF0, by omega, by omega⟩)
def fm_m193_10 : Nat := 0
/-- IslandHall$Realm.honestRow -/
theorem m193_10 {B : eB} (d : Nat) (M0 : Mm) (p1 : Int) (hP0 : Pw M0) (l1 : 0 ≤ p1) (u1 : p1 ≤ 6) : Ct B (d + 1) 193 [R 10, I p1] M0 (qR fun z M => Pw M ∧ Fr fm_m193_10 M0 M ∧ 105 ≤ z ∧ z ≤ 118) := by
  refine ct_of (d := d + 0) (k := 0) (L := [some (R 10), some (I p1)]) rfl rfl rfl ?_
  have hF0 := Fr.rf fm_m193_10 M0
  generalize hQ : (qR fun z M => Pw M ∧ Fr fm_m193_10 M0 M ∧ 105 ≤ z ∧ z ≤ 118) = Q
  refine wk_al0 r193_0 (wk_getfr r193_1 fd_10_0 (br_10_0 hP0) (wk_c2 r193_4 (wk_c1 r193_6 (wk_il1 r193_7 (wk_imul r193_8 (wk_iadd r193_9 (wk_al0 r193_10 (wk_getfr r193_11 fd_10_3 (br_10_3 hP0) (wk_il1 r193_14 (wk_ialdb r193_15 ar_11 ⟨by omega, by omega⟩ (fun q0 q1 => ba_11 hP0 q0 q1) ?_))))))))))
  intro v1 h3 h4 e2
  refine wk_iadd r193_16 (wk_raldb r193_17 ar_16 ⟨by omega, by omega⟩ (fun q0 q1 => ba_16 hP0 q0 q1) ?_)
  subst hQ; exact wk_aret r193_18 (⟨rfl, _, rfl, hP0, hF0, by omega, by omega⟩)
def fm_m185_10v8 : Nat := 0
/-- IslandHall$Realm.alike -/
theorem m185_10v8 {B : eB} (d : Nat) (M0 : Mm) (p1 : Int) (p2 : Int) (hP0 : Pw M0) (l1 : 0 ≤ p1) (u1 : p1 ≤ 54) (l2 : 0 ≤ p2) (u2 : p2 ≤ 46) (xp0 : p1 % 8 ≤ 6) : Ct B (d + 1) 185 [R 10, I p1, I p2] M0 (qL fun z M => Pw M ∧ Fr fm_m185_10v8 M0 M ∧ z < 18446744073709551616) := by
  refine ct_of (d := d + 0) (k := 5) (L := [some (R 10), some (I p1), some (I p2), none, none, none, none, none]) rfl rfl rfl ?_
  have hF0 := Fr.rf fm_m185_10v8 M0
  generalize hQ : (qL fun z M => Pw M ∧ Fr fm_m185_10v8 M0 M ∧ z < 18446744073709551616) = Q
  refine wk_c1 r185_0 (wk_il1 r185_1 (wk_c1 r185_2 (wk_ishrc r185_3 ⟨by omega, by omega⟩ (by decide) pwl_3 (wk_c1 r185_4 (wk_imul r185_5 (wk_iadd r185_6 (wk_is3 r185_7 rfl (wk_c1 r185_8 (wk_il1 r185_9 (wk_c2 r185_10 (wk_iandc 3 8 r185_12 ⟨rfl, by decide⟩ rfl (wk_c1 r185_13 (wk_imul r185_14 (wk_iadd r185_15 (wk_is4 r185_16 rfl (wk_c6 r185_18 (wk_ls5 r185_19 rfl (wk_c1 r185_21 (wk_is7 r185_22 rfl ?_)))))))))))))))))))
  have c24_170 : ∀ (k170 : Nat) (n146 : Nat) (v148 : Int), (5 - v148).toNat = k170 → n146 < 18446744073709551616 → 0 ≤ v148 → v148 ≤ 5 → Wp B (d + 0) 185 24 [some (R 10), none, some (I p2), some (I (0 + ((p1 / 8) * 5))), some (I (0 + ((p1 % 8) * 5))), some (J n146), none, some (I v148)] [] M0 Q := by
    refine lp_ind ?_
    intro k170 ih170 n146 v148 hk170 h147 h149 h150
    refine wk_il7 r185_24 (wk_c1 r185_26 ?_)
    refine wk_icge r185_27 ⟨by omega, by omega⟩ (by decide) ?_ ?_
    · intro h151
      refine wk_ll5 r185_65 ?_
      subst hQ; exact wk_lret r185_67 (⟨rfl, _, rfl, hP0, hF0, by omega⟩)
    · intro h152
      refine wk_ll5 r185_30 (wk_al0 r185_32 (wk_getfr r185_33 fd_10_0 (br_10_0 hP0) (wk_il3 r185_36 (wk_il7 r185_37 (wk_iadd r185_39 (wk_raldb r185_40 ar_16 ⟨by omega, by omega⟩ (fun q0 q1 => ba_16 hP0 q0 q1) (wk_il2 r185_41 (wk_laldb r185_42 (arF_17 (by omega) (by omega)) ⟨by omega, by omega⟩ (fun q0 q1 => baF_17 hP0 (by omega) (by omega) q0 q1) (by decide) ?_))))))))
      intro n153 h155 h156 e154
      refine wk_al0 r185_43 (wk_getfr r185_44 fd_10_0 (br_10_0 hP0) (wk_il4 r185_47 (wk_il7 r185_49 (wk_iadd r185_51 (wk_raldb r185_52 ar_16 ⟨by omega, by omega⟩ (fun q0 q1 => ba_16 hP0 q0 q1) (wk_il2 r185_53 (wk_laldb r185_54 (arF_17 (by omega) (by omega)) ⟨by omega, by omega⟩ (fun q0 q1 => baF_17 hP0 (by omega) (by omega) q0 q1) (by decide) ?_)))))))
      intro n157 h159 h160 e158
      refine wk_land r185_55 ?_
      intro n161 h162 h163 h164 h165
      refine wk_lorb r185_56 ?_
      intro n166 h167 h168 h169
      refine wk_ls5 r185_57 rfl (wk_inc7 r185_59 rfl (wk_goto r185_62 ?_))
      exact wp_fg (le_s (le_s (le_s (le_s (le_s (le_s (le_s (le_s le_0)))))))) (ih170 (5 - (v148 + 1)).toNat (by omega) n166 (v148 + 1) rfl (by omega) (by omega) (by omega))
  exact wp_fg (le_s (le_n (le_s (le_s (le_s (le_s (le_s (le_s le_0)))))))) (c24_170 _ 0 0 rfl (by omega) (by omega) (by omega))
def fm_m198_10v8 : Nat := 0
/-- IslandHall$Realm.many -/
theorem m198_10v8 {B : eB} (d : Nat) (M0 : Mm) (p1 : Int) (p2 : Int) (hP0 : Pw M0) (l1 : 0 ≤ p1) (u1 : p1 ≤ 1279) (l2 : 0 ≤ p2) (u2 : p2 ≤ 46) : Ct B (d + 1) 198 [R 10, I p1, I p2] M0 (qL fun z M => Pw M ∧ Fr fm_m198_10v8 M0 M ∧ z < 18446744073709551616) := by
  refine ct_of (d := d + 0) (k := 4) (L := [some (R 10), some (I p1), some (I p2), none, none, none, none]) rfl rfl rfl ?_
  have hF0 := Fr.rf fm_m198_10v8 M0
  generalize hQ : (qL fun z M => Pw M ∧ Fr fm_m198_10v8 M0 M ∧ z < 18446744073709551616) = Q
  refine wk_c2 r198_0 (wk_il1 r198_2 (wk_c2 r198_3 (wk_ishrc r198_5 ⟨by omega, by omega⟩ (by decide) pwl_8 (wk_c2 r198_6 (wk_imul r198_8 (wk_iadd r198_9 (wk_is3 r198_10 rfl (wk_c6 r198_11 (wk_ls4 r198_12 rfl (wk_c1 r198_14 (wk_is6 r198_15 rfl ?_)))))))))))
  have c17_178 : ∀ (k178 : Nat) (n156 : Nat) (v158 : Int), (8 - v158).toNat = k178 → n156 < 18446744073709551616 → 0 ≤ v158 → v158 ≤ 8 → Wp B (d + 0) 198 17 [some (R 10), some (I p1), some (I p2), some (I (48 + ((p1 / 256) * 8))), some (J n156), none, some (I v158)] [] M0 Q := by
    refine lp_ind ?_
    intro k178 ih178 n156 v158 hk178 h157 h159 h160
    refine wk_il6 r198_17 (wk_c2 r198_19 ?_)
    refine wk_icgt r198_21 ⟨by omega, by omega⟩ (by decide) ?_ ?_
    · intro h161
      refine wk_ll4 r198_56 ?_
      subst hQ; exact wk_lret r198_58 (⟨rfl, _, rfl, hP0, hF0, by omega⟩)
    · intro h162
      refine wk_il1 r198_24 (wk_il6 r198_25 (wk_shrb r198_27 ⟨by omega, by omega⟩ ⟨by omega, by omega⟩ ?_))
      intro v163 h164 h165 h166
      refine wk_c1 r198_28 (wk_iandc 1 2 r198_29 ⟨rfl, by decide⟩ rfl (wk_c1 r198_30 ?_))
      refine wk_icne r198_31 ⟨by omega, by omega⟩ (by decide) ?_ ?_
      · intro h168
        refine wk_inc6 r198_50 rfl (wk_goto r198_53 ?_)
        exact wp_fg (le_s (le_s (le_s (le_s (le_s (le_s (le_s le_0))))))) (ih178 (8 - (v158 + 1)).toNat (by omega) n156 (v158 + 1) rfl (by omega) (by omega) (by omega))
      · intro h169
        refine wk_ll4 r198_34 (wk_al0 r198_36 (wk_getfr r198_37 fd_10_0 (br_10_0 hP0) (wk_il3 r198_40 (wk_il6 r198_41 (wk_iadd r198_43 (wk_raldb r198_44 ar_16 ⟨by omega, by omega⟩ (fun q0 q1 => ba_16 hP0 q0 q1) (wk_il2 r198_45 (wk_laldb r198_46 (arF_17 (by omega) (by omega)) ⟨by omega, by omega⟩ (fun q0 q1 => baF_17 hP0 (by omega) (by omega) q0 q1) (by decide) ?_))))))))
        intro n170 h172 h173 e171
        refine wk_lorb r198_47 ?_
        intro n174 h175 h176 h177
        refine wk_ls4 r198_48 rfl (wk_inc6 r198_50 rfl (wk_goto r198_53 ?_))
        exact wp_fg (le_s (le_s (le_s (le_s (le_s (le_s (le_s le_0))))))) (ih178 (8 - (v158 + 1)).toNat (by omega) n174 (v158 + 1) rfl (by omega) (by omega) (by omega))
  exact wp_fg (le_s (le_s (le_s (le_s (le_s (le_s (le_s le_0))))))) (c17_178 _ 0 0 rfl (by omega) (by omega) (by omega))
def fm_m189_10v8 : Nat := 0
/-- IslandHall$Realm.fits -/
theorem m189_10v8 {B : eB} (d : Nat) (M0 : Mm) (p1 : Int) (p2 : Int) (p3 : Nat) (p4 : Int) (hP0 : Pw M0) (l1 : 0 ≤ p1) (u1 : p1 ≤ 6) (l2 : (-1) ≤ p2) (u2 : p2 ≤ (-1)) (l3 : p3 < 18446744073709551616) (l4 : 0 ≤ p4) (u4 : p4 ≤ 46) : Ct B (d + 2) 189 [R 10, I p1, I p2, J p3, I p4] M0 (qL fun z M => Pw M ∧ Fr fm_m189_10v8 M0 M ∧ z < 18446744073709551616) := by
  refine ct_of (d := d + 1) (k := 0) (L := [some (R 10), some (I p1), some (I p2), some (J p3), none, some (I p4)]) rfl rfl rfl ?_
  have hF0 := Fr.rf fm_m189_10v8 M0
  generalize hQ : (qL fun z M => Pw M ∧ Fr fm_m189_10v8 M0 M ∧ z < 18446744073709551616) = Q
  refine wk_al0 r189_0 (wk_il1 r189_1 (wk_cv2 r189_2 kc_10_190 rfl (m190_10 _ M0 p1 hP0 (by omega) (by omega)) (cqR ?_)))
  rintro v5 M1 ⟨hP2, hQ3, h6, h7⟩
  obtain rfl := Fr.same hQ3
  refine wk_il5 r189_5 (wk_laldb r189_7 (arF_17 (by omega) (by omega)) ⟨by omega, by omega⟩ (fun q0 q1 => baF_17 hP0 (by omega) (by omega) q0 q1) (by decide) ?_)
  intro n8 h10 h11 e9
  refine wk_al0 r189_8 (wk_il2 r189_9 (wk_cv2 r189_10 kc_10_208 rfl (m208_10 _ M0 p2 hP0 (by omega) (by omega)) (cqR ?_)))
  rintro v16 M12 ⟨hP13, hQ14, h17, h18⟩
  obtain rfl : v16 = 135 := by omega
  obtain rfl := Fr.same hQ14
  refine wk_il5 r189_13 (wk_laldb r189_15 ar_135 ⟨by omega, by omega⟩ (fun q0 q1 => ba_135 hP0 q0 q1) (by decide) ?_)
  intro n19 h21 h22 e20
  refine wk_ll3 r189_16 (wk_lxor r189_17 ?_)
  intro n23 h24 h25
  refine wk_al0 r189_18 (wk_il1 r189_19 (wk_cv2 r189_20 kc_10_193 rfl (m193_10 _ M0 p1 hP0 (by omega) (by omega)) (cqR ?_)))
  rintro v30 M26 ⟨hP27, hQ28, h31, h32⟩
  obtain rfl := Fr.same hQ28
  refine wk_il5 r189_23 (wk_laldb r189_25 (arF_17 (by omega) (by omega)) ⟨by omega, by omega⟩ (fun q0 q1 => baF_17 hP0 (by omega) (by omega) q0 q1) (by decide) ?_)
  intro n33 h35 h36 e34
  refine wk_lxor r189_26 ?_
  intro n37 h38 h39
  refine wk_lorb r189_27 ?_
  intro n40 h41 h42 h43
  subst hQ; exact wk_lret r189_28 (⟨rfl, _, rfl, hP0, hF0, by omega⟩)
def fm_m207_10v8 : Nat := 18446744073709551616
/-- IslandHall$Realm.truth -/
theorem m207_10v8 {B : eB} (d : Nat) (M0 : Mm) (c1 : Int) (p2 : Int) (hP0 : Pw M0) (hC1 : isC c1) (l2 : 0 ≤ p2) (u2 : p2 ≤ 46) : Ct B (d + 3) 207 [R 10, R c1, I p2] M0 (qL fun z M => Pw M ∧ Fr fm_m207_10v8 M0 M ∧ z < 18446744073709551616) := by
  refine ct_of (d := d + 2) (k := 7) (L := [some (R 10), some (R c1), some (I p2), none, none, none, none, none, none, none]) rfl rfl rfl ?_
  have hF0 := Fr.rf fm_m207_10v8 M0
  generalize hQ : (qL fun z M => Pw M ∧ Fr fm_m207_10v8 M0 M ∧ z < 18446744073709551616) = Q
  refine wk_c1 r207_0 (wk_is3 r207_1 rfl (wk_c1 r207_2 (wk_is4 r207_3 rfl ?_)))
  have c5_1600 : ∀ (k1600 : Nat) (M1434 : Mm) (v1428 : Int) (v1431 : Int), (256 - v1431).toNat = k1600 → Pw M1434 → Fr fm_m207_10v8 M0 M1434 → 0 ≤ v1428 → v1428 ≤ 31 → 0 ≤ v1431 → v1431 ≤ 256 → 0 ≤ (-1) * v1428 + v1431 + 0 → Wp B (d + 2) 207 5 [some (R 10), some (R c1), some (I p2), some (I v1428), some (I v1431), none, none, none, none, none] [] M1434 Q := by
    refine lp_ind ?_
    intro k1600 ih1600 M1434 v1428 v1431 hk1600 hP1435 hF1436 h1429 h1430 h1432 h1433 h1437
    refine wk_il4 r207_5 (wk_al1 r207_7 (wk_getfb r207_8 (fdC_1 hC1) (bC_1 hP1435 hC1) ?_))
    intro v1438 h1440 h1441 e1439
    refine wk_icge r207_11 ⟨by omega, by omega⟩ ⟨by omega, by omega⟩ ?_ ?_
    · intro h1442
      refine wk_al0 r207_255 (wk_getfr r207_256 fd_10_4 (br_10_4 hP1435) (wk_c1 r207_259 (wk_laldb r207_260 ar_12 (by decide) (fun q0 q1 => ba_12 hP1435 q0 q1) (by decide) ?_)))
      intro n1443 h1445 h1446 e1444
      subst hQ; exact wk_lret r207_261 (⟨rfl, _, rfl, hP1435, hF1436, by omega⟩)
    · intro h1447
      refine wk_il3 r207_14 (wk_c1 r207_15 (wk_iadd r207_16 (wk_c2 r207_17 ?_)))
      refine wk_icge r207_19 ⟨by omega, by omega⟩ (by decide) ?_ ?_
      · intro h1448
        refine wk_al0 r207_255 (wk_getfr r207_256 fd_10_4 (br_10_4 hP1435) (wk_c1 r207_259 (wk_laldb r207_260 ar_12 (by decide) (fun q0 q1 => ba_12 hP1435 q0 q1) (by decide) ?_)))
        intro n1449 h1451 h1452 e1450
        subst hQ; exact wk_lret r207_261 (⟨rfl, _, rfl, hP1435, hF1436, by omega⟩)
      · intro h1453
        refine wk_al1 r207_22 (wk_getfr r207_23 (fdC_0 hC1) (bC_0 hP1435 hC1) (wk_il4 r207_26 (wk_ialdb r207_28 (arC hC1) ⟨by omega, by omega⟩ (fun q0 q1 => baC hP1435 hC1 q0 q1) ?_)))
        intro v1454 h1456 h1457 e1455
        have h1458 := exC hP1435 hC1 (i := v1431) (by omega) (by omega); rw [e1455] at h1458; unfold stepok at h1458
        refine wk_c1 r207_29 (wk_ishrc r207_30 ⟨by omega, by omega⟩ (by decide) pwl_3 (wk_is5 r207_31 rfl (wk_al1 r207_33 (wk_getfr r207_34 (fdC_0 hC1) (bC_0 hP1435 hC1) (wk_il4 r207_37 (wk_iald r207_39 (arC hC1) ⟨by omega, by omega⟩ e1455 (wk_c2 r207_40 (wk_iandc 3 8 r207_42 ⟨rfl, by decide⟩ rfl (wk_is6 r207_43 rfl (wk_il6 r207_45 (wk_c1 r207_47 ?_)))))))))))
        refine wk_iceq r207_48 ⟨by omega, by omega⟩ (by decide) ?_ ?_
        · intro h1461
          refine wk_c1 r207_57 (wk_goto r207_58 (wk_is7 r207_62 rfl (wk_il6 r207_64 ?_)))
          refine wk_ifeq r207_66 ⟨by omega, by omega⟩ ?_ ?_
          · intro h1462
            exfalso
            omega
          · intro h1463
            refine wk_il6 r207_69 (wk_c1 r207_71 ?_)
            refine wk_iceq r207_72 ⟨by omega, by omega⟩ (by decide) ?_ ?_
            · intro h1464
              exfalso
              omega
            · intro h1465
              refine wk_il6 r207_75 (wk_c2 r207_77 ?_)
              refine wk_icne r207_79 ⟨by omega, by omega⟩ (by decide) ?_ ?_
              · intro h1466
                refine wk_il7 r207_134 ?_
                refine wk_ifeq r207_136 (by decide) ?_ ?_
                · intro h1467
                  exfalso
                  omega
                · intro h1468
                  refine wk_il3 r207_139 (wk_c1 r207_140 ?_)
                  refine wk_icle r207_141 ⟨by omega, by omega⟩ (by decide) ?_ ?_
                  · intro h1469
                    refine wk_il7 r207_197 ?_
                    refine wk_ifne r207_199 (by decide) ?_ ?_
                    · intro h1470
                      refine wk_inc4 r207_249 rfl (wk_goto r207_252 ?_)
                      exact wp_fg (le_s (le_s (le_s (le_s (le_s (le_n (le_n (le_n (le_s (le_s le_0)))))))))) (ih1600 (256 - (v1431 + 1)).toNat (by omega) M1434 v1428 (v1431 + 1) rfl hP1435 hF1436 (by omega) (by omega) (by omega) (by omega) (by omega))
                    · intro h1471
                      exfalso
                      omega
                  · intro h1472
                    refine wk_inc3 r207_144 rfl (wk_al0 r207_147 (wk_getfr r207_148 fd_10_4 (br_10_4 hP1435) (wk_il3 r207_151 (wk_laldb r207_152 ar_12 ⟨by omega, by omega⟩ (fun q0 q1 => ba_12 hP1435 q0 q1) (by decide) ?_))))
                    intro n1473 h1475 h1476 e1474
                    refine wk_ls8 r207_153 rfl (wk_al0 r207_155 (wk_getfr r207_156 fd_10_4 (br_10_4 hP1435) (wk_il3 r207_159 (wk_c1 r207_160 (wk_isub r207_161 (wk_il6 r207_162 (wk_c1 r207_164 ?_)))))))
                    refine wk_icne r207_165 ⟨by omega, by omega⟩ (by decide) ?_ ?_
                    · intro h1477
                      exfalso
                      omega
                    · intro h1478
                      refine wk_al0 r207_168 (wk_getfr r207_169 fd_10_4 (br_10_4 hP1435) (wk_il3 r207_172 (wk_c1 r207_173 (wk_isub r207_174 (wk_laldb r207_175 ar_12 ⟨by omega, by omega⟩ (fun q0 q1 => ba_12 hP1435 q0 q1) (by decide) ?_)))))
                      intro n1479 h1481 h1482 e1480
                      refine wk_ll8 r207_176 (wk_land r207_178 ?_)
                      intro n1483 h1484 h1485 h1486 h1487
                      refine wk_goto r207_179 (wk_last r207_193 ar_12 ⟨by omega, by omega⟩ (wk_nw (ga_12 _) rfl hP1435 hF1436 (ua_12 ⟨by omega, by omega⟩) ?_))
                      intro M1488 hP1489 hF1490 e1491
                      refine wk_goto r207_194 (wk_inc4 r207_249 rfl (wk_goto r207_252 ?_))
                      exact wp_fg (le_s (le_s (le_s (le_s (le_s (le_n (le_n (le_n (le_n (le_s le_0)))))))))) (ih1600 (256 - (v1431 + 1)).toNat (by omega) M1488 (v1428 + (-1)) (v1431 + 1) rfl hP1489 hF1490 (by omega) (by omega) (by omega) (by omega) (by omega))
              · intro h1492
                exfalso
                omega
        · intro h1493
          refine wk_il6 r207_51 (wk_c1 r207_53 ?_)
          refine wk_icne r207_54 ⟨by omega, by omega⟩ (by decide) ?_ ?_
          · intro h1494
            refine wk_c1 r207_61 (wk_is7 r207_62 rfl (wk_il6 r207_64 ?_))
            refine wk_ifeq r207_66 ⟨by omega, by omega⟩ ?_ ?_
            · intro h1495
              refine wk_al0 r207_82 (wk_getfr r207_83 fd_10_4 (br_10_4 hP1435) (wk_il3 r207_86 (wk_il6 r207_87 ?_)))
              refine wk_ifne r207_89 ⟨by omega, by omega⟩ ?_ ?_
              · intro h1496
                exfalso
                omega
              · intro h1497
                refine wk_al0 r207_92 (wk_getfr r207_93 fd_10_0 (br_10_0 hP1435) (wk_il5 r207_96 (wk_raldb r207_98 ar_16 ⟨by omega, by omega⟩ (fun q0 q1 => ba_16 hP1435 q0 q1) (wk_il2 r207_99 (wk_laldb r207_100 (arF_17 (by omega) (by omega)) ⟨by omega, by omega⟩ (fun q0 q1 => baF_17 hP1435 (by omega) (by omega) q0 q1) (by decide) ?_)))))
                intro n1498 h1500 h1501 e1499
                refine wk_goto r207_101 (wk_last r207_127 ar_12 ⟨by omega, by omega⟩ (wk_nw (ga_12 _) rfl hP1435 hF1436 (ua_12 ⟨by omega, by omega⟩) ?_))
                intro M1502 hP1503 hF1504 e1505
                refine wk_inc3 r207_128 rfl (wk_goto r207_131 (wk_inc4 r207_249 rfl (wk_goto r207_252 ?_)))
                exact wp_fg (le_s (le_s (le_s (le_s (le_s (le_n (le_n (le_n (le_s (le_s le_0)))))))))) (ih1600 (256 - (v1431 + 1)).toNat (by omega) M1502 (v1428 + 1) (v1431 + 1) rfl hP1503 hF1504 (by omega) (by omega) (by omega) (by omega) (by omega))
            · intro h1506
              refine wk_il6 r207_69 (wk_c1 r207_71 ?_)
              refine wk_iceq r207_72 ⟨by omega, by omega⟩ (by decide) ?_ ?_
              · intro h1507
                refine wk_al0 r207_82 (wk_getfr r207_83 fd_10_4 (br_10_4 hP1435) (wk_il3 r207_86 (wk_il6 r207_87 ?_)))
                refine wk_ifne r207_89 ⟨by omega, by omega⟩ ?_ ?_
                · intro h1508
                  refine wk_il6 r207_104 (wk_c1 r207_106 ?_)
                  refine wk_icne r207_107 ⟨by omega, by omega⟩ (by decide) ?_ ?_
                  · intro h1509
                    exfalso
                    omega
                  · intro h1510
                    refine wk_al0 r207_110 (wk_il5 r207_111 (wk_il2 r207_113 (wk_cv3 r207_114 kc_10_185 rfl (m185_10v8 _ M1434 (v1454 / 8) p2 hP1435 (by omega) (by omega) (by omega) (by omega) (by first | assumption | omega | (unfold stepok; omega))) (cqL ?_))))
                    rintro n1515 M1511 ⟨hP1512, hQ1513, h1516⟩
                    obtain rfl := Fr.same hQ1513
                    refine wk_goto r207_117 (wk_last r207_127 ar_12 ⟨by omega, by omega⟩ (wk_nw (ga_12 _) rfl hP1435 hF1436 (ua_12 ⟨by omega, by omega⟩) ?_))
                    intro M1517 hP1518 hF1519 e1520
                    refine wk_inc3 r207_128 rfl (wk_goto r207_131 (wk_inc4 r207_249 rfl (wk_goto r207_252 ?_)))
                    exact wp_fg (le_s (le_s (le_s (le_s (le_s (le_n (le_n (le_n (le_s (le_s le_0)))))))))) (ih1600 (256 - (v1431 + 1)).toNat (by omega) M1517 (v1428 + 1) (v1431 + 1) rfl hP1518 hF1519 (by omega) (by omega) (by omega) (by omega) (by omega))
                · intro h1521
                  exfalso
                  omega
              · intro h1522
                refine wk_il6 r207_75 (wk_c2 r207_77 ?_)
                refine wk_icne r207_79 ⟨by omega, by omega⟩ (by decide) ?_ ?_
                · intro h1523
                  refine wk_il7 r207_134 ?_
                  refine wk_ifeq r207_136 (by decide) ?_ ?_
                  · intro h1524
                    refine wk_il7 r207_197 ?_
                    refine wk_ifne r207_199 (by decide) ?_ ?_
                    · intro h1525
                      exfalso
                      omega
                    · intro h1526
                      refine wk_il3 r207_202 ?_
                      refine wk_ifle r207_203 ⟨by omega, by omega⟩ ?_ ?_
                      · intro h1527
                        refine wk_inc4 r207_249 rfl (wk_goto r207_252 ?_)
                        exact wp_fg (le_s (le_s (le_s (le_s (le_s (le_n (le_n (le_n (le_s (le_s le_0)))))))))) (ih1600 (256 - (v1431 + 1)).toNat (by omega) M1434 v1428 (v1431 + 1) rfl hP1435 hF1436 (by omega) (by omega) (by omega) (by omega) (by omega))
                      · intro h1528
                        refine wk_al0 r207_206 (wk_getfr r207_207 fd_10_4 (br_10_4 hP1435) (wk_il3 r207_210 (wk_c1 r207_211 (wk_isub r207_212 (wk_laldb r207_213 ar_12 ⟨by omega, by omega⟩ (fun q0 q1 => ba_12 hP1435 q0 q1) (by decide) ?_)))))
                        intro n1529 h1531 h1532 e1530
                        refine wk_ls8 r207_214 rfl (wk_al0 r207_216 (wk_getfr r207_217 fd_10_4 (br_10_4 hP1435) (wk_il3 r207_220 (wk_c1 r207_221 (wk_isub r207_222 (wk_il6 r207_223 (wk_c1 r207_225 ?_)))))))
                        refine wk_icne r207_226 ⟨by omega, by omega⟩ (by decide) ?_ ?_
                        · intro h1533
                          have h1534 : (v1454 / 8) ≤ 6 := by omega
                          refine wk_al0 r207_238 (wk_il5 r207_239 (wk_c1 r207_241 (wk_ll8 r207_242 (wk_il2 r207_244 (wk_cv5 r207_245 kc_10_189 rfl (m189_10v8 _ M1434 (v1454 / 8) (-1) n1529 p2 hP1435 (by omega) (by omega) (by decide) (by decide) (by omega) (by omega) (by omega)) (cqL ?_))))))
                          rintro n1539 M1535 ⟨hP1536, hQ1537, h1540⟩
                          obtain rfl := Fr.same hQ1537
                          refine wk_last r207_248 ar_12 ⟨by omega, by omega⟩ (wk_nw (ga_12 _) rfl hP1435 hF1436 (ua_12 ⟨by omega, by omega⟩) ?_)
                          intro M1541 hP1542 hF1543 e1544
                          refine wk_inc4 r207_249 rfl (wk_goto r207_252 ?_)
                          exact wp_fg (le_s (le_s (le_s (le_s (le_s (le_n (le_n (le_n (le_n (le_s le_0)))))))))) (ih1600 (256 - (v1431 + 1)).toNat (by omega) M1541 v1428 (v1431 + 1) rfl hP1542 hF1543 (by omega) (by omega) (by omega) (by omega) (by omega))
                        · intro h1545
                          refine wk_ll8 r207_229 (wk_c7 r207_231 (wk_lxor r207_234 ?_))
                          intro n1546 h1547 h1548
                          refine wk_goto r207_235 (wk_last r207_248 ar_12 ⟨by omega, by omega⟩ (wk_nw (ga_12 _) rfl hP1435 hF1436 (ua_12 ⟨by omega, by omega⟩) ?_))
                          intro M1549 hP1550 hF1551 e1552
                          refine wk_inc4 r207_249 rfl (wk_goto r207_252 ?_)
                          exact wp_fg (le_s (le_s (le_s (le_s (le_s (le_n (le_n (le_n (le_n (le_s le_0)))))))))) (ih1600 (256 - (v1431 + 1)).toNat (by omega) M1549 v1428 (v1431 + 1) rfl hP1550 hF1551 (by omega) (by omega) (by omega) (by omega) (by omega))
                  · intro h1553
                    exfalso
                    omega
                · intro h1554
                  refine wk_al0 r207_82 (wk_getfr r207_83 fd_10_4 (br_10_4 hP1435) (wk_il3 r207_86 (wk_il6 r207_87 ?_)))
                  refine wk_ifne r207_89 ⟨by omega, by omega⟩ ?_ ?_
                  · intro h1555
                    refine wk_il6 r207_104 (wk_c1 r207_106 ?_)
                    refine wk_icne r207_107 ⟨by omega, by omega⟩ (by decide) ?_ ?_
                    · intro h1556
                      refine wk_al0 r207_120 (wk_il5 r207_121 (wk_il2 r207_123 (wk_cv3 r207_124 kc_10_198 rfl (m198_10v8 _ M1434 (v1454 / 8) p2 hP1435 (by omega) (by omega) (by omega) (by omega)) (cqL ?_))))
                      rintro n1561 M1557 ⟨hP1558, hQ1559, h1562⟩
                      obtain rfl := Fr.same hQ1559
                      refine wk_last r207_127 ar_12 ⟨by omega, by omega⟩ (wk_nw (ga_12 _) rfl hP1435 hF1436 (ua_12 ⟨by omega, by omega⟩) ?_)
                      intro M1563 hP1564 hF1565 e1566
                      refine wk_inc3 r207_128 rfl (wk_goto r207_131 (wk_inc4 r207_249 rfl (wk_goto r207_252 ?_)))
                      exact wp_fg (le_s (le_s (le_s (le_s (le_s (le_n (le_n (le_n (le_s (le_s le_0)))))))))) (ih1600 (256 - (v1431 + 1)).toNat (by omega) M1563 (v1428 + 1) (v1431 + 1) rfl hP1564 hF1565 (by omega) (by omega) (by omega) (by omega) (by omega))
                    · intro h1567
                      exfalso
                      omega
                  · intro h1568
                    exfalso
                    omega
          · intro h1569
            refine wk_c1 r207_57 (wk_goto r207_58 (wk_is7 r207_62 rfl (wk_il6 r207_64 ?_)))
            refine wk_ifeq r207_66 ⟨by omega, by omega⟩ ?_ ?_
            · intro h1570
              exfalso
              omega
            · intro h1571
              refine wk_il6 r207_69 (wk_c1 r207_71 ?_)
              refine wk_iceq r207_72 ⟨by omega, by omega⟩ (by decide) ?_ ?_
              · intro h1572
                exfalso
                omega
              · intro h1573
                refine wk_il6 r207_75 (wk_c2 r207_77 ?_)
                refine wk_icne r207_79 ⟨by omega, by omega⟩ (by decide) ?_ ?_
                · intro h1574
                  refine wk_il7 r207_134 ?_
                  refine wk_ifeq r207_136 (by decide) ?_ ?_
                  · intro h1575
                    exfalso
                    omega
                  · intro h1576
                    refine wk_il3 r207_139 (wk_c1 r207_140 ?_)
                    refine wk_icle r207_141 ⟨by omega, by omega⟩ (by decide) ?_ ?_
                    · intro h1577
                      refine wk_il7 r207_197 ?_
                      refine wk_ifne r207_199 (by decide) ?_ ?_
                      · intro h1578
                        refine wk_inc4 r207_249 rfl (wk_goto r207_252 ?_)
                        exact wp_fg (le_s (le_s (le_s (le_s (le_s (le_n (le_n (le_n (le_s (le_s le_0)))))))))) (ih1600 (256 - (v1431 + 1)).toNat (by omega) M1434 v1428 (v1431 + 1) rfl hP1435 hF1436 (by omega) (by omega) (by omega) (by omega) (by omega))
                      · intro h1579
                        exfalso
                        omega
                    · intro h1580
                      refine wk_inc3 r207_144 rfl (wk_al0 r207_147 (wk_getfr r207_148 fd_10_4 (br_10_4 hP1435) (wk_il3 r207_151 (wk_laldb r207_152 ar_12 ⟨by omega, by omega⟩ (fun q0 q1 => ba_12 hP1435 q0 q1) (by decide) ?_))))
                      intro n1581 h1583 h1584 e1582
                      refine wk_ls8 r207_153 rfl (wk_al0 r207_155 (wk_getfr r207_156 fd_10_4 (br_10_4 hP1435) (wk_il3 r207_159 (wk_c1 r207_160 (wk_isub r207_161 (wk_il6 r207_162 (wk_c1 r207_164 ?_)))))))
                      refine wk_icne r207_165 ⟨by omega, by omega⟩ (by decide) ?_ ?_
                      · intro h1585
                        refine wk_al0 r207_182 (wk_getfr r207_183 fd_10_4 (br_10_4 hP1435) (wk_il3 r207_186 (wk_c1 r207_187 (wk_isub r207_188 (wk_laldb r207_189 ar_12 ⟨by omega, by omega⟩ (fun q0 q1 => ba_12 hP1435 q0 q1) (by decide) ?_)))))
                        intro n1586 h1588 h1589 e1587
                        refine wk_ll8 r207_190 (wk_lorb r207_192 ?_)
                        intro n1590 h1591 h1592 h1593
                        refine wk_last r207_193 ar_12 ⟨by omega, by omega⟩ (wk_nw (ga_12 _) rfl hP1435 hF1436 (ua_12 ⟨by omega, by omega⟩) ?_)
                        intro M1594 hP1595 hF1596 e1597
                        refine wk_goto r207_194 (wk_inc4 r207_249 rfl (wk_goto r207_252 ?_))
                        exact wp_fg (le_s (le_s (le_s (le_s (le_s (le_n (le_n (le_n (le_n (le_s le_0)))))))))) (ih1600 (256 - (v1431 + 1)).toNat (by omega) M1594 (v1428 + (-1)) (v1431 + 1) rfl hP1595 hF1596 (by omega) (by omega) (by omega) (by omega) (by omega))
                      · intro h1598
                        exfalso
                        omega
                · intro h1599
                  exfalso
                  omega
  exact wp_fg (le_s (le_s (le_s (le_s (le_s (le_s (le_s (le_s (le_s (le_s le_0)))))))))) (c5_1600 _ M0 0 0 rfl hP0 hF0 (by omega) (by omega) (by omega) (by omega) (by omega))
def fm_m196_10_f155 : Nat := 77371270902080340890746880
/-- IslandHall$Realm.judge -/
theorem m196_10_f155 {B : eB} (d : Nat) (M0 : Mm) (c1 : Int) (a2 : Int) (hP0 : Pw M0) (hC1 : isC c1) (ha2 : 155 ≤ a2) (hb2 : a2 ≤ 167) : Ct B (d + 4) 196 [R 10, R c1, R a2] M0 (qV fun M => Pw M ∧ Fr fm_m196_10_f155 M0 M) := by
  refine ct_of (d := d + 3) (k := 1) (L := [some (R 10), some (R c1), some (R a2), none]) rfl rfl rfl ?_
  have hF0 := Fr.rf fm_m196_10_f155 M0
  generalize hQ : (qV fun M => Pw M ∧ Fr fm_m196_10_f155 M0 M) = Q
  refine wk_c1 r196_0 (wk_is3 r196_1 rfl ?_)
  have c2_221 : ∀ (k221 : Nat) (M202 : Mm) (v199 : Int), (47 - v199).toNat = k221 → Pw M202 → Fr fm_m196_10_f155 M0 M202 → 0 ≤ v199 → v199 ≤ 47 → Wp B (d + 3) 196 2 [some (R 10), some (R c1), some (R a2), some (I v199)] [] M202 Q := by
    refine lp_ind ?_
    intro k221 ih221 M202 v199 hk221 hP203 hF204 h200 h201
    refine wk_il3 r196_2 (wk_al0 r196_3 (wk_getfb r196_4 fd_10_10 (bf_10_10 hP203) ?_))
    intro v205 h207 h208 e206
    refine wk_icge r196_7 ⟨by omega, by omega⟩ ⟨by omega, by omega⟩ ?_ ?_
    · intro h209
      subst hQ; exact wk_ret r196_25 (⟨rfl, hP203, hF204⟩)
    · intro h210
      refine wk_al2 r196_10 (wk_il3 r196_11 (wk_al0 r196_12 (wk_al1 r196_13 (wk_il3 r196_14 (wk_cv3 r196_15 kc_10_207 rfl (m207_10v8 _ M202 c1 v199 hP203 hC1 (by omega) (by omega)) (cqL ?_))))))
      rintro n215 M211 ⟨hP212, hQ213, h216⟩
      have hF214 : Fr fm_m196_10_f155 M0 M211 := hF204.tr hQ213 rfl
      refine wk_last r196_18 (arF_155 (by omega) (by omega)) ⟨by omega, by omega⟩ (wk_nw (gr_155 (by omega) (by omega) _) rfl hP212 hF214 (uaF_155 (by omega) (by omega) ⟨by omega, by omega⟩) ?_)
      intro M217 hP218 hF219 e220
      refine wk_inc3 r196_19 rfl (wk_goto r196_22 ?_)
      exact wp_fg (le_s (le_s (le_s (le_s le_0)))) (ih221 (47 - (v199 + 1)).toNat (by omega) M217 (v199 + 1) rfl hP218 hF219 (by omega) (by omega))
  exact wp_fg (le_s (le_s (le_s (le_s le_0)))) (c2_221 _ M0 0 rfl hP0 hF0 (by omega) (by omega))
def fm_m226_138 : Nat := 78580196721694970065453056
/-- IslandHall$Tale.begin -/
theorem m226_138 {B : eB} (d : Nat) (M0 : Mm) (c1 : Int) (hP0 : Pw M0) (hC1 : isC c1) : Ct B (d + 5) 226 [R 138, R c1] M0 (qV fun M => Pw M ∧ Fr fm_m226_138 M0 M) := by
  refine ct_of (d := d + 4) (k := 0) (L := [some (R 138), some (R c1)]) rfl rfl rfl ?_
  have hF0 := Fr.rf fm_m226_138 M0
  generalize hQ : (qV fun M => Pw M ∧ Fr fm_m226_138 M0 M) = Q
  refine wk_al0 r226_0 (wk_c1 r226_1 (wk_putfi81 r226_2 fd_138_5 (wk_nw g_138_5 rfl hP0 hF0 (uf_138_5 (by decide)) ?_)))
  intro M1 hP2 hF3 e4
  refine wk_al0 r226_5 (wk_getfr r226_6 fd_138_0 (br_138_0 hP2) (wk_al1 r226_9 (wk_al0 r226_10 (wk_getfr r226_11 fd_138_3 (br_138_3 hP2) (wk_c1 r226_14 (wk_raldb r226_15 ar_154 (by decide) (fun q0 q1 => ba_154 hP2 q0 q1) (wk_cv3 r226_16 kc_10_196 rfl (m196_10_f155 _ M1 c1 (155 + 0) hP2 hC1 (by omega) (by omega)) (cqV ?_))))))))
  rintro M5 ⟨hP6, hQ7⟩
  have hF8 : Fr fm_m226_138 M0 M5 := hF3.tr hQ7 rfl
  subst hQ; exact wk_ret r226_19 (⟨rfl, hP6, hF8⟩)
def fm_m217_170 : Nat := 9903520314283042199192993792
/-- IslandHall$Subsets.forget -/
theorem m217_170 {B : eB} (d : Nat) (M0 : Mm) (hP0 : Pw M0)  : Ct B (d + 1) 217 [R 170] M0 (qV fun M => Pw M ∧ Fr fm_m217_170 M0 M) := by
  refine ct_of (d := d + 0) (k := 0) (L := [some (R 170)]) rfl rfl rfl ?_
  have hF0 := Fr.rf fm_m217_170 M0
  generalize hQ : (qV fun M => Pw M ∧ Fr fm_m217_170 M0 M) = Q
  refine wk_al0 r217_0 (wk_c1 r217_1 (wk_putfz81 r217_2 fd_170_4 (by decide) (wk_nw g_170_4 rfl hP0 hF0 (uf_170_4 (by decide)) ?_)))
  intro M1 hP2 hF3 e4
  subst hQ; exact wk_ret r217_5 (⟨rfl, hP2, hF3⟩)
def fm_m24_0 : Nat := 11419375338222587222394769573935541470745351236
/-- IslandHall.island -/
theorem m24_0 {B : eB} (d : Nat) (M0 : Mm) (p1 : Int) (hP0 : Pw M0) (l1 : (-2147483648) ≤ p1) (u1 : p1 ≤ 2147483647) : Ct B (d + 43) 24 [R 0, I p1] M0 (qX 1 (fun M => Pw M ∧ Fr (fm_m24_0 ||| 1) M0 M ∧ M (-1) 0 = M0 (-1) 0 + 1) (qI fun z M => Pw M ∧ Fr fm_m24_0 M0 M ∧ 0 ≤ z ∧ z ≤ 6)) := by
  refine ct_of (d := d + 42) (k := 1) (L := [some (R 0), some (I p1), none]) rfl rfl rfl ?_
  have hF0 := Fr.rf fm_m24_0 M0
  generalize hQ : (qX 1 (fun M => Pw M ∧ Fr (fm_m24_0 ||| 1) M0 M ∧ M (-1) 0 = M0 (-1) 0 + 1) (qI fun z M => Pw M ∧ Fr fm_m24_0 M0 M ∧ 0 ≤ z ∧ z ≤ 6)) = Q
  refine wk_al0 r24_0 (wk_il1 r24_1 ?_)
  obtain ⟨v1, e2⟩ : ∃ v, M0 0 1 = v := ⟨_, rfl⟩
  have h3 := bf_0_1 hP0; rw [e2] at h3
  refine wk_cv2 r24_2 kc_0_40 rfl (m40_0 _ M0 p1 v1 hP0 (by omega) (by omega) e2 (by omega) (by omega)) (cqX (fun _ _ x8 => by subst hQ; exact Or.inl ⟨rfl, x8.1, Fr.trx hF0 x8.2.1 rfl, (by rw [x8.2.2, hF0.at g_below rfl])⟩) (cqV ?_))
  rintro M4 ⟨hP5, hQ6, h11, h12⟩
  have hF7 : Fr fm_m24_0 M0 M4 := hF0.tr hQ6 rfl
  refine wk_al0 r24_5 (wk_getfr r24_6 fd_0_4 (br_0_4 hP5) (wk_il1 r24_9 (wk_al0 r24_10 (wk_getfr r24_11 fd_0_3 (br_0_3 hP5) (wk_cv3 r24_14 kc_6_169 rfl (m169_6 _ M4 p1 4 hP5 (by omega) (by omega) (Or.inl rfl)) (cqI ?_))))))
  rintro v18 M13 ⟨hP14, hQ15, h19, h20, xh17⟩
  have hF16 : Fr fm_m24_0 M0 M13 := hF7.tr hQ15 rfl
  refine wk_is2 r24_17 rfl (wk_al0 r24_18 (wk_al0 r24_19 (wk_getfr r24_20 fd_0_4 (br_0_4 hP14) (wk_getfb r24_23 fd_6_5 (bf_6_5 hP14) ?_))))
  intro v21 h23 h24 e22
  refine wk_putfi81 r24_26 fd_0_5 (wk_nw g_0_5 rfl hP14 hF16 (uf_0_5 ⟨by omega, by omega⟩) ?_)
  intro M25 hP26 hF27 e28
  refine wk_il2 r24_29 ?_
  refine wk_ifeq r24_30 ⟨by omega, by omega⟩ ?_ ?_
  · intro h29
    refine wk_al0 r24_35 (wk_getfr r24_36 fd_0_2 (br_0_2 hP26) (wk_al0 r24_39 (wk_getfr r24_40 fd_0_4 (br_0_4 hP26) (wk_getfr r24_43 fd_6_1 (br_6_1 hP26) (wk_cv2 r24_46 kc_2_178 rfl (m178_2_7 _ M25 hP26) (cqV ?_))))))
    rintro M30 ⟨hP31, hQ32, xh34⟩
    have hF33 : Fr fm_m24_0 M0 M30 := hF27.tr hQ32 rfl
    refine wk_al0 r24_49 (wk_getfr r24_50 fd_0_6 (br_0_6 hP31) (wk_al0 r24_53 (wk_getfr r24_54 fd_0_2 (br_0_2 hP31) (wk_cv2 r24_57 kc_10_205 rfl (m205_10_2 _ M30 hP31 (by rw [xh34, SZk_eq (fun i _ _ => by rw [e28, mUp_ne (Or.inl (by decide))]) (fun k _ _ => by rw [e28, mUp_ne (Or.inl (by decide))]) (bf_7_1 hP14).2]; exact xh17 (by omega))) (cqV ?_)))))
    rintro M35 ⟨hP36, hQ37⟩
    have hF38 : Fr fm_m24_0 M0 M35 := hF33.tr hQ37 rfl
    refine wk_al0 r24_60 (wk_getfr r24_61 fd_0_7 (br_0_7 hP36) (wk_al0 r24_64 (wk_getfr r24_65 fd_0_3 (br_0_3 hP36) (wk_cv2 r24_68 kc_138_226 rfl (m226_138 _ M35 4 hP36 (Or.inl rfl)) (cqV ?_)))))
    rintro M39 ⟨hP40, hQ41⟩
    have hF42 : Fr fm_m24_0 M0 M39 := hF38.tr hQ41 rfl
    refine wk_al0 r24_71 (wk_getfr r24_72 fd_0_12 (br_0_12 hP40) (wk_cv1 r24_75 kc_170_217 rfl (m217_170 _ M39 hP40) (cqV ?_)))
    rintro M43 ⟨hP44, hQ45⟩
    have hF46 : Fr fm_m24_0 M0 M43 := hF42.tr hQ45 rfl
    refine wk_al0 r24_78 (wk_c1 r24_79 (wk_putfi81 r24_80 fd_0_9 (wk_nw g_0_9 rfl hP44 hF46 (uf_0_9 (by decide)) ?_)))
    intro M47 hP48 hF49 e50
    refine wk_al0 r24_83 (wk_c1 r24_84 (wk_putfi81 r24_85 fd_0_11 (wk_nw g_0_11 rfl hP48 hF49 (uf_0_11 (by decide)) ?_)))
    intro M51 hP52 hF53 e54
    refine wk_al0 r24_88 (wk_c1 r24_89 (wk_putfi81 r24_90 fd_0_13 (wk_nw g_0_13 rfl hP52 hF53 (uf_0_13 (by decide)) ?_)))
    intro M55 hP56 hF57 e58
    refine wk_al0 r24_93 (wk_getfr r24_94 fd_0_16 (br_0_16 hP56) (wk_c1 r24_97 (wk_putfi81 r24_98 fd_607_6 (wk_nw g_607_6 rfl hP56 hF57 (uf_607_6 (by decide)) ?_))))
    intro M59 hP60 hF61 e62
    refine wk_al0 r24_101 (wk_getfr r24_102 fd_0_17 (br_0_17 hP60) (wk_c1 r24_105 (wk_putfi81 r24_106 fd_613_9 (wk_nw g_613_9 rfl hP60 hF61 (uf_613_9 (by decide)) ?_))))
    intro M63 hP64 hF65 e66
    refine wk_c1 r24_109 ?_
    subst hQ; exact wk_iret r24_110 (Or.inr ⟨rfl, _, rfl, hP64, hF65, by omega, by omega⟩)
  · intro h67
    refine wk_il2 r24_33 ?_
    subst hQ; exact wk_iret r24_34 (Or.inr ⟨rfl, _, rfl, hP26, hF27, by omega, by omega⟩)
