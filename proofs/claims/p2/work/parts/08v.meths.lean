/-! ===== first methods ===== -/
theorem r179_0 : Rw 179 0 1 1 14 0 0 0 := rw_of (by decide +kernel)
theorem r179_1 : Rw 179 1 4 3 80 4 3 28 := rw_of (by decide +kernel)
theorem fd_2_3 : Fdl 2 4 3 3 0 := fd_of (by decide) rfl (by decide +kernel)
theorem bf_2_3 {M : Mm} (h : Pw M) : (-1) ≤ M 2 3 ∧ M 2 3 ≤ 6 := (h 2 3 (by decide) (by decide) (by decide) (by decide +kernel)).get0 g_2_3 rfl rfl rfl rfl
theorem r179_4 : Rw 179 4 5 1 1 (cd (-1)) 0 0 := rw_of (by decide +kernel)
theorem r179_5 : Rw 179 5 8 3 68 12 0 0 := rw_of (by decide +kernel)
theorem r179_12 : Rw 179 12 13 1 14 0 0 0 := rw_of (by decide +kernel)
theorem r179_13 : Rw 179 13 16 3 80 4 3 28 := rw_of (by decide +kernel)
theorem r179_16 : Rw 179 16 17 1 74 0 0 0 := rw_of (by decide +kernel)
theorem r179_8 : Rw 179 8 9 1 1 (cd 0) 1 0 := rw_of (by decide +kernel)
theorem r179_9 : Rw 179 9 12 3 60 16 0 0 := rw_of (by decide +kernel)
theorem fd_7_3 : Fdl 7 4 3 3 0 := fd_of (by decide) rfl (by decide +kernel)
theorem bf_7_3 {M : Mm} (h : Pw M) : (-1) ≤ M 7 3 ∧ M 7 3 ≤ 6 := (h 7 3 (by decide) (by decide) (by decide) (by decide +kernel)).get0 g_7_3 rfl rfl rfl rfl
theorem r181_0 : Rw 181 0 1 1 14 0 0 0 := rw_of (by decide +kernel)
theorem r181_1 : Rw 181 1 4 3 80 4 3 28 := rw_of (by decide +kernel)
theorem r181_4 : Rw 181 4 5 1 1 (cd (-1)) 0 0 := rw_of (by decide +kernel)
theorem r181_5 : Rw 181 5 8 3 68 20 0 0 := rw_of (by decide +kernel)
theorem r181_20 : Rw 181 20 21 1 14 0 0 0 := rw_of (by decide +kernel)
theorem r181_21 : Rw 181 21 24 3 100 179 1 47 := rw_of (by decide +kernel)
theorem kc_2_179 : Kc 2 179 := kc_of (by decide) (by decide +kernel)
theorem r181_24 : Rw 181 24 25 1 74 0 0 0 := rw_of (by decide +kernel)
theorem r181_8 : Rw 181 8 9 1 14 0 0 0 := rw_of (by decide +kernel)
theorem r181_9 : Rw 181 9 12 3 80 4 5 34 := rw_of (by decide +kernel)
theorem fd_2_5 : Fdl 2 4 5 5 0 := fd_of (by decide) rfl (by decide +kernel)
theorem bf_2_5 {M : Mm} (h : Pw M) : 0 ≤ M 2 5 ∧ M 2 5 ≤ 1 := (h 2 5 (by decide) (by decide) (by decide) (by decide +kernel)).get0 g_2_5 rfl rfl rfl rfl
theorem r181_12 : Rw 181 12 15 3 61 20 0 0 := rw_of (by decide +kernel)
theorem r181_15 : Rw 181 15 17 2 2 (cd 6) 134 0 := rw_of (by decide +kernel)
theorem r181_17 : Rw 181 17 20 3 60 24 0 0 := rw_of (by decide +kernel)
theorem kc_7_179 : Kc 7 179 := kc_of (by decide) (by decide +kernel)
theorem fd_7_5 : Fdl 7 4 5 5 0 := fd_of (by decide) rfl (by decide +kernel)
theorem bf_7_5 {M : Mm} (h : Pw M) : 0 ≤ M 7 5 ∧ M 7 5 ≤ 1 := (h 7 5 (by decide) (by decide) (by decide) (by decide +kernel)).get0 g_7_5 rfl rfl rfl rfl
theorem r182_0 : Rw 182 0 1 1 14 0 0 0 := rw_of (by decide +kernel)
theorem r182_1 : Rw 182 1 4 3 80 4 6 38 := rw_of (by decide +kernel)
theorem fd_2_6 : Fdl 2 4 6 6 0 := fd_of (by decide) rfl (by decide +kernel)
theorem bf_2_6 {M : Mm} (h : Pw M) : 0 ≤ M 2 6 ∧ M 2 6 ≤ 1 := (h 2 6 (by decide) (by decide) (by decide) (by decide +kernel)).get0 g_2_6 rfl rfl rfl rfl
theorem r182_4 : Rw 182 4 7 3 61 11 0 0 := rw_of (by decide +kernel)
theorem r182_11 : Rw 182 11 12 1 1 (cd 0) 1 0 := rw_of (by decide +kernel)
theorem r182_12 : Rw 182 12 13 1 74 0 0 0 := rw_of (by decide +kernel)
theorem r182_7 : Rw 182 7 8 1 1 (cd 1) 2 0 := rw_of (by decide +kernel)
theorem r182_8 : Rw 182 8 11 3 60 12 0 0 := rw_of (by decide +kernel)
theorem fd_7_6 : Fdl 7 4 6 6 0 := fd_of (by decide) rfl (by decide +kernel)
theorem bf_7_6 {M : Mm} (h : Pw M) : 0 ≤ M 7 6 ∧ M 7 6 ≤ 1 := (h 7 6 (by decide) (by decide) (by decide) (by decide +kernel)).get0 g_7_6 rfl rfl rfl rfl
theorem r183_0 : Rw 183 0 1 1 14 0 0 0 := rw_of (by decide +kernel)
theorem r183_1 : Rw 183 1 4 3 80 4 0 9 := rw_of (by decide +kernel)
theorem fd_2_0 : Fdl 2 4 0 0 2 := fd_of (by decide) rfl (by decide +kernel)
theorem bf_2_0 {M : Mm} (h : Pw M) : 3 ≤ M 2 0 ∧ M 2 0 ≤ 3 := (h 2 0 (by decide) (by decide) (by decide) (by decide +kernel)).get0 g_2_0 rfl rfl rfl rfl
theorem br_2_0 {M : Mm} (h : Pw M) : M 2 0 = 3 := by have := bf_2_0 h; omega
theorem r183_4 : Rw 183 4 5 1 1 (cd 3) 4 0 := rw_of (by decide +kernel)
theorem r183_5 : Rw 183 5 8 3 102 265 2 15 := rw_of (by decide +kernel)
theorem ar_3 : Ar 3 100 7 := ar_of (by decide) (by decide) (by decide +kernel)
theorem ba_3 {M : Mm} (h : Pw M) {i : Int} (h0 : 0 ≤ i) (h1 : i < 7) : 1 ≤ M 3 i ∧ M 3 i ≤ 31 := (h 3 i (by decide) (by decide) h0 (by rw [ar_3.2.2.2.1]; exact h1)).get0 (gr_3 (by decide) (by decide) i) rfl rfl rfl rfl
theorem ga_3 (i : Int) : grp 3 i = 27 := gr_3 (by decide) (by decide) i
theorem ua_3 {i z : Int} (hz : 1 ≤ z ∧ z ≤ 31) : Bd 3 i z := Bd.of0 (gr_3 (by decide) (by decide) i) rfl rfl rfl rfl hz
theorem r183_8 : Rw 183 8 9 1 14 0 0 0 := rw_of (by decide +kernel)
theorem r183_9 : Rw 183 9 10 1 1 (cd 0) 1 0 := rw_of (by decide +kernel)
theorem r183_10 : Rw 183 10 13 3 81 4 1 0 := rw_of (by decide +kernel)
theorem fd_2_1 : Fdl 2 4 1 1 0 := fd_of (by decide) rfl (by decide +kernel)
theorem uf_2_1 {z : Int} (hz : (-1) ≤ z ∧ z ≤ 7) : Bd 2 1 z := Bd.of0 g_2_1 rfl rfl rfl rfl hz
theorem r183_13 : Rw 183 13 14 1 14 0 0 0 := rw_of (by decide +kernel)
theorem r183_14 : Rw 183 14 15 1 1 (cd 1) 2 0 := rw_of (by decide +kernel)
theorem r183_15 : Rw 183 15 18 3 81 4 2 0 := rw_of (by decide +kernel)
theorem fd_2_2 : Fdl 2 4 2 2 0 := fd_of (by decide) rfl (by decide +kernel)
theorem uf_2_2 {z : Int} (hz : (-1) ≤ z ∧ z ≤ 4) : Bd 2 2 z := Bd.of0 g_2_2 rfl rfl rfl rfl hz
theorem r183_18 : Rw 183 18 19 1 14 0 0 0 := rw_of (by decide +kernel)
theorem r183_19 : Rw 183 19 20 1 1 (cd (-1)) 0 0 := rw_of (by decide +kernel)
theorem r183_20 : Rw 183 20 23 3 81 4 3 0 := rw_of (by decide +kernel)
theorem uf_2_3 {z : Int} (hz : (-1) ≤ z ∧ z ≤ 6) : Bd 2 3 z := Bd.of0 g_2_3 rfl rfl rfl rfl hz
theorem r183_23 : Rw 183 23 24 1 14 0 0 0 := rw_of (by decide +kernel)
theorem r183_24 : Rw 183 24 25 1 1 (cd 0) 1 0 := rw_of (by decide +kernel)
theorem r183_25 : Rw 183 25 28 3 81 4 4 0 := rw_of (by decide +kernel)
theorem fd_2_4 : Fdl 2 4 4 4 0 := fd_of (by decide) rfl (by decide +kernel)
theorem uf_2_4 {z : Int} (hz : 0 ≤ z ∧ z ≤ 127) : Bd 2 4 z := Bd.of0 g_2_4 rfl rfl rfl rfl hz
theorem r183_28 : Rw 183 28 29 1 14 0 0 0 := rw_of (by decide +kernel)
theorem r183_29 : Rw 183 29 30 1 1 (cd 0) 1 0 := rw_of (by decide +kernel)
theorem r183_30 : Rw 183 30 33 3 81 4 5 1 := rw_of (by decide +kernel)
theorem uf_2_5 {z : Int} (hz : 0 ≤ z ∧ z ≤ 1) : Bd 2 5 z := Bd.of0 g_2_5 rfl rfl rfl rfl hz
theorem r183_33 : Rw 183 33 34 1 14 0 0 0 := rw_of (by decide +kernel)
theorem r183_34 : Rw 183 34 35 1 1 (cd 0) 1 0 := rw_of (by decide +kernel)
theorem r183_35 : Rw 183 35 38 3 81 4 6 1 := rw_of (by decide +kernel)
theorem uf_2_6 {z : Int} (hz : 0 ≤ z ∧ z ≤ 1) : Bd 2 6 z := Bd.of0 g_2_6 rfl rfl rfl rfl hz
theorem r183_38 : Rw 183 38 39 1 77 0 0 0 := rw_of (by decide +kernel)
theorem fd_7_0 : Fdl 7 4 0 0 2 := fd_of (by decide) rfl (by decide +kernel)
theorem bf_7_0 {M : Mm} (h : Pw M) : 8 ≤ M 7 0 ∧ M 7 0 ≤ 8 := (h 7 0 (by decide) (by decide) (by decide) (by decide +kernel)).get0 g_7_0 rfl rfl rfl rfl
theorem br_7_0 {M : Mm} (h : Pw M) : M 7 0 = 8 := by have := bf_7_0 h; omega
theorem ar_8 : Ar 8 100 7 := ar_of (by decide) (by decide) (by decide +kernel)
theorem ba_8 {M : Mm} (h : Pw M) {i : Int} (h0 : 0 ≤ i) (h1 : i < 7) : 1 ≤ M 8 i ∧ M 8 i ≤ 31 := (h 8 i (by decide) (by decide) h0 (by rw [ar_8.2.2.2.1]; exact h1)).get0 (gr_8 (by decide) (by decide) i) rfl rfl rfl rfl
theorem ga_8 (i : Int) : grp 8 i = 46 := gr_8 (by decide) (by decide) i
theorem ua_8 {i z : Int} (hz : 1 ≤ z ∧ z ≤ 31) : Bd 8 i z := Bd.of0 (gr_8 (by decide) (by decide) i) rfl rfl rfl rfl hz
theorem fd_7_1 : Fdl 7 4 1 1 0 := fd_of (by decide) rfl (by decide +kernel)
theorem uf_7_1 {z : Int} (hz : (-1) ≤ z ∧ z ≤ 7) : Bd 7 1 z := Bd.of0 g_7_1 rfl rfl rfl rfl hz
theorem fd_7_2 : Fdl 7 4 2 2 0 := fd_of (by decide) rfl (by decide +kernel)
theorem uf_7_2 {z : Int} (hz : (-1) ≤ z ∧ z ≤ 4) : Bd 7 2 z := Bd.of0 g_7_2 rfl rfl rfl rfl hz
theorem uf_7_3 {z : Int} (hz : (-1) ≤ z ∧ z ≤ 6) : Bd 7 3 z := Bd.of0 g_7_3 rfl rfl rfl rfl hz
theorem fd_7_4 : Fdl 7 4 4 4 0 := fd_of (by decide) rfl (by decide +kernel)
theorem uf_7_4 {z : Int} (hz : 0 ≤ z ∧ z ≤ 127) : Bd 7 4 z := Bd.of0 g_7_4 rfl rfl rfl rfl hz
theorem uf_7_5 {z : Int} (hz : 0 ≤ z ∧ z ≤ 1) : Bd 7 5 z := Bd.of0 g_7_5 rfl rfl rfl rfl hz
theorem uf_7_6 {z : Int} (hz : 0 ≤ z ∧ z ≤ 1) : Bd 7 6 z := Bd.of0 g_7_6 rfl rfl rfl rfl hz
theorem r177_0 : Rw 177 0 1 1 10 2 0 0 := rw_of (by decide +kernel)
theorem r177_1 : Rw 177 1 2 1 1 (cd 1) 2 0 := rw_of (by decide +kernel)
theorem r177_2 : Rw 177 2 3 1 30 0 0 0 := rw_of (by decide +kernel)
theorem r177_3 : Rw 177 3 4 1 16 3 0 0 := rw_of (by decide +kernel)
theorem r177_4 : Rw 177 4 5 1 10 3 0 0 := rw_of (by decide +kernel)
theorem r177_5 : Rw 177 5 7 2 2 (cd 6) 134 0 := rw_of (by decide +kernel)
theorem r177_7 : Rw 177 7 10 3 70 36 0 0 := rw_of (by decide +kernel)
theorem r177_36 : Rw 177 36 37 1 1 (cd (-1)) 0 0 := rw_of (by decide +kernel)
theorem r177_37 : Rw 177 37 38 1 74 0 0 0 := rw_of (by decide +kernel)
theorem r177_10 : Rw 177 10 11 1 14 0 0 0 := rw_of (by decide +kernel)
theorem r177_11 : Rw 177 11 14 3 80 4 0 9 := rw_of (by decide +kernel)
theorem r177_14 : Rw 177 14 15 1 10 1 0 0 := rw_of (by decide +kernel)
theorem r177_15 : Rw 177 15 16 1 83 0 0 0 := rw_of (by decide +kernel)
theorem r177_16 : Rw 177 16 19 3 9 0 0 63 := rw_of (by decide +kernel)
theorem r177_19 : Rw 177 19 20 1 10 3 0 0 := rw_of (by decide +kernel)
theorem r177_20 : Rw 177 20 21 1 23 0 0 0 := rw_of (by decide +kernel)
theorem r177_21 : Rw 177 21 22 1 37 0 0 0 := rw_of (by decide +kernel)
theorem r177_22 : Rw 177 22 23 1 1 (cd 1) 2 0 := rw_of (by decide +kernel)
theorem r177_23 : Rw 177 23 24 1 33 0 0 0 := rw_of (by decide +kernel)
theorem r177_24 : Rw 177 24 25 1 1 (cd 1) 2 0 := rw_of (by decide +kernel)
theorem r177_25 : Rw 177 25 28 3 68 30 0 0 := rw_of (by decide +kernel)
theorem r177_30 : Rw 177 30 33 3 22 3 (cd 1) 32769 := rw_of (by decide +kernel)
theorem r177_33 : Rw 177 33 36 3 60 4 0 0 := rw_of (by decide +kernel)
theorem r177_28 : Rw 177 28 29 1 10 3 0 0 := rw_of (by decide +kernel)
theorem r177_29 : Rw 177 29 30 1 74 0 0 0 := rw_of (by decide +kernel)
theorem r141_0 : Rw 141 0 1 1 14 0 0 0 := rw_of (by decide +kernel)
theorem r141_1 : Rw 141 1 2 1 1 (cd 0) 1 0 := rw_of (by decide +kernel)
theorem r141_2 : Rw 141 2 5 3 81 1 1 0 := rw_of (by decide +kernel)
theorem fdCb_1 : (List.range 30).all (fun j => fdb (679 + 2 * j) 1 1 0) = true := by decide +kernel
theorem fdC_1 {a : Int} (h : isC a) : Fdl a 1 1 1 0 := by
  rcases h with rfl | h
  · exact fd_of (by decide) rfl (by decide +kernel)
  · refine fd_of (by omega) rfl ?_
    have h2 := List.all_eq_true.mp fdCb_1 ((a.toNat - 679) / 2) (List.mem_range.mpr (by omega))
    rw [show 679 + 2 * ((a.toNat - 679) / 2) = a.toNat by omega] at h2
    exact h2
theorem uC_1 {a z : Int} (ha : isC a) (hz : 0 ≤ z ∧ z ≤ 256) : Bd a 1 z := Bd.of0 (g_c1 ha) rfl rfl rfl rfl hz
theorem r141_5 : Rw 141 5 6 1 14 0 0 0 := rw_of (by decide +kernel)
theorem r141_6 : Rw 141 6 7 1 1 (cd 0) 1 0 := rw_of (by decide +kernel)
theorem r141_7 : Rw 141 7 10 3 81 1 2 0 := rw_of (by decide +kernel)
theorem fdCb_2 : (List.range 30).all (fun j => fdb (679 + 2 * j) 1 2 0) = true := by decide +kernel
theorem fdC_2 {a : Int} (h : isC a) : Fdl a 1 2 2 0 := by
  rcases h with rfl | h
  · exact fd_of (by decide) rfl (by decide +kernel)
  · refine fd_of (by omega) rfl ?_
    have h2 := List.all_eq_true.mp fdCb_2 ((a.toNat - 679) / 2) (List.mem_range.mpr (by omega))
    rw [show 679 + 2 * ((a.toNat - 679) / 2) = a.toNat by omega] at h2
    exact h2
theorem uC_2 {a z : Int} (ha : isC a) (hz : 0 ≤ z ∧ z ≤ 127) : Bd a 2 z := Bd.of0 (g_c2 ha) rfl rfl rfl rfl hz
theorem r141_10 : Rw 141 10 11 1 14 0 0 0 := rw_of (by decide +kernel)
theorem r141_11 : Rw 141 11 12 1 1 (cd 0) 1 0 := rw_of (by decide +kernel)
theorem r141_12 : Rw 141 12 15 3 81 1 3 0 := rw_of (by decide +kernel)
theorem fdCb_3 : (List.range 30).all (fun j => fdb (679 + 2 * j) 1 3 0) = true := by decide +kernel
theorem fdC_3 {a : Int} (h : isC a) : Fdl a 1 3 3 0 := by
  rcases h with rfl | h
  · exact fd_of (by decide) rfl (by decide +kernel)
  · refine fd_of (by omega) rfl ?_
    have h2 := List.all_eq_true.mp fdCb_3 ((a.toNat - 679) / 2) (List.mem_range.mpr (by omega))
    rw [show 679 + 2 * ((a.toNat - 679) / 2) = a.toNat by omega] at h2
    exact h2
theorem uC_3 {a z : Int} (ha : isC a) (hz : 0 ≤ z ∧ z ≤ 32767) : Bd a 3 z := Bd.of0 (g_c3 ha) rfl rfl rfl rfl hz
theorem r141_15 : Rw 141 15 16 1 77 0 0 0 := rw_of (by decide +kernel)
theorem r144_0 : Rw 144 0 1 1 14 0 0 0 := rw_of (by decide +kernel)
theorem r144_1 : Rw 144 1 4 3 100 141 1 25 := rw_of (by decide +kernel)
theorem kcCb_141 : (List.range 30).all (fun j => kcb (679 + 2 * j) 141) = true := by decide +kernel
theorem kcC_141 {a : Int} (h : isC a) : Kc a 141 := by
  rcases h with rfl | h
  · exact kc_of (by decide) (by decide +kernel)
  · refine kc_of (by omega) ?_
    have h2 := List.all_eq_true.mp kcCb_141 ((a.toNat - 679) / 2) (List.mem_range.mpr (by omega))
    rw [show 679 + 2 * ((a.toNat - 679) / 2) = a.toNat by omega] at h2
    exact h2
theorem r144_4 : Rw 144 4 5 1 14 0 0 0 := rw_of (by decide +kernel)
theorem r144_5 : Rw 144 5 6 1 1 (cd 0) 1 0 := rw_of (by decide +kernel)
theorem r144_6 : Rw 144 6 8 2 2 (cd 118) 246 0 := rw_of (by decide +kernel)
theorem r144_8 : Rw 144 8 11 3 100 138 3 28 := rw_of (by decide +kernel)
theorem r138_0 : Rw 138 0 1 1 14 0 0 0 := rw_of (by decide +kernel)
theorem r138_1 : Rw 138 1 4 3 80 1 1 15 := rw_of (by decide +kernel)
theorem fdCb_0 : (List.range 30).all (fun j => fdb (679 + 2 * j) 1 0 2) = true := by decide +kernel
theorem fdC_0 {a : Int} (h : isC a) : Fdl a 1 0 0 2 := by
  rcases h with rfl | h
  · exact fd_of (by decide) rfl (by decide +kernel)
  · refine fd_of (by omega) rfl ?_
    have h2 := List.all_eq_true.mp fdCb_0 ((a.toNat - 679) / 2) (List.mem_range.mpr (by omega))
    rw [show 679 + 2 * ((a.toNat - 679) / 2) = a.toNat by omega] at h2
    exact h2
theorem lnCb : (List.range 30).all (fun j => Nat.beq (ln (679 + 2 * j)) 4) = true := by decide +kernel
theorem lnC {a : Int} (h : isC a) : (ln a.toNat : Int) = 4 := by
  rcases h with rfl | h
  · decide +kernel
  · have h2 := List.all_eq_true.mp lnCb ((a.toNat - 679) / 2) (List.mem_range.mpr (by omega))
    rw [show 679 + 2 * ((a.toNat - 679) / 2) = a.toNat by omega] at h2
    rw [Nat.eq_of_beq_eq_true h2]
    rfl
theorem isC_rg {a : Int} (h : isC a) : 0 ≤ a ∧ a < 769 := by
  unfold isC at h
  omega
theorem bC_1 {M : Mm} (h : Pw M) {a : Int} (ha : isC a) : 0 ≤ M a 1 ∧ M a 1 ≤ 256 := (h a 1 (isC_rg ha).1 (by have := isC_rg ha; omega) (by decide) (by rw [lnC ha]; decide)).get0 (g_c1 ha) rfl rfl rfl rfl
theorem r138_4 : Rw 138 4 5 1 14 0 0 0 := rw_of (by decide +kernel)
theorem r138_5 : Rw 138 5 8 3 80 1 0 9 := rw_of (by decide +kernel)
theorem bC_0 {M : Mm} (h : Pw M) {a : Int} (ha : isC a) : M a 0 = a + 1 := by
  have := (h a 0 (isC_rg ha).1 (by have := isC_rg ha; omega) (by decide) (by rw [lnC ha]; decide)).get (g_c0 ha) rfl rfl rfl rfl
  omega
theorem r138_8 : Rw 138 8 9 1 92 0 0 0 := rw_of (by decide +kernel)
theorem arCb : (List.range 30).all (fun j => arb (680 + 2 * j) 100 256) = true := by decide +kernel
theorem arC {a : Int} (h : isC a) : Ar (a + 1) 100 256 := by
  rcases h with rfl | h
  · exact ar_of (by decide) (by decide) (by decide +kernel)
  · refine ar_of (by omega) (by decide) ?_
    have h2 := List.all_eq_true.mp arCb ((a.toNat - 679) / 2) (List.mem_range.mpr (by omega))
    rw [show 680 + 2 * ((a.toNat - 679) / 2) = (a + 1).toNat by omega] at h2
    exact h2
theorem baC {M : Mm} (h : Pw M) {a i : Int} (ha : isC a) (h0 : 0 ≤ i) (h1 : i < 256) : (-2147483648) ≤ M (a + 1) i ∧ M (a + 1) i ≤ 2147483647 := (h (a + 1) i (by have := isC_rg ha; omega) (by have := isC_rg ha; omega) h0 (by rw [(arC ha).2.2.2.1]; exact h1)).get0 (g_cs ha i) rfl rfl rfl rfl
theorem r138_9 : Rw 138 9 12 3 70 36 0 0 := rw_of (by decide +kernel)
theorem r138_36 : Rw 138 36 37 1 77 0 0 0 := rw_of (by decide +kernel)
theorem r138_12 : Rw 138 12 13 1 14 0 0 0 := rw_of (by decide +kernel)
theorem r138_13 : Rw 138 13 16 3 80 1 0 9 := rw_of (by decide +kernel)
theorem r138_16 : Rw 138 16 17 1 14 0 0 0 := rw_of (by decide +kernel)
theorem r138_17 : Rw 138 17 20 3 80 1 1 15 := rw_of (by decide +kernel)
theorem r138_20 : Rw 138 20 21 1 10 1 0 0 := rw_of (by decide +kernel)
theorem r138_21 : Rw 138 21 22 1 10 2 0 0 := rw_of (by decide +kernel)
theorem r138_22 : Rw 138 22 23 1 1 (cd 3) 4 0 := rw_of (by decide +kernel)
theorem r138_23 : Rw 138 23 24 1 36 0 0 0 := rw_of (by decide +kernel)
theorem pwl_3 : pw 3 = 8 := by decide
theorem r138_24 : Rw 138 24 25 1 34 0 0 0 := rw_of (by decide +kernel)
theorem r138_25 : Rw 138 25 26 1 88 0 0 0 := rw_of (by decide +kernel)
theorem uaC {a i z : Int} (ha : isC a) (hz : (-2147483648) ≤ z ∧ z ≤ 2147483647) : Bd (a + 1) i z := Bd.of0 (g_cs ha i) rfl rfl rfl rfl hz
theorem r138_26 : Rw 138 26 27 1 14 0 0 0 := rw_of (by decide +kernel)
theorem r138_27 : Rw 138 27 28 1 52 0 0 0 := rw_of (by decide +kernel)
theorem r138_28 : Rw 138 28 31 3 80 1 1 15 := rw_of (by decide +kernel)
theorem r138_31 : Rw 138 31 32 1 1 (cd 1) 2 0 := rw_of (by decide +kernel)
theorem r138_32 : Rw 138 32 33 1 30 0 0 0 := rw_of (by decide +kernel)
theorem r138_33 : Rw 138 33 36 3 81 1 1 0 := rw_of (by decide +kernel)
theorem kcCb_138 : (List.range 30).all (fun j => kcb (679 + 2 * j) 138) = true := by decide +kernel
theorem kcC_138 {a : Int} (h : isC a) : Kc a 138 := by
  rcases h with rfl | h
  · exact kc_of (by decide) (by decide +kernel)
  · refine kc_of (by omega) ?_
    have h2 := List.all_eq_true.mp kcCb_138 ((a.toNat - 679) / 2) (List.mem_range.mpr (by omega))
    rw [show 679 + 2 * ((a.toNat - 679) / 2) = a.toNat by omega] at h2
    exact h2
theorem r144_11 : Rw 144 11 12 1 77 0 0 0 := rw_of (by decide +kernel)
theorem r139_0 : Rw 139 0 1 1 14 0 0 0 := rw_of (by decide +kernel)
theorem r139_1 : Rw 139 1 2 1 1 (cd 4) 5 0 := rw_of (by decide +kernel)
theorem r139_2 : Rw 139 2 3 1 10 1 0 0 := rw_of (by decide +kernel)
theorem r139_3 : Rw 139 3 6 3 100 138 3 28 := rw_of (by decide +kernel)
theorem r139_6 : Rw 139 6 7 1 14 0 0 0 := rw_of (by decide +kernel)
theorem r139_7 : Rw 139 7 8 1 52 0 0 0 := rw_of (by decide +kernel)
theorem r139_8 : Rw 139 8 11 3 80 1 2 19 := rw_of (by decide +kernel)
theorem bC_2 {M : Mm} (h : Pw M) {a : Int} (ha : isC a) : 0 ≤ M a 2 ∧ M a 2 ≤ 127 := (h a 2 (isC_rg ha).1 (by have := isC_rg ha; omega) (by decide) (by rw [lnC ha]; decide)).get0 (g_c2 ha) rfl rfl rfl rfl
theorem r139_11 : Rw 139 11 12 1 1 (cd 1) 2 0 := rw_of (by decide +kernel)
theorem r139_12 : Rw 139 12 13 1 10 1 0 0 := rw_of (by decide +kernel)
theorem r139_13 : Rw 139 13 14 1 36 0 0 0 := rw_of (by decide +kernel)
theorem pwl_6 : pw 6 = 64 := by decide
theorem r139_14 : Rw 139 14 15 1 34 0 0 0 := rw_of (by decide +kernel)
theorem r139_15 : Rw 139 15 18 3 81 1 2 0 := rw_of (by decide +kernel)
theorem r139_18 : Rw 139 18 19 1 77 0 0 0 := rw_of (by decide +kernel)
theorem r140_0 : Rw 140 0 1 1 10 1 0 0 := rw_of (by decide +kernel)
theorem r140_1 : Rw 140 1 3 2 2 (cd 15) 143 0 := rw_of (by decide +kernel)
theorem r140_3 : Rw 140 3 6 3 70 10 0 0 := rw_of (by decide +kernel)
theorem r140_10 : Rw 140 10 11 1 1 (cd 0) 1 0 := rw_of (by decide +kernel)
theorem r140_11 : Rw 140 11 12 1 16 2 0 0 := rw_of (by decide +kernel)
theorem r140_12 : Rw 140 12 13 1 14 0 0 0 := rw_of (by decide +kernel)
theorem r140_13 : Rw 140 13 14 1 1 (cd 0) 1 0 := rw_of (by decide +kernel)
theorem r140_14 : Rw 140 14 15 1 10 2 0 0 := rw_of (by decide +kernel)
theorem r140_15 : Rw 140 15 18 3 61 25 0 0 := rw_of (by decide +kernel)
theorem r140_25 : Rw 140 25 27 2 2 (cd 117) 245 0 := rw_of (by decide +kernel)
theorem r140_27 : Rw 140 27 30 3 100 138 3 28 := rw_of (by decide +kernel)
theorem r140_30 : Rw 140 30 31 1 10 2 0 0 := rw_of (by decide +kernel)
theorem r140_31 : Rw 140 31 34 3 61 46 0 0 := rw_of (by decide +kernel)
theorem r140_46 : Rw 140 46 47 1 77 0 0 0 := rw_of (by decide +kernel)
theorem r140_6 : Rw 140 6 7 1 1 (cd 1) 2 0 := rw_of (by decide +kernel)
theorem r140_7 : Rw 140 7 10 3 60 11 0 0 := rw_of (by decide +kernel)
theorem r140_34 : Rw 140 34 35 1 14 0 0 0 := rw_of (by decide +kernel)
theorem r140_35 : Rw 140 35 36 1 52 0 0 0 := rw_of (by decide +kernel)
theorem r140_36 : Rw 140 36 39 3 80 1 3 22 := rw_of (by decide +kernel)
theorem bC_3 {M : Mm} (h : Pw M) {a : Int} (ha : isC a) : 0 ≤ M a 3 ∧ M a 3 ≤ 32767 := (h a 3 (isC_rg ha).1 (by have := isC_rg ha; omega) (by decide) (by rw [lnC ha]; decide)).get0 (g_c3 ha) rfl rfl rfl rfl
theorem r140_39 : Rw 140 39 40 1 1 (cd 1) 2 0 := rw_of (by decide +kernel)
theorem r140_40 : Rw 140 40 41 1 10 1 0 0 := rw_of (by decide +kernel)
theorem r140_41 : Rw 140 41 42 1 36 0 0 0 := rw_of (by decide +kernel)
theorem pwl_14 : pw 14 = 16384 := by decide
theorem r140_42 : Rw 140 42 43 1 34 0 0 0 := rw_of (by decide +kernel)
theorem r140_43 : Rw 140 43 46 3 81 1 3 0 := rw_of (by decide +kernel)
theorem r140_18 : Rw 140 18 20 2 2 (cd 102) 230 0 := rw_of (by decide +kernel)
theorem r140_20 : Rw 140 20 21 1 10 1 0 0 := rw_of (by decide +kernel)
theorem r140_21 : Rw 140 21 22 1 30 0 0 0 := rw_of (by decide +kernel)
theorem r140_22 : Rw 140 22 25 3 60 27 0 0 := rw_of (by decide +kernel)
theorem r142_0 : Rw 142 0 1 1 14 0 0 0 := rw_of (by decide +kernel)
theorem r142_1 : Rw 142 1 4 3 80 1 2 19 := rw_of (by decide +kernel)
theorem r142_4 : Rw 142 4 5 1 10 1 0 0 := rw_of (by decide +kernel)
theorem r142_5 : Rw 142 5 6 1 37 0 0 0 := rw_of (by decide +kernel)
theorem r142_6 : Rw 142 6 7 1 1 (cd 1) 2 0 := rw_of (by decide +kernel)
theorem r142_7 : Rw 142 7 8 1 33 0 0 0 := rw_of (by decide +kernel)
theorem r142_8 : Rw 142 8 9 1 1 (cd 1) 2 0 := rw_of (by decide +kernel)
theorem r142_9 : Rw 142 9 12 3 67 24 0 0 := rw_of (by decide +kernel)
theorem r142_24 : Rw 142 24 25 1 1 (cd 1) 2 0 := rw_of (by decide +kernel)
theorem r142_25 : Rw 142 25 28 3 60 29 0 0 := rw_of (by decide +kernel)
theorem r142_29 : Rw 142 29 30 1 74 1 0 0 := rw_of (by decide +kernel)
theorem r142_12 : Rw 142 12 13 1 14 0 0 0 := rw_of (by decide +kernel)
theorem r142_13 : Rw 142 13 16 3 80 1 3 22 := rw_of (by decide +kernel)
theorem r142_16 : Rw 142 16 17 1 10 2 0 0 := rw_of (by decide +kernel)
theorem r142_17 : Rw 142 17 18 1 37 0 0 0 := rw_of (by decide +kernel)
theorem r142_18 : Rw 142 18 19 1 1 (cd 1) 2 0 := rw_of (by decide +kernel)
theorem r142_19 : Rw 142 19 20 1 33 0 0 0 := rw_of (by decide +kernel)
theorem r142_20 : Rw 142 20 21 1 1 (cd 1) 2 0 := rw_of (by decide +kernel)
theorem r142_21 : Rw 142 21 24 3 68 28 0 0 := rw_of (by decide +kernel)
theorem r142_28 : Rw 142 28 29 1 1 (cd 0) 1 0 := rw_of (by decide +kernel)
theorem r243_0 : Rw 243 0 1 1 10 0 0 0 := rw_of (by decide +kernel)
theorem r243_1 : Rw 243 1 3 2 2 (cd 97) 225 0 := rw_of (by decide +kernel)
theorem r243_3 : Rw 243 3 6 3 69 14 0 0 := rw_of (by decide +kernel)
theorem r243_6 : Rw 243 6 7 1 10 0 0 0 := rw_of (by decide +kernel)
theorem r243_7 : Rw 243 7 9 2 2 (cd 122) 250 0 := rw_of (by decide +kernel)
theorem r243_9 : Rw 243 9 12 3 71 14 0 0 := rw_of (by decide +kernel)
theorem r243_12 : Rw 243 12 13 1 1 (cd 1) 2 0 := rw_of (by decide +kernel)
theorem r243_13 : Rw 243 13 14 1 74 0 0 0 := rw_of (by decide +kernel)
theorem r243_14 : Rw 243 14 15 1 10 0 0 0 := rw_of (by decide +kernel)
theorem r243_15 : Rw 243 15 17 2 2 (cd 48) 176 0 := rw_of (by decide +kernel)
theorem r243_17 : Rw 243 17 20 3 69 28 0 0 := rw_of (by decide +kernel)
theorem r243_20 : Rw 243 20 21 1 10 0 0 0 := rw_of (by decide +kernel)
theorem r243_21 : Rw 243 21 23 2 2 (cd 57) 185 0 := rw_of (by decide +kernel)
theorem r243_23 : Rw 243 23 26 3 71 28 0 0 := rw_of (by decide +kernel)
theorem r243_26 : Rw 243 26 27 1 1 (cd 2) 3 0 := rw_of (by decide +kernel)
theorem r243_27 : Rw 243 27 28 1 74 0 0 0 := rw_of (by decide +kernel)
theorem r243_28 : Rw 243 28 29 1 10 0 0 0 := rw_of (by decide +kernel)
theorem r243_29 : Rw 243 29 31 2 2 (cd 59) 187 0 := rw_of (by decide +kernel)
theorem r243_31 : Rw 243 31 34 3 67 64 0 0 := rw_of (by decide +kernel)
theorem r243_64 : Rw 243 64 65 1 1 (cd 1) 2 0 := rw_of (by decide +kernel)
theorem r243_65 : Rw 243 65 68 3 60 69 0 0 := rw_of (by decide +kernel)
theorem r243_69 : Rw 243 69 70 1 16 1 0 0 := rw_of (by decide +kernel)
theorem r243_70 : Rw 243 70 71 1 10 1 0 0 := rw_of (by decide +kernel)
theorem r243_71 : Rw 243 71 74 3 61 78 0 0 := rw_of (by decide +kernel)
theorem r243_78 : Rw 243 78 79 1 1 (cd 4) 5 0 := rw_of (by decide +kernel)
theorem r243_79 : Rw 243 79 80 1 74 0 0 0 := rw_of (by decide +kernel)
theorem r243_74 : Rw 243 74 75 1 1 (cd 3) 4 0 := rw_of (by decide +kernel)
theorem r243_75 : Rw 243 75 78 3 60 79 0 0 := rw_of (by decide +kernel)
theorem r243_34 : Rw 243 34 35 1 10 0 0 0 := rw_of (by decide +kernel)
theorem r243_35 : Rw 243 35 37 2 2 (cd 40) 168 0 := rw_of (by decide +kernel)
theorem r243_37 : Rw 243 37 40 3 67 64 0 0 := rw_of (by decide +kernel)
theorem r243_40 : Rw 243 40 41 1 10 0 0 0 := rw_of (by decide +kernel)
theorem r243_41 : Rw 243 41 43 2 2 (cd 41) 169 0 := rw_of (by decide +kernel)
theorem r243_43 : Rw 243 43 46 3 67 64 0 0 := rw_of (by decide +kernel)
theorem r243_46 : Rw 243 46 47 1 10 0 0 0 := rw_of (by decide +kernel)
theorem r243_47 : Rw 243 47 49 2 2 (cd 60) 188 0 := rw_of (by decide +kernel)
theorem r243_49 : Rw 243 49 52 3 67 64 0 0 := rw_of (by decide +kernel)
theorem r243_52 : Rw 243 52 53 1 10 0 0 0 := rw_of (by decide +kernel)
theorem r243_53 : Rw 243 53 55 2 2 (cd 61) 189 0 := rw_of (by decide +kernel)
theorem r243_55 : Rw 243 55 58 3 67 64 0 0 := rw_of (by decide +kernel)
theorem r243_58 : Rw 243 58 59 1 10 0 0 0 := rw_of (by decide +kernel)
theorem r243_59 : Rw 243 59 61 2 2 (cd 62) 190 0 := rw_of (by decide +kernel)
theorem r243_61 : Rw 243 61 64 3 68 68 0 0 := rw_of (by decide +kernel)
theorem r243_68 : Rw 243 68 69 1 1 (cd 0) 1 0 := rw_of (by decide +kernel)
theorem r237_0 : Rw 237 0 1 1 14 0 0 0 := rw_of (by decide +kernel)
theorem r237_1 : Rw 237 1 4 3 80 9 4 21 := rw_of (by decide +kernel)
theorem fd_9_4 : Fdl 9 9 4 4 0 := fd_of (by decide) rfl (by decide +kernel)
theorem bf_9_4 {M : Mm} (h : Pw M) : 0 ≤ M 9 4 ∧ M 9 4 ≤ 4 := (h 9 4 (by decide) (by decide) (by decide) (by decide +kernel)).get0 g_9_4 rfl rfl rfl rfl
theorem r237_4 : Rw 237 4 5 1 1 (cd 1) 2 0 := rw_of (by decide +kernel)
theorem r237_5 : Rw 237 5 8 3 68 25 0 0 := rw_of (by decide +kernel)
theorem r237_25 : Rw 237 25 26 1 1 (cd 0) 1 0 := rw_of (by decide +kernel)
theorem r237_26 : Rw 237 26 27 1 74 1 0 0 := rw_of (by decide +kernel)
theorem r237_8 : Rw 237 8 9 1 14 0 0 0 := rw_of (by decide +kernel)
theorem r237_9 : Rw 237 9 12 3 80 9 2 15 := rw_of (by decide +kernel)
theorem fd_9_2 : Fdl 9 9 2 2 0 := fd_of (by decide) rfl (by decide +kernel)
theorem bf_9_2 {M : Mm} (h : Pw M) : 0 ≤ M 9 2 ∧ M 9 2 ≤ 500 := (h 9 2 (by decide) (by decide) (by decide) (by decide +kernel)).get0 g_9_2 rfl rfl rfl rfl
theorem r237_12 : Rw 237 12 13 1 14 0 0 0 := rw_of (by decide +kernel)
theorem r237_13 : Rw 237 13 16 3 80 9 3 18 := rw_of (by decide +kernel)
theorem fd_9_3 : Fdl 9 9 3 3 0 := fd_of (by decide) rfl (by decide +kernel)
theorem bf_9_3 {M : Mm} (h : Pw M) : 0 ≤ M 9 3 ∧ M 9 3 ≤ 500 := (h 9 3 (by decide) (by decide) (by decide) (by decide +kernel)).get0 g_9_3 rfl rfl rfl rfl
theorem r237_16 : Rw 237 16 17 1 31 0 0 0 := rw_of (by decide +kernel)
theorem r237_17 : Rw 237 17 18 1 1 (cd 1) 2 0 := rw_of (by decide +kernel)
theorem r237_18 : Rw 237 18 21 3 68 25 0 0 := rw_of (by decide +kernel)
theorem r237_21 : Rw 237 21 22 1 1 (cd 1) 2 0 := rw_of (by decide +kernel)
theorem r237_22 : Rw 237 22 25 3 60 26 0 0 := rw_of (by decide +kernel)
theorem r51_0 : Rw 51 0 1 1 1 (cd 0) 1 0 := rw_of (by decide +kernel)
theorem r51_1 : Rw 51 1 2 1 16 1 0 0 := rw_of (by decide +kernel)
theorem r51_2 : Rw 51 2 3 1 10 0 0 0 := rw_of (by decide +kernel)
theorem r51_3 : Rw 51 3 4 1 16 2 0 0 := rw_of (by decide +kernel)
theorem r51_4 : Rw 51 4 5 1 10 2 0 0 := rw_of (by decide +kernel)
theorem r51_5 : Rw 51 5 8 3 61 20 0 0 := rw_of (by decide +kernel)
theorem r51_20 : Rw 51 20 21 1 10 1 0 0 := rw_of (by decide +kernel)
theorem r51_21 : Rw 51 21 22 1 74 0 0 0 := rw_of (by decide +kernel)
theorem r51_8 : Rw 51 8 11 3 22 1 (cd 1) 32769 := rw_of (by decide +kernel)
theorem r51_11 : Rw 51 11 12 1 10 2 0 0 := rw_of (by decide +kernel)
theorem r51_12 : Rw 51 12 13 1 10 2 0 0 := rw_of (by decide +kernel)
theorem r51_13 : Rw 51 13 14 1 1 (cd 1) 2 0 := rw_of (by decide +kernel)
theorem r51_14 : Rw 51 14 15 1 31 0 0 0 := rw_of (by decide +kernel)
theorem r51_15 : Rw 51 15 16 1 33 0 0 0 := rw_of (by decide +kernel)
theorem r51_16 : Rw 51 16 17 1 16 2 0 0 := rw_of (by decide +kernel)
theorem r51_17 : Rw 51 17 20 3 60 4 0 0 := rw_of (by decide +kernel)
theorem r85_0 : Rw 85 0 1 1 10 0 0 0 := rw_of (by decide +kernel)
theorem r85_1 : Rw 85 1 3 2 2 (cd 97) 225 0 := rw_of (by decide +kernel)
theorem r85_3 : Rw 85 3 6 3 69 16 0 0 := rw_of (by decide +kernel)
theorem r85_16 : Rw 85 16 17 1 1 (cd 0) 1 0 := rw_of (by decide +kernel)
theorem r85_17 : Rw 85 17 18 1 74 1 0 0 := rw_of (by decide +kernel)
theorem r85_6 : Rw 85 6 7 1 10 0 0 0 := rw_of (by decide +kernel)
theorem r85_7 : Rw 85 7 9 2 2 (cd 122) 250 0 := rw_of (by decide +kernel)
theorem r85_9 : Rw 85 9 12 3 71 16 0 0 := rw_of (by decide +kernel)
theorem r85_12 : Rw 85 12 13 1 1 (cd 1) 2 0 := rw_of (by decide +kernel)
theorem r85_13 : Rw 85 13 16 3 60 17 0 0 := rw_of (by decide +kernel)
theorem r70_0 : Rw 70 0 1 1 14 0 0 0 := rw_of (by decide +kernel)
theorem r70_1 : Rw 70 1 2 1 1 (cd 0) 1 0 := rw_of (by decide +kernel)
theorem r70_2 : Rw 70 2 5 3 81 12 0 0 := rw_of (by decide +kernel)
theorem fd_739_0 : Fdl 739 12 0 0 0 := fd_of (by decide) rfl (by decide +kernel)
theorem uf_739_0 {z : Int} (hz : 0 ≤ z ∧ z ≤ 1) : Bd 739 0 z := Bd.of0 g_739_0 rfl rfl rfl rfl hz
theorem r70_5 : Rw 70 5 6 1 14 0 0 0 := rw_of (by decide +kernel)
theorem r70_6 : Rw 70 6 9 3 80 12 27 128 := rw_of (by decide +kernel)
theorem fd_739_27 : Fdl 739 12 27 27 0 := fd_of (by decide) rfl (by decide +kernel)
theorem bf_739_27 {M : Mm} (h : Pw M) : 0 ≤ M 739 27 ∧ M 739 27 ≤ 500 := (h 739 27 (by decide) (by decide) (by decide) (by decide +kernel)).get0 g_739_27 rfl rfl rfl rfl
theorem r70_9 : Rw 70 9 11 2 2 (cd 20) 148 0 := rw_of (by decide +kernel)
theorem r70_11 : Rw 70 11 12 1 30 0 0 0 := rw_of (by decide +kernel)
theorem r70_12 : Rw 70 12 15 3 3 (cd 500) 33268 0 := rw_of (by decide +kernel)
theorem r70_15 : Rw 70 15 18 3 72 20 0 0 := rw_of (by decide +kernel)
theorem r70_20 : Rw 70 20 21 1 14 0 0 0 := rw_of (by decide +kernel)
theorem r70_21 : Rw 70 21 22 1 10 1 0 0 := rw_of (by decide +kernel)
theorem r70_22 : Rw 70 22 25 3 100 98 2 131 := rw_of (by decide +kernel)
theorem r98_0 : Rw 98 0 2 2 2 (cd 24) 152 0 := rw_of (by decide +kernel)
theorem r98_2 : Rw 98 2 3 1 16 2 0 0 := rw_of (by decide +kernel)
theorem r98_3 : Rw 98 3 4 1 10 2 0 0 := rw_of (by decide +kernel)
theorem r98_4 : Rw 98 4 7 3 63 39 0 0 := rw_of (by decide +kernel)
theorem r98_7 : Rw 98 7 8 1 14 0 0 0 := rw_of (by decide +kernel)
theorem r98_8 : Rw 98 8 11 3 80 12 26 62 := rw_of (by decide +kernel)
theorem fd_739_26 : Fdl 739 12 26 26 2 := fd_of (by decide) rfl (by decide +kernel)
theorem bf_739_26 {M : Mm} (h : Pw M) : 755 ≤ M 739 26 ∧ M 739 26 ≤ 755 := (h 739 26 (by decide) (by decide) (by decide) (by decide +kernel)).get0 g_739_26 rfl rfl rfl rfl
theorem br_739_26 {M : Mm} (h : Pw M) : M 739 26 = 755 := by have := bf_739_26 h; omega
theorem r98_11 : Rw 98 11 12 1 14 0 0 0 := rw_of (by decide +kernel)
theorem r98_12 : Rw 98 12 15 3 80 12 27 128 := rw_of (by decide +kernel)
theorem r98_15 : Rw 98 15 16 1 10 1 0 0 := rw_of (by decide +kernel)
theorem r98_16 : Rw 98 16 17 1 10 2 0 0 := rw_of (by decide +kernel)
theorem r98_17 : Rw 98 17 18 1 37 0 0 0 := rw_of (by decide +kernel)
theorem r98_18 : Rw 98 18 21 3 3 (cd 255) 33023 0 := rw_of (by decide +kernel)
theorem r98_21 : Rw 98 21 22 1 33 0 0 0 := rw_of (by decide +kernel)
theorem r98_22 : Rw 98 22 23 1 88 0 0 0 := rw_of (by decide +kernel)
theorem ar_755 : Ar 755 100 500 := ar_of (by decide) (by decide) (by decide +kernel)
theorem ba_755 {M : Mm} (h : Pw M) {i : Int} (h0 : 0 ≤ i) (h1 : i < 500) : 0 ≤ M 755 i ∧ M 755 i ≤ 255 := (h 755 i (by decide) (by decide) h0 (by rw [ar_755.2.2.2.1]; exact h1)).get0 (gr_755 (by decide) (by decide) i) rfl rfl rfl rfl
theorem ga_755 (i : Int) : grp 755 i = 246 := gr_755 (by decide) (by decide) i
theorem ua_755 {i z : Int} (hz : 0 ≤ z ∧ z ≤ 255) : Bd 755 i z := Bd.of0 (gr_755 (by decide) (by decide) i) rfl rfl rfl rfl hz
theorem r98_23 : Rw 98 23 24 1 14 0 0 0 := rw_of (by decide +kernel)
theorem r98_24 : Rw 98 24 25 1 52 0 0 0 := rw_of (by decide +kernel)
theorem r98_25 : Rw 98 25 28 3 80 12 27 128 := rw_of (by decide +kernel)
theorem r98_28 : Rw 98 28 29 1 1 (cd 1) 2 0 := rw_of (by decide +kernel)
theorem r98_29 : Rw 98 29 30 1 30 0 0 0 := rw_of (by decide +kernel)
theorem r98_30 : Rw 98 30 33 3 81 12 27 0 := rw_of (by decide +kernel)
theorem uf_739_27 {z : Int} (hz : 0 ≤ z ∧ z ≤ 500) : Bd 739 27 z := Bd.of0 g_739_27 rfl rfl rfl rfl hz
theorem r98_33 : Rw 98 33 36 3 22 2 (cd (-8)) 32760 := rw_of (by decide +kernel)
theorem r98_36 : Rw 98 36 39 3 60 3 0 0 := rw_of (by decide +kernel)
theorem r98_39 : Rw 98 39 40 1 77 0 0 0 := rw_of (by decide +kernel)
theorem kc_739_98 : Kc 739 98 := kc_of (by decide) (by decide +kernel)
theorem r70_25 : Rw 70 25 26 1 14 0 0 0 := rw_of (by decide +kernel)
theorem r70_26 : Rw 70 26 27 1 10 2 0 0 := rw_of (by decide +kernel)
theorem r70_27 : Rw 70 27 30 3 100 98 2 131 := rw_of (by decide +kernel)
theorem r70_30 : Rw 70 30 31 1 14 0 0 0 := rw_of (by decide +kernel)
theorem r70_31 : Rw 70 31 32 1 10 3 0 0 := rw_of (by decide +kernel)
theorem r70_32 : Rw 70 32 35 3 100 98 2 131 := rw_of (by decide +kernel)
theorem r70_35 : Rw 70 35 36 1 14 0 0 0 := rw_of (by decide +kernel)
theorem r70_36 : Rw 70 36 38 2 11 4 0 0 := rw_of (by decide +kernel)
theorem r70_38 : Rw 70 38 41 3 100 98 2 131 := rw_of (by decide +kernel)
theorem r70_41 : Rw 70 41 42 1 14 0 0 0 := rw_of (by decide +kernel)
theorem r70_42 : Rw 70 42 44 2 11 5 0 0 := rw_of (by decide +kernel)
theorem r70_44 : Rw 70 44 47 3 100 98 2 131 := rw_of (by decide +kernel)
theorem r70_47 : Rw 70 47 48 1 14 0 0 0 := rw_of (by decide +kernel)
theorem r70_48 : Rw 70 48 51 3 80 12 27 128 := rw_of (by decide +kernel)
theorem r70_51 : Rw 70 51 52 1 74 0 0 0 := rw_of (by decide +kernel)
theorem r70_18 : Rw 70 18 19 1 1 (cd (-1)) 0 0 := rw_of (by decide +kernel)
theorem r70_19 : Rw 70 19 20 1 74 0 0 0 := rw_of (by decide +kernel)
theorem r123_0 : Rw 123 0 1 1 14 0 0 0 := rw_of (by decide +kernel)
theorem r123_1 : Rw 123 1 4 3 80 12 0 125 := rw_of (by decide +kernel)
theorem bf_739_0 {M : Mm} (h : Pw M) : 0 ≤ M 739 0 ∧ M 739 0 ≤ 1 := (h 739 0 (by decide) (by decide) (by decide) (by decide +kernel)).get0 g_739_0 rfl rfl rfl rfl
theorem r123_4 : Rw 123 4 7 3 62 16 0 0 := rw_of (by decide +kernel)
theorem r123_16 : Rw 123 16 17 1 14 0 0 0 := rw_of (by decide +kernel)
theorem r123_17 : Rw 123 17 20 3 80 12 0 125 := rw_of (by decide +kernel)
theorem r123_20 : Rw 123 20 23 3 62 27 0 0 := rw_of (by decide +kernel)
theorem r123_27 : Rw 123 27 28 1 1 (cd 0) 1 0 := rw_of (by decide +kernel)
theorem r123_28 : Rw 123 28 29 1 74 1 0 0 := rw_of (by decide +kernel)
theorem r123_7 : Rw 123 7 8 1 10 1 0 0 := rw_of (by decide +kernel)
theorem r123_8 : Rw 123 8 11 3 62 16 0 0 := rw_of (by decide +kernel)
theorem r123_23 : Rw 123 23 24 1 1 (cd 1) 2 0 := rw_of (by decide +kernel)
theorem r123_24 : Rw 123 24 27 3 60 28 0 0 := rw_of (by decide +kernel)
theorem r123_11 : Rw 123 11 12 1 14 0 0 0 := rw_of (by decide +kernel)
theorem r123_12 : Rw 123 12 13 1 10 2 0 0 := rw_of (by decide +kernel)
theorem r123_13 : Rw 123 13 16 3 81 12 0 0 := rw_of (by decide +kernel)
theorem r18_0 : Rw 18 0 1 1 14 0 0 0 := rw_of (by decide +kernel)
theorem r18_1 : Rw 18 1 4 3 80 11 1 13 := rw_of (by decide +kernel)
theorem fd_0_1 : Fdl 0 11 1 1 0 := fd_of (by decide) rfl (by decide +kernel)
theorem bf_0_1 {M : Mm} (h : Pw M) : 0 ≤ M 0 1 ∧ M 0 1 ≤ 500 := (h 0 1 (by decide) (by decide) (by decide) (by decide +kernel)).get0 g_0_1 rfl rfl rfl rfl
theorem r18_4 : Rw 18 4 6 2 2 (cd 20) 148 0 := rw_of (by decide +kernel)
theorem r18_6 : Rw 18 6 7 1 30 0 0 0 := rw_of (by decide +kernel)
theorem r18_7 : Rw 18 7 10 3 3 (cd 500) 33268 0 := rw_of (by decide +kernel)
theorem r18_10 : Rw 18 10 13 3 72 15 0 0 := rw_of (by decide +kernel)
theorem r18_15 : Rw 18 15 16 1 14 0 0 0 := rw_of (by decide +kernel)
theorem r18_16 : Rw 18 16 17 1 10 1 0 0 := rw_of (by decide +kernel)
theorem r18_17 : Rw 18 17 20 3 100 33 2 127 := rw_of (by decide +kernel)
theorem r33_0 : Rw 33 0 2 2 2 (cd 24) 152 0 := rw_of (by decide +kernel)
theorem r33_2 : Rw 33 2 3 1 16 2 0 0 := rw_of (by decide +kernel)
theorem r33_3 : Rw 33 3 4 1 10 2 0 0 := rw_of (by decide +kernel)
theorem r33_4 : Rw 33 4 7 3 63 48 0 0 := rw_of (by decide +kernel)
theorem r33_7 : Rw 33 7 8 1 14 0 0 0 := rw_of (by decide +kernel)
theorem r33_8 : Rw 33 8 11 3 80 11 1 13 := rw_of (by decide +kernel)
theorem r33_11 : Rw 33 11 12 1 14 0 0 0 := rw_of (by decide +kernel)
theorem r33_12 : Rw 33 12 15 3 80 11 0 9 := rw_of (by decide +kernel)
theorem fd_0_0 : Fdl 0 11 0 0 2 := fd_of (by decide) rfl (by decide +kernel)
theorem bf_0_0 {M : Mm} (h : Pw M) : 1 ≤ M 0 0 ∧ M 0 0 ≤ 1 := (h 0 0 (by decide) (by decide) (by decide) (by decide +kernel)).get0 g_0_0 rfl rfl rfl rfl
theorem br_0_0 {M : Mm} (h : Pw M) : M 0 0 = 1 := by have := bf_0_0 h; omega
theorem r33_15 : Rw 33 15 16 1 92 0 0 0 := rw_of (by decide +kernel)
theorem ar_1 : Ar 1 101 500 := ar_of (by decide) (by decide) (by decide +kernel)
theorem ba_1 {M : Mm} (h : Pw M) {i : Int} (h0 : 0 ≤ i) (h1 : i < 500) : (-128) ≤ M 1 i ∧ M 1 i ≤ 127 := (h 1 i (by decide) (by decide) h0 (by rw [ar_1.2.2.2.1]; exact h1)).get0 (gr_1 (by decide) (by decide) i) rfl rfl rfl rfl
theorem ga_1 (i : Int) : grp 1 i = 19 := gr_1 (by decide) (by decide) i
theorem r33_16 : Rw 33 16 19 3 70 48 0 0 := rw_of (by decide +kernel)
theorem r33_48 : Rw 33 48 49 1 77 0 0 0 := rw_of (by decide +kernel)
theorem r33_19 : Rw 33 19 20 1 14 0 0 0 := rw_of (by decide +kernel)
theorem r33_20 : Rw 33 20 23 3 80 11 0 9 := rw_of (by decide +kernel)
theorem r33_23 : Rw 33 23 24 1 14 0 0 0 := rw_of (by decide +kernel)
theorem r33_24 : Rw 33 24 27 3 80 11 1 13 := rw_of (by decide +kernel)
theorem r33_27 : Rw 33 27 28 1 10 1 0 0 := rw_of (by decide +kernel)
theorem r33_28 : Rw 33 28 29 1 10 2 0 0 := rw_of (by decide +kernel)
theorem r33_29 : Rw 33 29 30 1 37 0 0 0 := rw_of (by decide +kernel)
theorem r33_30 : Rw 33 30 31 1 50 0 0 0 := rw_of (by decide +kernel)
theorem r33_31 : Rw 33 31 32 1 90 0 0 0 := rw_of (by decide +kernel)
theorem ua_1 {i z : Int} (hz : (-128) ≤ z ∧ z ≤ 127) : Bd 1 i z := Bd.of0 (gr_1 (by decide) (by decide) i) rfl rfl rfl rfl hz
theorem r33_32 : Rw 33 32 33 1 14 0 0 0 := rw_of (by decide +kernel)
theorem r33_33 : Rw 33 33 34 1 52 0 0 0 := rw_of (by decide +kernel)
theorem r33_34 : Rw 33 34 37 3 80 11 1 13 := rw_of (by decide +kernel)
theorem r33_37 : Rw 33 37 38 1 1 (cd 1) 2 0 := rw_of (by decide +kernel)
theorem r33_38 : Rw 33 38 39 1 30 0 0 0 := rw_of (by decide +kernel)
theorem r33_39 : Rw 33 39 42 3 81 11 1 0 := rw_of (by decide +kernel)
theorem uf_0_1 {z : Int} (hz : 0 ≤ z ∧ z ≤ 500) : Bd 0 1 z := Bd.of0 g_0_1 rfl rfl rfl rfl hz
theorem r33_42 : Rw 33 42 45 3 22 2 (cd (-8)) 32760 := rw_of (by decide +kernel)
theorem r33_45 : Rw 33 45 48 3 60 3 0 0 := rw_of (by decide +kernel)
theorem kc_0_33 : Kc 0 33 := kc_of (by decide) (by decide +kernel)
theorem r18_20 : Rw 18 20 21 1 14 0 0 0 := rw_of (by decide +kernel)
theorem r18_21 : Rw 18 21 22 1 10 2 0 0 := rw_of (by decide +kernel)
theorem r18_22 : Rw 18 22 25 3 100 33 2 127 := rw_of (by decide +kernel)
theorem r18_25 : Rw 18 25 26 1 14 0 0 0 := rw_of (by decide +kernel)
theorem r18_26 : Rw 18 26 27 1 10 3 0 0 := rw_of (by decide +kernel)
theorem r18_27 : Rw 18 27 30 3 100 33 2 127 := rw_of (by decide +kernel)
theorem r18_30 : Rw 18 30 31 1 14 0 0 0 := rw_of (by decide +kernel)
theorem r18_31 : Rw 18 31 33 2 11 4 0 0 := rw_of (by decide +kernel)
theorem r18_33 : Rw 18 33 36 3 100 33 2 127 := rw_of (by decide +kernel)
theorem r18_36 : Rw 18 36 37 1 14 0 0 0 := rw_of (by decide +kernel)
theorem r18_37 : Rw 18 37 39 2 11 5 0 0 := rw_of (by decide +kernel)
theorem r18_39 : Rw 18 39 42 3 100 33 2 127 := rw_of (by decide +kernel)
theorem r18_42 : Rw 18 42 43 1 14 0 0 0 := rw_of (by decide +kernel)
theorem r18_43 : Rw 18 43 46 3 80 11 1 13 := rw_of (by decide +kernel)
theorem r18_46 : Rw 18 46 47 1 74 0 0 0 := rw_of (by decide +kernel)
theorem r18_13 : Rw 18 13 14 1 1 (cd (-1)) 0 0 := rw_of (by decide +kernel)
theorem r18_14 : Rw 18 14 15 1 74 0 0 0 := rw_of (by decide +kernel)
theorem r7_0 : Rw 7 0 1 1 14 0 0 0 := rw_of (by decide +kernel)
theorem r7_1 : Rw 7 1 4 3 80 10 3 35 := rw_of (by decide +kernel)
theorem fd_14_3 : Fdl 14 10 3 3 0 := fd_of (by decide) rfl (by decide +kernel)
theorem bf_14_3 {M : Mm} (h : Pw M) : 0 ≤ M 14 3 ∧ M 14 3 ≤ 1 := (h 14 3 (by decide) (by decide) (by decide) (by decide +kernel)).get0 g_14_3 rfl rfl rfl rfl
theorem r7_4 : Rw 7 4 6 2 2 (cd 26) 154 0 := rw_of (by decide +kernel)
theorem r7_6 : Rw 7 6 7 1 36 0 0 0 := rw_of (by decide +kernel)
theorem pwl_26 : pw 26 = 67108864 := by decide
theorem r7_7 : Rw 7 7 8 1 14 0 0 0 := rw_of (by decide +kernel)
theorem r7_8 : Rw 7 8 11 3 80 10 2 32 := rw_of (by decide +kernel)
theorem fd_14_2 : Fdl 14 10 2 2 0 := fd_of (by decide) rfl (by decide +kernel)
theorem bf_14_2 {M : Mm} (h : Pw M) : 0 ≤ M 14 2 ∧ M 14 2 ≤ 6 := (h 14 2 (by decide) (by decide) (by decide) (by decide +kernel)).get0 g_14_2 rfl rfl rfl rfl
theorem r7_11 : Rw 7 11 13 2 2 (cd 23) 151 0 := rw_of (by decide +kernel)
theorem r7_13 : Rw 7 13 14 1 36 0 0 0 := rw_of (by decide +kernel)
theorem pwl_23 : pw 23 = 8388608 := by decide
theorem r7_14 : Rw 7 14 15 1 34 0 0 0 := rw_of (by decide +kernel)
theorem r7_15 : Rw 7 15 16 1 14 0 0 0 := rw_of (by decide +kernel)
theorem r7_16 : Rw 7 16 19 3 80 10 1 25 := rw_of (by decide +kernel)
theorem fd_14_1 : Fdl 14 10 1 1 0 := fd_of (by decide) rfl (by decide +kernel)
theorem bf_14_1 {M : Mm} (h : Pw M) : 0 ≤ M 14 1 ∧ M 14 1 ≤ 3 := (h 14 1 (by decide) (by decide) (by decide) (by decide +kernel)).get0 g_14_1 rfl rfl rfl rfl
theorem r7_19 : Rw 7 19 21 2 2 (cd 21) 149 0 := rw_of (by decide +kernel)
theorem r7_21 : Rw 7 21 22 1 36 0 0 0 := rw_of (by decide +kernel)
theorem pwl_21 : pw 21 = 2097152 := by decide
theorem r7_22 : Rw 7 22 23 1 34 0 0 0 := rw_of (by decide +kernel)
theorem r7_23 : Rw 7 23 24 1 16 1 0 0 := rw_of (by decide +kernel)
theorem r7_24 : Rw 7 24 25 1 1 (cd 0) 1 0 := rw_of (by decide +kernel)
theorem r7_25 : Rw 7 25 26 1 16 2 0 0 := rw_of (by decide +kernel)
theorem r7_26 : Rw 7 26 27 1 10 2 0 0 := rw_of (by decide +kernel)
theorem r7_27 : Rw 7 27 29 2 2 (cd 7) 135 0 := rw_of (by decide +kernel)
theorem r7_29 : Rw 7 29 32 3 70 51 0 0 := rw_of (by decide +kernel)
theorem r7_32 : Rw 7 32 33 1 10 1 0 0 := rw_of (by decide +kernel)
theorem r7_33 : Rw 7 33 34 1 14 0 0 0 := rw_of (by decide +kernel)
theorem r7_34 : Rw 7 34 37 3 80 10 0 9 := rw_of (by decide +kernel)
theorem fd_14_0 : Fdl 14 10 0 0 2 := fd_of (by decide) rfl (by decide +kernel)
theorem bf_14_0 {M : Mm} (h : Pw M) : 15 ≤ M 14 0 ∧ M 14 0 ≤ 15 := (h 14 0 (by decide) (by decide) (by decide) (by decide +kernel)).get0 g_14_0 rfl rfl rfl rfl
theorem br_14_0 {M : Mm} (h : Pw M) : M 14 0 = 15 := by have := bf_14_0 h; omega
theorem r7_37 : Rw 7 37 38 1 10 2 0 0 := rw_of (by decide +kernel)
theorem r7_38 : Rw 7 38 39 1 83 0 0 0 := rw_of (by decide +kernel)
theorem ar_15 : Ar 15 100 7 := ar_of (by decide) (by decide) (by decide +kernel)
theorem ba_15 {M : Mm} (h : Pw M) {i : Int} (h0 : 0 ≤ i) (h1 : i < 7) : 0 ≤ M 15 i ∧ M 15 i ≤ 5 := (h 15 i (by decide) (by decide) h0 (by rw [ar_15.2.2.2.1]; exact h1)).get0 (gr_15 (by decide) (by decide) i) rfl rfl rfl rfl
theorem ga_15 (i : Int) : grp 15 i = 70 := gr_15 (by decide) (by decide) i
theorem r7_39 : Rw 7 39 40 1 1 (cd 3) 4 0 := rw_of (by decide +kernel)
theorem r7_40 : Rw 7 40 41 1 10 2 0 0 := rw_of (by decide +kernel)
theorem r7_41 : Rw 7 41 42 1 32 0 0 0 := rw_of (by decide +kernel)
theorem r7_42 : Rw 7 42 43 1 36 0 0 0 := rw_of (by decide +kernel)
theorem pwl_0 : pw 0 = 1 := by decide
theorem r7_43 : Rw 7 43 44 1 34 0 0 0 := rw_of (by decide +kernel)
theorem r7_44 : Rw 7 44 45 1 16 1 0 0 := rw_of (by decide +kernel)
theorem r7_45 : Rw 7 45 48 3 22 2 (cd 1) 32769 := rw_of (by decide +kernel)
theorem r7_48 : Rw 7 48 51 3 60 26 0 0 := rw_of (by decide +kernel)
theorem pwl_9 : pw 9 = 512 := by decide
theorem pwl_12 : pw 12 = 4096 := by decide
theorem r7_51 : Rw 7 51 52 1 10 1 0 0 := rw_of (by decide +kernel)
theorem r7_52 : Rw 7 52 53 1 74 0 0 0 := rw_of (by decide +kernel)
theorem pwl_18 : pw 18 = 262144 := by decide
theorem fd_180_3 : Fdl 180 10 3 3 0 := fd_of (by decide) rfl (by decide +kernel)
theorem bf_180_3 {M : Mm} (h : Pw M) : 0 ≤ M 180 3 ∧ M 180 3 ≤ 1 := (h 180 3 (by decide) (by decide) (by decide) (by decide +kernel)).get0 g_180_3 rfl rfl rfl rfl
theorem fd_180_2 : Fdl 180 10 2 2 0 := fd_of (by decide) rfl (by decide +kernel)
theorem bf_180_2 {M : Mm} (h : Pw M) : 0 ≤ M 180 2 ∧ M 180 2 ≤ 6 := (h 180 2 (by decide) (by decide) (by decide) (by decide +kernel)).get0 g_180_2 rfl rfl rfl rfl
theorem fd_180_1 : Fdl 180 10 1 1 0 := fd_of (by decide) rfl (by decide +kernel)
theorem bf_180_1 {M : Mm} (h : Pw M) : 0 ≤ M 180 1 ∧ M 180 1 ≤ 3 := (h 180 1 (by decide) (by decide) (by decide) (by decide +kernel)).get0 g_180_1 rfl rfl rfl rfl
theorem fd_180_0 : Fdl 180 10 0 0 2 := fd_of (by decide) rfl (by decide +kernel)
theorem bf_180_0 {M : Mm} (h : Pw M) : 181 ≤ M 180 0 ∧ M 180 0 ≤ 181 := (h 180 0 (by decide) (by decide) (by decide) (by decide +kernel)).get0 g_180_0 rfl rfl rfl rfl
theorem br_180_0 {M : Mm} (h : Pw M) : M 180 0 = 181 := by have := bf_180_0 h; omega
theorem ar_181 : Ar 181 100 7 := ar_of (by decide) (by decide) (by decide +kernel)
theorem ba_181 {M : Mm} (h : Pw M) {i : Int} (h0 : 0 ≤ i) (h1 : i < 7) : 0 ≤ M 181 i ∧ M 181 i ≤ 5 := (h 181 i (by decide) (by decide) h0 (by rw [ar_181.2.2.2.1]; exact h1)).get0 (gr_181 (by decide) (by decide) i) rfl rfl rfl rfl
theorem ga_181 (i : Int) : grp 181 i = 122 := gr_181 (by decide) (by decide) i
theorem r30_0 : Rw 30 0 1 1 10 1 0 0 := rw_of (by decide +kernel)
theorem r30_1 : Rw 30 1 4 3 63 15 0 0 := rw_of (by decide +kernel)
theorem r30_15 : Rw 30 15 18 3 112 0 7 305 := rw_of (by decide +kernel)
theorem r30_4 : Rw 30 4 5 1 10 1 0 0 := rw_of (by decide +kernel)
theorem r30_5 : Rw 30 5 6 1 14 0 0 0 := rw_of (by decide +kernel)
theorem r30_6 : Rw 30 6 9 3 80 11 2 20 := rw_of (by decide +kernel)
theorem fd_0_2 : Fdl 0 11 2 2 2 := fd_of (by decide) rfl (by decide +kernel)
theorem bf_0_2 {M : Mm} (h : Pw M) : 2 ≤ M 0 2 ∧ M 0 2 ≤ 2 := (h 0 2 (by decide) (by decide) (by decide) (by decide +kernel)).get0 g_0_2 rfl rfl rfl rfl
theorem br_0_2 {M : Mm} (h : Pw M) : M 0 2 = 2 := by have := bf_0_2 h; omega
theorem r30_9 : Rw 30 9 12 3 80 4 1 155 := rw_of (by decide +kernel)
theorem bf_2_1 {M : Mm} (h : Pw M) : (-1) ≤ M 2 1 ∧ M 2 1 ≤ 7 := (h 2 1 (by decide) (by decide) (by decide) (by decide +kernel)).get0 g_2_1 rfl rfl rfl rfl
theorem r30_12 : Rw 30 12 15 3 69 26 0 0 := rw_of (by decide +kernel)
theorem r30_26 : Rw 30 26 27 1 77 0 0 0 := rw_of (by decide +kernel)
theorem r15_0 : Rw 15 0 1 1 10 1 0 0 := rw_of (by decide +kernel)
theorem r15_1 : Rw 15 1 4 3 73 2 0 0 := rw_of (by decide +kernel)
theorem r15_109 : Rw 15 109 112 3 105 0 2 178 := rw_of (by decide +kernel)
theorem r15_48 : Rw 15 48 49 1 14 0 0 0 := rw_of (by decide +kernel)
theorem r15_49 : Rw 15 49 52 3 80 11 2 20 := rw_of (by decide +kernel)
theorem r15_52 : Rw 15 52 55 3 80 4 1 155 := rw_of (by decide +kernel)
theorem r15_55 : Rw 15 55 56 1 74 0 0 0 := rw_of (by decide +kernel)
theorem r15_56 : Rw 15 56 57 1 14 0 0 0 := rw_of (by decide +kernel)
theorem r15_57 : Rw 15 57 60 3 80 11 2 20 := rw_of (by decide +kernel)
theorem r15_60 : Rw 15 60 63 3 80 4 2 169 := rw_of (by decide +kernel)
theorem bf_2_2 {M : Mm} (h : Pw M) : (-1) ≤ M 2 2 ∧ M 2 2 ≤ 4 := (h 2 2 (by decide) (by decide) (by decide) (by decide +kernel)).get0 g_2_2 rfl rfl rfl rfl
theorem r15_63 : Rw 15 63 64 1 74 0 0 0 := rw_of (by decide +kernel)
theorem r15_64 : Rw 15 64 65 1 14 0 0 0 := rw_of (by decide +kernel)
theorem r15_65 : Rw 15 65 68 3 80 11 9 65 := rw_of (by decide +kernel)
theorem fd_0_9 : Fdl 0 11 9 9 0 := fd_of (by decide) rfl (by decide +kernel)
theorem bf_0_9 {M : Mm} (h : Pw M) : 0 ≤ M 0 9 ∧ M 0 9 ≤ 30 := (h 0 9 (by decide) (by decide) (by decide) (by decide +kernel)).get0 g_0_9 rfl rfl rfl rfl
theorem r15_68 : Rw 15 68 69 1 74 0 0 0 := rw_of (by decide +kernel)
theorem r15_69 : Rw 15 69 70 1 14 0 0 0 := rw_of (by decide +kernel)
theorem r15_70 : Rw 15 70 73 3 80 11 7 57 := rw_of (by decide +kernel)
theorem fd_0_7 : Fdl 0 11 7 7 2 := fd_of (by decide) rfl (by decide +kernel)
theorem bf_0_7 {M : Mm} (h : Pw M) : 138 ≤ M 0 7 ∧ M 0 7 ≤ 138 := (h 0 7 (by decide) (by decide) (by decide) (by decide +kernel)).get0 g_0_7 rfl rfl rfl rfl
theorem br_0_7 {M : Mm} (h : Pw M) : M 0 7 = 138 := by have := bf_0_7 h; omega
theorem r15_73 : Rw 15 73 76 3 80 8 5 172 := rw_of (by decide +kernel)
theorem fd_138_5 : Fdl 138 8 5 5 0 := fd_of (by decide) rfl (by decide +kernel)
theorem bf_138_5 {M : Mm} (h : Pw M) : 0 ≤ M 138 5 ∧ M 138 5 ≤ 12 := (h 138 5 (by decide) (by decide) (by decide) (by decide +kernel)).get0 g_138_5 rfl rfl rfl rfl
theorem r15_76 : Rw 15 76 77 1 74 0 0 0 := rw_of (by decide +kernel)
theorem r15_77 : Rw 15 77 78 1 14 0 0 0 := rw_of (by decide +kernel)
theorem r15_78 : Rw 15 78 81 3 80 11 11 72 := rw_of (by decide +kernel)
theorem fd_0_11 : Fdl 0 11 11 11 0 := fd_of (by decide) rfl (by decide +kernel)
theorem bf_0_11 {M : Mm} (h : Pw M) : 0 ≤ M 0 11 ∧ M 0 11 ≤ 10 := (h 0 11 (by decide) (by decide) (by decide) (by decide +kernel)).get0 g_0_11 rfl rfl rfl rfl
theorem r15_81 : Rw 15 81 82 1 74 0 0 0 := rw_of (by decide +kernel)
theorem r15_82 : Rw 15 82 83 1 14 0 0 0 := rw_of (by decide +kernel)
theorem r15_83 : Rw 15 83 86 3 80 11 1 13 := rw_of (by decide +kernel)
theorem r15_86 : Rw 15 86 87 1 74 0 0 0 := rw_of (by decide +kernel)
theorem r15_87 : Rw 15 87 88 1 14 0 0 0 := rw_of (by decide +kernel)
theorem r15_88 : Rw 15 88 91 3 80 11 2 20 := rw_of (by decide +kernel)
theorem r15_91 : Rw 15 91 94 3 80 4 4 173 := rw_of (by decide +kernel)
theorem bf_2_4 {M : Mm} (h : Pw M) : 0 ≤ M 2 4 ∧ M 2 4 ≤ 127 := (h 2 4 (by decide) (by decide) (by decide) (by decide +kernel)).get0 g_2_4 rfl rfl rfl rfl
theorem r15_94 : Rw 15 94 95 1 74 0 0 0 := rw_of (by decide +kernel)
theorem r15_95 : Rw 15 95 96 1 14 0 0 0 := rw_of (by decide +kernel)
theorem r15_96 : Rw 15 96 99 3 80 11 13 82 := rw_of (by decide +kernel)
theorem fd_0_13 : Fdl 0 11 13 13 0 := fd_of (by decide) rfl (by decide +kernel)
theorem bf_0_13 {M : Mm} (h : Pw M) : (-1) ≤ M 0 13 ∧ M 0 13 ≤ 2999 := (h 0 13 (by decide) (by decide) (by decide) (by decide +kernel)).get0 g_0_13 rfl rfl rfl rfl
theorem r15_99 : Rw 15 99 100 1 1 (cd (-1)) 0 0 := rw_of (by decide +kernel)
theorem r15_100 : Rw 15 100 103 3 68 107 0 0 := rw_of (by decide +kernel)
theorem r15_107 : Rw 15 107 108 1 1 (cd 1) 2 0 := rw_of (by decide +kernel)
theorem r15_108 : Rw 15 108 109 1 74 0 0 0 := rw_of (by decide +kernel)
theorem r15_103 : Rw 15 103 104 1 1 (cd 0) 1 0 := rw_of (by decide +kernel)
theorem r15_104 : Rw 15 104 107 3 60 108 0 0 := rw_of (by decide +kernel)
def fm_m179_2 : Nat := 0
/-- IslandHall$Plan.earliestDay -/
theorem m179_2 {B : eB} (d : Nat) (M0 : Mm) (hP0 : Pw M0)  : Ct B (d + 1) 179 [R 2] M0 (qI fun z M => Pw M ∧ Fr fm_m179_2 M0 M ∧ 0 ≤ z ∧ z ≤ 6) := by
  refine ct_of (d := d + 0) (k := 0) (L := [some (R 2)]) rfl rfl rfl ?_
  have hF0 := Fr.rf fm_m179_2 M0
  generalize hQ : (qI fun z M => Pw M ∧ Fr fm_m179_2 M0 M ∧ 0 ≤ z ∧ z ≤ 6) = Q
  refine wk_al0 r179_0 (wk_getfb r179_1 fd_2_3 (bf_2_3 hP0) ?_)
  intro v1 h3 h4 e2
  refine wk_c1 r179_4 ?_
  refine wk_icne r179_5 ⟨by omega, by omega⟩ (by decide) ?_ ?_
  · intro h5
    refine wk_al0 r179_12 (wk_getfi r179_13 fd_2_3 e2 ?_)
    subst hQ; exact wk_iret r179_16 (⟨rfl, _, rfl, hP0, hF0, by omega, by omega⟩)
  · intro h6
    refine wk_c1 r179_8 (wk_goto r179_9 ?_)
    subst hQ; exact wk_iret r179_16 (⟨rfl, _, rfl, hP0, hF0, by omega, by omega⟩)
def fm_m179_7 : Nat := 0
/-- IslandHall$Plan.earliestDay -/
theorem m179_7 {B : eB} (d : Nat) (M0 : Mm) (hP0 : Pw M0)  : Ct B (d + 1) 179 [R 7] M0 (qI fun z M => Pw M ∧ Fr fm_m179_7 M0 M ∧ 0 ≤ z ∧ z ≤ 6) := by
  refine ct_of (d := d + 0) (k := 0) (L := [some (R 7)]) rfl rfl rfl ?_
  have hF0 := Fr.rf fm_m179_7 M0
  generalize hQ : (qI fun z M => Pw M ∧ Fr fm_m179_7 M0 M ∧ 0 ≤ z ∧ z ≤ 6) = Q
  refine wk_al0 r179_0 (wk_getfb r179_1 fd_7_3 (bf_7_3 hP0) ?_)
  intro v1 h3 h4 e2
  refine wk_c1 r179_4 ?_
  refine wk_icne r179_5 ⟨by omega, by omega⟩ (by decide) ?_ ?_
  · intro h5
    refine wk_al0 r179_12 (wk_getfi r179_13 fd_7_3 e2 ?_)
    subst hQ; exact wk_iret r179_16 (⟨rfl, _, rfl, hP0, hF0, by omega, by omega⟩)
  · intro h6
    refine wk_c1 r179_8 (wk_goto r179_9 ?_)
    subst hQ; exact wk_iret r179_16 (⟨rfl, _, rfl, hP0, hF0, by omega, by omega⟩)
def fm_m181_2 : Nat := 0
/-- IslandHall$Plan.latestDay -/
theorem m181_2 {B : eB} (d : Nat) (M0 : Mm) (hP0 : Pw M0)  : Ct B (d + 2) 181 [R 2] M0 (qI fun z M => Pw M ∧ Fr fm_m181_2 M0 M ∧ 0 ≤ z ∧ z ≤ 6) := by
  refine ct_of (d := d + 1) (k := 0) (L := [some (R 2)]) rfl rfl rfl ?_
  have hF0 := Fr.rf fm_m181_2 M0
  generalize hQ : (qI fun z M => Pw M ∧ Fr fm_m181_2 M0 M ∧ 0 ≤ z ∧ z ≤ 6) = Q
  refine wk_al0 r181_0 (wk_getfb r181_1 fd_2_3 (bf_2_3 hP0) ?_)
  intro v1 h3 h4 e2
  refine wk_c1 r181_4 ?_
  refine wk_icne r181_5 ⟨by omega, by omega⟩ (by decide) ?_ ?_
  · intro h5
    refine wk_al0 r181_20 (wk_cv1 r181_21 kc_2_179 rfl (m179_2 _ M0 hP0) (cqI ?_))
    rintro v10 M6 ⟨hP7, hQ8, h11, h12⟩
    have hF9 : Fr fm_m181_2 M0 M6 := hF0.tr hQ8 rfl
    subst hQ; exact wk_iret r181_24 (⟨rfl, _, rfl, hP7, hF9, by omega, by omega⟩)
  · intro h13
    refine wk_al0 r181_8 (wk_getfb r181_9 fd_2_5 (bf_2_5 hP0) ?_)
    intro v14 h16 h17 e15
    refine wk_ifeq r181_12 ⟨by omega, by omega⟩ ?_ ?_
    · intro h18
      refine wk_al0 r181_20 (wk_cv1 r181_21 kc_2_179 rfl (m179_2 _ M0 hP0) (cqI ?_))
      rintro v23 M19 ⟨hP20, hQ21, h24, h25⟩
      have hF22 : Fr fm_m181_2 M0 M19 := hF0.tr hQ21 rfl
      subst hQ; exact wk_iret r181_24 (⟨rfl, _, rfl, hP20, hF22, by omega, by omega⟩)
    · intro h26
      refine wk_c2 r181_15 (wk_goto r181_17 ?_)
      subst hQ; exact wk_iret r181_24 (⟨rfl, _, rfl, hP0, hF0, by omega, by omega⟩)
def fm_m181_7 : Nat := 0
/-- IslandHall$Plan.latestDay -/
theorem m181_7 {B : eB} (d : Nat) (M0 : Mm) (hP0 : Pw M0)  : Ct B (d + 2) 181 [R 7] M0 (qI fun z M => Pw M ∧ Fr fm_m181_7 M0 M ∧ 0 ≤ z ∧ z ≤ 6) := by
  refine ct_of (d := d + 1) (k := 0) (L := [some (R 7)]) rfl rfl rfl ?_
  have hF0 := Fr.rf fm_m181_7 M0
  generalize hQ : (qI fun z M => Pw M ∧ Fr fm_m181_7 M0 M ∧ 0 ≤ z ∧ z ≤ 6) = Q
  refine wk_al0 r181_0 (wk_getfb r181_1 fd_7_3 (bf_7_3 hP0) ?_)
  intro v1 h3 h4 e2
  refine wk_c1 r181_4 ?_
  refine wk_icne r181_5 ⟨by omega, by omega⟩ (by decide) ?_ ?_
  · intro h5
    refine wk_al0 r181_20 (wk_cv1 r181_21 kc_7_179 rfl (m179_7 _ M0 hP0) (cqI ?_))
    rintro v10 M6 ⟨hP7, hQ8, h11, h12⟩
    have hF9 : Fr fm_m181_7 M0 M6 := hF0.tr hQ8 rfl
    subst hQ; exact wk_iret r181_24 (⟨rfl, _, rfl, hP7, hF9, by omega, by omega⟩)
  · intro h13
    refine wk_al0 r181_8 (wk_getfb r181_9 fd_7_5 (bf_7_5 hP0) ?_)
    intro v14 h16 h17 e15
    refine wk_ifeq r181_12 ⟨by omega, by omega⟩ ?_ ?_
    · intro h18
      refine wk_al0 r181_20 (wk_cv1 r181_21 kc_7_179 rfl (m179_7 _ M0 hP0) (cqI ?_))
      rintro v23 M19 ⟨hP20, hQ21, h24, h25⟩
      have hF22 : Fr fm_m181_7 M0 M19 := hF0.tr hQ21 rfl
      subst hQ; exact wk_iret r181_24 (⟨rfl, _, rfl, hP20, hF22, by omega, by omega⟩)
    · intro h26
      refine wk_c2 r181_15 (wk_goto r181_17 ?_)
      subst hQ; exact wk_iret r181_24 (⟨rfl, _, rfl, hP0, hF0, by omega, by omega⟩)
def fm_m182_2 : Nat := 0
/-- IslandHall$Plan.latestWord -/
theorem m182_2 {B : eB} (d : Nat) (M0 : Mm) (hP0 : Pw M0)  : Ct B (d + 1) 182 [R 2] M0 (qI fun z M => Pw M ∧ Fr fm_m182_2 M0 M ∧ 0 ≤ z ∧ z ≤ 1) := by
  refine ct_of (d := d + 0) (k := 0) (L := [some (R 2)]) rfl rfl rfl ?_
  have hF0 := Fr.rf fm_m182_2 M0
  generalize hQ : (qI fun z M => Pw M ∧ Fr fm_m182_2 M0 M ∧ 0 ≤ z ∧ z ≤ 1) = Q
  refine wk_al0 r182_0 (wk_getfb r182_1 fd_2_6 (bf_2_6 hP0) ?_)
  intro v1 h3 h4 e2
  refine wk_ifeq r182_4 ⟨by omega, by omega⟩ ?_ ?_
  · intro h5
    refine wk_c1 r182_11 ?_
    subst hQ; exact wk_iret r182_12 (⟨rfl, _, rfl, hP0, hF0, by omega, by omega⟩)
  · intro h6
    refine wk_c1 r182_7 (wk_goto r182_8 ?_)
    subst hQ; exact wk_iret r182_12 (⟨rfl, _, rfl, hP0, hF0, by omega, by omega⟩)
def fm_m182_7 : Nat := 0
/-- IslandHall$Plan.latestWord -/
theorem m182_7 {B : eB} (d : Nat) (M0 : Mm) (hP0 : Pw M0)  : Ct B (d + 1) 182 [R 7] M0 (qI fun z M => Pw M ∧ Fr fm_m182_7 M0 M ∧ 0 ≤ z ∧ z ≤ 1) := by
  refine ct_of (d := d + 0) (k := 0) (L := [some (R 7)]) rfl rfl rfl ?_
  have hF0 := Fr.rf fm_m182_7 M0
  generalize hQ : (qI fun z M => Pw M ∧ Fr fm_m182_7 M0 M ∧ 0 ≤ z ∧ z ≤ 1) = Q
  refine wk_al0 r182_0 (wk_getfb r182_1 fd_7_6 (bf_7_6 hP0) ?_)
  intro v1 h3 h4 e2
  refine wk_ifeq r182_4 ⟨by omega, by omega⟩ ?_ ?_
  · intro h5
    refine wk_c1 r182_11 ?_
    subst hQ; exact wk_iret r182_12 (⟨rfl, _, rfl, hP0, hF0, by omega, by omega⟩)
  · intro h6
    refine wk_c1 r182_7 (wk_goto r182_8 ?_)
    subst hQ; exact wk_iret r182_12 (⟨rfl, _, rfl, hP0, hF0, by omega, by omega⟩)
def fm_m183_2 : Nat := 266338304
/-- IslandHall$Plan.reset -/
theorem m183_2 {B : eB} (d : Nat) (M0 : Mm) (hP0 : Pw M0)  : Ct B (d + 2) 183 [R 2] M0 (qV fun M => Pw M ∧ Fr fm_m183_2 M0 M) := by
  refine ct_of (d := d + 1) (k := 0) (L := [some (R 2)]) rfl rfl rfl ?_
  have hF0 := Fr.rf fm_m183_2 M0
  generalize hQ : (qV fun M => Pw M ∧ Fr fm_m183_2 M0 M) = Q
  refine wk_al0 r183_0 (wk_getfr r183_1 fd_2_0 (br_2_0 hP0) (wk_c1 r183_4 (wk_cs102_2 r183_5 rfl (ct_fi ar_3) (cqV ?_))))
  intro M1 e2
  have hP3 : Pw M1 := by rw [e2]; exact hP0.fil (fun i => (ua_3 (by decide)))
  have hF4 : Fr fm_m183_2 M0 M1 := by rw [e2]; exact hF0.fil (fun i => by rw [(ga_3 i)]; rfl)
  refine wk_al0 r183_8 (wk_c1 r183_9 (wk_putfi81 r183_10 fd_2_1 (wk_nw g_2_1 rfl hP3 hF4 (uf_2_1 (by decide)) ?_)))
  intro M5 hP6 hF7 e8
  refine wk_al0 r183_13 (wk_c1 r183_14 (wk_putfi81 r183_15 fd_2_2 (wk_nw g_2_2 rfl hP6 hF7 (uf_2_2 (by decide)) ?_)))
  intro M9 hP10 hF11 e12
  refine wk_al0 r183_18 (wk_c1 r183_19 (wk_putfi81 r183_20 fd_2_3 (wk_nw g_2_3 rfl hP10 hF11 (uf_2_3 (by decide)) ?_)))
  intro M13 hP14 hF15 e16
  refine wk_al0 r183_23 (wk_c1 r183_24 (wk_putfi81 r183_25 fd_2_4 (wk_nw g_2_4 rfl hP14 hF15 (uf_2_4 (by decide)) ?_)))
  intro M17 hP18 hF19 e20
  refine wk_al0 r183_28 (wk_c1 r183_29 (wk_putfz81 r183_30 fd_2_5 (by decide) (wk_nw g_2_5 rfl hP18 hF19 (uf_2_5 (by decide)) ?_)))
  intro M21 hP22 hF23 e24
  refine wk_al0 r183_33 (wk_c1 r183_34 (wk_putfz81 r183_35 fd_2_6 (by decide) (wk_nw g_2_6 rfl hP22 hF23 (uf_2_6 (by decide)) ?_)))
  intro M25 hP26 hF27 e28
  subst hQ; exact wk_ret r183_38 (⟨rfl, hP26, hF27⟩)
def fm_m183_7 : Nat := 139637976727552
/-- IslandHall$Plan.reset -/
theorem m183_7 {B : eB} (d : Nat) (M0 : Mm) (hP0 : Pw M0)  : Ct B (d + 2) 183 [R 7] M0 (qV fun M => Pw M ∧ Fr fm_m183_7 M0 M) := by
  refine ct_of (d := d + 1) (k := 0) (L := [some (R 7)]) rfl rfl rfl ?_
  have hF0 := Fr.rf fm_m183_7 M0
  generalize hQ : (qV fun M => Pw M ∧ Fr fm_m183_7 M0 M) = Q
  refine wk_al0 r183_0 (wk_getfr r183_1 fd_7_0 (br_7_0 hP0) (wk_c1 r183_4 (wk_cs102_2 r183_5 rfl (ct_fi ar_8) (cqV ?_))))
  intro M1 e2
  have hP3 : Pw M1 := by rw [e2]; exact hP0.fil (fun i => (ua_8 (by decide)))
  have hF4 : Fr fm_m183_7 M0 M1 := by rw [e2]; exact hF0.fil (fun i => by rw [(ga_8 i)]; rfl)
  refine wk_al0 r183_8 (wk_c1 r183_9 (wk_putfi81 r183_10 fd_7_1 (wk_nw g_7_1 rfl hP3 hF4 (uf_7_1 (by decide)) ?_)))
  intro M5 hP6 hF7 e8
  refine wk_al0 r183_13 (wk_c1 r183_14 (wk_putfi81 r183_15 fd_7_2 (wk_nw g_7_2 rfl hP6 hF7 (uf_7_2 (by decide)) ?_)))
  intro M9 hP10 hF11 e12
  refine wk_al0 r183_18 (wk_c1 r183_19 (wk_putfi81 r183_20 fd_7_3 (wk_nw g_7_3 rfl hP10 hF11 (uf_7_3 (by decide)) ?_)))
  intro M13 hP14 hF15 e16
  refine wk_al0 r183_23 (wk_c1 r183_24 (wk_putfi81 r183_25 fd_7_4 (wk_nw g_7_4 rfl hP14 hF15 (uf_7_4 (by decide)) ?_)))
  intro M17 hP18 hF19 e20
  refine wk_al0 r183_28 (wk_c1 r183_29 (wk_putfz81 r183_30 fd_7_5 (by decide) (wk_nw g_7_5 rfl hP18 hF19 (uf_7_5 (by decide)) ?_)))
  intro M21 hP22 hF23 e24
  refine wk_al0 r183_33 (wk_c1 r183_34 (wk_putfz81 r183_35 fd_7_6 (by decide) (wk_nw g_7_6 rfl hP22 hF23 (uf_7_6 (by decide)) ?_)))
  intro M25 hP26 hF27 e28
  subst hQ; exact wk_ret r183_38 (⟨rfl, hP26, hF27⟩)
def fm_m177_2 : Nat := 0
/-- IslandHall$Plan.codeBehind -/
theorem m177_2 {B : eB} (d : Nat) (M0 : Mm) (p1 : Int) (p2 : Int) (hP0 : Pw M0) (l1 : 0 ≤ p1) (u1 : p1 ≤ 6) (l2 : (-1) ≤ p2) (u2 : p2 ≤ 5) : Ct B (d + 1) 177 [R 2, I p1, I p2] M0 (qI fun z M => Pw M ∧ Fr fm_m177_2 M0 M ∧ (-1) ≤ z ∧ z ≤ 5) := by
  refine ct_of (d := d + 0) (k := 1) (L := [some (R 2), some (I p1), some (I p2), none]) rfl rfl rfl ?_
  have hF0 := Fr.rf fm_m177_2 M0
  generalize hQ : (qI fun z M => Pw M ∧ Fr fm_m177_2 M0 M ∧ (-1) ≤ z ∧ z ≤ 5) = Q
  refine wk_il2 r177_0 (wk_c1 r177_1 (wk_iadd r177_2 (wk_is3 r177_3 rfl ?_)))
  have c4_21 : ∀ (k21 : Nat) (v1 : Int), (6 - v1).toNat = k21 → 0 ≤ v1 → v1 ≤ 6 → Wp B (d + 0) 177 4 [some (R 2), some (I p1), none, some (I v1)] [] M0 Q := by
    refine lp_ind ?_
    intro k21 ih21 v1 hk21 h2 h3
    refine wk_il3 r177_4 (wk_c2 r177_5 ?_)
    refine wk_icge r177_7 ⟨by omega, by omega⟩ (by decide) ?_ ?_
    · intro h4
      refine wk_c1 r177_36 ?_
      subst hQ; exact wk_iret r177_37 (⟨rfl, _, rfl, hP0, hF0, by omega, by omega⟩)
    · intro h5
      refine wk_al0 r177_10 (wk_getfr r177_11 fd_2_0 (br_2_0 hP0) (wk_il1 r177_14 (wk_ialdb r177_15 ar_3 ⟨by omega, by omega⟩ (fun q0 q1 => ba_3 hP0 q0 q1) ?_)))
      intro v6 h8 h9 e7
      refine wk_kget r177_16 (wk_il3 r177_19 (wk_kald r177_20 ⟨by omega, by omega⟩ ?_))
      intro v10 h11 h12 h13
      refine wk_shrb r177_21 ⟨by omega, by omega⟩ ⟨by omega, by omega⟩ ?_
      intro v14 h15 h16 h17
      refine wk_c1 r177_22 (wk_iandc 1 2 r177_23 ⟨rfl, by decide⟩ rfl (wk_c1 r177_24 ?_))
      refine wk_icne r177_25 ⟨by omega, by omega⟩ (by decide) ?_ ?_
      · intro h19
        refine wk_inc3 r177_30 rfl (wk_goto r177_33 ?_)
        exact wp_fg (le_s (le_s (le_s (le_s le_0)))) (ih21 (6 - (v1 + 1)).toNat (by omega) (v1 + 1) rfl (by omega) (by omega))
      · intro h20
        refine wk_il3 r177_28 ?_
        subst hQ; exact wk_iret r177_29 (⟨rfl, _, rfl, hP0, hF0, by omega, by omega⟩)
  exact wp_fg (le_s (le_s (le_n (le_s le_0)))) (c4_21 _ (p2 + 1) rfl (by omega) (by omega))
def fm_m177_7 : Nat := 0
/-- IslandHall$Plan.codeBehind -/
theorem m177_7 {B : eB} (d : Nat) (M0 : Mm) (p1 : Int) (p2 : Int) (hP0 : Pw M0) (l1 : 0 ≤ p1) (u1 : p1 ≤ 6) (l2 : (-1) ≤ p2) (u2 : p2 ≤ 5) : Ct B (d + 1) 177 [R 7, I p1, I p2] M0 (qI fun z M => Pw M ∧ Fr fm_m177_7 M0 M ∧ (-1) ≤ z ∧ z ≤ 5) := by
  refine ct_of (d := d + 0) (k := 1) (L := [some (R 7), some (I p1), some (I p2), none]) rfl rfl rfl ?_
  have hF0 := Fr.rf fm_m177_7 M0
  generalize hQ : (qI fun z M => Pw M ∧ Fr fm_m177_7 M0 M ∧ (-1) ≤ z ∧ z ≤ 5) = Q
  refine wk_il2 r177_0 (wk_c1 r177_1 (wk_iadd r177_2 (wk_is3 r177_3 rfl ?_)))
  have c4_21 : ∀ (k21 : Nat) (v1 : Int), (6 - v1).toNat = k21 → 0 ≤ v1 → v1 ≤ 6 → Wp B (d + 0) 177 4 [some (R 7), some (I p1), none, some (I v1)] [] M0 Q := by
    refine lp_ind ?_
    intro k21 ih21 v1 hk21 h2 h3
    refine wk_il3 r177_4 (wk_c2 r177_5 ?_)
    refine wk_icge r177_7 ⟨by omega, by omega⟩ (by decide) ?_ ?_
    · intro h4
      refine wk_c1 r177_36 ?_
      subst hQ; exact wk_iret r177_37 (⟨rfl, _, rfl, hP0, hF0, by omega, by omega⟩)
    · intro h5
      refine wk_al0 r177_10 (wk_getfr r177_11 fd_7_0 (br_7_0 hP0) (wk_il1 r177_14 (wk_ialdb r177_15 ar_8 ⟨by omega, by omega⟩ (fun q0 q1 => ba_8 hP0 q0 q1) ?_)))
      intro v6 h8 h9 e7
      refine wk_kget r177_16 (wk_il3 r177_19 (wk_kald r177_20 ⟨by omega, by omega⟩ ?_))
      intro v10 h11 h12 h13
      refine wk_shrb r177_21 ⟨by omega, by omega⟩ ⟨by omega, by omega⟩ ?_
      intro v14 h15 h16 h17
      refine wk_c1 r177_22 (wk_iandc 1 2 r177_23 ⟨rfl, by decide⟩ rfl (wk_c1 r177_24 ?_))
      refine wk_icne r177_25 ⟨by omega, by omega⟩ (by decide) ?_ ?_
      · intro h19
        refine wk_inc3 r177_30 rfl (wk_goto r177_33 ?_)
        exact wp_fg (le_s (le_s (le_s (le_s le_0)))) (ih21 (6 - (v1 + 1)).toNat (by omega) (v1 + 1) rfl (by omega) (by omega))
      · intro h20
        refine wk_il3 r177_28 ?_
        subst hQ; exact wk_iret r177_29 (⟨rfl, _, rfl, hP0, hF0, by omega, by omega⟩)
  exact wp_fg (le_s (le_s (le_n (le_s le_0)))) (c4_21 _ (p2 + 1) rfl (by omega) (by omega))
def fm_m141 : Nat := 3758096384
/-- IslandHall$Code.clear -/
theorem m141 {B : eB} (d : Nat) (M0 : Mm) (c0 : Int) (hP0 : Pw M0) (hC0 : isC c0) : Ct B (d + 1) 141 [R c0] M0 (qV fun M => Pw M ∧ Fr fm_m141 M0 M) := by
  refine ct_of (d := d + 0) (k := 0) (L := [some (R c0)]) rfl rfl rfl ?_
  have hF0 := Fr.rf fm_m141 M0
  generalize hQ : (qV fun M => Pw M ∧ Fr fm_m141 M0 M) = Q
  refine wk_al0 r141_0 (wk_c1 r141_1 (wk_putfi81 r141_2 (fdC_1 hC0) (wk_nw (g_c1 hC0) rfl hP0 hF0 (uC_1 hC0 (by decide)) ?_)))
  intro M1 hP2 hF3 e4
  refine wk_al0 r141_5 (wk_c1 r141_6 (wk_putfi81 r141_7 (fdC_2 hC0) (wk_nw (g_c2 hC0) rfl hP2 hF3 (uC_2 hC0 (by decide)) ?_)))
  intro M5 hP6 hF7 e8
  refine wk_al0 r141_10 (wk_c1 r141_11 (wk_putfi81 r141_12 (fdC_3 hC0) (wk_nw (g_c3 hC0) rfl hP6 hF7 (uC_3 hC0 (by decide)) ?_)))
  intro M9 hP10 hF11 e12
  subst hQ; exact wk_ret r141_15 (⟨rfl, hP10, hF11⟩)
def fm_m138 : Nat := 4831838208
/-- IslandHall$Code.add -/
theorem m138 {B : eB} (d : Nat) (M0 : Mm) (c0 : Int) (p1 : Int) (p2 : Int) (hP0 : Pw M0) (hC0 : isC c0) (l1 : 0 ≤ p1) (u1 : p1 ≤ 0) (l2 : 118 ≤ p2) (u2 : p2 ≤ 118) : Ct B (d + 1) 138 [R c0, I p1, I p2] M0 (qV fun M => Pw M ∧ Fr fm_m138 M0 M) := by
  refine ct_of (d := d + 0) (k := 0) (L := [some (R c0), some (I p1), some (I p2)]) rfl rfl rfl ?_
  have hF0 := Fr.rf fm_m138 M0
  generalize hQ : (qV fun M => Pw M ∧ Fr fm_m138 M0 M) = Q
  refine wk_al0 r138_0 (wk_getfb r138_1 (fdC_1 hC0) (bC_1 hP0 hC0) ?_)
  intro v1 h3 h4 e2
  refine wk_al0 r138_4 (wk_getfr r138_5 (fdC_0 hC0) (bC_0 hP0 hC0) (wk_alen r138_8 (arC hC0) (by decide) ?_))
  refine wk_icge r138_9 ⟨by omega, by omega⟩ (by decide) ?_ ?_
  · intro h5
    subst hQ; exact wk_ret r138_36 (⟨rfl, hP0, hF0⟩)
  · intro h6
    refine wk_al0 r138_12 (wk_getfr r138_13 (fdC_0 hC0) (bC_0 hP0 hC0) (wk_al0 r138_16 (wk_getfi r138_17 (fdC_1 hC0) e2 (wk_il1 r138_20 (wk_il2 r138_21 (wk_c1 r138_22 (wk_ishlc r138_23 (by decide) pwl_3 (wk_ior 10 1024 r138_24 (by decide) ⟨by omega, by omega⟩ ⟨by omega, by omega⟩ ?_))))))))
    intro v7 h8 h9 h10 h11 h12
    refine wk_iast r138_25 (arC hC0) ⟨by omega, by omega⟩ (wk_nw (g_cs hC0 _) rfl hP0 hF0 (uaC hC0 ⟨by omega, by omega⟩) ?_)
    intro M13 hP14 hF15 e16
    refine wk_al0 r138_26 (wk_dupr r138_27 (wk_getfi r138_28 (fdC_1 hC0) (mUp_no e16 e2 (Or.inl (by omega))) (wk_c1 r138_31 (wk_iadd r138_32 (wk_putfi81 r138_33 (fdC_1 hC0) (wk_nw (g_c1 hC0) rfl hP14 hF15 (uC_1 hC0 ⟨by omega, by omega⟩) ?_))))))
    intro M17 hP18 hF19 e20
    subst hQ; exact wk_ret r138_36 (⟨rfl, hP18, hF19⟩)
def fm_m144 : Nat := 8053063680
/-- IslandHall$Code.startFacts -/
theorem m144 {B : eB} (d : Nat) (M0 : Mm) (c0 : Int) (hP0 : Pw M0) (hC0 : isC c0) : Ct B (d + 2) 144 [R c0] M0 (qV fun M => Pw M ∧ Fr fm_m144 M0 M) := by
  refine ct_of (d := d + 1) (k := 0) (L := [some (R c0)]) rfl rfl rfl ?_
  have hF0 := Fr.rf fm_m144 M0
  generalize hQ : (qV fun M => Pw M ∧ Fr fm_m144 M0 M) = Q
  refine wk_al0 r144_0 (wk_cv1 r144_1 (kcC_141 hC0) rfl (m141 _ M0 c0 hP0 hC0) (cqV ?_))
  rintro M1 ⟨hP2, hQ3⟩
  have hF4 : Fr fm_m144 M0 M1 := hF0.tr hQ3 rfl
  refine wk_al0 r144_4 (wk_c1 r144_5 (wk_c2 r144_6 (wk_cv3 r144_8 (kcC_138 hC0) rfl (m138 _ M1 c0 0 118 hP2 hC0 (by decide) (by decide) (by decide) (by decide)) (cqV ?_))))
  rintro M5 ⟨hP6, hQ7⟩
  have hF8 : Fr fm_m144 M0 M5 := hF4.tr hQ7 rfl
  subst hQ; exact wk_ret r144_11 (⟨rfl, hP6, hF8⟩)
def fm_m138v1 : Nat := 4831838208
/-- IslandHall$Code.add -/
theorem m138v1 {B : eB} (d : Nat) (M0 : Mm) (c0 : Int) (p1 : Int) (p2 : Int) (hP0 : Pw M0) (hC0 : isC c0) (l1 : 0 ≤ p1) (u1 : p1 ≤ 6) (l2 : 0 ≤ p2) (u2 : p2 ≤ 2000) : Ct B (d + 1) 138 [R c0, I p1, I p2] M0 (qV fun M => Pw M ∧ Fr fm_m138v1 M0 M) := by
  refine ct_of (d := d + 0) (k := 0) (L := [some (R c0), some (I p1), some (I p2)]) rfl rfl rfl ?_
  have hF0 := Fr.rf fm_m138v1 M0
  generalize hQ : (qV fun M => Pw M ∧ Fr fm_m138v1 M0 M) = Q
  refine wk_al0 r138_0 (wk_getfb r138_1 (fdC_1 hC0) (bC_1 hP0 hC0) ?_)
  intro v1 h3 h4 e2
  refine wk_al0 r138_4 (wk_getfr r138_5 (fdC_0 hC0) (bC_0 hP0 hC0) (wk_alen r138_8 (arC hC0) (by decide) ?_))
  refine wk_icge r138_9 ⟨by omega, by omega⟩ (by decide) ?_ ?_
  · intro h5
    subst hQ; exact wk_ret r138_36 (⟨rfl, hP0, hF0⟩)
  · intro h6
    refine wk_al0 r138_12 (wk_getfr r138_13 (fdC_0 hC0) (bC_0 hP0 hC0) (wk_al0 r138_16 (wk_getfi r138_17 (fdC_1 hC0) e2 (wk_il1 r138_20 (wk_il2 r138_21 (wk_c1 r138_22 (wk_ishlc r138_23 (by decide) pwl_3 (wk_ior 14 16384 r138_24 (by decide) ⟨by omega, by omega⟩ ⟨by omega, by omega⟩ ?_))))))))
    intro v7 h8 h9 h10 h11 h12
    refine wk_iast r138_25 (arC hC0) ⟨by omega, by omega⟩ (wk_nw (g_cs hC0 _) rfl hP0 hF0 (uaC hC0 ⟨by omega, by omega⟩) ?_)
    intro M13 hP14 hF15 e16
    refine wk_al0 r138_26 (wk_dupr r138_27 (wk_getfi r138_28 (fdC_1 hC0) (mUp_no e16 e2 (Or.inl (by omega))) (wk_c1 r138_31 (wk_iadd r138_32 (wk_putfi81 r138_33 (fdC_1 hC0) (wk_nw (g_c1 hC0) rfl hP14 hF15 (uC_1 hC0 ⟨by omega, by omega⟩) ?_))))))
    intro M17 hP18 hF19 e20
    subst hQ; exact wk_ret r138_36 (⟨rfl, hP18, hF19⟩)
def fm_m139 : Nat := 5905580032
/-- IslandHall$Code.addSays -/
theorem m139 {B : eB} (d : Nat) (M0 : Mm) (c0 : Int) (p1 : Int) (hP0 : Pw M0) (hC0 : isC c0) (l1 : 0 ≤ p1) (u1 : p1 ≤ 6) : Ct B (d + 2) 139 [R c0, I p1] M0 (qV fun M => Pw M ∧ Fr fm_m139 M0 M) := by
  refine ct_of (d := d + 1) (k := 0) (L := [some (R c0), some (I p1)]) rfl rfl rfl ?_
  have hF0 := Fr.rf fm_m139 M0
  generalize hQ : (qV fun M => Pw M ∧ Fr fm_m139 M0 M) = Q
  refine wk_al0 r139_0 (wk_c1 r139_1 (wk_il1 r139_2 (wk_cv3 r139_3 (kcC_138 hC0) rfl (m138v1 _ M0 c0 4 p1 hP0 hC0 (by decide) (by decide) (by omega) (by omega)) (cqV ?_))))
  rintro M1 ⟨hP2, hQ3⟩
  have hF4 : Fr fm_m139 M0 M1 := hF0.tr hQ3 rfl
  refine wk_al0 r139_6 (wk_dupr r139_7 (wk_getfb r139_8 (fdC_2 hC0) (bC_2 hP2 hC0) ?_))
  intro v5 h7 h8 e6
  refine wk_c1 r139_11 (wk_il1 r139_12 (wk_shl1 6 64 r139_13 ⟨by omega, by omega⟩ ⟨pwl_6, by decide⟩ ?_))
  intro v9 h10 h11 h12
  refine wk_ior 7 128 r139_14 (by decide) ⟨by omega, by omega⟩ ⟨by omega, by omega⟩ ?_
  intro v13 h14 h15 h16 h17 h18
  refine wk_putfi81 r139_15 (fdC_2 hC0) (wk_nw (g_c2 hC0) rfl hP2 hF4 (uC_2 hC0 ⟨by omega, by omega⟩) ?_)
  intro M19 hP20 hF21 e22
  subst hQ; exact wk_ret r139_18 (⟨rfl, hP20, hF21⟩)
def fm_m140 : Nat := 6979321856
/-- IslandHall$Code.addTold -/
theorem m140 {B : eB} (d : Nat) (M0 : Mm) (c0 : Int) (p1 : Int) (hP0 : Pw M0) (hC0 : isC c0) (l1 : 0 ≤ p1) (u1 : p1 ≤ 99) : Ct B (d + 2) 140 [R c0, I p1] M0 (qV fun M => Pw M ∧ Fr fm_m140 M0 M) := by
  refine ct_of (d := d + 1) (k := 1) (L := [some (R c0), some (I p1), none]) rfl rfl rfl ?_
  have hF0 := Fr.rf fm_m140 M0
  generalize hQ : (qV fun M => Pw M ∧ Fr fm_m140 M0 M) = Q
  refine wk_il1 r140_0 (wk_c2 r140_1 ?_)
  refine wk_icge r140_3 ⟨by omega, by omega⟩ (by decide) ?_ ?_
  · intro h1
    refine wk_c1 r140_10 (wk_is2 r140_11 rfl (wk_al0 r140_12 (wk_c1 r140_13 (wk_il2 r140_14 ?_))))
    refine wk_ifeq r140_15 (by decide) ?_ ?_
    · intro h2
      refine wk_c2 r140_25 (wk_cv3 r140_27 (kcC_138 hC0) rfl (m138v1 _ M0 c0 0 117 hP0 hC0 (by decide) (by decide) (by decide) (by decide)) (cqV ?_))
      rintro M3 ⟨hP4, hQ5⟩
      have hF6 : Fr fm_m140 M0 M3 := hF0.tr hQ5 rfl
      refine wk_il2 r140_30 ?_
      refine wk_ifeq r140_31 (by decide) ?_ ?_
      · intro h7
        subst hQ; exact wk_ret r140_46 (⟨rfl, hP4, hF6⟩)
      · intro h8
        exfalso
        omega
    · intro h9
      exfalso
      omega
  · intro h10
    refine wk_c1 r140_6 (wk_goto r140_7 (wk_is2 r140_11 rfl (wk_al0 r140_12 (wk_c1 r140_13 (wk_il2 r140_14 ?_)))))
    refine wk_ifeq r140_15 (by decide) ?_ ?_
    · intro h11
      refine wk_c2 r140_25 (wk_cv3 r140_27 (kcC_138 hC0) rfl (m138v1 _ M0 c0 0 117 hP0 hC0 (by decide) (by decide) (by decide) (by decide)) (cqV ?_))
      rintro M12 ⟨hP13, hQ14⟩
      have hF15 : Fr fm_m140 M0 M12 := hF0.tr hQ14 rfl
      refine wk_il2 r140_30 ?_
      refine wk_ifeq r140_31 (by decide) ?_ ?_
      · intro h16
        subst hQ; exact wk_ret r140_46 (⟨rfl, hP13, hF15⟩)
      · intro h17
        refine wk_al0 r140_34 (wk_dupr r140_35 (wk_getfb r140_36 (fdC_3 hC0) (bC_3 hP13 hC0) ?_))
        intro v18 h20 h21 e19
        refine wk_c1 r140_39 (wk_il1 r140_40 (wk_shl1 14 16384 r140_41 ⟨by omega, by omega⟩ ⟨pwl_14, by decide⟩ ?_))
        intro v22 h23 h24 h25
        refine wk_ior 15 32768 r140_42 (by decide) ⟨by omega, by omega⟩ ⟨by omega, by omega⟩ ?_
        intro v26 h27 h28 h29 h30 h31
        refine wk_putfi81 r140_43 (fdC_3 hC0) (wk_nw (g_c3 hC0) rfl hP13 hF15 (uC_3 hC0 ⟨by omega, by omega⟩) ?_)
        intro M32 hP33 hF34 e35
        subst hQ; exact wk_ret r140_46 (⟨rfl, hP33, hF34⟩)
    · intro h36
      refine wk_c2 r140_18 (wk_il1 r140_20 (wk_iadd r140_21 (wk_goto r140_22 (wk_cv3 r140_27 (kcC_138 hC0) rfl (m138v1 _ M0 c0 0 (102 + p1) hP0 hC0 (by decide) (by decide) (by omega) (by omega)) (cqV ?_)))))
      rintro M37 ⟨hP38, hQ39⟩
      have hF40 : Fr fm_m140 M0 M37 := hF0.tr hQ39 rfl
      refine wk_il2 r140_30 ?_
      refine wk_ifeq r140_31 (by decide) ?_ ?_
      · intro h41
        subst hQ; exact wk_ret r140_46 (⟨rfl, hP38, hF40⟩)
      · intro h42
        refine wk_al0 r140_34 (wk_dupr r140_35 (wk_getfb r140_36 (fdC_3 hC0) (bC_3 hP38 hC0) ?_))
        intro v43 h45 h46 e44
        refine wk_c1 r140_39 (wk_il1 r140_40 (wk_shl1 14 16384 r140_41 ⟨by omega, by omega⟩ ⟨pwl_14, by decide⟩ ?_))
        intro v47 h48 h49 h50
        refine wk_ior 15 32768 r140_42 (by decide) ⟨by omega, by omega⟩ ⟨by omega, by omega⟩ ?_
        intro v51 h52 h53 h54 h55 h56
        refine wk_putfi81 r140_43 (fdC_3 hC0) (wk_nw (g_c3 hC0) rfl hP38 hF40 (uC_3 hC0 ⟨by omega, by omega⟩) ?_)
        intro M57 hP58 hF59 e60
        subst hQ; exact wk_ret r140_46 (⟨rfl, hP58, hF59⟩)
def fm_m142 : Nat := 0
/-- IslandHall$Code.hangsOn -/
theorem m142 {B : eB} (d : Nat) (M0 : Mm) (c0 : Int) (p1 : Int) (p2 : Int) (hP0 : Pw M0) (hC0 : isC c0) (l1 : 0 ≤ p1) (u1 : p1 ≤ 6) (l2 : 0 ≤ p2) (u2 : p2 ≤ 14) : Ct B (d + 1) 142 [R c0, I p1, I p2] M0 (qI fun z M => Pw M ∧ Fr fm_m142 M0 M ∧ 0 ≤ z ∧ z ≤ 1) := by
  refine ct_of (d := d + 0) (k := 0) (L := [some (R c0), some (I p1), some (I p2)]) rfl rfl rfl ?_
  have hF0 := Fr.rf fm_m142 M0
  generalize hQ : (qI fun z M => Pw M ∧ Fr fm_m142 M0 M ∧ 0 ≤ z ∧ z ≤ 1) = Q
  refine wk_al0 r142_0 (wk_getfb r142_1 (fdC_2 hC0) (bC_2 hP0 hC0) ?_)
  intro v1 h3 h4 e2
  refine wk_il1 r142_4 (wk_shrb r142_5 ⟨by omega, by omega⟩ ⟨by omega, by omega⟩ ?_)
  intro v5 h6 h7 h8
  refine wk_c1 r142_6 (wk_iandc 1 2 r142_7 ⟨rfl, by decide⟩ rfl (wk_c1 r142_8 ?_))
  refine wk_iceq r142_9 ⟨by omega, by omega⟩ (by decide) ?_ ?_
  · intro h10
    refine wk_c1 r142_24 (wk_goto r142_25 ?_)
    subst hQ; exact wk_zret r142_29 (by decide) (⟨rfl, _, rfl, hP0, hF0, by omega, by omega⟩)
  · intro h11
    refine wk_al0 r142_12 (wk_getfb r142_13 (fdC_3 hC0) (bC_3 hP0 hC0) ?_)
    intro v12 h14 h15 e13
    refine wk_il2 r142_16 (wk_shrb r142_17 ⟨by omega, by omega⟩ ⟨by omega, by omega⟩ ?_)
    intro v16 h17 h18 h19
    refine wk_c1 r142_18 (wk_iandc 1 2 r142_19 ⟨rfl, by decide⟩ rfl (wk_c1 r142_20 ?_))
    refine wk_icne r142_21 ⟨by omega, by omega⟩ (by decide) ?_ ?_
    · intro h21
      refine wk_c1 r142_28 ?_
      subst hQ; exact wk_zret r142_29 (by decide) (⟨rfl, _, rfl, hP0, hF0, by omega, by omega⟩)
    · intro h22
      refine wk_c1 r142_24 (wk_goto r142_25 ?_)
      subst hQ; exact wk_zret r142_29 (by decide) (⟨rfl, _, rfl, hP0, hF0, by omega, by omega⟩)
def fm_m243 : Nat := 0
/-- IslandHall$Tokens.typeOf -/
theorem m243 {B : eB} (d : Nat) (M0 : Mm) (p0 : Int) (hP0 : Pw M0) (l0 : (-128) ≤ p0) (u0 : p0 ≤ 127) : Ct B (d + 1) 243 [I p0] M0 (qI fun z M => Pw M ∧ Fr fm_m243 M0 M ∧ 1 ≤ z ∧ z ≤ 4) := by
  refine ct_of (d := d + 0) (k := 1) (L := [some (I p0), none]) rfl rfl rfl ?_
  have hF0 := Fr.rf fm_m243 M0
  generalize hQ : (qI fun z M => Pw M ∧ Fr fm_m243 M0 M ∧ 1 ≤ z ∧ z ≤ 4) = Q
  refine wk_il0 r243_0 (wk_c2 r243_1 ?_)
  have c14_36 : Wp B (d + 0) 243 14 [some (I p0), none] [I 48, I p0] M0 Q := by
    refine wk_il0 r243_14 (wk_c2 r243_15 ?_)
    have c28_35 : Wp B (d + 0) 243 28 [some (I p0), none] [] M0 Q := by
      refine wk_il0 r243_28 (wk_c2 r243_29 ?_)
      refine wk_iceq r243_31 ⟨by omega, by omega⟩ (by decide) ?_ ?_
      · intro h9
        refine wk_c1 r243_64 (wk_goto r243_65 (wk_is1 r243_69 rfl (wk_il1 r243_70 ?_)))
        refine wk_ifeq r243_71 (by decide) ?_ ?_
        · intro h10
          refine wk_c1 r243_78 ?_
          subst hQ; exact wk_iret r243_79 (⟨rfl, _, rfl, hP0, hF0, by omega, by omega⟩)
        · intro h11
          refine wk_c1 r243_74 (wk_goto r243_75 ?_)
          subst hQ; exact wk_iret r243_79 (⟨rfl, _, rfl, hP0, hF0, by omega, by omega⟩)
      · intro h12
        refine wk_il0 r243_34 (wk_c2 r243_35 ?_)
        refine wk_iceq r243_37 ⟨by omega, by omega⟩ (by decide) ?_ ?_
        · intro h13
          refine wk_c1 r243_64 (wk_goto r243_65 (wk_is1 r243_69 rfl (wk_il1 r243_70 ?_)))
          refine wk_ifeq r243_71 (by decide) ?_ ?_
          · intro h14
            refine wk_c1 r243_78 ?_
            subst hQ; exact wk_iret r243_79 (⟨rfl, _, rfl, hP0, hF0, by omega, by omega⟩)
          · intro h15
            refine wk_c1 r243_74 (wk_goto r243_75 ?_)
            subst hQ; exact wk_iret r243_79 (⟨rfl, _, rfl, hP0, hF0, by omega, by omega⟩)
        · intro h16
          refine wk_il0 r243_40 (wk_c2 r243_41 ?_)
          refine wk_iceq r243_43 ⟨by omega, by omega⟩ (by decide) ?_ ?_
          · intro h17
            refine wk_c1 r243_64 (wk_goto r243_65 (wk_is1 r243_69 rfl (wk_il1 r243_70 ?_)))
            refine wk_ifeq r243_71 (by decide) ?_ ?_
            · intro h18
              refine wk_c1 r243_78 ?_
              subst hQ; exact wk_iret r243_79 (⟨rfl, _, rfl, hP0, hF0, by omega, by omega⟩)
            · intro h19
              refine wk_c1 r243_74 (wk_goto r243_75 ?_)
              subst hQ; exact wk_iret r243_79 (⟨rfl, _, rfl, hP0, hF0, by omega, by omega⟩)
          · intro h20
            refine wk_il0 r243_46 (wk_c2 r243_47 ?_)
            refine wk_iceq r243_49 ⟨by omega, by omega⟩ (by decide) ?_ ?_
            · intro h21
              refine wk_c1 r243_64 (wk_goto r243_65 (wk_is1 r243_69 rfl (wk_il1 r243_70 ?_)))
              refine wk_ifeq r243_71 (by decide) ?_ ?_
              · intro h22
                refine wk_c1 r243_78 ?_
                subst hQ; exact wk_iret r243_79 (⟨rfl, _, rfl, hP0, hF0, by omega, by omega⟩)
              · intro h23
                refine wk_c1 r243_74 (wk_goto r243_75 ?_)
                subst hQ; exact wk_iret r243_79 (⟨rfl, _, rfl, hP0, hF0, by omega, by omega⟩)
            · intro h24
              refine wk_il0 r243_52 (wk_c2 r243_53 ?_)
              refine wk_iceq r243_55 ⟨by omega, by omega⟩ (by decide) ?_ ?_
              · intro h25
                refine wk_c1 r243_64 (wk_goto r243_65 (wk_is1 r243_69 rfl (wk_il1 r243_70 ?_)))
                refine wk_ifeq r243_71 (by decide) ?_ ?_
                · intro h26
                  refine wk_c1 r243_78 ?_
                  subst hQ; exact wk_iret r243_79 (⟨rfl, _, rfl, hP0, hF0, by omega, by omega⟩)
                · intro h27
                  refine wk_c1 r243_74 (wk_goto r243_75 ?_)
                  subst hQ; exact wk_iret r243_79 (⟨rfl, _, rfl, hP0, hF0, by omega, by omega⟩)
              · intro h28
                refine wk_il0 r243_58 (wk_c2 r243_59 ?_)
                refine wk_icne r243_61 ⟨by omega, by omega⟩ (by decide) ?_ ?_
                · intro h29
                  refine wk_c1 r243_68 (wk_is1 r243_69 rfl (wk_il1 r243_70 ?_))
                  refine wk_ifeq r243_71 (by decide) ?_ ?_
                  · intro h30
                    refine wk_c1 r243_78 ?_
                    subst hQ; exact wk_iret r243_79 (⟨rfl, _, rfl, hP0, hF0, by omega, by omega⟩)
                  · intro h31
                    exfalso
                    omega
                · intro h32
                  refine wk_c1 r243_64 (wk_goto r243_65 (wk_is1 r243_69 rfl (wk_il1 r243_70 ?_)))
                  refine wk_ifeq r243_71 (by decide) ?_ ?_
                  · intro h33
                    refine wk_c1 r243_78 ?_
                    subst hQ; exact wk_iret r243_79 (⟨rfl, _, rfl, hP0, hF0, by omega, by omega⟩)
                  · intro h34
                    refine wk_c1 r243_74 (wk_goto r243_75 ?_)
                    subst hQ; exact wk_iret r243_79 (⟨rfl, _, rfl, hP0, hF0, by omega, by omega⟩)
    refine wk_iclt r243_17 ⟨by omega, by omega⟩ (by decide) ?_ ?_
    · intro h5
      exact wp_fg (le_s (le_s le_0)) c28_35
    · intro h6
      refine wk_il0 r243_20 (wk_c2 r243_21 ?_)
      refine wk_icgt r243_23 ⟨by omega, by omega⟩ (by decide) ?_ ?_
      · intro h7
        exact wp_fg (le_s (le_s le_0)) c28_35
      · intro h8
        refine wk_c1 r243_26 ?_
        subst hQ; exact wk_iret r243_27 (⟨rfl, _, rfl, hP0, hF0, by omega, by omega⟩)
  refine wk_iclt r243_3 ⟨by omega, by omega⟩ (by decide) ?_ ?_
  · intro h1
    exact wp_fg (le_s (le_s le_0)) c14_36
  · intro h2
    refine wk_il0 r243_6 (wk_c2 r243_7 ?_)
    refine wk_icgt r243_9 ⟨by omega, by omega⟩ (by decide) ?_ ?_
    · intro h3
      exact wp_fg (le_s (le_s le_0)) c14_36
    · intro h4
      refine wk_c1 r243_12 ?_
      subst hQ; exact wk_iret r243_13 (⟨rfl, _, rfl, hP0, hF0, by omega, by omega⟩)
def fm_m237_9 : Nat := 0
/-- IslandHall$Tokens.isName -/
theorem m237_9 {B : eB} (d : Nat) (M0 : Mm) (hP0 : Pw M0)  : Ct B (d + 1) 237 [R 9] M0 (qI fun z M => Pw M ∧ Fr fm_m237_9 M0 M ∧ 0 ≤ z ∧ z ≤ 1) := by
  refine ct_of (d := d + 0) (k := 0) (L := [some (R 9)]) rfl rfl rfl ?_
  have hF0 := Fr.rf fm_m237_9 M0
  generalize hQ : (qI fun z M => Pw M ∧ Fr fm_m237_9 M0 M ∧ 0 ≤ z ∧ z ≤ 1) = Q
  refine wk_al0 r237_0 (wk_getfb r237_1 fd_9_4 (bf_9_4 hP0) ?_)
  intro v1 h3 h4 e2
  refine wk_c1 r237_4 ?_
  refine wk_icne r237_5 ⟨by omega, by omega⟩ (by decide) ?_ ?_
  · intro h5
    refine wk_c1 r237_25 ?_
    subst hQ; exact wk_zret r237_26 (by decide) (⟨rfl, _, rfl, hP0, hF0, by omega, by omega⟩)
  · intro h6
    refine wk_al0 r237_8 (wk_getfb r237_9 fd_9_2 (bf_9_2 hP0) ?_)
    intro v7 h9 h10 e8
    refine wk_al0 r237_12 (wk_getfb r237_13 fd_9_3 (bf_9_3 hP0) ?_)
    intro v11 h13 h14 e12
    refine wk_isub r237_16 (wk_c1 r237_17 ?_)
    refine wk_icne r237_18 ⟨by omega, by omega⟩ (by decide) ?_ ?_
    · intro h15
      refine wk_c1 r237_25 ?_
      subst hQ; exact wk_zret r237_26 (by decide) (⟨rfl, _, rfl, hP0, hF0, by omega, by omega⟩)
    · intro h16
      refine wk_c1 r237_21 (wk_goto r237_22 ?_)
      subst hQ; exact wk_zret r237_26 (by decide) (⟨rfl, _, rfl, hP0, hF0, by omega, by omega⟩)
def fm_m51 : Nat := 0
/-- IslandHallModel.bits -/
theorem m51 {B : eB} (d : Nat) (M0 : Mm) (p0 : Int) (hP0 : Pw M0) (l0 : 0 ≤ p0) (u0 : p0 ≤ 4095) : Ct B (d + 1) 51 [I p0] M0 (qI fun z M => Pw M ∧ Fr fm_m51 M0 M ∧ 0 ≤ z ∧ z ≤ 4095) := by
  refine ct_of (d := d + 0) (k := 2) (L := [some (I p0), none, none]) rfl rfl rfl ?_
  have hF0 := Fr.rf fm_m51 M0
  generalize hQ : (qI fun z M => Pw M ∧ Fr fm_m51 M0 M ∧ 0 ≤ z ∧ z ≤ 4095) = Q
  refine wk_c1 r51_0 (wk_is1 r51_1 rfl (wk_il0 r51_2 (wk_is2 r51_3 rfl ?_)))
  have c4_152 : ∀ (k152 : Nat) (v137 : Int) (v140 : Int), (4095 - v137).toNat = k152 → 0 ≤ v137 → v137 ≤ 4095 → 0 ≤ v140 → v140 ≤ 4095 → 0 ≤ p0 + (-1) * v137 + (-1) * v140 → 0 ≤ (-1) * v140 + v137 + 4095 → Wp B (d + 0) 51 4 [none, some (I v137), some (I v140)] [] M0 Q := by
    refine lp_ind ?_
    intro k152 ih152 v137 v140 hk152 h138 h139 h141 h142 h143 h144
    refine wk_il2 r51_4 ?_
    refine wk_ifeq r51_5 ⟨by omega, by omega⟩ ?_ ?_
    · intro h145
      refine wk_il1 r51_20 ?_
      subst hQ; exact wk_iret r51_21 (⟨rfl, _, rfl, hP0, hF0, by omega, by omega⟩)
    · intro h146
      refine wk_inc1 r51_8 rfl (wk_il2 r51_11 (wk_il2 r51_12 (wk_c1 r51_13 (wk_isub r51_14 (wk_iand r51_15 ⟨by omega, by omega⟩ ⟨by omega, by omega⟩ ?_)))))
      intro v147 h148 h149 h150 h151
      refine wk_is2 r51_16 rfl (wk_goto r51_17 ?_)
      exact wp_fg (le_s (le_s (le_s le_0))) (ih152 (4095 - (v137 + 1)).toNat (by omega) (v137 + 1) v147 rfl (by omega) (by omega) (by omega) (by omega) (by omega) (by omega))
  exact wp_fg (le_n (le_s (le_s le_0))) (c4_152 _ 0 p0 rfl (by omega) (by omega) (by omega) (by omega) (by omega) (by omega))
def fm_m85 : Nat := 0
/-- IslandHallModel.isLetter -/
theorem m85 {B : eB} (d : Nat) (M0 : Mm) (p0 : Int) (hP0 : Pw M0) (l0 : (-2147483648) ≤ p0) (u0 : p0 ≤ 2147483647) : Ct B (d + 1) 85 [I p0] M0 (qI fun z M => Pw M ∧ Fr fm_m85 M0 M ∧ 0 ≤ z ∧ z ≤ 1) := by
  refine ct_of (d := d + 0) (k := 0) (L := [some (I p0)]) rfl rfl rfl ?_
  have hF0 := Fr.rf fm_m85 M0
  generalize hQ : (qI fun z M => Pw M ∧ Fr fm_m85 M0 M ∧ 0 ≤ z ∧ z ≤ 1) = Q
  refine wk_il0 r85_0 (wk_c2 r85_1 ?_)
  refine wk_iclt r85_3 ⟨by omega, by omega⟩ (by decide) ?_ ?_
  · intro h1
    refine wk_c1 r85_16 ?_
    subst hQ; exact wk_zret r85_17 (by decide) (⟨rfl, _, rfl, hP0, hF0, by omega, by omega⟩)
  · intro h2
    refine wk_il0 r85_6 (wk_c2 r85_7 ?_)
    refine wk_icgt r85_9 ⟨by omega, by omega⟩ (by decide) ?_ ?_
    · intro h3
      refine wk_c1 r85_16 ?_
      subst hQ; exact wk_zret r85_17 (by decide) (⟨rfl, _, rfl, hP0, hF0, by omega, by omega⟩)
    · intro h4
      refine wk_c1 r85_12 (wk_goto r85_13 ?_)
      subst hQ; exact wk_zret r85_17 (by decide) (⟨rfl, _, rfl, hP0, hF0, by omega, by omega⟩)
def fm_m98_739 : Nat := 113078212145816598662606473894216975971906325201956217345371657998736293888
/-- IslandHallModel.lays -/
theorem m98_739 {B : eB} (d : Nat) (M0 : Mm) (p1 : Int) (x739_27 : Int) (hP0 : Pw M0) (l1 : (-2147483648) ≤ p1) (u1 : p1 ≤ 2147483647) (ex739_27 : M0 739 27 = x739_27) (lx739_27 : 0 ≤ x739_27) (ux739_27 : x739_27 ≤ 496) : Ct B (d + 1) 98 [R 739, I p1] M0 (qV fun M => Pw M ∧ Fr fm_m98_739 M0 M ∧ 0 ≤ M 739 27 + (-1) * x739_27 + (-4) ∧ 0 ≤ (-1) * (M 739 27) + x739_27 + 4) := by
  refine ct_of (d := d + 0) (k := 1) (L := [some (R 739), some (I p1), none]) rfl rfl rfl ?_
  have hF0 := Fr.rf fm_m98_739 M0
  generalize hQ : (qV fun M => Pw M ∧ Fr fm_m98_739 M0 M ∧ 0 ≤ M 739 27 + (-1) * x739_27 + (-4) ∧ 0 ≤ (-1) * (M 739 27) + x739_27 + 4) = Q
  refine wk_c2 r98_0 (wk_is2 r98_2 rfl ?_)
  have c3_154 : ∀ (k154 : Nat) (M131 : Mm) (v128 : Int) (v134 : Int), (v128 - (-8)).toNat = k154 → Pw M131 → Fr fm_m98_739 M0 M131 → M131 739 27 = v134 → (-8) ≤ v128 → v128 ≤ 24 → 0 ≤ v134 → v134 ≤ 500 → 0 ≤ 8 * v134 + v128 + (-8) * x739_27 + (-24) → 0 ≤ (-8) * v134 + (-1) * v128 + 8 * x739_27 + 24 → Wp B (d + 0) 98 3 [some (R 739), some (I p1), some (I v128)] [] M131 Q := by
    refine lp_ind ?_
    intro k154 ih154 M131 v128 v134 hk154 hP132 hF133 e137 h129 h130 h135 h136 h138 h139
    refine wk_il2 r98_3 ?_
    refine wk_iflt r98_4 ⟨by omega, by omega⟩ ?_ ?_
    · intro h140
      subst hQ; exact wk_ret r98_39 (⟨rfl, hP132, hF133, by have := e137; omega, by have := e137; omega⟩)
    · intro h141
      refine wk_al0 r98_7 (wk_getfr r98_8 fd_739_26 (br_739_26 hP132) (wk_al0 r98_11 (wk_getfi r98_12 fd_739_27 e137 (wk_il1 r98_15 (wk_il2 r98_16 (wk_shrx r98_17 ⟨by omega, by omega⟩ ⟨by omega, by omega⟩ ?_))))))
      intro v142 h143 h144
      refine wk_c3 r98_18 (wk_iandc 8 256 r98_21 ⟨rfl, by decide⟩ rfl (wk_iast r98_22 ar_755 ⟨by omega, by omega⟩ (wk_nw (ga_755 _) rfl hP132 hF133 (ua_755 ⟨by omega, by omega⟩) ?_)))
      intro M146 hP147 hF148 e149
      refine wk_al0 r98_23 (wk_dupr r98_24 (wk_getfi r98_25 fd_739_27 (mUp_no e149 e137 (Or.inl (by decide))) (wk_c1 r98_28 (wk_iadd r98_29 (wk_putfi81 r98_30 fd_739_27 (wk_nw g_739_27 rfl hP147 hF148 (uf_739_27 ⟨by omega, by omega⟩) ?_))))))
      intro M150 hP151 hF152 e153
      refine wk_inc2 r98_33 rfl (wk_goto r98_36 ?_)
      exact wp_fg (le_s (le_s (le_s le_0))) (ih154 ((v128 + (-8)) - (-8)).toNat (by omega) M150 (v128 + (-8)) (v134 + 1) rfl hP151 hF152 (mUp_at e153) (by omega) (by omega) (by omega) (by omega) (by omega) (by omega))
  exact wp_fg (le_s (le_s (le_s le_0))) (c3_154 _ M0 24 x739_27 rfl hP0 hF0 ex739_27 (by omega) (by omega) (by omega) (by omega) (by omega) (by omega))
def fm_m70_739 : Nat := 113078212145816598662606485586230074619129670831434879075635815246196637696
/-- IslandHallModel.feed -/
theorem m70_739 {B : eB} (d : Nat) (M0 : Mm) (p1 : Int) (p2 : Int) (p3 : Int) (p4 : Int) (p5 : Int) (hP0 : Pw M0) (l1 : (-2147483648) ≤ p1) (u1 : p1 ≤ 2147483647) (l2 : (-2147483648) ≤ p2) (u2 : p2 ≤ 2147483647) (l3 : (-2147483648) ≤ p3) (u3 : p3 ≤ 2147483647) (l4 : (-2147483648) ≤ p4) (u4 : p4 ≤ 2147483647) (l5 : (-2147483648) ≤ p5) (u5 : p5 ≤ 2147483647) : Ct B (d + 2) 70 [R 739, I p1, I p2, I p3, I p4, I p5] M0 (qI fun z M => Pw M ∧ Fr fm_m70_739 M0 M ∧ (-1) ≤ z ∧ z ≤ 500) := by
  refine ct_of (d := d + 1) (k := 0) (L := [some (R 739), some (I p1), some (I p2), some (I p3), some (I p4), some (I p5)]) rfl rfl rfl ?_
  have hF0 := Fr.rf fm_m70_739 M0
  generalize hQ : (qI fun z M => Pw M ∧ Fr fm_m70_739 M0 M ∧ (-1) ≤ z ∧ z ≤ 500) = Q
  refine wk_al0 r70_0 (wk_c1 r70_1 (wk_putfi81 r70_2 fd_739_0 (wk_nw g_739_0 rfl hP0 hF0 (uf_739_0 (by decide)) ?_)))
  intro M1 hP2 hF3 e4
  refine wk_al0 r70_5 (wk_getfb r70_6 fd_739_27 (bf_739_27 hP2) ?_)
  intro v5 h7 h8 e6
  refine wk_c2 r70_9 (wk_iadd r70_11 (wk_c3 r70_12 ?_))
  refine wk_icle r70_15 ⟨by omega, by omega⟩ (by decide) ?_ ?_
  · intro h9
    refine wk_al0 r70_20 (wk_il1 r70_21 (wk_cv2 r70_22 kc_739_98 rfl (m98_739 _ M1 p1 v5 hP2 (by omega) (by omega) e6 (by omega) (by omega)) (cqV ?_)))
    rintro M10 ⟨hP11, hQ12, h14, h15⟩
    have hF13 : Fr fm_m70_739 M0 M10 := hF3.tr hQ12 rfl
    obtain ⟨v16, e17⟩ : ∃ v, M10 739 27 = v := ⟨_, rfl⟩
    have h18 := bf_739_27 hP11; rw [e17] at h18
    refine wk_al0 r70_25 (wk_il2 r70_26 (wk_cv2 r70_27 kc_739_98 rfl (m98_739 _ M10 p2 v16 hP11 (by omega) (by omega) e17 (by omega) (by omega)) (cqV ?_)))
    rintro M19 ⟨hP20, hQ21, h23, h24⟩
    have hF22 : Fr fm_m70_739 M0 M19 := hF13.tr hQ21 rfl
    obtain ⟨v25, e26⟩ : ∃ v, M19 739 27 = v := ⟨_, rfl⟩
    have h27 := bf_739_27 hP20; rw [e26] at h27
    refine wk_al0 r70_30 (wk_il3 r70_31 (wk_cv2 r70_32 kc_739_98 rfl (m98_739 _ M19 p3 v25 hP20 (by omega) (by omega) e26 (by omega) (by omega)) (cqV ?_)))
    rintro M28 ⟨hP29, hQ30, h32, h33⟩
    have hF31 : Fr fm_m70_739 M0 M28 := hF22.tr hQ30 rfl
    obtain ⟨v34, e35⟩ : ∃ v, M28 739 27 = v := ⟨_, rfl⟩
    have h36 := bf_739_27 hP29; rw [e35] at h36
    refine wk_al0 r70_35 (wk_il4 r70_36 (wk_cv2 r70_38 kc_739_98 rfl (m98_739 _ M28 p4 v34 hP29 (by omega) (by omega) e35 (by omega) (by omega)) (cqV ?_)))
    rintro M37 ⟨hP38, hQ39, h41, h42⟩
    have hF40 : Fr fm_m70_739 M0 M37 := hF31.tr hQ39 rfl
    obtain ⟨v43, e44⟩ : ∃ v, M37 739 27 = v := ⟨_, rfl⟩
    have h45 := bf_739_27 hP38; rw [e44] at h45
    refine wk_al0 r70_41 (wk_il5 r70_42 (wk_cv2 r70_44 kc_739_98 rfl (m98_739 _ M37 p5 v43 hP38 (by omega) (by omega) e44 (by omega) (by omega)) (cqV ?_)))
    rintro M46 ⟨hP47, hQ48, h50, h51⟩
    have hF49 : Fr fm_m70_739 M0 M46 := hF40.tr hQ48 rfl
    obtain ⟨v52, e53⟩ : ∃ v, M46 739 27 = v := ⟨_, rfl⟩
    have h54 := bf_739_27 hP47; rw [e53] at h54
    refine wk_al0 r70_47 (wk_getfi r70_48 fd_739_27 e53 ?_)
    subst hQ; exact wk_iret r70_51 (⟨rfl, _, rfl, hP47, hF49, by omega, by omega⟩)
  · intro h55
    refine wk_c1 r70_18 ?_
    subst hQ; exact wk_iret r70_19 (⟨rfl, _, rfl, hP2, hF3, by omega, by omega⟩)
def fm_m33_0 : Nat := 524292
/-- IslandHall.putNumber -/
theorem m33_0 {B : eB} (d : Nat) (M0 : Mm) (p1 : Int) (hP0 : Pw M0) (l1 : (-2147483648) ≤ p1) (u1 : p1 ≤ 2147483647) : Ct B (d + 1) 33 [R 0, I p1] M0 (qV fun M => Pw M ∧ Fr fm_m33_0 M0 M) := by
  refine ct_of (d := d + 0) (k := 1) (L := [some (R 0), some (I p1), none]) rfl rfl rfl ?_
  have hF0 := Fr.rf fm_m33_0 M0
  generalize hQ : (qV fun M => Pw M ∧ Fr fm_m33_0 M0 M) = Q
  refine wk_c2 r33_0 (wk_is2 r33_2 rfl ?_)
  have c3_157 : ∀ (k157 : Nat) (M134 : Mm) (v131 : Int), (v131 - (-8)).toNat = k157 → Pw M134 → Fr fm_m33_0 M0 M134 → (-8) ≤ v131 → v131 ≤ 24 → Wp B (d + 0) 33 3 [some (R 0), some (I p1), some (I v131)] [] M134 Q := by
    refine lp_ind ?_
    intro k157 ih157 M134 v131 hk157 hP135 hF136 h132 h133
    refine wk_il2 r33_3 ?_
    refine wk_iflt r33_4 ⟨by omega, by omega⟩ ?_ ?_
    · intro h137
      subst hQ; exact wk_ret r33_48 (⟨rfl, hP135, hF136⟩)
    · intro h138
      refine wk_al0 r33_7 (wk_getfb r33_8 fd_0_1 (bf_0_1 hP135) ?_)
      intro v139 h141 h142 e140
      refine wk_al0 r33_11 (wk_getfr r33_12 fd_0_0 (br_0_0 hP135) (wk_alen r33_15 ar_1 (by decide) ?_))
      refine wk_icge r33_16 ⟨by omega, by omega⟩ (by decide) ?_ ?_
      · intro h143
        subst hQ; exact wk_ret r33_48 (⟨rfl, hP135, hF136⟩)
      · intro h144
        refine wk_al0 r33_19 (wk_getfr r33_20 fd_0_0 (br_0_0 hP135) (wk_al0 r33_23 (wk_getfi r33_24 fd_0_1 e140 (wk_il1 r33_27 (wk_il2 r33_28 (wk_shrx r33_29 ⟨by omega, by omega⟩ ⟨by omega, by omega⟩ ?_))))))
        intro v145 h146 h147
        refine wk_i2b r33_30 (wk_bast r33_31 ar_1 ⟨by omega, by omega⟩ ⟨by omega, by omega⟩ (wk_nw (ga_1 _) rfl hP135 hF136 (ua_1 ⟨by omega, by omega⟩) ?_))
        intro M149 hP150 hF151 e152
        refine wk_al0 r33_32 (wk_dupr r33_33 (wk_getfi r33_34 fd_0_1 (mUp_no e152 e140 (Or.inl (by decide))) (wk_c1 r33_37 (wk_iadd r33_38 (wk_putfi81 r33_39 fd_0_1 (wk_nw g_0_1 rfl hP150 hF151 (uf_0_1 ⟨by omega, by omega⟩) ?_))))))
        intro M153 hP154 hF155 e156
        refine wk_inc2 r33_42 rfl (wk_goto r33_45 ?_)
        exact wp_fg (le_s (le_s (le_s le_0))) (ih157 ((v131 + (-8)) - (-8)).toNat (by omega) M153 (v131 + (-8)) rfl hP154 hF155 (by omega) (by omega))
  exact wp_fg (le_s (le_s (le_s le_0))) (c3_157 _ M0 24 rfl hP0 hF0 (by omega) (by omega))
def fm_m18_0 : Nat := 524292
/-- IslandHall.feed -/
theorem m18_0 {B : eB} (d : Nat) (M0 : Mm) (p1 : Int) (p2 : Int) (p3 : Int) (p4 : Int) (p5 : Int) (hP0 : Pw M0) (l1 : (-2147483648) ≤ p1) (u1 : p1 ≤ 2147483647) (l2 : (-2147483648) ≤ p2) (u2 : p2 ≤ 2147483647) (l3 : (-2147483648) ≤ p3) (u3 : p3 ≤ 2147483647) (l4 : (-2147483648) ≤ p4) (u4 : p4 ≤ 2147483647) (l5 : (-2147483648) ≤ p5) (u5 : p5 ≤ 2147483647) : Ct B (d + 2) 18 [R 0, I p1, I p2, I p3, I p4, I p5] M0 (qI fun z M => Pw M ∧ Fr fm_m18_0 M0 M ∧ (-1) ≤ z ∧ z ≤ 500) := by
  refine ct_of (d := d + 1) (k := 0) (L := [some (R 0), some (I p1), some (I p2), some (I p3), some (I p4), some (I p5)]) rfl rfl rfl ?_
  have hF0 := Fr.rf fm_m18_0 M0
  generalize hQ : (qI fun z M => Pw M ∧ Fr fm_m18_0 M0 M ∧ (-1) ≤ z ∧ z ≤ 500) = Q
  refine wk_al0 r18_0 (wk_getfb r18_1 fd_0_1 (bf_0_1 hP0) ?_)
  intro v1 h3 h4 e2
  refine wk_c2 r18_4 (wk_iadd r18_6 (wk_c3 r18_7 ?_))
  refine wk_icle r18_10 ⟨by omega, by omega⟩ (by decide) ?_ ?_
  · intro h5
    refine wk_al0 r18_15 (wk_il1 r18_16 (wk_cv2 r18_17 kc_0_33 rfl (m33_0 _ M0 p1 hP0 (by omega) (by omega)) (cqV ?_)))
    rintro M6 ⟨hP7, hQ8⟩
    have hF9 : Fr fm_m18_0 M0 M6 := hF0.tr hQ8 rfl
    refine wk_al0 r18_20 (wk_il2 r18_21 (wk_cv2 r18_22 kc_0_33 rfl (m33_0 _ M6 p2 hP7 (by omega) (by omega)) (cqV ?_)))
    rintro M10 ⟨hP11, hQ12⟩
    have hF13 : Fr fm_m18_0 M0 M10 := hF9.tr hQ12 rfl
    refine wk_al0 r18_25 (wk_il3 r18_26 (wk_cv2 r18_27 kc_0_33 rfl (m33_0 _ M10 p3 hP11 (by omega) (by omega)) (cqV ?_)))
    rintro M14 ⟨hP15, hQ16⟩
    have hF17 : Fr fm_m18_0 M0 M14 := hF13.tr hQ16 rfl
    refine wk_al0 r18_30 (wk_il4 r18_31 (wk_cv2 r18_33 kc_0_33 rfl (m33_0 _ M14 p4 hP15 (by omega) (by omega)) (cqV ?_)))
    rintro M18 ⟨hP19, hQ20⟩
    have hF21 : Fr fm_m18_0 M0 M18 := hF17.tr hQ20 rfl
    refine wk_al0 r18_36 (wk_il5 r18_37 (wk_cv2 r18_39 kc_0_33 rfl (m33_0 _ M18 p5 hP19 (by omega) (by omega)) (cqV ?_)))
    rintro M22 ⟨hP23, hQ24⟩
    have hF25 : Fr fm_m18_0 M0 M22 := hF21.tr hQ24 rfl
    refine wk_al0 r18_42 (wk_getfb r18_43 fd_0_1 (bf_0_1 hP23) ?_)
    intro v26 h28 h29 e27
    subst hQ; exact wk_iret r18_46 (⟨rfl, _, rfl, hP23, hF25, by omega, by omega⟩)
  · intro h30
    refine wk_c1 r18_13 ?_
    subst hQ; exact wk_iret r18_14 (⟨rfl, _, rfl, hP0, hF0, by omega, by omega⟩)
def fm_m33_0v1 : Nat := 524292
/-- IslandHall.putNumber -/
theorem m33_0v1 {B : eB} (d : Nat) (M0 : Mm) (p1 : Int) (hP0 : Pw M0) (l1 : (-2147483648) ≤ p1) (u1 : p1 ≤ 2147483647) : Ct B (d + 1) 33 [R 0, I p1] M0 (qV fun M => Pw M ∧ Fr fm_m33_0v1 M0 M) := by
  refine ct_of (d := d + 0) (k := 1) (L := [some (R 0), some (I p1), none]) rfl rfl rfl ?_
  have hF0 := Fr.rf fm_m33_0v1 M0
  generalize hQ : (qV fun M => Pw M ∧ Fr fm_m33_0v1 M0 M) = Q
  refine wk_c2 r33_0 (wk_is2 r33_2 rfl ?_)
  have c3_157 : ∀ (k157 : Nat) (M134 : Mm) (v131 : Int), (v131 - (-8)).toNat = k157 → Pw M134 → Fr fm_m33_0v1 M0 M134 → (-8) ≤ v131 → v131 ≤ 24 → Wp B (d + 0) 33 3 [some (R 0), some (I p1), some (I v131)] [] M134 Q := by
    refine lp_ind ?_
    intro k157 ih157 M134 v131 hk157 hP135 hF136 h132 h133
    refine wk_il2 r33_3 ?_
    refine wk_iflt r33_4 ⟨by omega, by omega⟩ ?_ ?_
    · intro h137
      subst hQ; exact wk_ret r33_48 (⟨rfl, hP135, hF136⟩)
    · intro h138
      refine wk_al0 r33_7 (wk_getfb r33_8 fd_0_1 (bf_0_1 hP135) ?_)
      intro v139 h141 h142 e140
      refine wk_al0 r33_11 (wk_getfr r33_12 fd_0_0 (br_0_0 hP135) (wk_alen r33_15 ar_1 (by decide) ?_))
      refine wk_icge r33_16 ⟨by omega, by omega⟩ (by decide) ?_ ?_
      · intro h143
        subst hQ; exact wk_ret r33_48 (⟨rfl, hP135, hF136⟩)
      · intro h144
        refine wk_al0 r33_19 (wk_getfr r33_20 fd_0_0 (br_0_0 hP135) (wk_al0 r33_23 (wk_getfi r33_24 fd_0_1 e140 (wk_il1 r33_27 (wk_il2 r33_28 (wk_shrx r33_29 ⟨by omega, by omega⟩ ⟨by omega, by omega⟩ ?_))))))
        intro v145 h146 h147
        refine wk_i2b r33_30 (wk_bast r33_31 ar_1 ⟨by omega, by omega⟩ ⟨by omega, by omega⟩ (wk_nw (ga_1 _) rfl hP135 hF136 (ua_1 ⟨by omega, by omega⟩) ?_))
        intro M149 hP150 hF151 e152
        refine wk_al0 r33_32 (wk_dupr r33_33 (wk_getfi r33_34 fd_0_1 (mUp_no e152 e140 (Or.inl (by decide))) (wk_c1 r33_37 (wk_iadd r33_38 (wk_putfi81 r33_39 fd_0_1 (wk_nw g_0_1 rfl hP150 hF151 (uf_0_1 ⟨by omega, by omega⟩) ?_))))))
        intro M153 hP154 hF155 e156
        refine wk_inc2 r33_42 rfl (wk_goto r33_45 ?_)
        exact wp_fg (le_s (le_s (le_s le_0))) (ih157 ((v131 + (-8)) - (-8)).toNat (by omega) M153 (v131 + (-8)) rfl hP154 hF155 (by omega) (by omega))
  exact wp_fg (le_s (le_s (le_s le_0))) (c3_157 _ M0 24 rfl hP0 hF0 (by omega) (by omega))
def fm_m7_14 : Nat := 0
/-- IslandHall$Walk.packed -/
theorem m7_14 {B : eB} (d : Nat) (M0 : Mm) (hP0 : Pw M0)  : Ct B (d + 1) 7 [R 14] M0 (qI fun z M => Pw M ∧ Fr fm_m7_14 M0 M ∧ 0 ≤ z ∧ z ≤ 134217727) := by
  refine ct_of (d := d + 0) (k := 2) (L := [some (R 14), none, none]) rfl rfl rfl ?_
  have hF0 := Fr.rf fm_m7_14 M0
  generalize hQ : (qI fun z M => Pw M ∧ Fr fm_m7_14 M0 M ∧ 0 ≤ z ∧ z ≤ 134217727) = Q
  refine wk_al0 r7_0 (wk_getfb r7_1 fd_14_3 (bf_14_3 hP0) ?_)
  intro v1 h3 h4 e2
  refine wk_c2 r7_4 (wk_ishlc r7_6 (by decide) pwl_26 (wk_al0 r7_7 (wk_getfb r7_8 fd_14_2 (bf_14_2 hP0) ?_)))
  intro v5 h7 h8 e6
  refine wk_c2 r7_11 (wk_ishlc r7_13 (by decide) pwl_23 (wk_ior 27 134217728 r7_14 (by decide) ⟨by omega, by omega⟩ ⟨by omega, by omega⟩ ?_))
  intro v9 h10 h11 h12 h13 h14
  refine wk_al0 r7_15 (wk_getfb r7_16 fd_14_1 (bf_14_1 hP0) ?_)
  intro v15 h17 h18 e16
  refine wk_c2 r7_19 (wk_ishlc r7_21 (by decide) pwl_21 (wk_ior 27 134217728 r7_22 (by decide) ⟨by omega, by omega⟩ ⟨by omega, by omega⟩ ?_))
  intro v19 h20 h21 h22 h23 h24
  refine wk_is1 r7_23 rfl (wk_c1 r7_24 (wk_is2 r7_25 rfl ?_))
  have c26_158 : ∀ (k158 : Nat) (v136 : Int) (v139 : Int), (7 - v139).toNat = k158 → 0 ≤ v136 → v136 ≤ 134217727 → 0 ≤ v139 → v139 ≤ 7 → Wp B (d + 0) 7 26 [some (R 14), some (I v136), some (I v139)] [] M0 Q := by
    refine lp_ind ?_
    intro k158 ih158 v136 v139 hk158 h137 h138 h140 h141
    refine wk_il2 r7_26 (wk_c2 r7_27 ?_)
    refine wk_icge r7_29 ⟨by omega, by omega⟩ (by decide) ?_ ?_
    · intro h142
      refine wk_il1 r7_51 ?_
      subst hQ; exact wk_iret r7_52 (⟨rfl, _, rfl, hP0, hF0, by omega, by omega⟩)
    · intro h143
      refine wk_il1 r7_32 (wk_al0 r7_33 (wk_getfr r7_34 fd_14_0 (br_14_0 hP0) (wk_il2 r7_37 (wk_ialdb r7_38 ar_15 ⟨by omega, by omega⟩ (fun q0 q1 => ba_15 hP0 q0 q1) ?_))))
      intro v144 h146 h147 e145
      refine wk_c1 r7_39 (wk_il2 r7_40 (wk_imul r7_41 (wk_shlb 18 262144 5 r7_42 ⟨by omega, by omega⟩ ⟨by omega, by omega⟩ ⟨pwl_18, by decide⟩ ?_)))
      intro v148 h149 h150 h151
      refine wk_ior 27 134217728 r7_43 (by decide) ⟨by omega, by omega⟩ ⟨by omega, by omega⟩ ?_
      intro v152 h153 h154 h155 h156 h157
      refine wk_is1 r7_44 rfl (wk_inc2 r7_45 rfl (wk_goto r7_48 ?_))
      exact wp_fg (le_s (le_s (le_s le_0))) (ih158 (7 - (v139 + 1)).toNat (by omega) v152 (v139 + 1) rfl (by omega) (by omega) (by omega) (by omega))
  exact wp_fg (le_s (le_s (le_s le_0))) (c26_158 _ v19 0 rfl (by omega) (by omega) (by omega) (by omega))
def fm_m7_180 : Nat := 0
/-- IslandHall$Walk.packed -/
theorem m7_180 {B : eB} (d : Nat) (M0 : Mm) (hP0 : Pw M0)  : Ct B (d + 1) 7 [R 180] M0 (qI fun z M => Pw M ∧ Fr fm_m7_180 M0 M ∧ 0 ≤ z ∧ z ≤ 134217727) := by
  refine ct_of (d := d + 0) (k := 2) (L := [some (R 180), none, none]) rfl rfl rfl ?_
  have hF0 := Fr.rf fm_m7_180 M0
  generalize hQ : (qI fun z M => Pw M ∧ Fr fm_m7_180 M0 M ∧ 0 ≤ z ∧ z ≤ 134217727) = Q
  refine wk_al0 r7_0 (wk_getfb r7_1 fd_180_3 (bf_180_3 hP0) ?_)
  intro v1 h3 h4 e2
  refine wk_c2 r7_4 (wk_ishlc r7_6 (by decide) pwl_26 (wk_al0 r7_7 (wk_getfb r7_8 fd_180_2 (bf_180_2 hP0) ?_)))
  intro v5 h7 h8 e6
  refine wk_c2 r7_11 (wk_ishlc r7_13 (by decide) pwl_23 (wk_ior 27 134217728 r7_14 (by decide) ⟨by omega, by omega⟩ ⟨by omega, by omega⟩ ?_))
  intro v9 h10 h11 h12 h13 h14
  refine wk_al0 r7_15 (wk_getfb r7_16 fd_180_1 (bf_180_1 hP0) ?_)
  intro v15 h17 h18 e16
  refine wk_c2 r7_19 (wk_ishlc r7_21 (by decide) pwl_21 (wk_ior 27 134217728 r7_22 (by decide) ⟨by omega, by omega⟩ ⟨by omega, by omega⟩ ?_))
  intro v19 h20 h21 h22 h23 h24
  refine wk_is1 r7_23 rfl (wk_c1 r7_24 (wk_is2 r7_25 rfl ?_))
  have c26_158 : ∀ (k158 : Nat) (v136 : Int) (v139 : Int), (7 - v139).toNat = k158 → 0 ≤ v136 → v136 ≤ 134217727 → 0 ≤ v139 → v139 ≤ 7 → Wp B (d + 0) 7 26 [some (R 180), some (I v136), some (I v139)] [] M0 Q := by
    refine lp_ind ?_
    intro k158 ih158 v136 v139 hk158 h137 h138 h140 h141
    refine wk_il2 r7_26 (wk_c2 r7_27 ?_)
    refine wk_icge r7_29 ⟨by omega, by omega⟩ (by decide) ?_ ?_
    · intro h142
      refine wk_il1 r7_51 ?_
      subst hQ; exact wk_iret r7_52 (⟨rfl, _, rfl, hP0, hF0, by omega, by omega⟩)
    · intro h143
      refine wk_il1 r7_32 (wk_al0 r7_33 (wk_getfr r7_34 fd_180_0 (br_180_0 hP0) (wk_il2 r7_37 (wk_ialdb r7_38 ar_181 ⟨by omega, by omega⟩ (fun q0 q1 => ba_181 hP0 q0 q1) ?_))))
      intro v144 h146 h147 e145
      refine wk_c1 r7_39 (wk_il2 r7_40 (wk_imul r7_41 (wk_shlb 18 262144 5 r7_42 ⟨by omega, by omega⟩ ⟨by omega, by omega⟩ ⟨pwl_18, by decide⟩ ?_)))
      intro v148 h149 h150 h151
      refine wk_ior 27 134217728 r7_43 (by decide) ⟨by omega, by omega⟩ ⟨by omega, by omega⟩ ?_
      intro v152 h153 h154 h155 h156 h157
      refine wk_is1 r7_44 rfl (wk_inc2 r7_45 rfl (wk_goto r7_48 ?_))
      exact wp_fg (le_s (le_s (le_s le_0))) (ih158 (7 - (v139 + 1)).toNat (by omega) v152 (v139 + 1) rfl (by omega) (by omega) (by omega) (by omega))
  exact wp_fg (le_s (le_s (le_s le_0))) (c26_158 _ v19 0 rfl (by omega) (by omega) (by omega) (by omega))
def fm_m30_0 : Nat := 0
/-- IslandHall.needPerson -/
theorem m30_0 {B : eB} (d : Nat) (M0 : Mm) (p1 : Int) (hP0 : Pw M0) (l1 : (-2147483648) ≤ p1) (u1 : p1 ≤ 2147483647) : Ct B (d + 1) 30 [R 0, I p1] M0 (qX 0 (fun M => Pw M ∧ Fr (fm_m30_0 ||| 1) M0 M ∧ M (-1) 0 = M0 (-1) 0 + 1) (qV fun M => Pw M ∧ Fr fm_m30_0 M0 M ∧ 0 ≤ p1 ∧ 0 ≤ M 2 1 + (-1) * p1 + (-1))) := by
  refine ct_of (d := d + 0) (k := 0) (L := [some (R 0), some (I p1)]) rfl rfl rfl ?_
  have hF0 := Fr.rf fm_m30_0 M0
  generalize hQ : (qX 0 (fun M => Pw M ∧ Fr (fm_m30_0 ||| 1) M0 M ∧ M (-1) 0 = M0 (-1) 0 + 1) (qV fun M => Pw M ∧ Fr fm_m30_0 M0 M ∧ 0 ≤ p1 ∧ 0 ≤ M 2 1 + (-1) * p1 + (-1))) = Q
  refine wk_il1 r30_0 ?_
  refine wk_iflt r30_1 ⟨by omega, by omega⟩ ?_ ?_
  · intro h1
    subst hQ; exact wk_thr112 r30_15 rfl (Or.inl ⟨rfl, hP0.thr, (Fr.thr hF0), (by rw [mUp_eq, hF0.at g_below rfl])⟩)
  · intro h2
    refine wk_il1 r30_4 (wk_al0 r30_5 (wk_getfr r30_6 fd_0_2 (br_0_2 hP0) (wk_getfb r30_9 fd_2_1 (bf_2_1 hP0) ?_)))
    intro v3 h5 h6 e4
    refine wk_iclt r30_12 ⟨by omega, by omega⟩ ⟨by omega, by omega⟩ ?_ ?_
    · intro h7
      subst hQ; exact wk_ret r30_26 (Or.inr ⟨rfl, hP0, hF0, by omega, by have := e4; omega⟩)
    · intro h8
      subst hQ; exact wk_thr112 r30_15 rfl (Or.inl ⟨rfl, hP0.thr, (Fr.thr hF0), (by rw [mUp_eq, hF0.at g_below rfl])⟩)
def fm_m15_0 : Nat := 0
/-- IslandHall.count -/
theorem m15_0 {B : eB} (d : Nat) (M0 : Mm) (p1 : Int) (hP0 : Pw M0) (l1 : (-2147483648) ≤ p1) (u1 : p1 ≤ 2147483647) : Ct B (d + 1) 15 [R 0, I p1] M0 (qX 0 (fun M => Pw M ∧ Fr (fm_m15_0 ||| 1) M0 M ∧ M (-1) 0 = M0 (-1) 0 + 1) (qI fun z M => Pw M ∧ Fr fm_m15_0 M0 M ∧ (-1) ≤ z ∧ z ≤ 500)) := by
  refine ct_of (d := d + 0) (k := 0) (L := [some (R 0), some (I p1)]) rfl rfl rfl ?_
  have hF0 := Fr.rf fm_m15_0 M0
  generalize hQ : (qX 0 (fun M => Pw M ∧ Fr (fm_m15_0 ||| 1) M0 M ∧ M (-1) 0 = M0 (-1) 0 + 1) (qI fun z M => Pw M ∧ Fr fm_m15_0 M0 M ∧ (-1) ≤ z ∧ z ≤ 500)) = Q
  refine wk_il1 r15_0 ?_
  refine wk_sw2 r15_1 ⟨by omega, by omega⟩ ?_ ?_ ?_ ?_ ?_ ?_ ?_ ?_ ?_
  · intro h1
    subst hQ; exact wk_thr105 r15_109 rfl (Or.inl ⟨rfl, hP0.thr, (Fr.thr hF0), (by rw [mUp_eq, hF0.at g_below rfl])⟩)
  · intro h2
    refine wk_al0 r15_48 (wk_getfr r15_49 fd_0_2 (br_0_2 hP0) (wk_getfb r15_52 fd_2_1 (bf_2_1 hP0) ?_))
    intro v3 h5 h6 e4
    subst hQ; exact wk_iret r15_55 (Or.inr ⟨rfl, _, rfl, hP0, hF0, by omega, by omega⟩)
  · intro h7
    refine wk_al0 r15_56 (wk_getfr r15_57 fd_0_2 (br_0_2 hP0) (wk_getfb r15_60 fd_2_2 (bf_2_2 hP0) ?_))
    intro v8 h10 h11 e9
    subst hQ; exact wk_iret r15_63 (Or.inr ⟨rfl, _, rfl, hP0, hF0, by omega, by omega⟩)
  · intro h12
    refine wk_al0 r15_64 (wk_getfb r15_65 fd_0_9 (bf_0_9 hP0) ?_)
    intro v13 h15 h16 e14
    subst hQ; exact wk_iret r15_68 (Or.inr ⟨rfl, _, rfl, hP0, hF0, by omega, by omega⟩)
  · intro h17
    refine wk_al0 r15_69 (wk_getfr r15_70 fd_0_7 (br_0_7 hP0) (wk_getfb r15_73 fd_138_5 (bf_138_5 hP0) ?_))
    intro v18 h20 h21 e19
    subst hQ; exact wk_iret r15_76 (Or.inr ⟨rfl, _, rfl, hP0, hF0, by omega, by omega⟩)
  · intro h22
    refine wk_al0 r15_77 (wk_getfb r15_78 fd_0_11 (bf_0_11 hP0) ?_)
    intro v23 h25 h26 e24
    subst hQ; exact wk_iret r15_81 (Or.inr ⟨rfl, _, rfl, hP0, hF0, by omega, by omega⟩)
  · intro h27
    refine wk_al0 r15_82 (wk_getfb r15_83 fd_0_1 (bf_0_1 hP0) ?_)
    intro v28 h30 h31 e29
    subst hQ; exact wk_iret r15_86 (Or.inr ⟨rfl, _, rfl, hP0, hF0, by omega, by omega⟩)
  · intro h32
    refine wk_al0 r15_87 (wk_getfr r15_88 fd_0_2 (br_0_2 hP0) (wk_getfb r15_91 fd_2_4 (bf_2_4 hP0) ?_))
    intro v33 h35 h36 e34
    subst hQ; exact wk_iret r15_94 (Or.inr ⟨rfl, _, rfl, hP0, hF0, by omega, by omega⟩)
  · intro h37
    refine wk_al0 r15_95 (wk_getfb r15_96 fd_0_13 (bf_0_13 hP0) ?_)
    intro v38 h40 h41 e39
    refine wk_c1 r15_99 ?_
    refine wk_icne r15_100 ⟨by omega, by omega⟩ (by decide) ?_ ?_
    · intro h42
      refine wk_c1 r15_107 ?_
      subst hQ; exact wk_iret r15_108 (Or.inr ⟨rfl, _, rfl, hP0, hF0, by omega, by omega⟩)
    · intro h43
      refine wk_c1 r15_103 (wk_goto r15_104 ?_)
      subst hQ; exact wk_iret r15_108 (Or.inr ⟨rfl, _, rfl, hP0, hF0, by omega, by omega⟩)
